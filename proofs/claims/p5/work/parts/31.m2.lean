set_option maxHeartbeats 4000000 in
set_option maxRecDepth 100000 in
theorem c_cameOf (g : Gp) (v ρ : Mv) (Z : Mz) (hG : GM ρ Z) (c : Int) (hS : SInv (v 180)) : Ok g 1 0 0 F_m_cameOf [(2, 178), (0, c)] v ρ Z (fun o v' ρ' Z' => ρ = ρ' ∧ Z = Z' ∧ v = v' ∧ ∃ r : Int, o = some (0, r) ∧ (0 ≤ r ∧ r ≤ v 180 35 ∧ r ≤ 12)) := by
  refine Ok.of mo_m_cameOf (Nat.le_of_ble_eq_true rfl) ?_
  intro X hX hRm hxn hQ
  show wp g X F_m_cameOf 0 0 0 [(2, 178), (0, c), (3, 0), (3, 0)] [] v ρ Z
  have hb35 := hS.c35
  refine r_iconst (pc := 0) hX 0 rfl ?_
  refine r_istore_n (ls' := [(2, 178), (0, c), (0, 0), (3, 0)]) (pc := 1) hX 1 rfl (by decide) rfl ?_
  refine r_iconst (pc := 2) hX 2 rfl ?_
  refine r_istore_n (ls' := [(2, 178), (0, c), (0, 0), (0, 0)]) (pc := 3) hX 3 rfl (by decide) rfl ?_
  have L4 : ∀ (n4 : Nat) (n i : Int) , (0 ≤ i ∧ i ≤ v 180 35 ∧ 0 ≤ n ∧ n ≤ i) → (v 180 35 - i).toNat < n4 → wp g X F_m_cameOf 0 0 4 [(2, 178), (0, c), (0, n), (0, i)] [] v ρ Z := by
    intro n4
    induction n4 with
    | zero => intro n i iq hme4; exact absurd hme4 (Nat.not_lt_zero _)
    | succ n4 ih4 =>
      intro n i iq hme4
      refine r_iload_n (pc := 4) hX 4 rfl rfl ?_
      refine t_getR (pc := 5) hX 5 rfl rfl rfl fl_X12_33 rfl hG.1 (a_s hG).1 ?_
      refine r_bipush (pc := 9) hX 7 rfl (by decide) ?_
      refine e_iald (y := (v 180 35)) (pc := 11) hX 8 rfl (a_s hG).2.1 (a_s hG).2.2 (by omega) (by omega) (rfl) ?_
      have hb11 := hS.c35
      first | refine r_icmp_ge (pc := 12) hX 9 (tgt := 42) rfl (by decide) (⟨by omega, by omega⟩) (⟨by omega, by omega⟩) (fun h12 => ?_) (fun h12 => ?_) | refine r_icmp_ge_any (pc := 12) hX 9 (tgt := 42) rfl (by decide) ?_ ?_
      · refine r_iload_n (pc := 42) hX 26 rfl rfl ?_
        exact r_iret (pc := 43) hX 27 hQ rfl rfl (Nat.le_refl 0) (Nat.le_refl 0) ⟨rfl, rfl, rfl, n, rfl, (by omega)⟩
      · refine r_iload_n (pc := 15) hX 10 rfl rfl ?_
        refine t_getR (pc := 16) hX 11 rfl rfl rfl fl_X12_33 rfl hG.1 (a_s hG).1 ?_
        refine r_bipush (pc := 20) hX 13 rfl (by decide) ?_
        refine r_iload_n (pc := 22) hX 14 rfl rfl ?_
        refine r_iadd (pc := 23) hX 15 rfl ?_
        refine e_iald (y := (v 180 (45 + i))) (pc := 24) hX 16 rfl (a_s hG).2.1 (a_s hG).2.2 (by omega) (by omega) (rfl) ?_
        have hb24 := hS.c45 i (by omega) (by omega)
        refine r_iload_n (pc := 25) hX 17 rfl rfl ?_
        first | refine r_icmp_ne (pc := 26) hX 18 (tgt := 33) rfl (by decide) (⟨by omega, by omega⟩) (⟨by omega, by omega⟩) (fun h26 => ?_) (fun h26 => ?_) | refine r_icmp_ne_any (pc := 26) hX 18 (tgt := 33) rfl (by decide) ?_ ?_
        · refine r_iconst (pc := 33) hX 21 rfl ?_
          refine r_iadd (pc := 34) hX 22 rfl ?_
          refine r_istore_n (ls' := [(2, 178), (0, c), (0, (n + 0)), (0, i)]) (pc := 35) hX 23 rfl (by decide) rfl ?_
          refine r_iinc (ls' := [(2, 178), (0, c), (0, (n + 0)), (0, (i + 1))]) (pc := 36) hX 24 rfl rfl (by decide) rfl ?_
          refine r_goto (pc := 39) hX 25 (tgt := 4) rfl (by decide) ?_
          exact (ih4 (n + 0) (i + 1) (by omega) (by omega))
        · refine r_iconst (pc := 29) hX 19 rfl ?_
          refine r_goto (pc := 30) hX 20 (tgt := 34) rfl (by decide) ?_
          refine r_iadd (pc := 34) hX 22 rfl ?_
          refine r_istore_n (ls' := [(2, 178), (0, c), (0, (n + 1)), (0, i)]) (pc := 35) hX 23 rfl (by decide) rfl ?_
          refine r_iinc (ls' := [(2, 178), (0, c), (0, (n + 1)), (0, (i + 1))]) (pc := 36) hX 24 rfl rfl (by decide) rfl ?_
          refine r_goto (pc := 39) hX 25 (tgt := 4) rfl (by decide) ?_
          exact (ih4 (n + 1) (i + 1) (by omega) (by omega))
  exact (L4 _ 0 0 (by omega) (Nat.lt_succ_self _))
set_option maxHeartbeats 4000000 in
set_option maxRecDepth 100000 in
theorem c_arrived (g : Gp) (v ρ : Mv) (Z : Mz) (hG : GM ρ Z)  (hS : SInv (v 180)) (hC : ScI (v 185)) : Ok g 1 0 0 F_m_arrived [(2, 178)] v ρ Z (fun o v' ρ' Z' => ρ = ρ' ∧ Z = Z' ∧ v = v' ∧ ∃ r : Int, o = some (0, r) ∧ (-1 ≤ r ∧ r < v 180 2 ∧ r ≤ 2) ∧ ((r < 0 → ∀ q, 0 ≤ q → q < v 180 2 → v 185 q < v 180 3))) := by
  refine Ok.of mo_m_arrived (Nat.le_of_ble_eq_true rfl) ?_
  intro X hX hRm hxn hQ
  show wp g X F_m_arrived 0 0 0 [(2, 178), (3, 0)] [] v ρ Z
  have hb2 := hS.c2
  have hb3 := hS.c3
  refine r_iconst (pc := 0) hX 0 rfl ?_
  refine r_istore_n (ls' := [(2, 178), (0, 0)]) (pc := 1) hX 1 rfl (by decide) rfl ?_
  have L2 : ∀ (n2 : Nat) (q : Int) , (0 ≤ q ∧ q ≤ v 180 2) → (∀ j, 0 ≤ j → j < q → v 185 j < v 180 3) → (v 180 2 - q).toNat < n2 → wp g X F_m_arrived 0 0 2 [(2, 178), (0, q)] [] v ρ Z := by
    intro n2
    induction n2 with
    | zero => intro q iq ia hme2; exact absurd hme2 (Nat.not_lt_zero _)
    | succ n2 ih2 =>
      intro q iq ia hme2
      refine r_iload_n (pc := 2) hX 2 rfl rfl ?_
      refine t_getR (pc := 3) hX 3 rfl rfl rfl fl_X12_33 rfl hG.1 (a_s hG).1 ?_
      refine r_iconst (pc := 7) hX 5 rfl ?_
      refine e_iald (y := (v 180 2)) (pc := 8) hX 6 rfl (a_s hG).2.1 (a_s hG).2.2 (by omega) (by omega) (rfl) ?_
      have hb8 := hS.c2
      first | refine r_icmp_ge (pc := 9) hX 7 (tgt := 35) rfl (by decide) (⟨by omega, by omega⟩) (⟨by omega, by omega⟩) (fun h9 => ?_) (fun h9 => ?_) | refine r_icmp_ge_any (pc := 9) hX 7 (tgt := 35) rfl (by decide) ?_ ?_
      · refine r_iconst (pc := 35) hX 21 rfl ?_
        exact r_iret (pc := 36) hX 22 hQ rfl rfl (Nat.le_refl 0) (Nat.le_refl 0) ⟨rfl, rfl, rfl, (-1), rfl, (by omega), (fun _ j h0 h1 => ia j h0 (by omega))⟩
      · refine t_getR (pc := 12) hX 8 rfl rfl rfl fl_X12_50 rfl hG.1 (a_scores hG).1 ?_
        refine r_iload_n (pc := 16) hX 10 rfl rfl ?_
        refine e_iald (y := (v 185 q)) (pc := 17) hX 11 rfl (a_scores hG).2.1 (a_scores hG).2.2 (by omega) (by omega) (rfl) ?_
        have hb17 := hC q (by omega) (by omega)
        refine t_getR (pc := 18) hX 12 rfl rfl rfl fl_X12_33 rfl hG.1 (a_s hG).1 ?_
        refine r_iconst (pc := 22) hX 14 rfl ?_
        refine e_iald (y := (v 180 3)) (pc := 23) hX 15 rfl (a_s hG).2.1 (a_s hG).2.2 (by omega) (by omega) (rfl) ?_
        have hb23 := hS.c3
        first | refine r_icmp_lt (pc := 24) hX 16 (tgt := 29) rfl (by decide) (⟨by omega, by omega⟩) (⟨by omega, by omega⟩) (fun h24 => ?_) (fun h24 => ?_) | refine r_icmp_lt_any (pc := 24) hX 16 (tgt := 29) rfl (by decide) ?_ ?_
        · refine r_iinc (ls' := [(2, 178), (0, (q + 1))]) (pc := 29) hX 19 rfl rfl (by decide) rfl ?_
          refine r_goto (pc := 32) hX 20 (tgt := 2) rfl (by decide) ?_
          exact (ih2 (q + 1) (by omega) (fun j h0 h1 => (Int.lt_or_eq_of_le (Int.le_of_lt_add_one h1)).elim (fun z => ia j h0 z) (fun z => by subst z; omega)) (by omega))
        · refine r_iload_n (pc := 27) hX 17 rfl rfl ?_
          exact r_iret (pc := 28) hX 18 hQ rfl rfl (Nat.le_refl 0) (Nat.le_refl 0) ⟨rfl, rfl, rfl, q, rfl, (by omega), (fun h => by omega)⟩
  exact (L2 _ 0 (by omega) (fun j h0 h1 => by omega) (Nat.lt_succ_self _))
set_option maxHeartbeats 4000000 in
set_option maxRecDepth 100000 in
theorem c_ahead (g : Gp) (v ρ : Mv) (Z : Mz) (hG : GM ρ Z)  (hS : SInv (v 180)) (hC : ScI (v 185)) : Ok g 1 0 0 F_m_ahead [(2, 178)] v ρ Z (fun o v' ρ' Z' => ρ = ρ' ∧ Z = Z' ∧ v = v' ∧ ∃ r : Int, o = some (0, r) ∧ (-1 ≤ r ∧ r < v 180 2 ∧ r ≤ 2)) := by
  refine Ok.of mo_m_ahead (Nat.le_of_ble_eq_true rfl) ?_
  intro X hX hRm hxn hQ
  show wp g X F_m_ahead 0 0 0 [(2, 178), (3, 0), (3, 0), (3, 0)] [] v ρ Z
  have hb2 := hS.c2
  refine r_iconst (pc := 0) hX 0 rfl ?_
  refine r_istore_n (ls' := [(2, 178), (0, (-1)), (3, 0), (3, 0)]) (pc := 1) hX 1 rfl (by decide) rfl ?_
  refine r_iconst (pc := 2) hX 2 rfl ?_
  refine r_istore_n (ls' := [(2, 178), (0, (-1)), (0, 0), (3, 0)]) (pc := 3) hX 3 rfl (by decide) rfl ?_
  refine r_iconst (pc := 4) hX 4 rfl ?_
  refine r_istore_n (ls' := [(2, 178), (0, (-1)), (0, 0), (0, 0)]) (pc := 5) hX 5 rfl (by decide) rfl ?_
  have L6 : ∀ (n6 : Nat) (b al q : Int) , (0 ≤ q ∧ q ≤ v 180 2 ∧ -1 ≤ b ∧ b < q ∧ 0 ≤ al ∧ al ≤ 1) → (v 180 2 - q).toNat < n6 → wp g X F_m_ahead 0 0 6 [(2, 178), (0, b), (0, al), (0, q)] [] v ρ Z := by
    intro n6
    induction n6 with
    | zero => intro b al q iq hme6; exact absurd hme6 (Nat.not_lt_zero _)
    | succ n6 ih6 =>
      intro b al q iq hme6
      refine r_iload_n (pc := 6) hX 6 rfl rfl ?_
      refine t_getR (pc := 7) hX 7 rfl rfl rfl fl_X12_33 rfl hG.1 (a_s hG).1 ?_
      refine r_iconst (pc := 11) hX 9 rfl ?_
      refine e_iald (y := (v 180 2)) (pc := 12) hX 10 rfl (a_s hG).2.1 (a_s hG).2.2 (by omega) (by omega) (rfl) ?_
      have hb12 := hS.c2
      first | refine r_icmp_ge (pc := 13) hX 11 (tgt := 83) rfl (by decide) (⟨by omega, by omega⟩) (⟨by omega, by omega⟩) (fun h13 => ?_) (fun h13 => ?_) | refine r_icmp_ge_any (pc := 13) hX 11 (tgt := 83) rfl (by decide) ?_ ?_
      · refine r_iload_n (pc := 83) hX 49 rfl rfl ?_
        first | refine r_if_eq (pc := 84) hX 50 (tgt := 91) rfl (by decide) (⟨by omega, by omega⟩) (fun h84 => ?_) (fun h84 => ?_) | refine r_if_eq_any (pc := 84) hX 50 (tgt := 91) rfl (by decide) ?_ ?_
        · refine r_iconst (pc := 91) hX 53 rfl ?_
          exact r_iret (pc := 92) hX 54 hQ rfl rfl (Nat.le_refl 0) (Nat.le_refl 0) ⟨rfl, rfl, rfl, (-1), rfl, (by omega)⟩
        · refine r_iload_n (pc := 87) hX 51 rfl rfl ?_
          refine r_goto (pc := 88) hX 52 (tgt := 92) rfl (by decide) ?_
          exact r_iret (pc := 92) hX 54 hQ rfl rfl (Nat.le_refl 0) (Nat.le_refl 0) ⟨rfl, rfl, rfl, b, rfl, (by omega)⟩
      · refine r_iload_n (pc := 16) hX 12 rfl rfl ?_
        first | refine r_if_lt (pc := 17) hX 13 (tgt := 38) rfl (by decide) (⟨by omega, by omega⟩) (fun h17 => ?_) (fun h17 => ?_) | refine r_if_lt_any (pc := 17) hX 13 (tgt := 38) rfl (by decide) ?_ ?_
        · refine r_iload_n (pc := 38) hX 24 rfl rfl ?_
          first | refine r_if_lt (pc := 39) hX 25 (tgt := 57) rfl (by decide) (⟨by omega, by omega⟩) (fun h39 => ?_) (fun h39 => ?_) | refine r_if_lt_any (pc := 39) hX 25 (tgt := 57) rfl (by decide) ?_ ?_
          · refine r_iconst (pc := 57) hX 35 rfl ?_
            refine r_goto (pc := 58) hX 36 (tgt := 62) rfl (by decide) ?_
            refine r_istore_n (ls' := [(2, 178), (0, b), (0, 1), (0, q)]) (pc := 62) hX 38 rfl (by decide) rfl ?_
            refine r_iload_n (pc := 63) hX 39 rfl rfl ?_
            first | refine r_if_ne (pc := 64) hX 40 (tgt := 71) rfl (by decide) (⟨by omega, by omega⟩) (fun h64 => ?_) (fun h64 => ?_) | refine r_if_ne_any (pc := 64) hX 40 (tgt := 71) rfl (by decide) ?_ ?_
            · refine r_iload_n (pc := 71) hX 43 rfl rfl ?_
              refine r_goto (pc := 72) hX 44 (tgt := 76) rfl (by decide) ?_
              refine r_istore_n (ls' := [(2, 178), (0, q), (0, 1), (0, q)]) (pc := 76) hX 46 rfl (by decide) rfl ?_
              refine r_iinc (ls' := [(2, 178), (0, q), (0, 1), (0, (q + 1))]) (pc := 77) hX 47 rfl rfl (by decide) rfl ?_
              refine r_goto (pc := 80) hX 48 (tgt := 6) rfl (by decide) ?_
              exact (ih6 q 1 (q + 1) (by omega) (by omega))
            · exact absurd (by decide) h64
          · refine t_getR (pc := 42) hX 26 rfl rfl rfl fl_X12_50 rfl hG.1 (a_scores hG).1 ?_
            refine r_iload_n (pc := 46) hX 28 rfl rfl ?_
            refine e_iald (y := (v 185 q)) (pc := 47) hX 29 rfl (a_scores hG).2.1 (a_scores hG).2.2 (by omega) (by omega) (rfl) ?_
            have hb47 := hC q (by omega) (by omega)
            refine t_getR (pc := 48) hX 30 rfl rfl rfl fl_X12_50 rfl hG.1 (a_scores hG).1 ?_
            refine r_iload_n (pc := 52) hX 32 rfl rfl ?_
            refine e_iald (y := (v 185 b)) (pc := 53) hX 33 rfl (a_scores hG).2.1 (a_scores hG).2.2 (by omega) (by omega) (rfl) ?_
            have hb53 := hC b (by omega) (by omega)
            first | refine r_icmp_le (pc := 54) hX 34 (tgt := 61) rfl (by decide) (⟨by omega, by omega⟩) (⟨by omega, by omega⟩) (fun h54 => ?_) (fun h54 => ?_) | refine r_icmp_le_any (pc := 54) hX 34 (tgt := 61) rfl (by decide) ?_ ?_
            · refine r_iconst (pc := 61) hX 37 rfl ?_
              refine r_istore_n (ls' := [(2, 178), (0, b), (0, 0), (0, q)]) (pc := 62) hX 38 rfl (by decide) rfl ?_
              refine r_iload_n (pc := 63) hX 39 rfl rfl ?_
              first | refine r_if_ne (pc := 64) hX 40 (tgt := 71) rfl (by decide) (⟨by omega, by omega⟩) (fun h64 => ?_) (fun h64 => ?_) | refine r_if_ne_any (pc := 64) hX 40 (tgt := 71) rfl (by decide) ?_ ?_
              · exact absurd h64 (by decide)
              · refine r_iload_n (pc := 67) hX 41 rfl rfl ?_
                first | refine r_if_ge (pc := 68) hX 42 (tgt := 75) rfl (by decide) (⟨by omega, by omega⟩) (fun h68 => ?_) (fun h68 => ?_) | refine r_if_ge_any (pc := 68) hX 42 (tgt := 75) rfl (by decide) ?_ ?_
                · refine r_iload_n (pc := 75) hX 45 rfl rfl ?_
                  refine r_istore_n (ls' := [(2, 178), (0, b), (0, 0), (0, q)]) (pc := 76) hX 46 rfl (by decide) rfl ?_
                  refine r_iinc (ls' := [(2, 178), (0, b), (0, 0), (0, (q + 1))]) (pc := 77) hX 47 rfl rfl (by decide) rfl ?_
                  refine r_goto (pc := 80) hX 48 (tgt := 6) rfl (by decide) ?_
                  exact (ih6 b 0 (q + 1) (by omega) (by omega))
                · refine r_iload_n (pc := 71) hX 43 rfl rfl ?_
                  refine r_goto (pc := 72) hX 44 (tgt := 76) rfl (by decide) ?_
                  refine r_istore_n (ls' := [(2, 178), (0, q), (0, 0), (0, q)]) (pc := 76) hX 46 rfl (by decide) rfl ?_
                  refine r_iinc (ls' := [(2, 178), (0, q), (0, 0), (0, (q + 1))]) (pc := 77) hX 47 rfl rfl (by decide) rfl ?_
                  refine r_goto (pc := 80) hX 48 (tgt := 6) rfl (by decide) ?_
                  exact (ih6 q 0 (q + 1) (by omega) (by omega))
            · refine r_iconst (pc := 57) hX 35 rfl ?_
              refine r_goto (pc := 58) hX 36 (tgt := 62) rfl (by decide) ?_
              refine r_istore_n (ls' := [(2, 178), (0, b), (0, 1), (0, q)]) (pc := 62) hX 38 rfl (by decide) rfl ?_
              refine r_iload_n (pc := 63) hX 39 rfl rfl ?_
              first | refine r_if_ne (pc := 64) hX 40 (tgt := 71) rfl (by decide) (⟨by omega, by omega⟩) (fun h64 => ?_) (fun h64 => ?_) | refine r_if_ne_any (pc := 64) hX 40 (tgt := 71) rfl (by decide) ?_ ?_
              · refine r_iload_n (pc := 71) hX 43 rfl rfl ?_
                refine r_goto (pc := 72) hX 44 (tgt := 76) rfl (by decide) ?_
                refine r_istore_n (ls' := [(2, 178), (0, q), (0, 1), (0, q)]) (pc := 76) hX 46 rfl (by decide) rfl ?_
                refine r_iinc (ls' := [(2, 178), (0, q), (0, 1), (0, (q + 1))]) (pc := 77) hX 47 rfl rfl (by decide) rfl ?_
                refine r_goto (pc := 80) hX 48 (tgt := 6) rfl (by decide) ?_
                exact (ih6 q 1 (q + 1) (by omega) (by omega))
              · exact absurd (by decide) h64
        · refine t_getR (pc := 20) hX 14 rfl rfl rfl fl_X12_50 rfl hG.1 (a_scores hG).1 ?_
          refine r_iload_n (pc := 24) hX 16 rfl rfl ?_
          refine e_iald (y := (v 185 q)) (pc := 25) hX 17 rfl (a_scores hG).2.1 (a_scores hG).2.2 (by omega) (by omega) (rfl) ?_
          have hb25 := hC q (by omega) (by omega)
          refine t_getR (pc := 26) hX 18 rfl rfl rfl fl_X12_50 rfl hG.1 (a_scores hG).1 ?_
          refine r_iload_n (pc := 30) hX 20 rfl rfl ?_
          refine e_iald (y := (v 185 b)) (pc := 31) hX 21 rfl (a_scores hG).2.1 (a_scores hG).2.2 (by omega) (by omega) (rfl) ?_
          have hb31 := hC b (by omega) (by omega)
          first | refine r_icmp_ge (pc := 32) hX 22 (tgt := 38) rfl (by decide) (⟨by omega, by omega⟩) (⟨by omega, by omega⟩) (fun h32 => ?_) (fun h32 => ?_) | refine r_icmp_ge_any (pc := 32) hX 22 (tgt := 38) rfl (by decide) ?_ ?_
          · refine r_iload_n (pc := 38) hX 24 rfl rfl ?_
            first | refine r_if_lt (pc := 39) hX 25 (tgt := 57) rfl (by decide) (⟨by omega, by omega⟩) (fun h39 => ?_) (fun h39 => ?_) | refine r_if_lt_any (pc := 39) hX 25 (tgt := 57) rfl (by decide) ?_ ?_
            · refine r_iconst (pc := 57) hX 35 rfl ?_
              refine r_goto (pc := 58) hX 36 (tgt := 62) rfl (by decide) ?_
              refine r_istore_n (ls' := [(2, 178), (0, b), (0, 1), (0, q)]) (pc := 62) hX 38 rfl (by decide) rfl ?_
              refine r_iload_n (pc := 63) hX 39 rfl rfl ?_
              first | refine r_if_ne (pc := 64) hX 40 (tgt := 71) rfl (by decide) (⟨by omega, by omega⟩) (fun h64 => ?_) (fun h64 => ?_) | refine r_if_ne_any (pc := 64) hX 40 (tgt := 71) rfl (by decide) ?_ ?_
              · refine r_iload_n (pc := 71) hX 43 rfl rfl ?_
                refine r_goto (pc := 72) hX 44 (tgt := 76) rfl (by decide) ?_
                refine r_istore_n (ls' := [(2, 178), (0, q), (0, 1), (0, q)]) (pc := 76) hX 46 rfl (by decide) rfl ?_
                refine r_iinc (ls' := [(2, 178), (0, q), (0, 1), (0, (q + 1))]) (pc := 77) hX 47 rfl rfl (by decide) rfl ?_
                refine r_goto (pc := 80) hX 48 (tgt := 6) rfl (by decide) ?_
                exact (ih6 q 1 (q + 1) (by omega) (by omega))
              · exact absurd (by decide) h64
            · refine t_getR (pc := 42) hX 26 rfl rfl rfl fl_X12_50 rfl hG.1 (a_scores hG).1 ?_
              refine r_iload_n (pc := 46) hX 28 rfl rfl ?_
              refine e_iald (y := (v 185 q)) (pc := 47) hX 29 rfl (a_scores hG).2.1 (a_scores hG).2.2 (by omega) (by omega) (rfl) ?_
              have hb47 := hC q (by omega) (by omega)
              refine t_getR (pc := 48) hX 30 rfl rfl rfl fl_X12_50 rfl hG.1 (a_scores hG).1 ?_
              refine r_iload_n (pc := 52) hX 32 rfl rfl ?_
              refine e_iald (y := (v 185 b)) (pc := 53) hX 33 rfl (a_scores hG).2.1 (a_scores hG).2.2 (by omega) (by omega) (rfl) ?_
              have hb53 := hC b (by omega) (by omega)
              first | refine r_icmp_le (pc := 54) hX 34 (tgt := 61) rfl (by decide) (⟨by omega, by omega⟩) (⟨by omega, by omega⟩) (fun h54 => ?_) (fun h54 => ?_) | refine r_icmp_le_any (pc := 54) hX 34 (tgt := 61) rfl (by decide) ?_ ?_
              · refine r_iconst (pc := 61) hX 37 rfl ?_
                refine r_istore_n (ls' := [(2, 178), (0, b), (0, 0), (0, q)]) (pc := 62) hX 38 rfl (by decide) rfl ?_
                refine r_iload_n (pc := 63) hX 39 rfl rfl ?_
                first | refine r_if_ne (pc := 64) hX 40 (tgt := 71) rfl (by decide) (⟨by omega, by omega⟩) (fun h64 => ?_) (fun h64 => ?_) | refine r_if_ne_any (pc := 64) hX 40 (tgt := 71) rfl (by decide) ?_ ?_
                · exact absurd h64 (by decide)
                · refine r_iload_n (pc := 67) hX 41 rfl rfl ?_
                  first | refine r_if_ge (pc := 68) hX 42 (tgt := 75) rfl (by decide) (⟨by omega, by omega⟩) (fun h68 => ?_) (fun h68 => ?_) | refine r_if_ge_any (pc := 68) hX 42 (tgt := 75) rfl (by decide) ?_ ?_
                  · refine r_iload_n (pc := 75) hX 45 rfl rfl ?_
                    refine r_istore_n (ls' := [(2, 178), (0, b), (0, 0), (0, q)]) (pc := 76) hX 46 rfl (by decide) rfl ?_
                    refine r_iinc (ls' := [(2, 178), (0, b), (0, 0), (0, (q + 1))]) (pc := 77) hX 47 rfl rfl (by decide) rfl ?_
                    refine r_goto (pc := 80) hX 48 (tgt := 6) rfl (by decide) ?_
                    exact (ih6 b 0 (q + 1) (by omega) (by omega))
                  · refine r_iload_n (pc := 71) hX 43 rfl rfl ?_
                    refine r_goto (pc := 72) hX 44 (tgt := 76) rfl (by decide) ?_
                    refine r_istore_n (ls' := [(2, 178), (0, q), (0, 0), (0, q)]) (pc := 76) hX 46 rfl (by decide) rfl ?_
                    refine r_iinc (ls' := [(2, 178), (0, q), (0, 0), (0, (q + 1))]) (pc := 77) hX 47 rfl rfl (by decide) rfl ?_
                    refine r_goto (pc := 80) hX 48 (tgt := 6) rfl (by decide) ?_
                    exact (ih6 q 0 (q + 1) (by omega) (by omega))
              · refine r_iconst (pc := 57) hX 35 rfl ?_
                refine r_goto (pc := 58) hX 36 (tgt := 62) rfl (by decide) ?_
                refine r_istore_n (ls' := [(2, 178), (0, b), (0, 1), (0, q)]) (pc := 62) hX 38 rfl (by decide) rfl ?_
                refine r_iload_n (pc := 63) hX 39 rfl rfl ?_
                first | refine r_if_ne (pc := 64) hX 40 (tgt := 71) rfl (by decide) (⟨by omega, by omega⟩) (fun h64 => ?_) (fun h64 => ?_) | refine r_if_ne_any (pc := 64) hX 40 (tgt := 71) rfl (by decide) ?_ ?_
                · refine r_iload_n (pc := 71) hX 43 rfl rfl ?_
                  refine r_goto (pc := 72) hX 44 (tgt := 76) rfl (by decide) ?_
                  refine r_istore_n (ls' := [(2, 178), (0, q), (0, 1), (0, q)]) (pc := 76) hX 46 rfl (by decide) rfl ?_
                  refine r_iinc (ls' := [(2, 178), (0, q), (0, 1), (0, (q + 1))]) (pc := 77) hX 47 rfl rfl (by decide) rfl ?_
                  refine r_goto (pc := 80) hX 48 (tgt := 6) rfl (by decide) ?_
                  exact (ih6 q 1 (q + 1) (by omega) (by omega))
                · exact absurd (by decide) h64
          · refine r_goto (pc := 35) hX 23 (tgt := 77) rfl (by decide) ?_
            refine r_iinc (ls' := [(2, 178), (0, b), (0, al), (0, (q + 1))]) (pc := 77) hX 47 rfl rfl (by decide) rfl ?_
            refine r_goto (pc := 80) hX 48 (tgt := 6) rfl (by decide) ?_
            exact (ih6 b al (q + 1) (by omega) (by omega))
  exact (L6 _ (-1) 0 0 (by omega) (Nat.lt_succ_self _))
set_option maxHeartbeats 4000000 in
set_option maxRecDepth 100000 in
theorem c_hasEnded (g : Gp) (v ρ : Mv) (Z : Mz) (hG : GM ρ Z)  (hS : SInv (v 180)) : Ok g 2 0 0 F_m_hasEnded [(2, 178)] v ρ Z (fun o v' ρ' Z' => ρ = ρ' ∧ Z = Z' ∧ v = v' ∧ ∃ r : Int, o = some (0, r) ∧ (0 ≤ r ∧ r ≤ 1)) := by
  refine Ok.of mo_m_hasEnded (Nat.le_of_ble_eq_true rfl) ?_
  intro X hX hRm hxn hQ
  show wp g X F_m_hasEnded 0 0 0 [(2, 178), (3, 0)] [] v ρ Z
  have hb0 := hS.c0
  refine r_iconst (pc := 0) hX 0 rfl ?_
  refine r_istore_n (ls' := [(2, 178), (0, 0)]) (pc := 1) hX 1 rfl (by decide) rfl ?_
  have L2 : ∀ (n2 : Nat) (c : Int) , (0 ≤ c ∧ c ≤ v 180 0) → (v 180 0 - c).toNat < n2 → wp g X F_m_hasEnded 0 0 2 [(2, 178), (0, c)] [] v ρ Z := by
    intro n2
    induction n2 with
    | zero => intro c iq hme2; exact absurd hme2 (Nat.not_lt_zero _)
    | succ n2 ih2 =>
      intro c iq hme2
      refine r_iload_n (pc := 2) hX 2 rfl rfl ?_
      refine t_getR (pc := 3) hX 3 rfl rfl rfl fl_X12_33 rfl hG.1 (a_s hG).1 ?_
      refine r_iconst (pc := 7) hX 5 rfl ?_
      refine e_iald (y := (v 180 0)) (pc := 8) hX 6 rfl (a_s hG).2.1 (a_s hG).2.2 (by omega) (by omega) (rfl) ?_
      have hb8 := hS.c0
      first | refine r_icmp_ge (pc := 9) hX 7 (tgt := 41) rfl (by decide) (⟨by omega, by omega⟩) (⟨by omega, by omega⟩) (fun h9 => ?_) (fun h9 => ?_) | refine r_icmp_ge_any (pc := 9) hX 7 (tgt := 41) rfl (by decide) ?_ ?_
      · refine r_iconst (pc := 41) hX 24 rfl ?_
        exact r_zret (pc := 42) hX 25 hQ rfl rfl ⟨by omega, by omega⟩ (Nat.le_refl 0) (Nat.le_refl 0) ⟨rfl, rfl, rfl, 0, rfl, (by omega)⟩
      · refine t_getR (pc := 12) hX 8 rfl rfl rfl fl_X12_33 rfl hG.1 (a_s hG).1 ?_
        refine r_bipush (pc := 16) hX 10 rfl (by decide) ?_
        refine r_iload_n (pc := 18) hX 11 rfl rfl ?_
        refine r_iadd (pc := 19) hX 12 rfl ?_
        refine e_iald (y := (v 180 (10 + c))) (pc := 20) hX 13 rfl (a_s hG).2.1 (a_s hG).2.2 (by omega) (by omega) (rfl) ?_
        have hb20 := hS.c10 c (by omega) (by omega)
        refine r_iconst (pc := 21) hX 14 rfl ?_
        first | refine r_icmp_ne (pc := 22) hX 15 (tgt := 35) rfl (by decide) (⟨by omega, by omega⟩) (⟨by omega, by omega⟩) (fun h22 => ?_) (fun h22 => ?_) | refine r_icmp_ne_any (pc := 22) hX 15 (tgt := 35) rfl (by decide) ?_ ?_
        · refine r_iinc (ls' := [(2, 178), (0, (c + 1))]) (pc := 35) hX 22 rfl rfl (by decide) rfl ?_
          refine r_goto (pc := 38) hX 23 (tgt := 2) rfl (by decide) ?_
          exact (ih2 (c + 1) (by omega) (by omega))
        · refine r_aload_n (pc := 25) hX 16 rfl rfl ?_
          refine r_iload_n (pc := 26) hX 17 rfl rfl ?_
          refine r_callV (as := [(0, c)]) (st := []) (K := 12) (pc := 27) hX 18 rfl mo_m_cameOf ml_X12_288 im_m_cameOf se_m_cameOf (c_cameOf g v ρ Z hG (c) (hS)) rfl rfl rfl hG.1 (by rw [hRm]; exact ⟨by decide, by decide⟩) (by rw [hRm]; exact ⟨by decide, by decide⟩) (Nat.le_of_ble_eq_true rfl) (fun o27 v27 ρ27 Z27 hq27 _ => ?_)
          obtain ⟨rfl, rfl, rfl, r27, rfl, hq27⟩ := hq27
          show wp g X F_m_hasEnded 0 0 30 [(2, 178), (0, c)] [(0, r27)] v ρ Z
          first | refine r_if_le (pc := 30) hX 19 (tgt := 35) rfl (by decide) (⟨by omega, by omega⟩) (fun h30 => ?_) (fun h30 => ?_) | refine r_if_le_any (pc := 30) hX 19 (tgt := 35) rfl (by decide) ?_ ?_
          · refine r_iinc (ls' := [(2, 178), (0, (c + 1))]) (pc := 35) hX 22 rfl rfl (by decide) rfl ?_
            refine r_goto (pc := 38) hX 23 (tgt := 2) rfl (by decide) ?_
            exact (ih2 (c + 1) (by omega) (by omega))
          · refine r_iconst (pc := 33) hX 20 rfl ?_
            exact r_zret (pc := 34) hX 21 hQ rfl rfl ⟨by omega, by omega⟩ (Nat.le_refl 0) (Nat.le_refl 0) ⟨rfl, rfl, rfl, 1, rfl, (by omega)⟩
  exact (L2 _ 0 (by omega) (Nat.lt_succ_self _))
set_option maxHeartbeats 4000000 in
set_option maxRecDepth 100000 in
theorem c_asNow (g : Gp) (v ρ : Mv) (Z : Mz) (hG : GM ρ Z)  (hS : SInv (v 180)) : Ok g 2 0 0 F_m_asNow [(2, 178)] v ρ Z (fun o v' ρ' Z' => ρ = ρ' ∧ Z = Z' ∧ Fr [185, 186] [] v v' ∧ o = none ∧ (AsN v v')) := by
  refine Ok.of mo_m_asNow (Nat.le_of_ble_eq_true rfl) ?_
  intro X hX hRm hxn hQ
  show wp g X F_m_asNow 0 0 0 [(2, 178), (3, 0)] [] v ρ Z
  refine r_iconst (pc := 0) hX 0 rfl ?_
  refine r_istore_n (ls' := [(2, 178), (0, 0)]) (pc := 1) hX 1 rfl (by decide) rfl ?_
  have L2 : ∀ (n2 : Nat) (q : Int) (v2 : Mv) , (Fr [185, 186] [] v v2) → (SInv (v2 180)) → (0 ≤ q ∧ q ≤ 3) → (∀ j, 0 ≤ j → j < q → v2 185 j = v 180 (42 + j)) → (3 - q).toNat < n2 → wp g X F_m_asNow 0 0 2 [(2, 178), (0, q)] [] v2 ρ Z := by
    intro n2
    induction n2 with
    | zero => intro q v2 hfr2 hSInv_2 iq ia hme2; exact absurd hme2 (Nat.not_lt_zero _)
    | succ n2 ih2 =>
      intro q v2 hfr2 hSInv_2 iq ia hme2
      refine r_iload_n (pc := 2) hX 2 rfl rfl ?_
      refine r_iconst (pc := 3) hX 3 rfl ?_
      first | refine r_icmp_ge (pc := 4) hX 4 (tgt := 28) rfl (by decide) (⟨by omega, by omega⟩) (⟨by omega, by omega⟩) (fun h4 => ?_) (fun h4 => ?_) | refine r_icmp_ge_any (pc := 4) hX 4 (tgt := 28) rfl (by decide) ?_ ?_
      · refine r_iconst (pc := 28) hX 17 rfl ?_
        refine r_istore_n (ls' := [(2, 178), (0, 0)]) (pc := 29) hX 18 rfl (by decide) rfl ?_
        have L30 : ∀ (n30 : Nat) (c : Int) (v30 : Mv) , (Fr [185, 186] [] v v30) → (SInv (v30 180)) → (0 ≤ c ∧ c ≤ 5) → (∀ j, 0 ≤ j → j ≤ 2 → v30 185 j = v 180 (42 + j)) → (∀ j, 0 ≤ j → j < c → -1 ≤ v30 186 j ∧ v30 186 j ≤ 2 ∧ (j = 4 → v30 186 j = -1) ∧ v30 186 j < v 180 2) → (5 - c).toNat < n30 → wp g X F_m_asNow 0 0 30 [(2, 178), (0, c)] [] v30 ρ Z := by
          intro n30
          induction n30 with
          | zero => intro c v30 hfr30 hSInv_30 ic ib iw hme30; exact absurd hme30 (Nat.not_lt_zero _)
          | succ n30 ih30 =>
            intro c v30 hfr30 hSInv_30 ic ib iw hme30
            have es30 : v30 180 2 = v 180 2 := by rw [hfr30.1 180 (by decide) (by decide)]
            have hb2 := hS.c2
            refine r_iload_n (pc := 30) hX 19 rfl rfl ?_
            refine r_iconst (pc := 31) hX 20 rfl ?_
            first | refine r_icmp_ge (pc := 32) hX 21 (tgt := 66) rfl (by decide) (⟨by omega, by omega⟩) (⟨by omega, by omega⟩) (fun h32 => ?_) (fun h32 => ?_) | refine r_icmp_ge_any (pc := 32) hX 21 (tgt := 66) rfl (by decide) ?_ ?_
            · exact r_vret (pc := 66) hX 39 hQ rfl rfl (Nat.le_refl 0) (Nat.le_refl 0) ⟨rfl, rfl, hfr30, rfl, (⟨ib, fun j h0 h1 => ⟨(iw j h0 (by omega)).1, (iw j h0 (by omega)).2.1, (iw j h0 (by omega)).2.2.1⟩, fun j h0 h1 => (iw j h0 (by omega)).2.2.2⟩)⟩
            · refine t_getR (pc := 35) hX 22 rfl rfl rfl fl_X12_53 rfl hG.1 (a_own hG).1 ?_
              refine r_iload_n (pc := 39) hX 24 rfl rfl ?_
              refine r_iload_n (pc := 40) hX 25 rfl rfl ?_
              refine t_getR (pc := 41) hX 26 rfl rfl rfl fl_X12_33 rfl hG.1 (a_s hG).1 ?_
              refine r_iconst (pc := 45) hX 28 rfl ?_
              refine e_iald (y := (v30 180 0)) (pc := 46) hX 29 rfl (a_s hG).2.1 (a_s hG).2.2 (by omega) (by omega) (rfl) ?_
              have hb46 := hSInv_30.c0
              first | refine r_icmp_ge (pc := 47) hX 30 (tgt := 58) rfl (by decide) (⟨by omega, by omega⟩) (⟨by omega, by omega⟩) (fun h47 => ?_) (fun h47 => ?_) | refine r_icmp_ge_any (pc := 47) hX 30 (tgt := 58) rfl (by decide) ?_ ?_
              · refine r_iconst (pc := 58) hX 35 rfl ?_
                refine e_iast (pc := 59) hX 36 rfl (a_own hG).2.1 (a_own hG).2.2 (by decide) (by omega) (by omega) ?_
                refine r_iinc (ls' := [(2, 178), (0, (c + 1))]) (pc := 60) hX 37 rfl rfl (by decide) rfl ?_
                refine r_goto (pc := 63) hX 38 (tgt := 30) rfl (by decide) ?_
                exact (ih30 (c + 1) (up v30 186 c (-1)) ((hfr30).arr (r := 186) (by decide) (by decide)) (by rw [up_f (by decide)]; exact hSInv_30) (by omega) (fun j h0 h1 => by rw [up_r (by decide)]; exact ib j h0 h1) (fun j h0 h1 => by
            by_cases e : j = c
            · subst e; rw [up_s]; omega
            · rw [up_k e]; exact iw j h0 (by omega)) (by omega))
              · refine r_aload_n (pc := 50) hX 31 rfl rfl ?_
                refine r_iload_n (pc := 51) hX 32 rfl rfl ?_
                refine r_callV (as := [(0, c)]) (st := [(0, c), (2, 186)]) (K := 12) (pc := 52) hX 33 rfl mo_m_ownerOf ml_X12_284 im_m_ownerOf se_m_ownerOf (c_ownerOf g v30 ρ Z hG (c) (hSInv_30)) rfl rfl rfl hG.1 (by rw [hRm]; exact ⟨by decide, by decide⟩) (by rw [hRm]; exact ⟨by decide, by decide⟩) (Nat.le_of_ble_eq_true rfl) (fun o52 v52 ρ52 Z52 hq52 _ => ?_)
                obtain ⟨rfl, rfl, rfl, r52, rfl, hq52⟩ := hq52
                show wp g X F_m_asNow 0 0 55 [(2, 178), (0, c)] [(0, r52), (0, c), (2, 186)] v30 ρ Z
                refine r_goto (pc := 55) hX 34 (tgt := 59) rfl (by decide) ?_
                refine e_iast (pc := 59) hX 36 rfl (a_own hG).2.1 (a_own hG).2.2 (by decide) (by omega) (by omega) ?_
                refine r_iinc (ls' := [(2, 178), (0, (c + 1))]) (pc := 60) hX 37 rfl rfl (by decide) rfl ?_
                refine r_goto (pc := 63) hX 38 (tgt := 30) rfl (by decide) ?_
                exact (ih30 (c + 1) (up v30 186 c r52) ((hfr30).arr (r := 186) (by decide) (by decide)) (by rw [up_f (by decide)]; exact hSInv_30) (by omega) (fun j h0 h1 => by rw [up_r (by decide)]; exact ib j h0 h1) (fun j h0 h1 => by
            by_cases e : j = c
            · subst e; rw [up_s]; omega
            · rw [up_k e]; exact iw j h0 (by omega)) (by omega))
        exact (L30 _ 0 v2 (hfr2) (hSInv_2) (by omega) (fun j h0 h1 => ia j h0 (by omega)) (fun j h0 h1 => by omega) (Nat.lt_succ_self _))
      · refine t_getR (pc := 7) hX 5 rfl rfl rfl fl_X12_50 rfl hG.1 (a_scores hG).1 ?_
        refine r_iload_n (pc := 11) hX 7 rfl rfl ?_
        refine t_getR (pc := 12) hX 8 rfl rfl rfl fl_X12_33 rfl hG.1 (a_s hG).1 ?_
        refine r_bipush (pc := 16) hX 10 rfl (by decide) ?_
        refine r_iload_n (pc := 18) hX 11 rfl rfl ?_
        refine r_iadd (pc := 19) hX 12 rfl ?_
        refine e_iald (y := (v2 180 (42 + q))) (pc := 20) hX 13 rfl (a_s hG).2.1 (a_s hG).2.2 (by omega) (by omega) (rfl) ?_
        have hb20 := hSInv_2.c42 q (by omega) (by omega)
        refine e_iast (pc := 21) hX 14 rfl (a_scores hG).2.1 (a_scores hG).2.2 (by decide) (by omega) (by omega) ?_
        refine r_iinc (ls' := [(2, 178), (0, (q + 1))]) (pc := 22) hX 15 rfl rfl (by decide) rfl ?_
        refine r_goto (pc := 25) hX 16 (tgt := 2) rfl (by decide) ?_
        exact (ih2 (q + 1) (up v2 185 q (v2 180 (42 + q))) ((hfr2).arr (r := 185) (by decide) (by decide)) (by rw [up_f (by decide)]; exact hSInv_2) (by omega) (fun j h0 h1 => by
            by_cases e : j = q
            · subst e; rw [up_s, hfr2.1 180 (by decide) (by decide)]
            · rw [up_k e]; exact ia j h0 (by omega)) (by omega))
  exact (L2 _ 0 v (Fr.rf) (hS) (by omega) (fun j h0 h1 => by omega) (Nat.lt_succ_self _))
set_option maxHeartbeats 4000000 in
set_option maxRecDepth 100000 in
theorem c_isOver (g : Gp) (v ρ : Mv) (Z : Mz) (hG : GM ρ Z)  (hS : SInv (v 180)) : Ok g 3 0 0 F_m_isOver [(2, 178)] v ρ Z (fun o v' ρ' Z' => ρ = ρ' ∧ Z = Z' ∧ Fr [185, 186] [] v v' ∧ ∃ r : Int, o = some (0, r) ∧ (0 ≤ r ∧ r ≤ 1) ∧ ((r = 0 → v 180 35 < v 180 4 ∧ ∀ q, 0 ≤ q → q < v 180 2 → v 180 (42 + q) < v 180 3)) ∧ (AsN v v')) := by
  refine Ok.of mo_m_isOver (Nat.le_of_ble_eq_true rfl) ?_
  intro X hX hRm hxn hQ
  show wp g X F_m_isOver 0 0 0 [(2, 178)] [] v ρ Z
  refine r_aload_n (pc := 0) hX 0 rfl rfl ?_
  refine r_callV (as := []) (st := []) (K := 12) (pc := 1) hX 1 rfl mo_m_asNow ml_X12_301 im_m_asNow se_m_asNow (c_asNow g v ρ Z hG  (hS)) rfl rfl rfl hG.1 (by rw [hRm]; exact ⟨by decide, by decide⟩) (by rw [hRm]; exact ⟨by decide, by decide⟩) (Nat.le_of_ble_eq_true rfl) (fun o1 v1 ρ1 Z1 hq1 _ => ?_)
  obtain ⟨rfl, rfl, hfr1, rfl, hq1⟩ := hq1
  have hSInv_1 : SInv (v1 180) := by rw [hfr1.1 180 (by decide) (by decide)]; exact hS
  show wp g X F_m_isOver 0 0 4 [(2, 178)] [] v1 ρ Z
  have hC1 := hq1.sc hS
  have es1 : v1 180 = v 180 := hfr1.1 180 (by decide) (by decide)
  refine r_aload_n (pc := 4) hX 2 rfl rfl ?_
  refine r_callV (as := []) (st := []) (K := 12) (pc := 5) hX 3 rfl mo_m_arrived ml_X12_304 im_m_arrived se_m_arrived (c_arrived g v1 ρ Z hG  (hSInv_1) (hC1)) rfl rfl rfl hG.1 (by rw [hRm]; exact ⟨by decide, by decide⟩) (by rw [hRm]; exact ⟨by decide, by decide⟩) (Nat.le_of_ble_eq_true rfl) (fun o5 v5 ρ5 Z5 hq5 _ => ?_)
  obtain ⟨rfl, rfl, rfl, r5, rfl, hq5⟩ := hq5
  show wp g X F_m_isOver 0 0 8 [(2, 178)] [(0, r5)] v1 ρ Z
  first | refine r_if_ge (pc := 8) hX 4 (tgt := 34) rfl (by decide) (⟨by omega, by omega⟩) (fun h8 => ?_) (fun h8 => ?_) | refine r_if_ge_any (pc := 8) hX 4 (tgt := 34) rfl (by decide) ?_ ?_
  · refine r_iconst (pc := 34) hX 17 rfl ?_
    refine r_goto (pc := 35) hX 18 (tgt := 39) rfl (by decide) ?_
    exact r_zret (pc := 39) hX 20 hQ rfl rfl ⟨by omega, by omega⟩ (Nat.le_refl 0) (Nat.le_refl 0) ⟨rfl, rfl, (Fr.rf).tr hfr1 (by decide) (by decide), 1, rfl, (by omega), (fun h0 => by first | (exfalso; omega) | (refine ⟨by rw [es1] at *; have := hS.c35; omega, fun q h1 h2 => ?_⟩; have z1 := hq1.1 q h1 (by have := hS.c2; omega); have z2 := hq5.2 (by omega) q h1 (by rw [es1]; exact h2); rw [es1] at z2; omega)), (hq1)⟩
  · refine r_aload_n (pc := 11) hX 5 rfl rfl ?_
    refine r_callV (as := []) (st := []) (K := 12) (pc := 12) hX 6 rfl mo_m_hasEnded ml_X12_307 im_m_hasEnded se_m_hasEnded (c_hasEnded g v1 ρ Z hG  (hSInv_1)) rfl rfl rfl hG.1 (by rw [hRm]; exact ⟨by decide, by decide⟩) (by rw [hRm]; exact ⟨by decide, by decide⟩) (Nat.le_of_ble_eq_true rfl) (fun o12 v12 ρ12 Z12 hq12 _ => ?_)
    obtain ⟨rfl, rfl, rfl, r12, rfl, hq12⟩ := hq12
    show wp g X F_m_isOver 0 0 15 [(2, 178)] [(0, r12)] v1 ρ Z
    first | refine r_if_ne (pc := 15) hX 7 (tgt := 34) rfl (by decide) (⟨by omega, by omega⟩) (fun h15 => ?_) (fun h15 => ?_) | refine r_if_ne_any (pc := 15) hX 7 (tgt := 34) rfl (by decide) ?_ ?_
    · refine r_iconst (pc := 34) hX 17 rfl ?_
      refine r_goto (pc := 35) hX 18 (tgt := 39) rfl (by decide) ?_
      exact r_zret (pc := 39) hX 20 hQ rfl rfl ⟨by omega, by omega⟩ (Nat.le_refl 0) (Nat.le_refl 0) ⟨rfl, rfl, (Fr.rf).tr hfr1 (by decide) (by decide), 1, rfl, (by omega), (fun h0 => by first | (exfalso; omega) | (refine ⟨by rw [es1] at *; have := hS.c35; omega, fun q h1 h2 => ?_⟩; have z1 := hq1.1 q h1 (by have := hS.c2; omega); have z2 := hq5.2 (by omega) q h1 (by rw [es1]; exact h2); rw [es1] at z2; omega)), (hq1)⟩
    · refine t_getR (pc := 18) hX 8 rfl rfl rfl fl_X12_33 rfl hG.1 (a_s hG).1 ?_
      refine r_bipush (pc := 22) hX 10 rfl (by decide) ?_
      refine e_iald (y := (v1 180 35)) (pc := 24) hX 11 rfl (a_s hG).2.1 (a_s hG).2.2 (by omega) (by omega) (rfl) ?_
      have hb24 := hSInv_1.c35
      refine t_getR (pc := 25) hX 12 rfl rfl rfl fl_X12_33 rfl hG.1 (a_s hG).1 ?_
      refine r_iconst (pc := 29) hX 14 rfl ?_
      refine e_iald (y := (v1 180 4)) (pc := 30) hX 15 rfl (a_s hG).2.1 (a_s hG).2.2 (by omega) (by omega) (rfl) ?_
      have hb30 := hSInv_1.c4
      first | refine r_icmp_ne (pc := 31) hX 16 (tgt := 38) rfl (by decide) (⟨by omega, by omega⟩) (⟨by omega, by omega⟩) (fun h31 => ?_) (fun h31 => ?_) | refine r_icmp_ne_any (pc := 31) hX 16 (tgt := 38) rfl (by decide) ?_ ?_
      · refine r_iconst (pc := 38) hX 19 rfl ?_
        exact r_zret (pc := 39) hX 20 hQ rfl rfl ⟨by omega, by omega⟩ (Nat.le_refl 0) (Nat.le_refl 0) ⟨rfl, rfl, (Fr.rf).tr hfr1 (by decide) (by decide), 0, rfl, (by omega), (fun h0 => by first | (exfalso; omega) | (refine ⟨by rw [es1] at *; have := hS.c35; omega, fun q h1 h2 => ?_⟩; have z1 := hq1.1 q h1 (by have := hS.c2; omega); have z2 := hq5.2 (by omega) q h1 (by rw [es1]; exact h2); rw [es1] at z2; omega)), (hq1)⟩
      · refine r_iconst (pc := 34) hX 17 rfl ?_
        refine r_goto (pc := 35) hX 18 (tgt := 39) rfl (by decide) ?_
        exact r_zret (pc := 39) hX 20 hQ rfl rfl ⟨by omega, by omega⟩ (Nat.le_refl 0) (Nat.le_refl 0) ⟨rfl, rfl, (Fr.rf).tr hfr1 (by decide) (by decide), 1, rfl, (by omega), (fun h0 => by first | (exfalso; omega) | (refine ⟨by rw [es1] at *; have := hS.c35; omega, fun q h1 h2 => ?_⟩; have z1 := hq1.1 q h1 (by have := hS.c2; omega); have z2 := hq5.2 (by omega) q h1 (by rw [es1]; exact h2); rw [es1] at z2; omega)), (hq1)⟩
set_option maxHeartbeats 4000000 in
set_option maxRecDepth 100000 in
theorem c_winner (g : Gp) (v ρ : Mv) (Z : Mz) (hG : GM ρ Z)  (hS : SInv (v 180)) : Ok g 4 0 0 F_m_winner [(2, 178)] v ρ Z (fun o v' ρ' Z' => ρ = ρ' ∧ Z = Z' ∧ Fr [185, 186] [] v v' ∧ ∃ r : Int, o = some (0, r) ∧ (-1 ≤ r ∧ r < v 180 2 ∧ r ≤ 2) ∧ (AsN v v')) := by
  refine Ok.of mo_m_winner (Nat.le_of_ble_eq_true rfl) ?_
  intro X hX hRm hxn hQ
  show wp g X F_m_winner 0 0 0 [(2, 178)] [] v ρ Z
  have hb2 := hS.c2
  refine r_aload_n (pc := 0) hX 0 rfl rfl ?_
  refine r_callV (as := []) (st := []) (K := 12) (pc := 1) hX 1 rfl mo_m_isOver ml_X12_310 im_m_isOver se_m_isOver (c_isOver g v ρ Z hG  (hS)) rfl rfl rfl hG.1 (by rw [hRm]; exact ⟨by decide, by decide⟩) (by rw [hRm]; exact ⟨by decide, by decide⟩) (Nat.le_of_ble_eq_true rfl) (fun o1 v1 ρ1 Z1 hq1 _ => ?_)
  obtain ⟨rfl, rfl, hfr1, r1, rfl, hq1⟩ := hq1
  have hSInv_1 : SInv (v1 180) := by rw [hfr1.1 180 (by decide) (by decide)]; exact hS
  show wp g X F_m_winner 0 0 4 [(2, 178)] [(0, r1)] v1 ρ Z
  have hC1 := hq1.2.2.sc hS
  have es1 : v1 180 = v 180 := hfr1.1 180 (by decide) (by decide)
  rw [← es1] at hb2
  first | refine r_if_ne (pc := 4) hX 2 (tgt := 9) rfl (by decide) (⟨by omega, by omega⟩) (fun h4 => ?_) (fun h4 => ?_) | refine r_if_ne_any (pc := 4) hX 2 (tgt := 9) rfl (by decide) ?_ ?_
  · refine r_aload_n (pc := 9) hX 5 rfl rfl ?_
    refine r_callV (as := []) (st := []) (K := 12) (pc := 10) hX 6 rfl mo_m_arrived ml_X12_304 im_m_arrived se_m_arrived (c_arrived g v1 ρ Z hG  (hSInv_1) (hC1)) rfl rfl rfl hG.1 (by rw [hRm]; exact ⟨by decide, by decide⟩) (by rw [hRm]; exact ⟨by decide, by decide⟩) (Nat.le_of_ble_eq_true rfl) (fun o10 v10 ρ10 Z10 hq10 _ => ?_)
    obtain ⟨rfl, rfl, rfl, r10, rfl, hq10⟩ := hq10
    show wp g X F_m_winner 0 0 13 [(2, 178)] [(0, r10)] v1 ρ Z
    first | refine r_if_lt (pc := 13) hX 7 (tgt := 23) rfl (by decide) (⟨by omega, by omega⟩) (fun h13 => ?_) (fun h13 => ?_) | refine r_if_lt_any (pc := 13) hX 7 (tgt := 23) rfl (by decide) ?_ ?_
    · refine r_aload_n (pc := 23) hX 11 rfl rfl ?_
      refine r_callV (as := []) (st := []) (K := 12) (pc := 24) hX 12 rfl mo_m_ahead ml_X12_313 im_m_ahead se_m_ahead (c_ahead g v1 ρ Z hG  (hSInv_1) (hC1)) rfl rfl rfl hG.1 (by rw [hRm]; exact ⟨by decide, by decide⟩) (by rw [hRm]; exact ⟨by decide, by decide⟩) (Nat.le_of_ble_eq_true rfl) (fun o24 v24 ρ24 Z24 hq24 _ => ?_)
      obtain ⟨rfl, rfl, rfl, r24, rfl, hq24⟩ := hq24
      show wp g X F_m_winner 0 0 27 [(2, 178)] [(0, r24)] v1 ρ Z
      exact r_iret (pc := 27) hX 13 hQ rfl rfl (Nat.le_refl 0) (Nat.le_refl 0) ⟨rfl, rfl, (Fr.rf).tr hfr1 (by decide) (by decide), r24, rfl, (by rw [← es1]; omega), (hq1.2.2)⟩
    · refine r_aload_n (pc := 16) hX 8 rfl rfl ?_
      refine r_callV (as := []) (st := []) (K := 12) (pc := 17) hX 9 rfl mo_m_arrived ml_X12_304 im_m_arrived se_m_arrived (c_arrived g v1 ρ Z hG  (hSInv_1) (hC1)) rfl rfl rfl hG.1 (by rw [hRm]; exact ⟨by decide, by decide⟩) (by rw [hRm]; exact ⟨by decide, by decide⟩) (Nat.le_of_ble_eq_true rfl) (fun o17 v17 ρ17 Z17 hq17 _ => ?_)
      obtain ⟨rfl, rfl, rfl, r17, rfl, hq17⟩ := hq17
      show wp g X F_m_winner 0 0 20 [(2, 178)] [(0, r17)] v1 ρ Z
      refine r_goto (pc := 20) hX 10 (tgt := 27) rfl (by decide) ?_
      exact r_iret (pc := 27) hX 13 hQ rfl rfl (Nat.le_refl 0) (Nat.le_refl 0) ⟨rfl, rfl, (Fr.rf).tr hfr1 (by decide) (by decide), r17, rfl, (by rw [← es1]; omega), (hq1.2.2)⟩
  · refine r_iconst (pc := 7) hX 3 rfl ?_
    exact r_iret (pc := 8) hX 4 hQ rfl rfl (Nat.le_refl 0) (Nat.le_refl 0) ⟨rfl, rfl, (Fr.rf).tr hfr1 (by decide) (by decide), (-1), rfl, (by rw [← es1]; omega), (hq1.2.2)⟩
set_option maxHeartbeats 4000000 in
set_option maxRecDepth 100000 in
theorem c_now (g : Gp) (v ρ : Mv) (Z : Mz) (hG : GM ρ Z) (what : Int) (hS : SInv (v 180)) (hw : inR what) : Ok g 5 0 0 F_m_now [(2, 178), (0, what)] v ρ Z (fun o v' ρ' Z' => ρ = ρ' ∧ Z = Z' ∧ Fr [185, 186] [0] v v' ∧ ∃ r : Int, o = some (0, r) ∧ True) := by
  refine Ok.of mo_m_now (Nat.le_of_ble_eq_true rfl) ?_
  intro X hX hRm hxn hQ
  show wp g X F_m_now 0 0 0 [(2, 178), (0, what), (3, 0), (3, 0)] [] v ρ Z
  have hb2 := hS.c2
  refine r_aload_n (pc := 0) hX 0 rfl rfl ?_
  refine r_iconst (pc := 1) hX 1 rfl ?_
  refine r_putI (pc := 2) hX 2 rfl fl_X12_1 rfl (fun _ h => by cases h; rfl) hG.1 (by decide) ?_
  refine r_iconst (pc := 5) hX 3 rfl ?_
  refine r_istore_n (ls' := [(2, 178), (0, what), (0, (-1)), (3, 0)]) (pc := 6) hX 4 rfl (by decide) rfl ?_
  refine r_iconst (pc := 7) hX 5 rfl ?_
  refine r_istore_n (ls' := [(2, 178), (0, what), (0, (-1)), (0, 0)]) (pc := 8) hX 6 rfl (by decide) rfl ?_
  have L9 : ∀ (n9 : Nat) (m q : Int) , (0 ≤ q ∧ q ≤ v 180 2 ∧ -1 ≤ m ∧ m < q) → (v 180 2 - q).toNat < n9 → wp g X F_m_now 0 0 9 [(2, 178), (0, what), (0, m), (0, q)] [] (up v 178 0 0) ρ Z := by
    intro n9
    induction n9 with
    | zero => intro m q iq hme9; exact absurd hme9 (Nat.not_lt_zero _)
    | succ n9 ih9 =>
      intro m q iq hme9
      refine r_iload_n (pc := 9) hX 7 rfl rfl ?_
      refine t_getR (pc := 10) hX 8 rfl rfl rfl fl_X12_33 rfl hG.1 (a_s hG).1 ?_
      refine r_iconst (pc := 14) hX 10 rfl ?_
      refine e_iald (y := (v 180 2)) (pc := 15) hX 11 rfl (a_s hG).2.1 (a_s hG).2.2 (by omega) (by omega) ((up_r (by decide)).trans (rfl)) ?_
      have hb15 := hS.c2
      first | refine r_icmp_ge (pc := 16) hX 12 (tgt := 52) rfl (by decide) (⟨by omega, by omega⟩) (⟨by omega, by omega⟩) (fun h16 => ?_) (fun h16 => ?_) | refine r_icmp_ge_any (pc := 16) hX 12 (tgt := 52) rfl (by decide) ?_ ?_
      · refine r_iload_n (pc := 52) hX 32 rfl rfl ?_
        have hsw53 : what < 0 ∨ 4 < what ∨ what = 0 ∨ what = 1 ∨ what = 2 ∨ what = 3 ∨ what = 4 := by omega
        rcases hsw53 with hsw53 | hsw53 | hsw53 | hsw53 | hsw53 | hsw53 | hsw53
        · refine r_tsOut (pc := 53) hX 33 (tgt := 122) rfl ⟨by omega, by omega⟩ (by omega) (by decide) ?_
          refine r_iconst (pc := 122) hX 55 rfl ?_
          exact r_iret (pc := 123) hX 56 hQ rfl rfl (Nat.le_refl 0) (Nat.le_refl 0) ⟨rfl, rfl, (Fr.rf).fld (k := 0) (by decide), (-1), rfl, trivial⟩
        · refine r_tsOut (pc := 53) hX 33 (tgt := 122) rfl ⟨by omega, by omega⟩ (by omega) (by decide) ?_
          refine r_iconst (pc := 122) hX 55 rfl ?_
          exact r_iret (pc := 123) hX 56 hQ rfl rfl (Nat.le_refl 0) (Nat.le_refl 0) ⟨rfl, rfl, (Fr.rf).fld (k := 0) (by decide), (-1), rfl, trivial⟩
        · refine r_tsIn (x := what) (pc := 53) hX 33 (tgt := 88) rfl ⟨by omega, by omega⟩ (by omega) (by omega) (by rw [hsw53]; rfl) (by decide) ?_
          refine t_getR (pc := 88) hX 34 rfl rfl rfl fl_X12_33 rfl hG.1 (a_s hG).1 ?_
          refine r_bipush (pc := 92) hX 36 rfl (by decide) ?_
          refine e_iald (y := (v 180 35)) (pc := 94) hX 37 rfl (a_s hG).2.1 (a_s hG).2.2 (by omega) (by omega) ((up_r (by decide)).trans (rfl)) ?_
          have hb94 := hS.c35
          exact r_iret (pc := 95) hX 38 hQ rfl rfl (Nat.le_refl 0) (Nat.le_refl 0) ⟨rfl, rfl, (Fr.rf).fld (k := 0) (by decide), (v 180 35), rfl, trivial⟩
        · refine r_tsIn (x := what) (pc := 53) hX 33 (tgt := 96) rfl ⟨by omega, by omega⟩ (by omega) (by omega) (by rw [hsw53]; rfl) (by decide) ?_
          refine r_aload_n (pc := 96) hX 39 rfl rfl ?_
          refine r_callV (as := []) (st := []) (K := 12) (pc := 97) hX 40 rfl mo_m_isOver ml_X12_310 im_m_isOver se_m_isOver (c_isOver g (up v 178 0 0) ρ Z hG  (by rw [up_f (by decide)]; exact hS)) rfl rfl rfl hG.1 (by rw [hRm]; exact ⟨by decide, by decide⟩) (by rw [hRm]; exact ⟨by decide, by decide⟩) (Nat.le_of_ble_eq_true rfl) (fun o97 v97 ρ97 Z97 hq97 _ => ?_)
          obtain ⟨rfl, rfl, hfr97, r97, rfl, hq97⟩ := hq97
          try simp only [up_f (show (180 : Int) ≠ 178 by decide)] at hq97
          have hSInv_97 : SInv (v97 180) := by rw [hfr97.1 180 (by decide) (by decide), up_f (by decide)]; exact hS
          show wp g X F_m_now 0 0 100 [(2, 178), (0, what), (0, m), (0, q)] [(0, r97)] v97 ρ Z
          first | refine r_if_eq (pc := 100) hX 41 (tgt := 107) rfl (by decide) (⟨by omega, by omega⟩) (fun h100 => ?_) (fun h100 => ?_) | refine r_if_eq_any (pc := 100) hX 41 (tgt := 107) rfl (by decide) ?_ ?_
          · refine r_iconst (pc := 107) hX 44 rfl ?_
            exact r_iret (pc := 108) hX 45 hQ rfl rfl (Nat.le_refl 0) (Nat.le_refl 0) ⟨rfl, rfl, ((Fr.rf).fld (k := 0) (by decide)).tr hfr97 (by decide) (by decide), 0, rfl, trivial⟩
          · refine r_iconst (pc := 103) hX 42 rfl ?_
            refine r_goto (pc := 104) hX 43 (tgt := 108) rfl (by decide) ?_
            exact r_iret (pc := 108) hX 45 hQ rfl rfl (Nat.le_refl 0) (Nat.le_refl 0) ⟨rfl, rfl, ((Fr.rf).fld (k := 0) (by decide)).tr hfr97 (by decide) (by decide), 1, rfl, trivial⟩
        · refine r_tsIn (x := what) (pc := 53) hX 33 (tgt := 109) rfl ⟨by omega, by omega⟩ (by omega) (by omega) (by rw [hsw53]; rfl) (by decide) ?_
          refine r_aload_n (pc := 109) hX 46 rfl rfl ?_
          refine r_callV (as := []) (st := []) (K := 12) (pc := 110) hX 47 rfl mo_m_winner ml_X12_316 im_m_winner se_m_winner (c_winner g (up v 178 0 0) ρ Z hG  (by rw [up_f (by decide)]; exact hS)) rfl rfl rfl hG.1 (by rw [hRm]; exact ⟨by decide, by decide⟩) (by rw [hRm]; exact ⟨by decide, by decide⟩) (Nat.le_of_ble_eq_true rfl) (fun o110 v110 ρ110 Z110 hq110 _ => ?_)
          obtain ⟨rfl, rfl, hfr110, r110, rfl, hq110⟩ := hq110
          try simp only [up_f (show (180 : Int) ≠ 178 by decide)] at hq110
          have hSInv_110 : SInv (v110 180) := by rw [hfr110.1 180 (by decide) (by decide), up_f (by decide)]; exact hS
          show wp g X F_m_now 0 0 113 [(2, 178), (0, what), (0, m), (0, q)] [(0, r110)] v110 ρ Z
          exact r_iret (pc := 113) hX 48 hQ rfl rfl (Nat.le_refl 0) (Nat.le_refl 0) ⟨rfl, rfl, ((Fr.rf).fld (k := 0) (by decide)).tr hfr110 (by decide) (by decide), r110, rfl, trivial⟩
        · refine r_tsIn (x := what) (pc := 53) hX 33 (tgt := 114) rfl ⟨by omega, by omega⟩ (by omega) (by omega) (by rw [hsw53]; rfl) (by decide) ?_
          refine r_iload_n (pc := 114) hX 49 rfl rfl ?_
          exact r_iret (pc := 115) hX 50 hQ rfl rfl (Nat.le_refl 0) (Nat.le_refl 0) ⟨rfl, rfl, (Fr.rf).fld (k := 0) (by decide), m, rfl, trivial⟩
        · refine r_tsIn (x := what) (pc := 53) hX 33 (tgt := 116) rfl ⟨by omega, by omega⟩ (by omega) (by omega) (by rw [hsw53]; rfl) (by decide) ?_
          refine r_aload_n (pc := 116) hX 51 rfl rfl ?_
          refine r_iconst (pc := 117) hX 52 rfl ?_
          refine r_callV (as := [(0, 4)]) (st := []) (K := 12) (pc := 118) hX 53 rfl mo_m_cameOf ml_X12_288 im_m_cameOf se_m_cameOf (c_cameOf g (up v 178 0 0) ρ Z hG (4) (by rw [up_f (by decide)]; exact hS)) rfl rfl rfl hG.1 (by rw [hRm]; exact ⟨by decide, by decide⟩) (by rw [hRm]; exact ⟨by decide, by decide⟩) (Nat.le_of_ble_eq_true rfl) (fun o118 v118 ρ118 Z118 hq118 _ => ?_)
          obtain ⟨rfl, rfl, rfl, r118, rfl, hq118⟩ := hq118
          try simp only [up_f (show (180 : Int) ≠ 178 by decide)] at hq118
          show wp g X F_m_now 0 0 121 [(2, 178), (0, what), (0, m), (0, q)] [(0, r118)] (up v 178 0 0) ρ Z
          exact r_iret (pc := 121) hX 54 hQ rfl rfl (Nat.le_refl 0) (Nat.le_refl 0) ⟨rfl, rfl, (Fr.rf).fld (k := 0) (by decide), r118, rfl, trivial⟩
      · refine r_iload_n (pc := 19) hX 13 rfl rfl ?_
        first | refine r_if_lt (pc := 20) hX 14 (tgt := 44) rfl (by decide) (⟨by omega, by omega⟩) (fun h20 => ?_) (fun h20 => ?_) | refine r_if_lt_any (pc := 20) hX 14 (tgt := 44) rfl (by decide) ?_ ?_
        · refine r_iload_n (pc := 44) hX 28 rfl rfl ?_
          refine r_istore_n (ls' := [(2, 178), (0, what), (0, q), (0, q)]) (pc := 45) hX 29 rfl (by decide) rfl ?_
          refine r_iinc (ls' := [(2, 178), (0, what), (0, q), (0, (q + 1))]) (pc := 46) hX 30 rfl rfl (by decide) rfl ?_
          refine r_goto (pc := 49) hX 31 (tgt := 9) rfl (by decide) ?_
          exact (ih9 q (q + 1) (by omega) (by omega))
        · refine t_getR (pc := 23) hX 15 rfl rfl rfl fl_X12_33 rfl hG.1 (a_s hG).1 ?_
          refine r_bipush (pc := 27) hX 17 rfl (by decide) ?_
          refine r_iload_n (pc := 29) hX 18 rfl rfl ?_
          refine r_iadd (pc := 30) hX 19 rfl ?_
          refine e_iald (y := (v 180 (42 + q))) (pc := 31) hX 20 rfl (a_s hG).2.1 (a_s hG).2.2 (by omega) (by omega) ((up_r (by decide)).trans (rfl)) ?_
          have hb31 := hS.c42 q (by omega) (by omega)
          refine t_getR (pc := 32) hX 21 rfl rfl rfl fl_X12_33 rfl hG.1 (a_s hG).1 ?_
          refine r_bipush (pc := 36) hX 23 rfl (by decide) ?_
          refine r_iload_n (pc := 38) hX 24 rfl rfl ?_
          refine r_iadd (pc := 39) hX 25 rfl ?_
          refine e_iald (y := (v 180 (42 + m))) (pc := 40) hX 26 rfl (a_s hG).2.1 (a_s hG).2.2 (by omega) (by omega) ((up_r (by decide)).trans (rfl)) ?_
          have hb40 := hS.c42 m (by omega) (by omega)
          first | refine r_icmp_le (pc := 41) hX 27 (tgt := 46) rfl (by decide) (⟨by omega, by omega⟩) (⟨by omega, by omega⟩) (fun h41 => ?_) (fun h41 => ?_) | refine r_icmp_le_any (pc := 41) hX 27 (tgt := 46) rfl (by decide) ?_ ?_
          · refine r_iinc (ls' := [(2, 178), (0, what), (0, m), (0, (q + 1))]) (pc := 46) hX 30 rfl rfl (by decide) rfl ?_
            refine r_goto (pc := 49) hX 31 (tgt := 9) rfl (by decide) ?_
            exact (ih9 m (q + 1) (by omega) (by omega))
          · refine r_iload_n (pc := 44) hX 28 rfl rfl ?_
            refine r_istore_n (ls' := [(2, 178), (0, what), (0, q), (0, q)]) (pc := 45) hX 29 rfl (by decide) rfl ?_
            refine r_iinc (ls' := [(2, 178), (0, what), (0, q), (0, (q + 1))]) (pc := 46) hX 30 rfl rfl (by decide) rfl ?_
            refine r_goto (pc := 49) hX 31 (tgt := 9) rfl (by decide) ?_
            exact (ih9 q (q + 1) (by omega) (by omega))
  exact (L9 _ (-1) 0 (by omega) (Nat.lt_succ_self _))
set_option maxHeartbeats 4000000 in
set_option maxRecDepth 100000 in
theorem c_colour (g : Gp) (v ρ : Mv) (Z : Mz) (hG : GM ρ Z) (c what : Int) (hS : SInv (v 180)) (hc : inR c) (hw : inR what) : Ok g 3 0 0 F_m_colour [(2, 178), (0, c), (0, what)] v ρ Z (fun o v' ρ' Z' => ρ = ρ' ∧ Z = Z' ∧ Fr [] [0] v v' ∧ ∃ r : Int, o = some (0, r) ∧ True) := by
  refine Ok.of mo_m_colour (Nat.le_of_ble_eq_true rfl) ?_
  intro X hX hRm hxn hQ
  show wp g X F_m_colour 0 0 0 [(2, 178), (0, c), (0, what)] [] v ρ Z
  have hb0 := hS.c0
  refine r_aload_n (pc := 0) hX 0 rfl rfl ?_
  refine r_iconst (pc := 1) hX 1 rfl ?_
  refine r_putI (pc := 2) hX 2 rfl fl_X12_1 rfl (fun _ h => by cases h; rfl) hG.1 (by decide) ?_
  refine r_aload_n (pc := 5) hX 3 rfl rfl ?_
  refine r_iload_n (pc := 6) hX 4 rfl rfl ?_
  refine r_callV (as := [(0, c)]) (st := []) (K := 12) (pc := 7) hX 5 rfl mo_m_isColour ml_X12_281 im_m_isColour se_m_isColour (c_isColour g (up v 178 0 0) ρ Z hG (c) (by rw [up_f (by decide)]; exact hS) (by omega)) rfl rfl rfl hG.1 (by rw [hRm]; exact ⟨by decide, by decide⟩) (by rw [hRm]; exact ⟨by decide, by decide⟩) (Nat.le_of_ble_eq_true rfl) (fun o7 v7 ρ7 Z7 hq7 _ => ?_)
  obtain ⟨rfl, rfl, rfl, r7, rfl, hq7⟩ := hq7
  try simp only [up_f (show (180 : Int) ≠ 178 by decide)] at hq7
  show wp g X F_m_colour 0 0 10 [(2, 178), (0, c), (0, what)] [(0, r7)] (up v 178 0 0) ρ Z
  first | refine r_if_ne (pc := 10) hX 6 (tgt := 15) rfl (by decide) (⟨by omega, by omega⟩) (fun h10 => ?_) (fun h10 => ?_) | refine r_if_ne_any (pc := 10) hX 6 (tgt := 15) rfl (by decide) ?_ ?_
  · refine r_iload_n (pc := 15) hX 9 rfl rfl ?_
    first | refine r_if_ne (pc := 16) hX 10 (tgt := 31) rfl (by decide) (⟨by omega, by omega⟩) (fun h16 => ?_) (fun h16 => ?_) | refine r_if_ne_any (pc := 16) hX 10 (tgt := 31) rfl (by decide) ?_ ?_
    · refine r_iload_n (pc := 31) hX 18 rfl rfl ?_
      refine r_iconst (pc := 32) hX 19 rfl ?_
      first | refine r_icmp_ne (pc := 33) hX 20 (tgt := 48) rfl (by decide) (⟨by omega, by omega⟩) (⟨by omega, by omega⟩) (fun h33 => ?_) (fun h33 => ?_) | refine r_icmp_ne_any (pc := 33) hX 20 (tgt := 48) rfl (by decide) ?_ ?_
      · refine r_iload_n (pc := 48) hX 28 rfl rfl ?_
        refine r_iconst (pc := 49) hX 29 rfl ?_
        first | refine r_icmp_ne (pc := 50) hX 30 (tgt := 61) rfl (by decide) (⟨by omega, by omega⟩) (⟨by omega, by omega⟩) (fun h50 => ?_) (fun h50 => ?_) | refine r_icmp_ne_any (pc := 50) hX 30 (tgt := 61) rfl (by decide) ?_ ?_
        · refine r_iload_n (pc := 61) hX 35 rfl rfl ?_
          refine r_iconst (pc := 62) hX 36 rfl ?_
          first | refine r_icmp_ne (pc := 63) hX 37 (tgt := 74) rfl (by decide) (⟨by omega, by omega⟩) (⟨by omega, by omega⟩) (fun h63 => ?_) (fun h63 => ?_) | refine r_icmp_ne_any (pc := 63) hX 37 (tgt := 74) rfl (by decide) ?_ ?_
          · refine r_iconst (pc := 74) hX 42 rfl ?_
            exact r_iret (pc := 75) hX 43 hQ rfl rfl (Nat.le_refl 0) (Nat.le_refl 0) ⟨rfl, rfl, (Fr.rf).fld (k := 0) (by decide), (-1), rfl, trivial⟩
          · refine r_aload_n (pc := 66) hX 38 rfl rfl ?_
            refine r_iload_n (pc := 67) hX 39 rfl rfl ?_
            refine r_callV (as := [(0, c)]) (st := []) (K := 12) (pc := 68) hX 40 rfl mo_m_cameOf ml_X12_288 im_m_cameOf se_m_cameOf (c_cameOf g (up v 178 0 0) ρ Z hG (c) (by rw [up_f (by decide)]; exact hS)) rfl rfl rfl hG.1 (by rw [hRm]; exact ⟨by decide, by decide⟩) (by rw [hRm]; exact ⟨by decide, by decide⟩) (Nat.le_of_ble_eq_true rfl) (fun o68 v68 ρ68 Z68 hq68 _ => ?_)
            obtain ⟨rfl, rfl, rfl, r68, rfl, hq68⟩ := hq68
            try simp only [up_f (show (180 : Int) ≠ 178 by decide)] at hq68
            show wp g X F_m_colour 0 0 71 [(2, 178), (0, c), (0, what)] [(0, r68)] (up v 178 0 0) ρ Z
            refine r_goto (pc := 71) hX 41 (tgt := 75) rfl (by decide) ?_
            exact r_iret (pc := 75) hX 43 hQ rfl rfl (Nat.le_refl 0) (Nat.le_refl 0) ⟨rfl, rfl, (Fr.rf).fld (k := 0) (by decide), r68, rfl, trivial⟩
        · refine r_aload_n (pc := 53) hX 31 rfl rfl ?_
          refine r_iload_n (pc := 54) hX 32 rfl rfl ?_
          refine r_callV (as := [(0, c)]) (st := []) (K := 12) (pc := 55) hX 33 rfl mo_m_ownerOf ml_X12_284 im_m_ownerOf se_m_ownerOf (c_ownerOf g (up v 178 0 0) ρ Z hG (c) (by rw [up_f (by decide)]; exact hS)) rfl rfl rfl hG.1 (by rw [hRm]; exact ⟨by decide, by decide⟩) (by rw [hRm]; exact ⟨by decide, by decide⟩) (Nat.le_of_ble_eq_true rfl) (fun o55 v55 ρ55 Z55 hq55 _ => ?_)
          obtain ⟨rfl, rfl, rfl, r55, rfl, hq55⟩ := hq55
          try simp only [up_f (show (180 : Int) ≠ 178 by decide)] at hq55
          show wp g X F_m_colour 0 0 58 [(2, 178), (0, c), (0, what)] [(0, r55)] (up v 178 0 0) ρ Z
          refine r_goto (pc := 58) hX 34 (tgt := 75) rfl (by decide) ?_
          exact r_iret (pc := 75) hX 43 hQ rfl rfl (Nat.le_refl 0) (Nat.le_refl 0) ⟨rfl, rfl, (Fr.rf).fld (k := 0) (by decide), r55, rfl, trivial⟩
      · refine t_getR (pc := 36) hX 21 rfl rfl rfl fl_X12_33 rfl hG.1 (a_s hG).1 ?_
        refine r_bipush (pc := 40) hX 23 rfl (by decide) ?_
        refine r_iload_n (pc := 42) hX 24 rfl rfl ?_
        refine r_iadd (pc := 43) hX 25 rfl ?_
        refine e_iald (y := (v 180 (10 + c))) (pc := 44) hX 26 rfl (a_s hG).2.1 (a_s hG).2.2 (by omega) (by omega) ((up_r (by decide)).trans (rfl)) ?_
        have hb44 := hS.c10 c (by omega) (by omega)
        refine r_goto (pc := 45) hX 27 (tgt := 75) rfl (by decide) ?_
        exact r_iret (pc := 75) hX 43 hQ rfl rfl (Nat.le_refl 0) (Nat.le_refl 0) ⟨rfl, rfl, (Fr.rf).fld (k := 0) (by decide), (v 180 (10 + c)), rfl, trivial⟩
    · refine t_getR (pc := 19) hX 11 rfl rfl rfl fl_X12_33 rfl hG.1 (a_s hG).1 ?_
      refine r_bipush (pc := 23) hX 13 rfl (by decide) ?_
      refine r_iload_n (pc := 25) hX 14 rfl rfl ?_
      refine r_iadd (pc := 26) hX 15 rfl ?_
      refine e_iald (y := (v 180 (6 + c))) (pc := 27) hX 16 rfl (a_s hG).2.1 (a_s hG).2.2 (by omega) (by omega) ((up_r (by decide)).trans (rfl)) ?_
      have hb27 := hS.c6 c (by omega) (by omega)
      refine r_goto (pc := 28) hX 17 (tgt := 75) rfl (by decide) ?_
      exact r_iret (pc := 75) hX 43 hQ rfl rfl (Nat.le_refl 0) (Nat.le_refl 0) ⟨rfl, rfl, (Fr.rf).fld (k := 0) (by decide), (v 180 (6 + c)), rfl, trivial⟩
  · refine r_iconst (pc := 13) hX 7 rfl ?_
    exact r_iret (pc := 14) hX 8 hQ rfl rfl (Nat.le_refl 0) (Nat.le_refl 0) ⟨rfl, rfl, (Fr.rf).fld (k := 0) (by decide), (-1), rfl, trivial⟩
set_option maxHeartbeats 4000000 in
set_option maxRecDepth 100000 in
theorem c_land (g : Gp) (v ρ : Mv) (Z : Mz) (hG : GM ρ Z) (l c : Int) (hS : SInv (v 180)) (hl : inR l) (hc : inR c) : Ok g 3 0 0 F_m_land [(2, 178), (0, l), (0, c)] v ρ Z (fun o v' ρ' Z' => ρ = ρ' ∧ Z = Z' ∧ Fr [] [0] v v' ∧ ∃ r : Int, o = some (0, r) ∧ True) := by
  refine Ok.of mo_m_land (Nat.le_of_ble_eq_true rfl) ?_
  intro X hX hRm hxn hQ
  show wp g X F_m_land 0 0 0 [(2, 178), (0, l), (0, c)] [] v ρ Z
  have hb0 := hS.c0
  have hb1 := hS.c1
  refine r_aload_n (pc := 0) hX 0 rfl rfl ?_
  refine r_iconst (pc := 1) hX 1 rfl ?_
  refine r_putI (pc := 2) hX 2 rfl fl_X12_1 rfl (fun _ h => by cases h; rfl) hG.1 (by decide) ?_
  refine r_aload_n (pc := 5) hX 3 rfl rfl ?_
  refine r_iload_n (pc := 6) hX 4 rfl rfl ?_
  refine r_callV (as := [(0, l)]) (st := []) (K := 12) (pc := 7) hX 5 rfl mo_m_isLand ml_X12_291 im_m_isLand se_m_isLand (c_isLand g (up v 178 0 0) ρ Z hG (l) (by rw [up_f (by decide)]; exact hS) (by omega)) rfl rfl rfl hG.1 (by rw [hRm]; exact ⟨by decide, by decide⟩) (by rw [hRm]; exact ⟨by decide, by decide⟩) (Nat.le_of_ble_eq_true rfl) (fun o7 v7 ρ7 Z7 hq7 _ => ?_)
  obtain ⟨rfl, rfl, rfl, r7, rfl, hq7⟩ := hq7
  try simp only [up_f (show (180 : Int) ≠ 178 by decide)] at hq7
  show wp g X F_m_land 0 0 10 [(2, 178), (0, l), (0, c)] [(0, r7)] (up v 178 0 0) ρ Z
  first | refine r_if_eq (pc := 10) hX 6 (tgt := 26) rfl (by decide) (⟨by omega, by omega⟩) (fun h10 => ?_) (fun h10 => ?_) | refine r_if_eq_any (pc := 10) hX 6 (tgt := 26) rfl (by decide) ?_ ?_
  · refine r_iconst (pc := 26) hX 14 rfl ?_
    exact r_iret (pc := 27) hX 15 hQ rfl rfl (Nat.le_refl 0) (Nat.le_refl 0) ⟨rfl, rfl, (Fr.rf).fld (k := 0) (by decide), (-1), rfl, trivial⟩
  · refine r_iload_n (pc := 13) hX 7 rfl rfl ?_
    refine r_iconst (pc := 14) hX 8 rfl ?_
    first | refine r_icmp_eq (pc := 15) hX 9 (tgt := 28) rfl (by decide) (⟨by omega, by omega⟩) (⟨by omega, by omega⟩) (fun h15 => ?_) (fun h15 => ?_) | refine r_icmp_eq_any (pc := 15) hX 9 (tgt := 28) rfl (by decide) ?_ ?_
    · refine t_getR (pc := 28) hX 16 rfl rfl rfl fl_X12_33 rfl hG.1 (a_s hG).1 ?_
      refine r_bipush (pc := 32) hX 18 rfl (by decide) ?_
      refine r_iconst (pc := 34) hX 19 rfl ?_
      refine r_iload_n (pc := 35) hX 20 rfl rfl ?_
      refine r_imul (pc := 36) hX 21 rfl ?_
      refine r_iadd (pc := 37) hX 22 rfl ?_
      refine r_iload_n (pc := 38) hX 23 rfl rfl ?_
      refine r_iconst (pc := 39) hX 24 rfl ?_
      first | refine r_icmp_ne (pc := 40) hX 25 (tgt := 47) rfl (by decide) (⟨by omega, by omega⟩) (⟨by omega, by omega⟩) (fun h40 => ?_) (fun h40 => ?_) | refine r_icmp_ne_any (pc := 40) hX 25 (tgt := 47) rfl (by decide) ?_ ?_
      · refine r_iload_n (pc := 47) hX 28 rfl rfl ?_
        refine r_iadd (pc := 48) hX 29 rfl ?_
        refine e_iald (y := (v 180 ((17 + (5 * l)) + c))) (pc := 49) hX 30 rfl (a_s hG).2.1 (a_s hG).2.2 (by omega) (by omega) ((up_r (by decide)).trans (rfl)) ?_
        have hb49 := hS.c17 l c (by omega) (by omega) (by omega) (by omega)
        exact r_iret (pc := 50) hX 31 hQ rfl rfl (Nat.le_refl 0) (Nat.le_refl 0) ⟨rfl, rfl, (Fr.rf).fld (k := 0) (by decide), (v 180 ((17 + (5 * l)) + c)), rfl, trivial⟩
      · refine r_iconst (pc := 43) hX 26 rfl ?_
        refine r_goto (pc := 44) hX 27 (tgt := 48) rfl (by decide) ?_
        refine r_iadd (pc := 48) hX 29 rfl ?_
        refine e_iald (y := (v 180 ((17 + (5 * l)) + 4))) (pc := 49) hX 30 rfl (a_s hG).2.1 (a_s hG).2.2 (by omega) (by omega) ((up_r (by decide)).trans (rfl)) ?_
        have hb49 := hS.c17 l 4 (by omega) (by omega) (by omega) (by omega)
        exact r_iret (pc := 50) hX 31 hQ rfl rfl (Nat.le_refl 0) (Nat.le_refl 0) ⟨rfl, rfl, (Fr.rf).fld (k := 0) (by decide), (v 180 ((17 + (5 * l)) + 4)), rfl, trivial⟩
    · refine r_aload_n (pc := 18) hX 10 rfl rfl ?_
      refine r_iload_n (pc := 19) hX 11 rfl rfl ?_
      refine r_callV (as := [(0, c)]) (st := []) (K := 12) (pc := 20) hX 12 rfl mo_m_isColour ml_X12_281 im_m_isColour se_m_isColour (c_isColour g (up v 178 0 0) ρ Z hG (c) (by rw [up_f (by decide)]; exact hS) (by omega)) rfl rfl rfl hG.1 (by rw [hRm]; exact ⟨by decide, by decide⟩) (by rw [hRm]; exact ⟨by decide, by decide⟩) (Nat.le_of_ble_eq_true rfl) (fun o20 v20 ρ20 Z20 hq20 _ => ?_)
      obtain ⟨rfl, rfl, rfl, r20, rfl, hq20⟩ := hq20
      try simp only [up_f (show (180 : Int) ≠ 178 by decide)] at hq20
      show wp g X F_m_land 0 0 23 [(2, 178), (0, l), (0, c)] [(0, r20)] (up v 178 0 0) ρ Z
      first | refine r_if_ne (pc := 23) hX 13 (tgt := 28) rfl (by decide) (⟨by omega, by omega⟩) (fun h23 => ?_) (fun h23 => ?_) | refine r_if_ne_any (pc := 23) hX 13 (tgt := 28) rfl (by decide) ?_ ?_
      · refine t_getR (pc := 28) hX 16 rfl rfl rfl fl_X12_33 rfl hG.1 (a_s hG).1 ?_
        refine r_bipush (pc := 32) hX 18 rfl (by decide) ?_
        refine r_iconst (pc := 34) hX 19 rfl ?_
        refine r_iload_n (pc := 35) hX 20 rfl rfl ?_
        refine r_imul (pc := 36) hX 21 rfl ?_
        refine r_iadd (pc := 37) hX 22 rfl ?_
        refine r_iload_n (pc := 38) hX 23 rfl rfl ?_
        refine r_iconst (pc := 39) hX 24 rfl ?_
        first | refine r_icmp_ne (pc := 40) hX 25 (tgt := 47) rfl (by decide) (⟨by omega, by omega⟩) (⟨by omega, by omega⟩) (fun h40 => ?_) (fun h40 => ?_) | refine r_icmp_ne_any (pc := 40) hX 25 (tgt := 47) rfl (by decide) ?_ ?_
        · refine r_iload_n (pc := 47) hX 28 rfl rfl ?_
          refine r_iadd (pc := 48) hX 29 rfl ?_
          refine e_iald (y := (v 180 ((17 + (5 * l)) + c))) (pc := 49) hX 30 rfl (a_s hG).2.1 (a_s hG).2.2 (by omega) (by omega) ((up_r (by decide)).trans (rfl)) ?_
          have hb49 := hS.c17 l c (by omega) (by omega) (by omega) (by omega)
          exact r_iret (pc := 50) hX 31 hQ rfl rfl (Nat.le_refl 0) (Nat.le_refl 0) ⟨rfl, rfl, (Fr.rf).fld (k := 0) (by decide), (v 180 ((17 + (5 * l)) + c)), rfl, trivial⟩
        · refine r_iconst (pc := 43) hX 26 rfl ?_
          refine r_goto (pc := 44) hX 27 (tgt := 48) rfl (by decide) ?_
          refine r_iadd (pc := 48) hX 29 rfl ?_
          refine e_iald (y := (v 180 ((17 + (5 * l)) + 4))) (pc := 49) hX 30 rfl (a_s hG).2.1 (a_s hG).2.2 (by omega) (by omega) ((up_r (by decide)).trans (rfl)) ?_
          have hb49 := hS.c17 l 4 (by omega) (by omega) (by omega) (by omega)
          exact r_iret (pc := 50) hX 31 hQ rfl rfl (Nat.le_refl 0) (Nat.le_refl 0) ⟨rfl, rfl, (Fr.rf).fld (k := 0) (by decide), (v 180 ((17 + (5 * l)) + 4)), rfl, trivial⟩
      · refine r_iconst (pc := 26) hX 14 rfl ?_
        exact r_iret (pc := 27) hX 15 hQ rfl rfl (Nat.le_refl 0) (Nat.le_refl 0) ⟨rfl, rfl, (Fr.rf).fld (k := 0) (by decide), (-1), rfl, trivial⟩
set_option maxHeartbeats 4000000 in
set_option maxRecDepth 100000 in
theorem c_player (g : Gp) (v ρ : Mv) (Z : Mz) (hG : GM ρ Z) (q what : Int) (hS : SInv (v 180)) (hl : inR q) (hw : inR what) : Ok g 3 0 0 F_m_player [(2, 178), (0, q), (0, what)] v ρ Z (fun o v' ρ' Z' => ρ = ρ' ∧ Z = Z' ∧ Fr [] [0] v v' ∧ ∃ r : Int, o = some (0, r) ∧ True) := by
  refine Ok.of mo_m_player (Nat.le_of_ble_eq_true rfl) ?_
  intro X hX hRm hxn hQ
  show wp g X F_m_player 0 0 0 [(2, 178), (0, q), (0, what)] [] v ρ Z
  have hb2 := hS.c2
  refine r_aload_n (pc := 0) hX 0 rfl rfl ?_
  refine r_aload_n (pc := 1) hX 1 rfl rfl ?_
  refine r_iload_n (pc := 2) hX 2 rfl rfl ?_
  refine r_callV (as := [(0, q)]) (st := [(2, 178)]) (K := 12) (pc := 3) hX 3 rfl mo_m_isPlayer ml_X12_294 im_m_isPlayer se_m_isPlayer (c_isPlayer g v ρ Z hG (q) (hS) (by omega)) rfl rfl rfl hG.1 (by rw [hRm]; exact ⟨by decide, by decide⟩) (by rw [hRm]; exact ⟨by decide, by decide⟩) (Nat.le_of_ble_eq_true rfl) (fun o3 v3 ρ3 Z3 hq3 _ => ?_)
  obtain ⟨rfl, rfl, rfl, r3, rfl, hq3⟩ := hq3
  show wp g X F_m_player 0 0 6 [(2, 178), (0, q), (0, what)] [(0, r3), (2, 178)] v ρ Z
  first | refine r_if_eq (pc := 6) hX 4 (tgt := 18) rfl (by decide) (⟨by omega, by omega⟩) (fun h6 => ?_) (fun h6 => ?_) | refine r_if_eq_any (pc := 6) hX 4 (tgt := 18) rfl (by decide) ?_ ?_
  · refine r_iconst (pc := 18) hX 10 rfl ?_
    refine r_goto (pc := 19) hX 11 (tgt := 23) rfl (by decide) ?_
    refine r_callV (as := [(0, 1)]) (st := []) (K := 12) (pc := 23) hX 13 rfl mo_m_throwsIf ml_X12_297 im_m_throwsIf se_m_throwsIf (c_throwsIf g v ρ Z hG (1) (by omega)) rfl rfl rfl hG.1 (by rw [hRm]; exact ⟨by decide, by decide⟩) (by rw [hRm]; exact ⟨by decide, by decide⟩) (Nat.le_of_ble_eq_true rfl) (fun o23 v23 ρ23 Z23 hq23 _ => ?_)
    obtain ⟨rfl, rfl, hfr23, r23, rfl, hq23⟩ := hq23
    have hSInv_23 : SInv (v23 180) := by rw [hfr23.1 180 (by decide) (by decide)]; exact hS
    obtain rfl : r23 = 1 := by omega
    show wp g X F_m_player 0 0 26 [(2, 178), (0, q), (0, what)] [(0, 1)] v23 ρ Z
    first | refine r_if_eq (pc := 26) hX 14 (tgt := 31) rfl (by decide) (⟨by omega, by omega⟩) (fun h26 => ?_) (fun h26 => ?_) | refine r_if_eq_any (pc := 26) hX 14 (tgt := 31) rfl (by decide) ?_ ?_
    · exact absurd h26 (by decide)
    · refine r_iconst (pc := 29) hX 15 rfl ?_
      exact r_iret (pc := 30) hX 16 hQ rfl rfl (Nat.le_refl 0) (Nat.le_refl 0) ⟨rfl, rfl, (Fr.rf).tr hfr23 (by decide) (by decide), 0, rfl, trivial⟩
  · refine r_iload_n (pc := 9) hX 5 rfl rfl ?_
    refine r_iconst (pc := 10) hX 6 rfl ?_
    refine r_iconst (pc := 11) hX 7 rfl ?_
    refine r_callS (as := [(0, what), (0, 0), (0, 3)]) (st := [(2, 178)]) (pc := 12) hX 8 rfl mo_m_isIn ml_X12_222 stt_m_isIn (c_isIn g v ρ Z hG (what) (0) (3) (by omega) (by omega) (by omega)) rfl (by rw [hRm]; exact ⟨by decide, by decide⟩) (by rw [hRm]; exact ⟨by decide, by decide⟩) (Nat.le_of_ble_eq_true rfl) (fun o12 v12 ρ12 Z12 hq12 _ => ?_)
    obtain ⟨rfl, rfl, rfl, r12, rfl, hq12⟩ := hq12
    show wp g X F_m_player 0 0 15 [(2, 178), (0, q), (0, what)] [(0, r12), (2, 178)] v ρ Z
    first | refine r_if_ne (pc := 15) hX 9 (tgt := 22) rfl (by decide) (⟨by omega, by omega⟩) (fun h15 => ?_) (fun h15 => ?_) | refine r_if_ne_any (pc := 15) hX 9 (tgt := 22) rfl (by decide) ?_ ?_
    · refine r_iconst (pc := 22) hX 12 rfl ?_
      refine r_callV (as := [(0, 0)]) (st := []) (K := 12) (pc := 23) hX 13 rfl mo_m_throwsIf ml_X12_297 im_m_throwsIf se_m_throwsIf (c_throwsIf g v ρ Z hG (0) (by omega)) rfl rfl rfl hG.1 (by rw [hRm]; exact ⟨by decide, by decide⟩) (by rw [hRm]; exact ⟨by decide, by decide⟩) (Nat.le_of_ble_eq_true rfl) (fun o23 v23 ρ23 Z23 hq23 _ => ?_)
      obtain ⟨rfl, rfl, hfr23, r23, rfl, hq23⟩ := hq23
      have hSInv_23 : SInv (v23 180) := by rw [hfr23.1 180 (by decide) (by decide)]; exact hS
      obtain rfl : r23 = 0 := by omega
      show wp g X F_m_player 0 0 26 [(2, 178), (0, q), (0, what)] [(0, 0)] v23 ρ Z
      first | refine r_if_eq (pc := 26) hX 14 (tgt := 31) rfl (by decide) (⟨by omega, by omega⟩) (fun h26 => ?_) (fun h26 => ?_) | refine r_if_eq_any (pc := 26) hX 14 (tgt := 31) rfl (by decide) ?_ ?_
      · refine r_iload_n (pc := 31) hX 17 rfl rfl ?_
        first | refine r_if_ne (pc := 32) hX 18 (tgt := 47) rfl (by decide) (⟨by omega, by omega⟩) (fun h32 => ?_) (fun h32 => ?_) | refine r_if_ne_any (pc := 32) hX 18 (tgt := 47) rfl (by decide) ?_ ?_
        · refine r_iload_n (pc := 47) hX 26 rfl rfl ?_
          refine r_iconst (pc := 48) hX 27 rfl ?_
          first | refine r_icmp_ne (pc := 49) hX 28 (tgt := 64) rfl (by decide) (⟨by omega, by omega⟩) (⟨by omega, by omega⟩) (fun h49 => ?_) (fun h49 => ?_) | refine r_icmp_ne_any (pc := 49) hX 28 (tgt := 64) rfl (by decide) ?_ ?_
          · refine r_iload_n (pc := 64) hX 36 rfl rfl ?_
            refine r_iconst (pc := 65) hX 37 rfl ?_
            first | refine r_icmp_ne (pc := 66) hX 38 (tgt := 83) rfl (by decide) (⟨by omega, by omega⟩) (⟨by omega, by omega⟩) (fun h66 => ?_) (fun h66 => ?_) | refine r_icmp_ne_any (pc := 66) hX 38 (tgt := 83) rfl (by decide) ?_ ?_
            · refine t_getR (pc := 83) hX 48 rfl rfl rfl fl_X12_33 rfl hG.1 (a_s hG).1 ?_
              refine r_bipush (pc := 87) hX 50 rfl (by decide) ?_
              refine r_iload_n (pc := 89) hX 51 rfl rfl ?_
              refine r_iadd (pc := 90) hX 52 rfl ?_
              refine e_iald (y := (v23 180 (39 + q))) (pc := 91) hX 53 rfl (a_s hG).2.1 (a_s hG).2.2 (by omega) (by omega) (rfl) ?_
              have hb91 := hSInv_23.c39 q (by omega) (by omega)
              exact r_iret (pc := 92) hX 54 hQ rfl rfl (Nat.le_refl 0) (Nat.le_refl 0) ⟨rfl, rfl, (Fr.rf).tr hfr23 (by decide) (by decide), (v23 180 (39 + q)), rfl, trivial⟩
            · refine t_getR (pc := 69) hX 39 rfl rfl rfl fl_X12_33 rfl hG.1 (a_s hG).1 ?_
              refine r_bipush (pc := 73) hX 41 rfl (by decide) ?_
              refine r_iload_n (pc := 75) hX 42 rfl rfl ?_
              refine r_iadd (pc := 76) hX 43 rfl ?_
              refine e_iald (y := (v23 180 (36 + q))) (pc := 77) hX 44 rfl (a_s hG).2.1 (a_s hG).2.2 (by omega) (by omega) (rfl) ?_
              have hb77 := hSInv_23.c36 q (by omega) (by omega)
              refine r_iconst (pc := 78) hX 45 rfl ?_
              refine r_isub (pc := 79) hX 46 rfl ?_
              refine r_goto (pc := 80) hX 47 (tgt := 92) rfl (by decide) ?_
              exact r_iret (pc := 92) hX 54 hQ rfl rfl (Nat.le_refl 0) (Nat.le_refl 0) ⟨rfl, rfl, (Fr.rf).tr hfr23 (by decide) (by decide), ((v23 180 (36 + q)) - 1), rfl, trivial⟩
          · refine t_getR (pc := 52) hX 29 rfl rfl rfl fl_X12_33 rfl hG.1 (a_s hG).1 ?_
            refine r_bipush (pc := 56) hX 31 rfl (by decide) ?_
            refine r_iload_n (pc := 58) hX 32 rfl rfl ?_
            refine r_iadd (pc := 59) hX 33 rfl ?_
            refine e_iald (y := (v23 180 (32 + q))) (pc := 60) hX 34 rfl (a_s hG).2.1 (a_s hG).2.2 (by omega) (by omega) (rfl) ?_
            have hb60 := hSInv_23.c32 q (by omega) (by omega)
            refine r_goto (pc := 61) hX 35 (tgt := 92) rfl (by decide) ?_
            exact r_iret (pc := 92) hX 54 hQ rfl rfl (Nat.le_refl 0) (Nat.le_refl 0) ⟨rfl, rfl, (Fr.rf).tr hfr23 (by decide) (by decide), (v23 180 (32 + q)), rfl, trivial⟩
        · refine t_getR (pc := 35) hX 19 rfl rfl rfl fl_X12_33 rfl hG.1 (a_s hG).1 ?_
          refine r_bipush (pc := 39) hX 21 rfl (by decide) ?_
          refine r_iload_n (pc := 41) hX 22 rfl rfl ?_
          refine r_iadd (pc := 42) hX 23 rfl ?_
          refine e_iald (y := (v23 180 (42 + q))) (pc := 43) hX 24 rfl (a_s hG).2.1 (a_s hG).2.2 (by omega) (by omega) (rfl) ?_
          have hb43 := hSInv_23.c42 q (by omega) (by omega)
          refine r_goto (pc := 44) hX 25 (tgt := 92) rfl (by decide) ?_
          exact r_iret (pc := 92) hX 54 hQ rfl rfl (Nat.le_refl 0) (Nat.le_refl 0) ⟨rfl, rfl, (Fr.rf).tr hfr23 (by decide) (by decide), (v23 180 (42 + q)), rfl, trivial⟩
      · exact absurd (by decide) h26
    · refine r_iconst (pc := 18) hX 10 rfl ?_
      refine r_goto (pc := 19) hX 11 (tgt := 23) rfl (by decide) ?_
      refine r_callV (as := [(0, 1)]) (st := []) (K := 12) (pc := 23) hX 13 rfl mo_m_throwsIf ml_X12_297 im_m_throwsIf se_m_throwsIf (c_throwsIf g v ρ Z hG (1) (by omega)) rfl rfl rfl hG.1 (by rw [hRm]; exact ⟨by decide, by decide⟩) (by rw [hRm]; exact ⟨by decide, by decide⟩) (Nat.le_of_ble_eq_true rfl) (fun o23 v23 ρ23 Z23 hq23 _ => ?_)
      obtain ⟨rfl, rfl, hfr23, r23, rfl, hq23⟩ := hq23
      have hSInv_23 : SInv (v23 180) := by rw [hfr23.1 180 (by decide) (by decide)]; exact hS
      obtain rfl : r23 = 1 := by omega
      show wp g X F_m_player 0 0 26 [(2, 178), (0, q), (0, what)] [(0, 1)] v23 ρ Z
      first | refine r_if_eq (pc := 26) hX 14 (tgt := 31) rfl (by decide) (⟨by omega, by omega⟩) (fun h26 => ?_) (fun h26 => ?_) | refine r_if_eq_any (pc := 26) hX 14 (tgt := 31) rfl (by decide) ?_ ?_
      · exact absurd h26 (by decide)
      · refine r_iconst (pc := 29) hX 15 rfl ?_
        exact r_iret (pc := 30) hX 16 hQ rfl rfl (Nat.le_refl 0) (Nat.le_refl 0) ⟨rfl, rfl, (Fr.rf).tr hfr23 (by decide) (by decide), 0, rfl, trivial⟩
set_option maxHeartbeats 4000000 in
set_option maxRecDepth 100000 in
theorem c_whyTake (g : Gp) (v ρ : Mv) (Z : Mz) (hG : GM ρ Z) (q c : Int) (hS : SInv (v 180)) (hq : 0 ≤ q ∧ q ≤ 2) : Ok g 4 0 0 F_m_whyTake [(2, 178), (0, q), (0, c)] v ρ Z (fun o v' ρ' Z' => ρ = ρ' ∧ Z = Z' ∧ Fr [185, 186] [] v v' ∧ ∃ r : Int, o = some (0, r) ∧ (0 ≤ r ∧ r ≤ 3)) := by
  refine Ok.of mo_m_whyTake (Nat.le_of_ble_eq_true rfl) ?_
  intro X hX hRm hxn hQ
  show wp g X F_m_whyTake 0 0 0 [(2, 178), (0, q), (0, c)] [] v ρ Z
  refine r_aload_n (pc := 0) hX 0 rfl rfl ?_
  refine r_callV (as := []) (st := []) (K := 12) (pc := 1) hX 1 rfl mo_m_isOver ml_X12_310 im_m_isOver se_m_isOver (c_isOver g v ρ Z hG  (hS)) rfl rfl rfl hG.1 (by rw [hRm]; exact ⟨by decide, by decide⟩) (by rw [hRm]; exact ⟨by decide, by decide⟩) (Nat.le_of_ble_eq_true rfl) (fun o1 v1 ρ1 Z1 hq1 _ => ?_)
  obtain ⟨rfl, rfl, hfr1, r1, rfl, hq1⟩ := hq1
  have hSInv_1 : SInv (v1 180) := by rw [hfr1.1 180 (by decide) (by decide)]; exact hS
  show wp g X F_m_whyTake 0 0 4 [(2, 178), (0, q), (0, c)] [(0, r1)] v1 ρ Z
  first | refine r_if_eq (pc := 4) hX 2 (tgt := 11) rfl (by decide) (⟨by omega, by omega⟩) (fun h4 => ?_) (fun h4 => ?_) | refine r_if_eq_any (pc := 4) hX 2 (tgt := 11) rfl (by decide) ?_ ?_
  · refine t_getR (pc := 11) hX 5 rfl rfl rfl fl_X12_33 rfl hG.1 (a_s hG).1 ?_
    refine r_bipush (pc := 15) hX 7 rfl (by decide) ?_
    refine r_iload_n (pc := 17) hX 8 rfl rfl ?_
    refine r_iadd (pc := 18) hX 9 rfl ?_
    refine e_iald (y := (v1 180 (36 + q))) (pc := 19) hX 10 rfl (a_s hG).2.1 (a_s hG).2.2 (by omega) (by omega) (rfl) ?_
    have hb19 := hSInv_1.c36 q (by omega) (by omega)
    first | refine r_if_le (pc := 20) hX 11 (tgt := 27) rfl (by decide) (⟨by omega, by omega⟩) (fun h20 => ?_) (fun h20 => ?_) | refine r_if_le_any (pc := 20) hX 11 (tgt := 27) rfl (by decide) ?_ ?_
    · refine r_aload_n (pc := 27) hX 14 rfl rfl ?_
      refine r_iload_n (pc := 28) hX 15 rfl rfl ?_
      refine r_callV (as := [(0, c)]) (st := []) (K := 12) (pc := 29) hX 16 rfl mo_m_ownerOf ml_X12_284 im_m_ownerOf se_m_ownerOf (c_ownerOf g v1 ρ Z hG (c) (hSInv_1)) rfl rfl rfl hG.1 (by rw [hRm]; exact ⟨by decide, by decide⟩) (by rw [hRm]; exact ⟨by decide, by decide⟩) (Nat.le_of_ble_eq_true rfl) (fun o29 v29 ρ29 Z29 hq29 _ => ?_)
      obtain ⟨rfl, rfl, rfl, r29, rfl, hq29⟩ := hq29
      show wp g X F_m_whyTake 0 0 32 [(2, 178), (0, q), (0, c)] [(0, r29)] v1 ρ Z
      first | refine r_if_lt (pc := 32) hX 17 (tgt := 39) rfl (by decide) (⟨by omega, by omega⟩) (fun h32 => ?_) (fun h32 => ?_) | refine r_if_lt_any (pc := 32) hX 17 (tgt := 39) rfl (by decide) ?_ ?_
      · refine r_iconst (pc := 39) hX 20 rfl ?_
        exact r_iret (pc := 40) hX 21 hQ rfl rfl (Nat.le_refl 0) (Nat.le_refl 0) ⟨rfl, rfl, (Fr.rf).tr hfr1 (by decide) (by decide), 0, rfl, (by omega)⟩
      · refine r_iconst (pc := 35) hX 18 rfl ?_
        refine r_goto (pc := 36) hX 19 (tgt := 40) rfl (by decide) ?_
        exact r_iret (pc := 40) hX 21 hQ rfl rfl (Nat.le_refl 0) (Nat.le_refl 0) ⟨rfl, rfl, (Fr.rf).tr hfr1 (by decide) (by decide), 3, rfl, (by omega)⟩
    · refine r_iconst (pc := 23) hX 12 rfl ?_
      refine r_goto (pc := 24) hX 13 (tgt := 40) rfl (by decide) ?_
      exact r_iret (pc := 40) hX 21 hQ rfl rfl (Nat.le_refl 0) (Nat.le_refl 0) ⟨rfl, rfl, (Fr.rf).tr hfr1 (by decide) (by decide), 2, rfl, (by omega)⟩
  · refine r_iconst (pc := 7) hX 3 rfl ?_
    refine r_goto (pc := 8) hX 4 (tgt := 40) rfl (by decide) ?_
    exact r_iret (pc := 40) hX 21 hQ rfl rfl (Nat.le_refl 0) (Nat.le_refl 0) ⟨rfl, rfl, (Fr.rf).tr hfr1 (by decide) (by decide), 1, rfl, (by omega)⟩
set_option maxHeartbeats 4000000 in
set_option maxRecDepth 100000 in
theorem c_whyTurn (g : Gp) (v ρ : Mv) (Z : Mz) (hG : GM ρ Z) (q c : Int) (hS : SInv (v 180)) (hq : 0 ≤ q ∧ q ≤ 2) : Ok g 4 0 0 F_m_whyTurn [(2, 178), (0, q), (0, c)] v ρ Z (fun o v' ρ' Z' => ρ = ρ' ∧ Z = Z' ∧ Fr [185, 186] [] v v' ∧ ∃ r : Int, o = some (0, r) ∧ (0 ≤ r ∧ r ≤ 4)) := by
  refine Ok.of mo_m_whyTurn (Nat.le_of_ble_eq_true rfl) ?_
  intro X hX hRm hxn hQ
  show wp g X F_m_whyTurn 0 0 0 [(2, 178), (0, q), (0, c)] [] v ρ Z
  refine r_aload_n (pc := 0) hX 0 rfl rfl ?_
  refine r_callV (as := []) (st := []) (K := 12) (pc := 1) hX 1 rfl mo_m_isOver ml_X12_310 im_m_isOver se_m_isOver (c_isOver g v ρ Z hG  (hS)) rfl rfl rfl hG.1 (by rw [hRm]; exact ⟨by decide, by decide⟩) (by rw [hRm]; exact ⟨by decide, by decide⟩) (Nat.le_of_ble_eq_true rfl) (fun o1 v1 ρ1 Z1 hq1 _ => ?_)
  obtain ⟨rfl, rfl, hfr1, r1, rfl, hq1⟩ := hq1
  have hSInv_1 : SInv (v1 180) := by rw [hfr1.1 180 (by decide) (by decide)]; exact hS
  show wp g X F_m_whyTurn 0 0 4 [(2, 178), (0, q), (0, c)] [(0, r1)] v1 ρ Z
  first | refine r_if_eq (pc := 4) hX 2 (tgt := 11) rfl (by decide) (⟨by omega, by omega⟩) (fun h4 => ?_) (fun h4 => ?_) | refine r_if_eq_any (pc := 4) hX 2 (tgt := 11) rfl (by decide) ?_ ?_
  · refine t_getR (pc := 11) hX 5 rfl rfl rfl fl_X12_33 rfl hG.1 (a_s hG).1 ?_
    refine r_iconst (pc := 15) hX 7 rfl ?_
    refine e_iald (y := (v1 180 5)) (pc := 16) hX 8 rfl (a_s hG).2.1 (a_s hG).2.2 (by omega) (by omega) (rfl) ?_
    have hb16 := hSInv_1.c5
    first | refine r_if_ne (pc := 17) hX 9 (tgt := 24) rfl (by decide) (⟨by omega, by omega⟩) (fun h17 => ?_) (fun h17 => ?_) | refine r_if_ne_any (pc := 17) hX 9 (tgt := 24) rfl (by decide) ?_ ?_
    · refine t_getR (pc := 24) hX 12 rfl rfl rfl fl_X12_33 rfl hG.1 (a_s hG).1 ?_
      refine r_bipush (pc := 28) hX 14 rfl (by decide) ?_
      refine r_iload_n (pc := 30) hX 15 rfl rfl ?_
      refine r_iadd (pc := 31) hX 16 rfl ?_
      refine e_iald (y := (v1 180 (36 + q))) (pc := 32) hX 17 rfl (a_s hG).2.1 (a_s hG).2.2 (by omega) (by omega) (rfl) ?_
      have hb32 := hSInv_1.c36 q (by omega) (by omega)
      first | refine r_if_eq (pc := 33) hX 18 (tgt := 49) rfl (by decide) (⟨by omega, by omega⟩) (fun h33 => ?_) (fun h33 => ?_) | refine r_if_eq_any (pc := 33) hX 18 (tgt := 49) rfl (by decide) ?_ ?_
      · refine r_iconst (pc := 49) hX 27 rfl ?_
        refine r_goto (pc := 50) hX 28 (tgt := 66) rfl (by decide) ?_
        exact r_iret (pc := 66) hX 36 hQ rfl rfl (Nat.le_refl 0) (Nat.le_refl 0) ⟨rfl, rfl, (Fr.rf).tr hfr1 (by decide) (by decide), 3, rfl, (by omega)⟩
      · refine t_getR (pc := 36) hX 19 rfl rfl rfl fl_X12_33 rfl hG.1 (a_s hG).1 ?_
        refine r_bipush (pc := 40) hX 21 rfl (by decide) ?_
        refine r_iload_n (pc := 42) hX 22 rfl rfl ?_
        refine r_iadd (pc := 43) hX 23 rfl ?_
        refine e_iald (y := (v1 180 (39 + q))) (pc := 44) hX 24 rfl (a_s hG).2.1 (a_s hG).2.2 (by omega) (by omega) (rfl) ?_
        have hb44 := hSInv_1.c39 q (by omega) (by omega)
        refine r_iconst (pc := 45) hX 25 rfl ?_
        first | refine r_icmp_ne (pc := 46) hX 26 (tgt := 53) rfl (by decide) (⟨by omega, by omega⟩) (⟨by omega, by omega⟩) (fun h46 => ?_) (fun h46 => ?_) | refine r_icmp_ne_any (pc := 46) hX 26 (tgt := 53) rfl (by decide) ?_ ?_
        · refine r_aload_n (pc := 53) hX 29 rfl rfl ?_
          refine r_iload_n (pc := 54) hX 30 rfl rfl ?_
          refine r_callV (as := [(0, c)]) (st := []) (K := 12) (pc := 55) hX 31 rfl mo_m_ownerOf ml_X12_284 im_m_ownerOf se_m_ownerOf (c_ownerOf g v1 ρ Z hG (c) (hSInv_1)) rfl rfl rfl hG.1 (by rw [hRm]; exact ⟨by decide, by decide⟩) (by rw [hRm]; exact ⟨by decide, by decide⟩) (Nat.le_of_ble_eq_true rfl) (fun o55 v55 ρ55 Z55 hq55 _ => ?_)
          obtain ⟨rfl, rfl, rfl, r55, rfl, hq55⟩ := hq55
          show wp g X F_m_whyTurn 0 0 58 [(2, 178), (0, q), (0, c)] [(0, r55)] v1 ρ Z
          first | refine r_if_lt (pc := 58) hX 32 (tgt := 65) rfl (by decide) (⟨by omega, by omega⟩) (fun h58 => ?_) (fun h58 => ?_) | refine r_if_lt_any (pc := 58) hX 32 (tgt := 65) rfl (by decide) ?_ ?_
          · refine r_iconst (pc := 65) hX 35 rfl ?_
            exact r_iret (pc := 66) hX 36 hQ rfl rfl (Nat.le_refl 0) (Nat.le_refl 0) ⟨rfl, rfl, (Fr.rf).tr hfr1 (by decide) (by decide), 0, rfl, (by omega)⟩
          · refine r_iconst (pc := 61) hX 33 rfl ?_
            refine r_goto (pc := 62) hX 34 (tgt := 66) rfl (by decide) ?_
            exact r_iret (pc := 66) hX 36 hQ rfl rfl (Nat.le_refl 0) (Nat.le_refl 0) ⟨rfl, rfl, (Fr.rf).tr hfr1 (by decide) (by decide), 4, rfl, (by omega)⟩
        · refine r_iconst (pc := 49) hX 27 rfl ?_
          refine r_goto (pc := 50) hX 28 (tgt := 66) rfl (by decide) ?_
          exact r_iret (pc := 66) hX 36 hQ rfl rfl (Nat.le_refl 0) (Nat.le_refl 0) ⟨rfl, rfl, (Fr.rf).tr hfr1 (by decide) (by decide), 3, rfl, (by omega)⟩
    · refine r_iconst (pc := 20) hX 10 rfl ?_
      refine r_goto (pc := 21) hX 11 (tgt := 66) rfl (by decide) ?_
      exact r_iret (pc := 66) hX 36 hQ rfl rfl (Nat.le_refl 0) (Nat.le_refl 0) ⟨rfl, rfl, (Fr.rf).tr hfr1 (by decide) (by decide), 2, rfl, (by omega)⟩
  · refine r_iconst (pc := 7) hX 3 rfl ?_
    refine r_goto (pc := 8) hX 4 (tgt := 66) rfl (by decide) ?_
    exact r_iret (pc := 66) hX 36 hQ rfl rfl (Nat.le_refl 0) (Nat.le_refl 0) ⟨rfl, rfl, (Fr.rf).tr hfr1 (by decide) (by decide), 1, rfl, (by omega)⟩
