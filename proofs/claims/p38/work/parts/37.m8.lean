set_option maxHeartbeats 4000000 in
set_option maxRecDepth 100000 in
theorem c_ownerOfX (g : Gp) (v ρ : Mv) (Z : Mz) (hG : GM ρ Z) (c : Int) (hS : SInv (v 180)) (hcr : 0 ≤ c ∧ c ≤ 100) : Ok g 1 0 0 F_m_ownerOf [(2, 178), (0, c)] v ρ Z (fun o v' ρ' Z' => ρ = ρ' ∧ Z = Z' ∧ v = v' ∧ ∃ r : Int, o = some (0, r) ∧ (-1 ≤ r ∧ r < v 180 2 ∧ r ≤ 2) ∧ ((r < 0 → ∀ q, 0 ≤ q → q < v 180 2 → v 180 (36 + q) ≠ c + 1))) := by
  refine Ok.of mo_m_ownerOf (Nat.le_of_ble_eq_true rfl) ?_
  intro X hX hRm hxn hQ
  show wp g X F_m_ownerOf 0 0 0 [(2, 178), (0, c), (3, 0)] [] v ρ Z
  have hb2 := hS.c2
  refine r_iconst (pc := 0) hX 0 rfl ?_
  refine r_istore_n (ls' := [(2, 178), (0, c), (0, 0)]) (pc := 1) hX 1 rfl (by decide) rfl ?_
  have L2 : ∀ (n2 : Nat) (q : Int) , (0 ≤ q ∧ q ≤ v 180 2) → (∀ j, 0 ≤ j → j < q → v 180 (36 + j) ≠ c + 1) → (v 180 2 - q).toNat < n2 → wp g X F_m_ownerOf 0 0 2 [(2, 178), (0, c), (0, q)] [] v ρ Z := by
    intro n2
    induction n2 with
    | zero => intro q iq ia hme2; exact absurd hme2 (Nat.not_lt_zero _)
    | succ n2 ih2 =>
      intro q iq ia hme2
      have hq2 := hS.c2
      refine r_iload_n (pc := 2) hX 2 rfl rfl ?_
      refine t_getR (pc := 3) hX 3 rfl rfl rfl fl_X12_33 rfl hG.1 (a_s hG).1 ?_
      refine r_iconst (pc := 7) hX 5 rfl ?_
      refine e_iald (y := (v 180 2)) (pc := 8) hX 6 rfl (a_s hG).2.1 (a_s hG).2.2 (by omega) (by omega) (rfl) ?_
      have hb8 := hS.c2
      first | refine r_icmp_ge (pc := 9) hX 7 (tgt := 35) rfl (by decide) (⟨by omega, by omega⟩) (⟨by omega, by omega⟩) (fun h9 => ?_) (fun h9 => ?_) | refine r_icmp_ge_any (pc := 9) hX 7 (tgt := 35) rfl (by decide) ?_ ?_
      · refine r_iconst (pc := 35) hX 22 rfl ?_
        exact r_iret (pc := 36) hX 23 hQ rfl rfl (Nat.le_refl 0) (Nat.le_refl 0) ⟨rfl, rfl, rfl, (-1), rfl, (by omega), (fun _ j h0 h1 => ia j h0 (by omega))⟩
      · refine t_getR (pc := 12) hX 8 rfl rfl rfl fl_X12_33 rfl hG.1 (a_s hG).1 ?_
        refine r_bipush (pc := 16) hX 10 rfl (by decide) ?_
        refine r_iload_n (pc := 18) hX 11 rfl rfl ?_
        refine r_iadd (pc := 19) hX 12 rfl ?_
        refine e_iald (y := (v 180 (36 + q))) (pc := 20) hX 13 rfl (a_s hG).2.1 (a_s hG).2.2 (by omega) (by omega) (rfl) ?_
        have hb20 := hS.c36 q (by omega) (by omega)
        refine r_iload_n (pc := 21) hX 14 rfl rfl ?_
        refine r_iconst (pc := 22) hX 15 rfl ?_
        refine r_iadd (pc := 23) hX 16 rfl ?_
        first | refine r_icmp_ne (pc := 24) hX 17 (tgt := 29) rfl (by decide) (⟨by omega, by omega⟩) (⟨by omega, by omega⟩) (fun h24 => ?_) (fun h24 => ?_) | refine r_icmp_ne_any (pc := 24) hX 17 (tgt := 29) rfl (by decide) ?_ ?_
        · refine r_iinc (ls' := [(2, 178), (0, c), (0, (q + 1))]) (pc := 29) hX 20 rfl rfl (by decide) rfl ?_
          refine r_goto (pc := 32) hX 21 (tgt := 2) rfl (by decide) ?_
          exact (ih2 (q + 1) (by omega) (fun j h0 h1 => by
          by_cases e : j = q
          · subst e; omega
          · exact ia j h0 (by omega)) (by omega))
        · refine r_iload_n (pc := 27) hX 18 rfl rfl ?_
          exact r_iret (pc := 28) hX 19 hQ rfl rfl (Nat.le_refl 0) (Nat.le_refl 0) ⟨rfl, rfl, rfl, q, rfl, (by omega), (fun h => by omega)⟩
  exact (L2 _ 0 (by omega) (fun j h0 h1 => by omega) (Nat.lt_succ_self _))
set_option maxHeartbeats 4000000 in
set_option maxRecDepth 100000 in
theorem c_mayTurn (g : Gp) (v ρ : Mv) (Z : Mz) (hG : GM ρ Z) (q : Int) (hS : SInv (v 180)) (hq : 0 ≤ q ∧ q < v 180 2) : Ok g 4 0 0 F_m_mayTurn [(2, 178), (0, q)] v ρ Z (fun o v' ρ' Z' => ρ = ρ' ∧ Z = Z' ∧ Fr [185, 186] [] v v' ∧ ∃ r : Int, o = some (0, r) ∧ (r = 0 ∨ r = 1 ∧ 1 ≤ v 180 (36 + q))) := by
  refine Ok.of mo_m_mayTurn (Nat.le_of_ble_eq_true rfl) ?_
  intro X hX hRm hxn hQ
  show wp g X F_m_mayTurn 0 0 0 [(2, 178), (0, q)] [] v ρ Z
  have hb2 := hS.c2
  refine t_getR (pc := 0) hX 0 rfl rfl rfl fl_X12_33 rfl hG.1 (a_s hG).1 ?_
  refine r_iconst (pc := 4) hX 2 rfl ?_
  refine e_iald (y := (v 180 5)) (pc := 5) hX 3 rfl (a_s hG).2.1 (a_s hG).2.2 (by omega) (by omega) (rfl) ?_
  have hb5 := hS.c5
  refine r_iconst (pc := 6) hX 4 rfl ?_
  first | refine r_icmp_ne (pc := 7) hX 5 (tgt := 45) rfl (by decide) (⟨by omega, by omega⟩) (⟨by omega, by omega⟩) (fun h7 => ?_) (fun h7 => ?_) | refine r_icmp_ne_any (pc := 7) hX 5 (tgt := 45) rfl (by decide) ?_ ?_
  · refine r_iconst (pc := 45) hX 25 rfl ?_
    exact r_zret (pc := 46) hX 26 hQ rfl rfl ⟨by omega, by omega⟩ (Nat.le_refl 0) (Nat.le_refl 0) ⟨rfl, rfl, Fr.rf, 0, rfl, (by omega)⟩
  · refine t_getR (pc := 10) hX 6 rfl rfl rfl fl_X12_33 rfl hG.1 (a_s hG).1 ?_
    refine r_bipush (pc := 14) hX 8 rfl (by decide) ?_
    refine r_iload_n (pc := 16) hX 9 rfl rfl ?_
    refine r_iadd (pc := 17) hX 10 rfl ?_
    refine e_iald (y := (v 180 (36 + q))) (pc := 18) hX 11 rfl (a_s hG).2.1 (a_s hG).2.2 (by omega) (by omega) (rfl) ?_
    have hb18 := hS.c36 q (by omega) (by omega)
    first | refine r_if_le (pc := 19) hX 12 (tgt := 45) rfl (by decide) (⟨by omega, by omega⟩) (fun h19 => ?_) (fun h19 => ?_) | refine r_if_le_any (pc := 19) hX 12 (tgt := 45) rfl (by decide) ?_ ?_
    · refine r_iconst (pc := 45) hX 25 rfl ?_
      exact r_zret (pc := 46) hX 26 hQ rfl rfl ⟨by omega, by omega⟩ (Nat.le_refl 0) (Nat.le_refl 0) ⟨rfl, rfl, Fr.rf, 0, rfl, (by omega)⟩
    · refine t_getR (pc := 22) hX 13 rfl rfl rfl fl_X12_33 rfl hG.1 (a_s hG).1 ?_
      refine r_bipush (pc := 26) hX 15 rfl (by decide) ?_
      refine r_iload_n (pc := 28) hX 16 rfl rfl ?_
      refine r_iadd (pc := 29) hX 17 rfl ?_
      refine e_iald (y := (v 180 (39 + q))) (pc := 30) hX 18 rfl (a_s hG).2.1 (a_s hG).2.2 (by omega) (by omega) (rfl) ?_
      have hb30 := hS.c39 q (by omega) (by omega)
      first | refine r_if_ne (pc := 31) hX 19 (tgt := 45) rfl (by decide) (⟨by omega, by omega⟩) (fun h31 => ?_) (fun h31 => ?_) | refine r_if_ne_any (pc := 31) hX 19 (tgt := 45) rfl (by decide) ?_ ?_
      · refine r_iconst (pc := 45) hX 25 rfl ?_
        exact r_zret (pc := 46) hX 26 hQ rfl rfl ⟨by omega, by omega⟩ (Nat.le_refl 0) (Nat.le_refl 0) ⟨rfl, rfl, Fr.rf, 0, rfl, (by omega)⟩
      · refine r_aload_n (pc := 34) hX 20 rfl rfl ?_
        refine r_callV (as := []) (st := []) (K := 12) (pc := 35) hX 21 rfl mo_m_isOver ml_X12_310 im_m_isOver se_m_isOver (c_isOver g v ρ Z hG  (hS)) rfl rfl rfl hG.1 (by rw [hRm]; exact ⟨by decide, by decide⟩) (by rw [hRm]; exact ⟨by decide, by decide⟩) (Nat.le_of_ble_eq_true rfl) (fun o35 v35 ρ35 Z35 hq35 _ => ?_)
        obtain ⟨rfl, rfl, hfr35, r35, rfl, hq35⟩ := hq35
        have hSInv_35 : SInv (v35 180) := by rw [hfr35.1 180 (by decide) (by decide)]; exact hS
        show wp g X F_m_mayTurn 0 0 38 [(2, 178), (0, q)] [(0, r35)] v35 ρ Z
        first | refine r_if_ne (pc := 38) hX 22 (tgt := 45) rfl (by decide) (⟨by omega, by omega⟩) (fun h38 => ?_) (fun h38 => ?_) | refine r_if_ne_any (pc := 38) hX 22 (tgt := 45) rfl (by decide) ?_ ?_
        · refine r_iconst (pc := 45) hX 25 rfl ?_
          exact r_zret (pc := 46) hX 26 hQ rfl rfl ⟨by omega, by omega⟩ (Nat.le_refl 0) (Nat.le_refl 0) ⟨rfl, rfl, (Fr.rf).tr hfr35 (by decide) (by decide), 0, rfl, (by omega)⟩
        · refine r_iconst (pc := 41) hX 23 rfl ?_
          refine r_goto (pc := 42) hX 24 (tgt := 46) rfl (by decide) ?_
          exact r_zret (pc := 46) hX 26 hQ rfl rfl ⟨by omega, by omega⟩ (Nat.le_refl 0) (Nat.le_refl 0) ⟨rfl, rfl, (Fr.rf).tr hfr35 (by decide) (by decide), 1, rfl, (by omega)⟩
set_option maxHeartbeats 4000000 in
set_option maxRecDepth 100000 in
theorem c_weightOf (g : Gp) (v ρ : Mv) (Z : Mz) (hG : GM ρ Z) (l : Int) (hs : ∀ k, 0 ≤ k → k ≤ 4 → 0 ≤ v 202 k ∧ v 202 k ≤ 12) (hl : 0 ≤ l ∧ l ≤ 2) : Ok g 1 0 0 F_m_weightOf [(2, 178), (0, l)] v ρ Z (fun o v' ρ' Z' => ρ = ρ' ∧ Z = Z' ∧ v = v' ∧ ∃ r : Int, o = some (1, r) ∧ True) := by
  refine Ok.of mo_m_weightOf (Nat.le_of_ble_eq_true rfl) ?_
  intro X hX hRm hxn hQ
  show wp g X F_m_weightOf 0 0 0 [(2, 178), (0, l), (3, 0), (3, 0), (3, 0)] [] v ρ Z
  refine t_getR (pc := 0) hX 0 rfl rfl rfl fl_X12_62 rfl hG.1 (a_weight hG).1 ?_
  refine r_iload_n (pc := 4) hX 2 rfl rfl ?_
  refine e_lald (y := (v 189 l)) (pc := 5) hX 3 rfl (a_weight hG).2.1 (a_weight hG).2.2 (by omega) (by omega) (rfl) ?_
  refine r_lstore_n (ls' := [(2, 178), (0, l), (1, (v 189 l)), (3, 0), (3, 0)]) (pc := 6) hX 4 rfl (by decide) rfl ?_
  refine r_iconst (pc := 7) hX 5 rfl ?_
  refine r_istore (ls' := [(2, 178), (0, l), (1, (v 189 l)), (3, 0), (0, 0)]) (pc := 8) hX 6 rfl (by decide) rfl ?_
  have L10 : ∀ (n10 : Nat) (x i : Int) , (0 ≤ i ∧ i ≤ 5) → (5 - i).toNat < n10 → wp g X F_m_weightOf 0 0 10 [(2, 178), (0, l), (1, x), (3, 0), (0, i)] [] v ρ Z := by
    intro n10
    induction n10 with
    | zero => intro x i ii hme10; exact absurd hme10 (Nat.not_lt_zero _)
    | succ n10 ih10 =>
      intro x i ii hme10
      refine r_iload (pc := 10) hX 7 rfl rfl ?_
      refine r_iconst (pc := 12) hX 8 rfl ?_
      first | refine r_icmp_ge (pc := 13) hX 9 (tgt := 47) rfl (by decide) (⟨by omega, by omega⟩) (⟨by omega, by omega⟩) (fun h13 => ?_) (fun h13 => ?_) | refine r_icmp_ge_any (pc := 13) hX 9 (tgt := 47) rfl (by decide) ?_ ?_
      · refine r_lload_n (pc := 47) hX 30 rfl rfl ?_
        exact r_lret (pc := 48) hX 31 hQ rfl rfl (Nat.le_refl 0) (Nat.le_refl 0) ⟨rfl, rfl, rfl, x, rfl, trivial⟩
      · refine r_lload_n (pc := 16) hX 10 rfl rfl ?_
        refine t_getR (pc := 17) hX 11 rfl rfl rfl fl_X12_96 rfl hG.1 (a_powers hG).1 ?_
        refine r_iconst (pc := 21) hX 13 rfl ?_
        refine r_iload_n (pc := 22) hX 14 rfl rfl ?_
        refine r_imul (pc := 23) hX 15 rfl ?_
        refine r_iload (pc := 24) hX 16 rfl rfl ?_
        refine r_iadd (pc := 26) hX 17 rfl ?_
        refine r_bipush (pc := 27) hX 18 rfl (by decide) ?_
        refine r_imul (pc := 29) hX 19 rfl ?_
        refine t_getR (pc := 30) hX 20 rfl rfl rfl fl_X12_102 rfl hG.1 (a_since hG).1 ?_
        refine r_iload (pc := 34) hX 22 rfl rfl ?_
        refine e_iald (y := (v 202 i)) (pc := 36) hX 23 rfl (a_since hG).2.1 (a_since hG).2.2 (by omega) (by omega) (rfl) ?_
        have hs36 := hs i (by omega) (by omega)
        refine r_iadd (pc := 37) hX 24 rfl ?_
        refine e_lald (y := (v 200 ((((5 * l) + i) * 13) + (v 202 i)))) (pc := 38) hX 25 rfl (a_powers hG).2.1 (a_powers hG).2.2 (by omega) (by omega) (rfl) ?_
        refine r_lmul (pc := 39) hX 26 rfl ?_
        refine r_lstore_n (ls' := [(2, 178), (0, l), (1, (x * (v 200 ((((5 * l) + i) * 13) + (v 202 i))))), (3, 0), (0, i)]) (pc := 40) hX 27 rfl (by decide) rfl ?_
        refine r_iinc (ls' := [(2, 178), (0, l), (1, (x * (v 200 ((((5 * l) + i) * 13) + (v 202 i))))), (3, 0), (0, (i + 1))]) (pc := 41) hX 28 rfl rfl (by decide) rfl ?_
        refine r_goto (pc := 44) hX 29 (tgt := 10) rfl (by decide) ?_
        exact (ih10 (x * (v 200 ((((5 * l) + i) * 13) + (v 202 i)))) (i + 1) (by omega) (by omega))
  exact (L10 _ (v 189 l) 0 (by omega) (Nat.lt_succ_self _))
set_option maxHeartbeats 4000000 in
set_option maxRecDepth 100000 in
theorem c_turnsTo (g : Gp) (v ρ : Mv) (Z : Mz) (hG : GM ρ Z) (q l i lf : Int) (hS : SInv (v 180)) (hq : 0 ≤ q ∧ q ≤ 2) (hh : 1 ≤ v 180 (36 + q)) (hl : 0 ≤ l ∧ l ≤ 2) (hi : 0 ≤ i ∧ i ≤ 2) (hf : 0 ≤ v 201 i ∧ v 201 i ≤ 3) (hlf : 0 ≤ lf ∧ lf ≤ 12) : Ok g 3 0 0 F_m_turnsTo [(2, 178), (0, q), (0, l), (0, i), (0, lf)] v ρ Z (fun o v' ρ' Z' => ρ = ρ' ∧ Z = Z' ∧ Fr [185, 186, 197] [] v v' ∧ o = none ∧ True) := by
  refine Ok.of mo_m_turnsTo (Nat.le_of_ble_eq_true rfl) ?_
  intro X hX hRm hxn hQ
  show wp g X F_m_turnsTo 0 0 0 [(2, 178), (0, q), (0, l), (0, i), (0, lf), (3, 0), (3, 0), (3, 0), (3, 0), (3, 0), (3, 0), (3, 0)] [] v ρ Z
  have hb0 := hS.c0
  refine r_aload_n (pc := 0) hX 0 rfl rfl ?_
  refine r_callV (as := []) (st := []) (K := 12) (pc := 1) hX 1 rfl mo_m_asNow ml_X12_301 im_m_asNow se_m_asNow (c_asNow g v ρ Z hG  (hS)) rfl rfl rfl hG.1 (by rw [hRm]; exact ⟨by decide, by decide⟩) (by rw [hRm]; exact ⟨by decide, by decide⟩) (Nat.le_of_ble_eq_true rfl) (fun o1 v1 ρ1 Z1 hq1 _ => ?_)
  obtain ⟨rfl, rfl, hfr1, rfl, hq1⟩ := hq1
  have hSInv_1 : SInv (v1 180) := by rw [hfr1.1 180 (by decide) (by decide)]; exact hS
  show wp g X F_m_turnsTo 0 0 4 [(2, 178), (0, q), (0, l), (0, i), (0, lf), (3, 0), (3, 0), (3, 0), (3, 0), (3, 0), (3, 0), (3, 0)] [] v1 ρ Z
  have es1 : v1 180 = v 180 := hfr1.1 180 (by decide) (by decide)
  have e36 : v1 180 (36 + q) = v 180 (36 + q) := by rw [es1]
  have e01 : v1 180 0 = v 180 0 := by rw [es1]
  have e201 : v1 201 i = v 201 i := by rw [hfr1.1 201 (by decide) (by decide)]
  refine t_getR (pc := 4) hX 2 rfl rfl rfl fl_X12_53 rfl hG.1 (a_own hG).1 ?_
  refine t_getR (pc := 8) hX 4 rfl rfl rfl fl_X12_33 rfl hG.1 (a_s hG).1 ?_
  refine r_bipush (pc := 12) hX 6 rfl (by decide) ?_
  refine r_iload_n (pc := 14) hX 7 rfl rfl ?_
  refine r_iadd (pc := 15) hX 8 rfl ?_
  refine e_iald (y := (v1 180 (36 + q))) (pc := 16) hX 9 rfl (a_s hG).2.1 (a_s hG).2.2 (by omega) (by omega) (rfl) ?_
  have hb16 := hSInv_1.c36 q (by omega) (by omega)
  refine r_iconst (pc := 17) hX 10 rfl ?_
  refine r_isub (pc := 18) hX 11 rfl ?_
  refine r_iconst (pc := 19) hX 12 rfl ?_
  refine e_iast (pc := 20) hX 13 rfl (a_own hG).2.1 (a_own hG).2.2 (by decide) (by omega) (by omega) ?_
  refine t_getR (pc := 21) hX 14 rfl rfl rfl fl_X12_53 rfl hG.1 (a_own hG).1 ?_
  refine t_getR (pc := 25) hX 16 rfl rfl rfl fl_X12_99 rfl hG.1 (a_freeRow hG).1 ?_
  refine r_iload_n (pc := 29) hX 18 rfl rfl ?_
  refine e_iald (y := (v1 201 i)) (pc := 30) hX 19 rfl (a_freeRow hG).2.1 (a_freeRow hG).2.2 (by omega) (by omega) ((up_r (by decide)).trans (rfl)) ?_
  refine r_iload_n (pc := 31) hX 20 rfl rfl ?_
  refine e_iast (pc := 32) hX 21 rfl (a_own hG).2.1 (a_own hG).2.2 (by decide) (by omega) (by omega) ?_
  refine r_iconst (pc := 33) hX 22 rfl ?_
  refine r_istore (ls' := [(2, 178), (0, q), (0, l), (0, i), (0, lf), (0, 1), (3, 0), (3, 0), (3, 0), (3, 0), (3, 0), (3, 0)]) (pc := 34) hX 23 rfl (by decide) rfl ?_
  have L36 : ∀ (n36 : Nat) (n : Int) (v36 : Mv) , (Fr [185, 186, 197] [] v v36) → (OwI (v36 186)) → (SInv (v36 180)) → (1 ≤ n ∧ n ≤ lf + 1) → (lf + 1 - n).toNat < n36 → wp g X F_m_turnsTo 0 0 36 [(2, 178), (0, q), (0, l), (0, i), (0, lf), (0, n), (3, 0), (3, 0), (3, 0), (3, 0), (3, 0), (3, 0)] [] v36 ρ Z := by
    intro n36
    induction n36 with
    | zero => intro n v36 hfr36 hOwI_36 hSInv_36 in_ hme36; exact absurd hme36 (Nat.not_lt_zero _)
    | succ n36 ih36 =>
      intro n v36 hfr36 hOwI_36 hSInv_36 in_ hme36
      refine r_iload (pc := 36) hX 24 rfl rfl ?_
      refine r_iload (pc := 38) hX 25 rfl rfl ?_
      first | refine r_icmp_gt (pc := 40) hX 26 (tgt := 328) rfl (by decide) (⟨by omega, by omega⟩) (⟨by omega, by omega⟩) (fun h40 => ?_) (fun h40 => ?_) | refine r_icmp_gt_any (pc := 40) hX 26 (tgt := 328) rfl (by decide) ?_ ?_
      · exact r_vret (pc := 328) hX 184 hQ rfl rfl (Nat.le_refl 0) (Nat.le_refl 0) ⟨rfl, rfl, hfr36, rfl, trivial⟩
      · refine r_iconst (pc := 43) hX 27 rfl ?_
        refine r_istore (ls' := [(2, 178), (0, q), (0, l), (0, i), (0, lf), (0, n), (0, 0), (3, 0), (3, 0), (3, 0), (3, 0), (3, 0)]) (pc := 44) hX 28 rfl (by decide) rfl ?_
        have L46 : ∀ (n46 : Nat) (sl : Int) (v46 : Mv) , (Fr [185, 186, 197] [] v v46) → (OwI (v46 186)) → (SInv (v46 180)) → (0 ≤ sl ∧ sl ≤ 729) → (729 - sl).toNat < n46 → wp g X F_m_turnsTo 0 0 46 [(2, 178), (0, q), (0, l), (0, i), (0, lf), (0, n), (0, sl), (3, 0), (3, 0), (3, 0), (3, 0), (3, 0)] [] v46 ρ Z := by
          intro n46
          induction n46 with
          | zero => intro sl v46 hfr46 hOwI_46 hSInv_46 isl hme46; exact absurd hme46 (Nat.not_lt_zero _)
          | succ n46 ih46 =>
            intro sl v46 hfr46 hOwI_46 hSInv_46 isl hme46
            refine r_iload (pc := 46) hX 29 rfl rfl ?_
            refine r_sipush (pc := 48) hX 30 rfl (by decide) ?_
            first | refine r_icmp_ge (pc := 51) hX 31 (tgt := 322) rfl (by decide) (⟨by omega, by omega⟩) (⟨by omega, by omega⟩) (fun h51 => ?_) (fun h51 => ?_) | refine r_icmp_ge_any (pc := 51) hX 31 (tgt := 322) rfl (by decide) ?_ ?_
            · refine r_iinc (ls' := [(2, 178), (0, q), (0, l), (0, i), (0, lf), (0, (n + 1)), (0, sl), (3, 0), (3, 0), (3, 0), (3, 0), (3, 0)]) (pc := 322) hX 182 rfl rfl (by decide) rfl ?_
              refine r_goto (pc := 325) hX 183 (tgt := 36) rfl (by decide) ?_
              refine r_wk (ls' := [(2, 178), (0, q), (0, l), (0, i), (0, lf), (0, (n + 1)), (3, 0), (3, 0), (3, 0), (3, 0), (3, 0), (3, 0)]) ⟨Or.inr rfl, Or.inr rfl, Or.inr rfl, Or.inr rfl, Or.inr rfl, Or.inr rfl, Or.inl rfl, Or.inr rfl, Or.inr rfl, Or.inr rfl, Or.inr rfl, Or.inr rfl, trivial⟩ ?_
              exact (ih36 (n + 1) v46 (hfr46) (hOwI_46) (hSInv_46) (by omega) (by omega))
            · refine r_lconst (pc := 54) hX 32 rfl ?_
              show wp g X F_m_turnsTo 0 0 55 [(2, 178), (0, q), (0, l), (0, i), (0, lf), (0, n), (0, sl), (3, 0), (3, 0), (3, 0), (3, 0), (3, 0)] [(1, 0)] v46 ρ Z
              refine r_lstore (ls' := [(2, 178), (0, q), (0, l), (0, i), (0, lf), (0, n), (0, sl), (1, 0), (3, 0), (3, 0), (3, 0), (3, 0)]) (pc := 55) hX 33 rfl (by decide) rfl ?_
              refine r_iconst (pc := 57) hX 34 rfl ?_
              refine r_istore (ls' := [(2, 178), (0, q), (0, l), (0, i), (0, lf), (0, n), (0, sl), (1, 0), (3, 0), (0, 0), (3, 0), (3, 0)]) (pc := 58) hX 35 rfl (by decide) rfl ?_
              have L60 : ∀ (n60 : Nat) (x c : Int) (v60 : Mv) , (Fr [185, 186, 197] [] v v60) → (OwI (v60 186)) → (SInv (v60 180)) → (0 ≤ c ∧ c ≤ 5) → (5 - c).toNat < n60 → wp g X F_m_turnsTo 0 0 60 [(2, 178), (0, q), (0, l), (0, i), (0, lf), (0, n), (0, sl), (1, x), (3, 0), (0, c), (3, 0), (3, 0)] [] v60 ρ Z := by
                intro n60
                induction n60 with
                | zero => intro x c v60 hfr60 hOwI_60 hSInv_60 ic hme60; exact absurd hme60 (Nat.not_lt_zero _)
                | succ n60 ih60 =>
                  intro x c v60 hfr60 hOwI_60 hSInv_60 ic hme60
                  refine r_iload (pc := 60) hX 36 rfl rfl ?_
                  refine r_iconst (pc := 62) hX 37 rfl ?_
                  first | refine r_icmp_ge (pc := 63) hX 38 (tgt := 299) rfl (by decide) (⟨by omega, by omega⟩) (⟨by omega, by omega⟩) (fun h63 => ?_) (fun h63 => ?_) | refine r_icmp_ge_any (pc := 63) hX 38 (tgt := 299) rfl (by decide) ?_ ?_
                  · refine t_getR (pc := 299) hX 170 rfl rfl rfl fl_X12_87 rfl hG.1 (a_turned hG).1 ?_
                    refine r_aload_n (pc := 303) hX 172 rfl rfl ?_
                    refine r_iload_n (pc := 304) hX 173 rfl rfl ?_
                    refine r_iload_n (pc := 305) hX 174 rfl rfl ?_
                    refine r_iload (pc := 306) hX 175 rfl rfl ?_
                    refine r_iload (pc := 308) hX 176 rfl rfl ?_
                    refine r_callV (as := [(0, l), (0, i), (0, n), (0, sl)]) (st := [(2, 197)]) (K := 12) (pc := 310) hX 177 rfl mo_m_place ml_X12_423 im_m_place se_m_place (c_place g v60 ρ Z hG (l) (i) (n) (sl) ) rfl rfl rfl hG.1 (by rw [hRm]; exact ⟨by decide, by decide⟩) (by rw [hRm]; exact ⟨by decide, by decide⟩) (Nat.le_of_ble_eq_true rfl) (fun o310 v310 ρ310 Z310 hq310 _ => ?_)
                    obtain ⟨rfl, rfl, rfl, r310, rfl, hq310⟩ := hq310
                    show wp g X F_m_turnsTo 0 0 313 [(2, 178), (0, q), (0, l), (0, i), (0, lf), (0, n), (0, sl), (1, x), (3, 0), (0, c), (3, 0), (3, 0)] [(0, r310), (2, 197)] v60 ρ Z
                    refine r_lload (pc := 313) hX 178 rfl rfl ?_
                    refine e_last (pc := 315) hX 179 rfl (a_turned hG).2.1 (a_turned hG).2.2 (by decide) (by omega) (by omega) ?_
                    refine r_iinc (ls' := [(2, 178), (0, q), (0, l), (0, i), (0, lf), (0, n), (0, (sl + 1)), (1, x), (3, 0), (0, c), (3, 0), (3, 0)]) (pc := 316) hX 180 rfl rfl (by decide) rfl ?_
                    refine r_goto (pc := 319) hX 181 (tgt := 46) rfl (by decide) ?_
                    refine r_wk (ls' := [(2, 178), (0, q), (0, l), (0, i), (0, lf), (0, n), (0, (sl + 1)), (3, 0), (3, 0), (3, 0), (3, 0), (3, 0)]) ⟨Or.inr rfl, Or.inr rfl, Or.inr rfl, Or.inr rfl, Or.inr rfl, Or.inr rfl, Or.inr rfl, Or.inl rfl, Or.inr rfl, Or.inl rfl, Or.inr rfl, Or.inr rfl, trivial⟩ ?_
                    exact (ih46 (sl + 1) (up v60 197 r310 x) ((hfr60).arr (r := 197) (by decide) (by decide)) (by rw [up_f (by decide)]; exact hOwI_60) (by rw [up_f (by decide)]; exact hSInv_60) (by omega) (by omega))
                  · refine t_getR (pc := 66) hX 39 rfl rfl rfl fl_X12_33 rfl hG.1 (a_s hG).1 ?_
                    refine r_bipush (pc := 70) hX 41 rfl (by decide) ?_
                    refine r_iconst (pc := 72) hX 42 rfl ?_
                    refine r_iload_n (pc := 73) hX 43 rfl rfl ?_
                    refine r_imul (pc := 74) hX 44 rfl ?_
                    refine r_iadd (pc := 75) hX 45 rfl ?_
                    refine r_iload (pc := 76) hX 46 rfl rfl ?_
                    refine r_iadd (pc := 78) hX 47 rfl ?_
                    refine e_iald (y := (v60 180 ((17 + (5 * l)) + c))) (pc := 79) hX 48 rfl (a_s hG).2.1 (a_s hG).2.2 (by omega) (by omega) (rfl) ?_
                    have hb79 := hSInv_60.c17 l c (by omega) (by omega) (by omega) (by omega)
                    refine r_istore (ls' := [(2, 178), (0, q), (0, l), (0, i), (0, lf), (0, n), (0, sl), (1, x), (3, 0), (0, c), (0, (v60 180 ((17 + (5 * l)) + c))), (3, 0)]) (pc := 80) hX 49 rfl (by decide) rfl ?_
                    refine r_iload (pc := 82) hX 50 rfl rfl ?_
                    have L293 : ∀ (x : Int) (v293 : Mv) , (Fr [185, 186, 197] [] v v293) → (OwI (v293 186)) → (SInv (v293 180)) → wp g X F_m_turnsTo 0 0 293 [(2, 178), (0, q), (0, l), (0, i), (0, lf), (0, n), (0, sl), (1, x), (3, 0), (0, c), (3, 0), (3, 0)] [] v293 ρ Z := by
                      intro x v293 hfr293 hOwI_293 hSInv_293
                      refine r_iinc (ls' := [(2, 178), (0, q), (0, l), (0, i), (0, lf), (0, n), (0, sl), (1, x), (3, 0), (0, (c + 1)), (3, 0), (3, 0)]) (pc := 293) hX 168 rfl rfl (by decide) rfl ?_
                      refine r_goto (pc := 296) hX 169 (tgt := 60) rfl (by decide) ?_
                      exact (ih60 x (c + 1) v293 (hfr293) (hOwI_293) (hSInv_293) (by omega) (by omega))
                    first | refine r_if_ne (pc := 84) hX 51 (tgt := 90) rfl (by decide) (⟨by omega, by omega⟩) (fun h84 => ?_) (fun h84 => ?_) | refine r_if_ne_any (pc := 84) hX 51 (tgt := 90) rfl (by decide) ?_ ?_
                    · refine r_aload_n (pc := 90) hX 53 rfl rfl ?_
                      refine r_iload (pc := 91) hX 54 rfl rfl ?_
                      refine r_callV (as := [(0, sl)]) (st := []) (K := 12) (pc := 93) hX 55 rfl mo_m_stands ml_X12_371 im_m_stands se_m_stands (c_stands g v60 ρ Z hG (sl) (by omega)) rfl rfl rfl hG.1 (by rw [hRm]; exact ⟨by decide, by decide⟩) (by rw [hRm]; exact ⟨by decide, by decide⟩) (Nat.le_of_ble_eq_true rfl) (fun o93 v93 ρ93 Z93 hq93 _ => ?_)
                      obtain ⟨rfl, rfl, hfr93, rfl, hq93⟩ := hq93
                      have hSInv_93 : SInv (v93 180) := by rw [hfr93.1 180 (by decide) (by decide)]; exact hSInv_60
                      have hOwI_93 : OwI (v93 186) := by rw [hfr93.1 186 (by decide) (by decide)]; exact hOwI_60
                      show wp g X F_m_turnsTo 0 0 96 [(2, 178), (0, q), (0, l), (0, i), (0, lf), (0, n), (0, sl), (1, x), (3, 0), (0, c), (0, (v60 180 ((17 + (5 * l)) + c))), (3, 0)] [] v93 ρ Z
                      refine t_getR (pc := 96) hX 56 rfl rfl rfl fl_X12_53 rfl hG.1 (a_own hG).1 ?_
                      refine r_iload (pc := 100) hX 58 rfl rfl ?_
                      refine e_iald (y := (v93 186 c)) (pc := 102) hX 59 rfl (a_own hG).2.1 (a_own hG).2.2 (by omega) (by omega) (rfl) ?_
                      have hb102 := hOwI_93 c (by omega) (by omega)
                      have L131 : ∀ (v131 : Mv) , (Fr [185, 186, 197] [] v v131) → (OwI (v131 186)) → (SInv (v131 180)) → (∀ k, 0 ≤ k → k ≤ 2 → 0 ≤ v131 185 k ∧ v131 185 k ≤ 11) → (∀ k, 0 ≤ k → k ≤ 2 → k ≠ v131 186 c → v131 185 k ≤ 8) → wp g X F_m_turnsTo 0 0 131 [(2, 178), (0, q), (0, l), (0, i), (0, lf), (0, n), (0, sl), (1, x), (3, 0), (0, c), (0, (v60 180 ((17 + (5 * l)) + c))), (3, 0)] [] v131 ρ Z := by
                        intro v131 hfr131 hOwI_131 hSInv_131 isc is8
                        have hS131 : ScI (v131 185) := fun k a b => by have := isc k a b; omega
                        refine t_getR (pc := 131) hX 77 rfl rfl rfl fl_X12_53 rfl hG.1 (a_own hG).1 ?_
                        refine r_iload (pc := 135) hX 79 rfl rfl ?_
                        refine e_iald (y := (v131 186 c)) (pc := 137) hX 80 rfl (a_own hG).2.1 (a_own hG).2.2 (by omega) (by omega) (rfl) ?_
                        have hb137 := hOwI_131 c (by omega) (by omega)
                        first | refine r_if_lt (pc := 138) hX 81 (tgt := 166) rfl (by decide) (⟨by omega, by omega⟩) (fun h138 => ?_) (fun h138 => ?_) | refine r_if_lt_any (pc := 138) hX 81 (tgt := 166) rfl (by decide) ?_ ?_
                        · refine r_iconst (pc := 166) hX 96 rfl ?_
                          refine r_istore (ls' := [(2, 178), (0, q), (0, l), (0, i), (0, lf), (0, n), (0, sl), (1, x), (3, 0), (0, c), (0, (v60 180 ((17 + (5 * l)) + c))), (0, 0)]) (pc := 167) hX 97 rfl (by decide) rfl ?_
                          refine r_iload (pc := 169) hX 98 rfl rfl ?_
                          first | refine r_if_eq (pc := 171) hX 99 (tgt := 208) rfl (by decide) (⟨by omega, by omega⟩) (fun h171 => ?_) (fun h171 => ?_) | refine r_if_eq_any (pc := 171) hX 99 (tgt := 208) rfl (by decide) ?_ ?_
                          · have L208 : (∀ k, 0 ≤ k → k ≤ 2 → 0 ≤ v131 185 k ∧ v131 185 k ≤ 8) → wp g X F_m_turnsTo 0 0 208 [(2, 178), (0, q), (0, l), (0, i), (0, lf), (0, n), (0, sl), (1, x), (3, 0), (0, c), (0, (v60 180 ((17 + (5 * l)) + c))), (3, 0)] [] v131 ρ Z := by
                              intro is9
                              refine r_iload (pc := 208) hX 119 rfl rfl ?_
                              refine r_iconst (pc := 210) hX 120 rfl ?_
                              have L234 : wp g X F_m_turnsTo 0 0 234 [(2, 178), (0, q), (0, l), (0, i), (0, lf), (0, n), (0, sl), (1, x), (3, 0), (0, c), (0, (v60 180 ((17 + (5 * l)) + c))), (3, 0)] [] v131 ρ Z := by
                                refine r_lload (pc := 234) hX 133 rfl rfl ?_
                                refine r_aload_n (pc := 236) hX 134 rfl rfl ?_
                                refine r_callV (as := []) (st := [(1, x)]) (K := 12) (pc := 237) hX 135 rfl mo_m_ahead ml_X12_313 im_m_ahead se_m_ahead (c_ahead g v131 ρ Z hG  (hSInv_131) (hS131)) rfl rfl rfl hG.1 (by rw [hRm]; exact ⟨by decide, by decide⟩) (by rw [hRm]; exact ⟨by decide, by decide⟩) (Nat.le_of_ble_eq_true rfl) (fun o237 v237 ρ237 Z237 hq237 _ => ?_)
                                obtain ⟨rfl, rfl, rfl, r237, rfl, hq237⟩ := hq237
                                show wp g X F_m_turnsTo 0 0 240 [(2, 178), (0, q), (0, l), (0, i), (0, lf), (0, n), (0, sl), (1, x), (3, 0), (0, c), (0, (v60 180 ((17 + (5 * l)) + c))), (3, 0)] [(0, r237), (1, x)] v131 ρ Z
                                refine r_iload_n (pc := 240) hX 136 rfl rfl ?_
                                first | refine r_icmp_ne (pc := 241) hX 137 (tgt := 258) rfl (by decide) (⟨by omega, by omega⟩) (⟨by omega, by omega⟩) (fun h241 => ?_) (fun h241 => ?_) | refine r_icmp_ne_any (pc := 241) hX 137 (tgt := 258) rfl (by decide) ?_ ?_
                                · refine r_lconst (pc := 258) hX 146 rfl ?_
                                  show wp g X F_m_turnsTo 0 0 259 [(2, 178), (0, q), (0, l), (0, i), (0, lf), (0, n), (0, sl), (1, x), (3, 0), (0, c), (0, (v60 180 ((17 + (5 * l)) + c))), (3, 0)] [(1, 0), (1, x)] v131 ρ Z
                                  refine r_ladd (pc := 259) hX 147 rfl ?_
                                  refine r_lstore (ls' := [(2, 178), (0, q), (0, l), (0, i), (0, lf), (0, n), (0, sl), (1, (x + 0)), (3, 0), (0, c), (0, (v60 180 ((17 + (5 * l)) + c))), (3, 0)]) (pc := 260) hX 148 rfl (by decide) rfl ?_
                                  refine r_goto (pc := 262) hX 149 (tgt := 293) rfl (by decide) ?_
                                  refine r_wk (ls' := [(2, 178), (0, q), (0, l), (0, i), (0, lf), (0, n), (0, sl), (1, (x + 0)), (3, 0), (0, c), (3, 0), (3, 0)]) ⟨Or.inr rfl, Or.inr rfl, Or.inr rfl, Or.inr rfl, Or.inr rfl, Or.inr rfl, Or.inr rfl, Or.inr rfl, Or.inr rfl, Or.inr rfl, Or.inl rfl, Or.inr rfl, trivial⟩ ?_
                                  exact (L293 (x + 0) v131 (hfr131) (by first | exact hOwI_60 | exact hOwI_131) (hSInv_131) )
                                · refine r_iload (pc := 244) hX 138 rfl rfl ?_
                                  refine r_i2l (pc := 246) hX 139 rfl ⟨by omega, by omega⟩ ?_
                                  refine r_iload (pc := 247) hX 140 rfl rfl ?_
                                  refine r_iconst (pc := 249) hX 141 rfl ?_
                                  refine r_isub (pc := 250) hX 142 rfl ?_
                                  refine r_callS (as := [(0, (n - 1))]) (st := [(1, (v60 180 ((17 + (5 * l)) + c))), (1, x)]) (pc := 251) hX 143 rfl mo_m_twelves ml_X12_353 stt_m_twelves (c_twelves g v131 ρ Z hG ((n - 1)) (by omega)) rfl (by rw [hRm]; exact ⟨by decide, by decide⟩) (by rw [hRm]; exact ⟨by decide, by decide⟩) (Nat.le_of_ble_eq_true rfl) (fun o251 v251 ρ251 Z251 hq251 _ => ?_)
                                  obtain ⟨rfl, rfl, rfl, r251, rfl, hq251⟩ := hq251
                                  show wp g X F_m_turnsTo 0 0 254 [(2, 178), (0, q), (0, l), (0, i), (0, lf), (0, n), (0, sl), (1, x), (3, 0), (0, c), (0, (v60 180 ((17 + (5 * l)) + c))), (3, 0)] [(1, r251), (1, (v60 180 ((17 + (5 * l)) + c))), (1, x)] v131 ρ Z
                                  refine r_lmul (pc := 254) hX 144 rfl ?_
                                  refine r_goto (pc := 255) hX 145 (tgt := 259) rfl (by decide) ?_
                                  refine r_ladd (pc := 259) hX 147 rfl ?_
                                  refine r_lstore (ls' := [(2, 178), (0, q), (0, l), (0, i), (0, lf), (0, n), (0, sl), (1, (x + ((v60 180 ((17 + (5 * l)) + c)) * r251))), (3, 0), (0, c), (0, (v60 180 ((17 + (5 * l)) + c))), (3, 0)]) (pc := 260) hX 148 rfl (by decide) rfl ?_
                                  refine r_goto (pc := 262) hX 149 (tgt := 293) rfl (by decide) ?_
                                  refine r_wk (ls' := [(2, 178), (0, q), (0, l), (0, i), (0, lf), (0, n), (0, sl), (1, (x + ((v60 180 ((17 + (5 * l)) + c)) * r251))), (3, 0), (0, c), (3, 0), (3, 0)]) ⟨Or.inr rfl, Or.inr rfl, Or.inr rfl, Or.inr rfl, Or.inr rfl, Or.inr rfl, Or.inr rfl, Or.inr rfl, Or.inr rfl, Or.inr rfl, Or.inl rfl, Or.inr rfl, trivial⟩ ?_
                                  exact (L293 (x + ((v60 180 ((17 + (5 * l)) + c)) * r251)) v131 (hfr131) (by first | exact hOwI_60 | exact hOwI_131) (hSInv_131) )
                              first | refine r_icmp_ge (pc := 211) hX 121 (tgt := 228) rfl (by decide) (⟨by omega, by omega⟩) (⟨by omega, by omega⟩) (fun h211 => ?_) (fun h211 => ?_) | refine r_icmp_ge_any (pc := 211) hX 121 (tgt := 228) rfl (by decide) ?_ ?_
                              · refine r_iload (pc := 228) hX 130 rfl rfl ?_
                                refine r_iconst (pc := 230) hX 131 rfl ?_
                                first | refine r_icmp_ne (pc := 231) hX 132 (tgt := 265) rfl (by decide) (⟨by omega, by omega⟩) (⟨by omega, by omega⟩) (fun h231 => ?_) (fun h231 => ?_) | refine r_icmp_ne_any (pc := 231) hX 132 (tgt := 265) rfl (by decide) ?_ ?_
                                · refine r_lload (pc := 265) hX 150 rfl rfl ?_
                                  refine r_iload (pc := 267) hX 151 rfl rfl ?_
                                  refine r_i2l (pc := 269) hX 152 rfl ⟨by omega, by omega⟩ ?_
                                  refine t_getR (pc := 270) hX 153 rfl rfl rfl fl_X12_87 rfl hG.1 (a_turned hG).1 ?_
                                  refine r_aload_n (pc := 274) hX 155 rfl rfl ?_
                                  refine r_iload_n (pc := 275) hX 156 rfl rfl ?_
                                  refine r_iload_n (pc := 276) hX 157 rfl rfl ?_
                                  refine r_iload (pc := 277) hX 158 rfl rfl ?_
                                  refine r_iconst (pc := 279) hX 159 rfl ?_
                                  refine r_isub (pc := 280) hX 160 rfl ?_
                                  refine r_aload_n (pc := 281) hX 161 rfl rfl ?_
                                  refine r_callVW (as := []) (st := [(0, (n - 1)), (0, i), (0, l), (2, 178), (2, 197), (1, (v60 180 ((17 + (5 * l)) + c))), (1, x)]) (K := 12) (pc := 282) hX 162 rfl mo_m_slot ml_X12_364 im_m_slot se_m_slot (c_slot g v131 ρ Z hG  ) rfl rfl rfl hG.1 (by rw [hRm]; exact ⟨by decide, by decide⟩) (by rw [hRm]; exact ⟨by decide, by decide⟩) (Nat.le_of_ble_eq_true rfl) (fun o282 v282 ρ282 Z282 hq282 _ => ?_)
                                  obtain ⟨rfl, rfl, rfl, r282, rfl, hq282⟩ := hq282
                                  show wp g X F_m_turnsTo 0 0 285 [(2, 178), (0, q), (0, l), (0, i), (0, lf), (0, n), (0, sl), (1, x), (3, 0), (0, c), (0, (v60 180 ((17 + (5 * l)) + c))), (3, 0)] [(0, r282), (0, (n - 1)), (0, i), (0, l), (2, 178), (2, 197), (1, (v60 180 ((17 + (5 * l)) + c))), (1, x)] v131 ρ Z
                                  have z0 := is9 0 (by omega) (by omega)
                                  have z1 := is9 1 (by omega) (by omega)
                                  have z2 := is9 2 (by omega) (by omega)
                                  refine r_callV (as := [(0, l), (0, i), (0, (n - 1)), (0, r282)]) (st := [(2, 197), (1, (v60 180 ((17 + (5 * l)) + c))), (1, x)]) (K := 12) (pc := 285) hX 163 rfl mo_m_place ml_X12_423 im_m_place se_m_place (c_place g v131 ρ Z hG (l) (i) ((n - 1)) (r282) ) rfl rfl rfl hG.1 (by rw [hRm]; exact ⟨by decide, by decide⟩) (by rw [hRm]; exact ⟨by decide, by decide⟩) (Nat.le_of_ble_eq_true rfl) (fun o285 v285 ρ285 Z285 hq285 _ => ?_)
                                  obtain ⟨rfl, rfl, rfl, r285, rfl, hq285⟩ := hq285
                                  show wp g X F_m_turnsTo 0 0 288 [(2, 178), (0, q), (0, l), (0, i), (0, lf), (0, n), (0, sl), (1, x), (3, 0), (0, c), (0, (v60 180 ((17 + (5 * l)) + c))), (3, 0)] [(0, r285), (2, 197), (1, (v60 180 ((17 + (5 * l)) + c))), (1, x)] v131 ρ Z
                                  refine e_lald (y := (v131 197 r285)) (pc := 288) hX 164 rfl (a_turned hG).2.1 (a_turned hG).2.2 (by omega) (by omega) (rfl) ?_
                                  refine r_lmul (pc := 289) hX 165 rfl ?_
                                  refine r_ladd (pc := 290) hX 166 rfl ?_
                                  refine r_lstore (ls' := [(2, 178), (0, q), (0, l), (0, i), (0, lf), (0, n), (0, sl), (1, (x + ((v60 180 ((17 + (5 * l)) + c)) * (v131 197 r285)))), (3, 0), (0, c), (0, (v60 180 ((17 + (5 * l)) + c))), (3, 0)]) (pc := 291) hX 167 rfl (by decide) rfl ?_
                                  refine r_wk (ls' := [(2, 178), (0, q), (0, l), (0, i), (0, lf), (0, n), (0, sl), (1, (x + ((v60 180 ((17 + (5 * l)) + c)) * (v131 197 r285)))), (3, 0), (0, c), (3, 0), (3, 0)]) ⟨Or.inr rfl, Or.inr rfl, Or.inr rfl, Or.inr rfl, Or.inr rfl, Or.inr rfl, Or.inr rfl, Or.inr rfl, Or.inr rfl, Or.inr rfl, Or.inl rfl, Or.inr rfl, trivial⟩ ?_
                                  exact (L293 (x + ((v60 180 ((17 + (5 * l)) + c)) * (v131 197 r285))) v131 (hfr131) (by first | exact hOwI_60 | exact hOwI_131) (hSInv_131) )
                                · exact (L234   )
                              · refine t_getR (pc := 214) hX 122 rfl rfl rfl fl_X12_33 rfl hG.1 (a_s hG).1 ?_
                                refine r_bipush (pc := 218) hX 124 rfl (by decide) ?_
                                refine r_iload (pc := 220) hX 125 rfl rfl ?_
                                refine r_iadd (pc := 222) hX 126 rfl ?_
                                refine e_iald (y := (v131 180 (10 + c))) (pc := 223) hX 127 rfl (a_s hG).2.1 (a_s hG).2.2 (by omega) (by omega) (rfl) ?_
                                have hb223 := hSInv_131.c10 c (by omega) (by omega)
                                refine r_iconst (pc := 224) hX 128 rfl ?_
                                first | refine r_icmp_eq (pc := 225) hX 129 (tgt := 234) rfl (by decide) (⟨by omega, by omega⟩) (⟨by omega, by omega⟩) (fun h225 => ?_) (fun h225 => ?_) | refine r_icmp_eq_any (pc := 225) hX 129 (tgt := 234) rfl (by decide) ?_ ?_
                                · exact (L234   )
                                · refine r_iload (pc := 228) hX 130 rfl rfl ?_
                                  refine r_iconst (pc := 230) hX 131 rfl ?_
                                  first | refine r_icmp_ne (pc := 231) hX 132 (tgt := 265) rfl (by decide) (⟨by omega, by omega⟩) (⟨by omega, by omega⟩) (fun h231 => ?_) (fun h231 => ?_) | refine r_icmp_ne_any (pc := 231) hX 132 (tgt := 265) rfl (by decide) ?_ ?_
                                  · refine r_lload (pc := 265) hX 150 rfl rfl ?_
                                    refine r_iload (pc := 267) hX 151 rfl rfl ?_
                                    refine r_i2l (pc := 269) hX 152 rfl ⟨by omega, by omega⟩ ?_
                                    refine t_getR (pc := 270) hX 153 rfl rfl rfl fl_X12_87 rfl hG.1 (a_turned hG).1 ?_
                                    refine r_aload_n (pc := 274) hX 155 rfl rfl ?_
                                    refine r_iload_n (pc := 275) hX 156 rfl rfl ?_
                                    refine r_iload_n (pc := 276) hX 157 rfl rfl ?_
                                    refine r_iload (pc := 277) hX 158 rfl rfl ?_
                                    refine r_iconst (pc := 279) hX 159 rfl ?_
                                    refine r_isub (pc := 280) hX 160 rfl ?_
                                    refine r_aload_n (pc := 281) hX 161 rfl rfl ?_
                                    refine r_callVW (as := []) (st := [(0, (n - 1)), (0, i), (0, l), (2, 178), (2, 197), (1, (v60 180 ((17 + (5 * l)) + c))), (1, x)]) (K := 12) (pc := 282) hX 162 rfl mo_m_slot ml_X12_364 im_m_slot se_m_slot (c_slot g v131 ρ Z hG  ) rfl rfl rfl hG.1 (by rw [hRm]; exact ⟨by decide, by decide⟩) (by rw [hRm]; exact ⟨by decide, by decide⟩) (Nat.le_of_ble_eq_true rfl) (fun o282 v282 ρ282 Z282 hq282 _ => ?_)
                                    obtain ⟨rfl, rfl, rfl, r282, rfl, hq282⟩ := hq282
                                    show wp g X F_m_turnsTo 0 0 285 [(2, 178), (0, q), (0, l), (0, i), (0, lf), (0, n), (0, sl), (1, x), (3, 0), (0, c), (0, (v60 180 ((17 + (5 * l)) + c))), (3, 0)] [(0, r282), (0, (n - 1)), (0, i), (0, l), (2, 178), (2, 197), (1, (v60 180 ((17 + (5 * l)) + c))), (1, x)] v131 ρ Z
                                    have z0 := is9 0 (by omega) (by omega)
                                    have z1 := is9 1 (by omega) (by omega)
                                    have z2 := is9 2 (by omega) (by omega)
                                    refine r_callV (as := [(0, l), (0, i), (0, (n - 1)), (0, r282)]) (st := [(2, 197), (1, (v60 180 ((17 + (5 * l)) + c))), (1, x)]) (K := 12) (pc := 285) hX 163 rfl mo_m_place ml_X12_423 im_m_place se_m_place (c_place g v131 ρ Z hG (l) (i) ((n - 1)) (r282) ) rfl rfl rfl hG.1 (by rw [hRm]; exact ⟨by decide, by decide⟩) (by rw [hRm]; exact ⟨by decide, by decide⟩) (Nat.le_of_ble_eq_true rfl) (fun o285 v285 ρ285 Z285 hq285 _ => ?_)
                                    obtain ⟨rfl, rfl, rfl, r285, rfl, hq285⟩ := hq285
                                    show wp g X F_m_turnsTo 0 0 288 [(2, 178), (0, q), (0, l), (0, i), (0, lf), (0, n), (0, sl), (1, x), (3, 0), (0, c), (0, (v60 180 ((17 + (5 * l)) + c))), (3, 0)] [(0, r285), (2, 197), (1, (v60 180 ((17 + (5 * l)) + c))), (1, x)] v131 ρ Z
                                    refine e_lald (y := (v131 197 r285)) (pc := 288) hX 164 rfl (a_turned hG).2.1 (a_turned hG).2.2 (by omega) (by omega) (rfl) ?_
                                    refine r_lmul (pc := 289) hX 165 rfl ?_
                                    refine r_ladd (pc := 290) hX 166 rfl ?_
                                    refine r_lstore (ls' := [(2, 178), (0, q), (0, l), (0, i), (0, lf), (0, n), (0, sl), (1, (x + ((v60 180 ((17 + (5 * l)) + c)) * (v131 197 r285)))), (3, 0), (0, c), (0, (v60 180 ((17 + (5 * l)) + c))), (3, 0)]) (pc := 291) hX 167 rfl (by decide) rfl ?_
                                    refine r_wk (ls' := [(2, 178), (0, q), (0, l), (0, i), (0, lf), (0, n), (0, sl), (1, (x + ((v60 180 ((17 + (5 * l)) + c)) * (v131 197 r285)))), (3, 0), (0, c), (3, 0), (3, 0)]) ⟨Or.inr rfl, Or.inr rfl, Or.inr rfl, Or.inr rfl, Or.inr rfl, Or.inr rfl, Or.inr rfl, Or.inr rfl, Or.inr rfl, Or.inr rfl, Or.inl rfl, Or.inr rfl, trivial⟩ ?_
                                    exact (L293 (x + ((v60 180 ((17 + (5 * l)) + c)) * (v131 197 r285))) v131 (hfr131) (by first | exact hOwI_60 | exact hOwI_131) (hSInv_131) )
                                  · exact (L234   )
                            refine r_wk (ls' := [(2, 178), (0, q), (0, l), (0, i), (0, lf), (0, n), (0, sl), (1, x), (3, 0), (0, c), (0, (v60 180 ((17 + (5 * l)) + c))), (3, 0)]) ⟨Or.inr rfl, Or.inr rfl, Or.inr rfl, Or.inr rfl, Or.inr rfl, Or.inr rfl, Or.inr rfl, Or.inr rfl, Or.inr rfl, Or.inr rfl, Or.inr rfl, Or.inl rfl, trivial⟩ ?_
                            exact (L208  (fun k a b => by
              have z1 := isc k a b
              have z2 := is8 k a b
              by_cases e : k = v131 186 c
              · subst e; omega
              · have := z2 e; omega) )
                          · exact absurd (by decide) h171
                        · refine t_getR (pc := 141) hX 82 rfl rfl rfl fl_X12_50 rfl hG.1 (a_scores hG).1 ?_
                          refine t_getR (pc := 145) hX 84 rfl rfl rfl fl_X12_53 rfl hG.1 (a_own hG).1 ?_
                          refine r_iload (pc := 149) hX 86 rfl rfl ?_
                          refine e_iald (y := (v131 186 c)) (pc := 151) hX 87 rfl (a_own hG).2.1 (a_own hG).2.2 (by omega) (by omega) (rfl) ?_
                          have hb151 := hOwI_131 c (by omega) (by omega)
                          refine e_iald (y := (v131 185 (v131 186 c))) (pc := 152) hX 88 rfl (a_scores hG).2.1 (a_scores hG).2.2 (by omega) (by omega) (rfl) ?_
                          have hb152 := hS131 (v131 186 c) (by omega) (by omega)
                          refine t_getR (pc := 153) hX 89 rfl rfl rfl fl_X12_33 rfl hG.1 (a_s hG).1 ?_
                          refine r_iconst (pc := 157) hX 91 rfl ?_
                          refine e_iald (y := (v131 180 3)) (pc := 158) hX 92 rfl (a_s hG).2.1 (a_s hG).2.2 (by omega) (by omega) (rfl) ?_
                          have hb158 := hSInv_131.c3
                          first | refine r_icmp_lt (pc := 159) hX 93 (tgt := 166) rfl (by decide) (⟨by omega, by omega⟩) (⟨by omega, by omega⟩) (fun h159 => ?_) (fun h159 => ?_) | refine r_icmp_lt_any (pc := 159) hX 93 (tgt := 166) rfl (by decide) ?_ ?_
                          · refine r_iconst (pc := 166) hX 96 rfl ?_
                            refine r_istore (ls' := [(2, 178), (0, q), (0, l), (0, i), (0, lf), (0, n), (0, sl), (1, x), (3, 0), (0, c), (0, (v60 180 ((17 + (5 * l)) + c))), (0, 0)]) (pc := 167) hX 97 rfl (by decide) rfl ?_
                            refine r_iload (pc := 169) hX 98 rfl rfl ?_
                            first | refine r_if_eq (pc := 171) hX 99 (tgt := 208) rfl (by decide) (⟨by omega, by omega⟩) (fun h171 => ?_) (fun h171 => ?_) | refine r_if_eq_any (pc := 171) hX 99 (tgt := 208) rfl (by decide) ?_ ?_
                            · have L208 : (∀ k, 0 ≤ k → k ≤ 2 → 0 ≤ v131 185 k ∧ v131 185 k ≤ 8) → wp g X F_m_turnsTo 0 0 208 [(2, 178), (0, q), (0, l), (0, i), (0, lf), (0, n), (0, sl), (1, x), (3, 0), (0, c), (0, (v60 180 ((17 + (5 * l)) + c))), (3, 0)] [] v131 ρ Z := by
                                intro is9
                                refine r_iload (pc := 208) hX 119 rfl rfl ?_
                                refine r_iconst (pc := 210) hX 120 rfl ?_
                                have L234 : wp g X F_m_turnsTo 0 0 234 [(2, 178), (0, q), (0, l), (0, i), (0, lf), (0, n), (0, sl), (1, x), (3, 0), (0, c), (0, (v60 180 ((17 + (5 * l)) + c))), (3, 0)] [] v131 ρ Z := by
                                  refine r_lload (pc := 234) hX 133 rfl rfl ?_
                                  refine r_aload_n (pc := 236) hX 134 rfl rfl ?_
                                  refine r_callV (as := []) (st := [(1, x)]) (K := 12) (pc := 237) hX 135 rfl mo_m_ahead ml_X12_313 im_m_ahead se_m_ahead (c_ahead g v131 ρ Z hG  (hSInv_131) (hS131)) rfl rfl rfl hG.1 (by rw [hRm]; exact ⟨by decide, by decide⟩) (by rw [hRm]; exact ⟨by decide, by decide⟩) (Nat.le_of_ble_eq_true rfl) (fun o237 v237 ρ237 Z237 hq237 _ => ?_)
                                  obtain ⟨rfl, rfl, rfl, r237, rfl, hq237⟩ := hq237
                                  show wp g X F_m_turnsTo 0 0 240 [(2, 178), (0, q), (0, l), (0, i), (0, lf), (0, n), (0, sl), (1, x), (3, 0), (0, c), (0, (v60 180 ((17 + (5 * l)) + c))), (3, 0)] [(0, r237), (1, x)] v131 ρ Z
                                  refine r_iload_n (pc := 240) hX 136 rfl rfl ?_
                                  first | refine r_icmp_ne (pc := 241) hX 137 (tgt := 258) rfl (by decide) (⟨by omega, by omega⟩) (⟨by omega, by omega⟩) (fun h241 => ?_) (fun h241 => ?_) | refine r_icmp_ne_any (pc := 241) hX 137 (tgt := 258) rfl (by decide) ?_ ?_
                                  · refine r_lconst (pc := 258) hX 146 rfl ?_
                                    show wp g X F_m_turnsTo 0 0 259 [(2, 178), (0, q), (0, l), (0, i), (0, lf), (0, n), (0, sl), (1, x), (3, 0), (0, c), (0, (v60 180 ((17 + (5 * l)) + c))), (3, 0)] [(1, 0), (1, x)] v131 ρ Z
                                    refine r_ladd (pc := 259) hX 147 rfl ?_
                                    refine r_lstore (ls' := [(2, 178), (0, q), (0, l), (0, i), (0, lf), (0, n), (0, sl), (1, (x + 0)), (3, 0), (0, c), (0, (v60 180 ((17 + (5 * l)) + c))), (3, 0)]) (pc := 260) hX 148 rfl (by decide) rfl ?_
                                    refine r_goto (pc := 262) hX 149 (tgt := 293) rfl (by decide) ?_
                                    refine r_wk (ls' := [(2, 178), (0, q), (0, l), (0, i), (0, lf), (0, n), (0, sl), (1, (x + 0)), (3, 0), (0, c), (3, 0), (3, 0)]) ⟨Or.inr rfl, Or.inr rfl, Or.inr rfl, Or.inr rfl, Or.inr rfl, Or.inr rfl, Or.inr rfl, Or.inr rfl, Or.inr rfl, Or.inr rfl, Or.inl rfl, Or.inr rfl, trivial⟩ ?_
                                    exact (L293 (x + 0) v131 (hfr131) (by first | exact hOwI_60 | exact hOwI_131) (hSInv_131) )
                                  · refine r_iload (pc := 244) hX 138 rfl rfl ?_
                                    refine r_i2l (pc := 246) hX 139 rfl ⟨by omega, by omega⟩ ?_
                                    refine r_iload (pc := 247) hX 140 rfl rfl ?_
                                    refine r_iconst (pc := 249) hX 141 rfl ?_
                                    refine r_isub (pc := 250) hX 142 rfl ?_
                                    refine r_callS (as := [(0, (n - 1))]) (st := [(1, (v60 180 ((17 + (5 * l)) + c))), (1, x)]) (pc := 251) hX 143 rfl mo_m_twelves ml_X12_353 stt_m_twelves (c_twelves g v131 ρ Z hG ((n - 1)) (by omega)) rfl (by rw [hRm]; exact ⟨by decide, by decide⟩) (by rw [hRm]; exact ⟨by decide, by decide⟩) (Nat.le_of_ble_eq_true rfl) (fun o251 v251 ρ251 Z251 hq251 _ => ?_)
                                    obtain ⟨rfl, rfl, rfl, r251, rfl, hq251⟩ := hq251
                                    show wp g X F_m_turnsTo 0 0 254 [(2, 178), (0, q), (0, l), (0, i), (0, lf), (0, n), (0, sl), (1, x), (3, 0), (0, c), (0, (v60 180 ((17 + (5 * l)) + c))), (3, 0)] [(1, r251), (1, (v60 180 ((17 + (5 * l)) + c))), (1, x)] v131 ρ Z
                                    refine r_lmul (pc := 254) hX 144 rfl ?_
                                    refine r_goto (pc := 255) hX 145 (tgt := 259) rfl (by decide) ?_
                                    refine r_ladd (pc := 259) hX 147 rfl ?_
                                    refine r_lstore (ls' := [(2, 178), (0, q), (0, l), (0, i), (0, lf), (0, n), (0, sl), (1, (x + ((v60 180 ((17 + (5 * l)) + c)) * r251))), (3, 0), (0, c), (0, (v60 180 ((17 + (5 * l)) + c))), (3, 0)]) (pc := 260) hX 148 rfl (by decide) rfl ?_
                                    refine r_goto (pc := 262) hX 149 (tgt := 293) rfl (by decide) ?_
                                    refine r_wk (ls' := [(2, 178), (0, q), (0, l), (0, i), (0, lf), (0, n), (0, sl), (1, (x + ((v60 180 ((17 + (5 * l)) + c)) * r251))), (3, 0), (0, c), (3, 0), (3, 0)]) ⟨Or.inr rfl, Or.inr rfl, Or.inr rfl, Or.inr rfl, Or.inr rfl, Or.inr rfl, Or.inr rfl, Or.inr rfl, Or.inr rfl, Or.inr rfl, Or.inl rfl, Or.inr rfl, trivial⟩ ?_
                                    exact (L293 (x + ((v60 180 ((17 + (5 * l)) + c)) * r251)) v131 (hfr131) (by first | exact hOwI_60 | exact hOwI_131) (hSInv_131) )
                                first | refine r_icmp_ge (pc := 211) hX 121 (tgt := 228) rfl (by decide) (⟨by omega, by omega⟩) (⟨by omega, by omega⟩) (fun h211 => ?_) (fun h211 => ?_) | refine r_icmp_ge_any (pc := 211) hX 121 (tgt := 228) rfl (by decide) ?_ ?_
                                · refine r_iload (pc := 228) hX 130 rfl rfl ?_
                                  refine r_iconst (pc := 230) hX 131 rfl ?_
                                  first | refine r_icmp_ne (pc := 231) hX 132 (tgt := 265) rfl (by decide) (⟨by omega, by omega⟩) (⟨by omega, by omega⟩) (fun h231 => ?_) (fun h231 => ?_) | refine r_icmp_ne_any (pc := 231) hX 132 (tgt := 265) rfl (by decide) ?_ ?_
                                  · refine r_lload (pc := 265) hX 150 rfl rfl ?_
                                    refine r_iload (pc := 267) hX 151 rfl rfl ?_
                                    refine r_i2l (pc := 269) hX 152 rfl ⟨by omega, by omega⟩ ?_
                                    refine t_getR (pc := 270) hX 153 rfl rfl rfl fl_X12_87 rfl hG.1 (a_turned hG).1 ?_
                                    refine r_aload_n (pc := 274) hX 155 rfl rfl ?_
                                    refine r_iload_n (pc := 275) hX 156 rfl rfl ?_
                                    refine r_iload_n (pc := 276) hX 157 rfl rfl ?_
                                    refine r_iload (pc := 277) hX 158 rfl rfl ?_
                                    refine r_iconst (pc := 279) hX 159 rfl ?_
                                    refine r_isub (pc := 280) hX 160 rfl ?_
                                    refine r_aload_n (pc := 281) hX 161 rfl rfl ?_
                                    refine r_callVW (as := []) (st := [(0, (n - 1)), (0, i), (0, l), (2, 178), (2, 197), (1, (v60 180 ((17 + (5 * l)) + c))), (1, x)]) (K := 12) (pc := 282) hX 162 rfl mo_m_slot ml_X12_364 im_m_slot se_m_slot (c_slot g v131 ρ Z hG  ) rfl rfl rfl hG.1 (by rw [hRm]; exact ⟨by decide, by decide⟩) (by rw [hRm]; exact ⟨by decide, by decide⟩) (Nat.le_of_ble_eq_true rfl) (fun o282 v282 ρ282 Z282 hq282 _ => ?_)
                                    obtain ⟨rfl, rfl, rfl, r282, rfl, hq282⟩ := hq282
                                    show wp g X F_m_turnsTo 0 0 285 [(2, 178), (0, q), (0, l), (0, i), (0, lf), (0, n), (0, sl), (1, x), (3, 0), (0, c), (0, (v60 180 ((17 + (5 * l)) + c))), (3, 0)] [(0, r282), (0, (n - 1)), (0, i), (0, l), (2, 178), (2, 197), (1, (v60 180 ((17 + (5 * l)) + c))), (1, x)] v131 ρ Z
                                    have z0 := is9 0 (by omega) (by omega)
                                    have z1 := is9 1 (by omega) (by omega)
                                    have z2 := is9 2 (by omega) (by omega)
                                    refine r_callV (as := [(0, l), (0, i), (0, (n - 1)), (0, r282)]) (st := [(2, 197), (1, (v60 180 ((17 + (5 * l)) + c))), (1, x)]) (K := 12) (pc := 285) hX 163 rfl mo_m_place ml_X12_423 im_m_place se_m_place (c_place g v131 ρ Z hG (l) (i) ((n - 1)) (r282) ) rfl rfl rfl hG.1 (by rw [hRm]; exact ⟨by decide, by decide⟩) (by rw [hRm]; exact ⟨by decide, by decide⟩) (Nat.le_of_ble_eq_true rfl) (fun o285 v285 ρ285 Z285 hq285 _ => ?_)
                                    obtain ⟨rfl, rfl, rfl, r285, rfl, hq285⟩ := hq285
                                    show wp g X F_m_turnsTo 0 0 288 [(2, 178), (0, q), (0, l), (0, i), (0, lf), (0, n), (0, sl), (1, x), (3, 0), (0, c), (0, (v60 180 ((17 + (5 * l)) + c))), (3, 0)] [(0, r285), (2, 197), (1, (v60 180 ((17 + (5 * l)) + c))), (1, x)] v131 ρ Z
                                    refine e_lald (y := (v131 197 r285)) (pc := 288) hX 164 rfl (a_turned hG).2.1 (a_turned hG).2.2 (by omega) (by omega) (rfl) ?_
                                    refine r_lmul (pc := 289) hX 165 rfl ?_
                                    refine r_ladd (pc := 290) hX 166 rfl ?_
                                    refine r_lstore (ls' := [(2, 178), (0, q), (0, l), (0, i), (0, lf), (0, n), (0, sl), (1, (x + ((v60 180 ((17 + (5 * l)) + c)) * (v131 197 r285)))), (3, 0), (0, c), (0, (v60 180 ((17 + (5 * l)) + c))), (3, 0)]) (pc := 291) hX 167 rfl (by decide) rfl ?_
                                    refine r_wk (ls' := [(2, 178), (0, q), (0, l), (0, i), (0, lf), (0, n), (0, sl), (1, (x + ((v60 180 ((17 + (5 * l)) + c)) * (v131 197 r285)))), (3, 0), (0, c), (3, 0), (3, 0)]) ⟨Or.inr rfl, Or.inr rfl, Or.inr rfl, Or.inr rfl, Or.inr rfl, Or.inr rfl, Or.inr rfl, Or.inr rfl, Or.inr rfl, Or.inr rfl, Or.inl rfl, Or.inr rfl, trivial⟩ ?_
                                    exact (L293 (x + ((v60 180 ((17 + (5 * l)) + c)) * (v131 197 r285))) v131 (hfr131) (by first | exact hOwI_60 | exact hOwI_131) (hSInv_131) )
                                  · exact (L234   )
                                · refine t_getR (pc := 214) hX 122 rfl rfl rfl fl_X12_33 rfl hG.1 (a_s hG).1 ?_
                                  refine r_bipush (pc := 218) hX 124 rfl (by decide) ?_
                                  refine r_iload (pc := 220) hX 125 rfl rfl ?_
                                  refine r_iadd (pc := 222) hX 126 rfl ?_
                                  refine e_iald (y := (v131 180 (10 + c))) (pc := 223) hX 127 rfl (a_s hG).2.1 (a_s hG).2.2 (by omega) (by omega) (rfl) ?_
                                  have hb223 := hSInv_131.c10 c (by omega) (by omega)
                                  refine r_iconst (pc := 224) hX 128 rfl ?_
                                  first | refine r_icmp_eq (pc := 225) hX 129 (tgt := 234) rfl (by decide) (⟨by omega, by omega⟩) (⟨by omega, by omega⟩) (fun h225 => ?_) (fun h225 => ?_) | refine r_icmp_eq_any (pc := 225) hX 129 (tgt := 234) rfl (by decide) ?_ ?_
                                  · exact (L234   )
                                  · refine r_iload (pc := 228) hX 130 rfl rfl ?_
                                    refine r_iconst (pc := 230) hX 131 rfl ?_
                                    first | refine r_icmp_ne (pc := 231) hX 132 (tgt := 265) rfl (by decide) (⟨by omega, by omega⟩) (⟨by omega, by omega⟩) (fun h231 => ?_) (fun h231 => ?_) | refine r_icmp_ne_any (pc := 231) hX 132 (tgt := 265) rfl (by decide) ?_ ?_
                                    · refine r_lload (pc := 265) hX 150 rfl rfl ?_
                                      refine r_iload (pc := 267) hX 151 rfl rfl ?_
                                      refine r_i2l (pc := 269) hX 152 rfl ⟨by omega, by omega⟩ ?_
                                      refine t_getR (pc := 270) hX 153 rfl rfl rfl fl_X12_87 rfl hG.1 (a_turned hG).1 ?_
                                      refine r_aload_n (pc := 274) hX 155 rfl rfl ?_
                                      refine r_iload_n (pc := 275) hX 156 rfl rfl ?_
                                      refine r_iload_n (pc := 276) hX 157 rfl rfl ?_
                                      refine r_iload (pc := 277) hX 158 rfl rfl ?_
                                      refine r_iconst (pc := 279) hX 159 rfl ?_
                                      refine r_isub (pc := 280) hX 160 rfl ?_
                                      refine r_aload_n (pc := 281) hX 161 rfl rfl ?_
                                      refine r_callVW (as := []) (st := [(0, (n - 1)), (0, i), (0, l), (2, 178), (2, 197), (1, (v60 180 ((17 + (5 * l)) + c))), (1, x)]) (K := 12) (pc := 282) hX 162 rfl mo_m_slot ml_X12_364 im_m_slot se_m_slot (c_slot g v131 ρ Z hG  ) rfl rfl rfl hG.1 (by rw [hRm]; exact ⟨by decide, by decide⟩) (by rw [hRm]; exact ⟨by decide, by decide⟩) (Nat.le_of_ble_eq_true rfl) (fun o282 v282 ρ282 Z282 hq282 _ => ?_)
                                      obtain ⟨rfl, rfl, rfl, r282, rfl, hq282⟩ := hq282
                                      show wp g X F_m_turnsTo 0 0 285 [(2, 178), (0, q), (0, l), (0, i), (0, lf), (0, n), (0, sl), (1, x), (3, 0), (0, c), (0, (v60 180 ((17 + (5 * l)) + c))), (3, 0)] [(0, r282), (0, (n - 1)), (0, i), (0, l), (2, 178), (2, 197), (1, (v60 180 ((17 + (5 * l)) + c))), (1, x)] v131 ρ Z
                                      have z0 := is9 0 (by omega) (by omega)
                                      have z1 := is9 1 (by omega) (by omega)
                                      have z2 := is9 2 (by omega) (by omega)
                                      refine r_callV (as := [(0, l), (0, i), (0, (n - 1)), (0, r282)]) (st := [(2, 197), (1, (v60 180 ((17 + (5 * l)) + c))), (1, x)]) (K := 12) (pc := 285) hX 163 rfl mo_m_place ml_X12_423 im_m_place se_m_place (c_place g v131 ρ Z hG (l) (i) ((n - 1)) (r282) ) rfl rfl rfl hG.1 (by rw [hRm]; exact ⟨by decide, by decide⟩) (by rw [hRm]; exact ⟨by decide, by decide⟩) (Nat.le_of_ble_eq_true rfl) (fun o285 v285 ρ285 Z285 hq285 _ => ?_)
                                      obtain ⟨rfl, rfl, rfl, r285, rfl, hq285⟩ := hq285
                                      show wp g X F_m_turnsTo 0 0 288 [(2, 178), (0, q), (0, l), (0, i), (0, lf), (0, n), (0, sl), (1, x), (3, 0), (0, c), (0, (v60 180 ((17 + (5 * l)) + c))), (3, 0)] [(0, r285), (2, 197), (1, (v60 180 ((17 + (5 * l)) + c))), (1, x)] v131 ρ Z
                                      refine e_lald (y := (v131 197 r285)) (pc := 288) hX 164 rfl (a_turned hG).2.1 (a_turned hG).2.2 (by omega) (by omega) (rfl) ?_
                                      refine r_lmul (pc := 289) hX 165 rfl ?_
                                      refine r_ladd (pc := 290) hX 166 rfl ?_
                                      refine r_lstore (ls' := [(2, 178), (0, q), (0, l), (0, i), (0, lf), (0, n), (0, sl), (1, (x + ((v60 180 ((17 + (5 * l)) + c)) * (v131 197 r285)))), (3, 0), (0, c), (0, (v60 180 ((17 + (5 * l)) + c))), (3, 0)]) (pc := 291) hX 167 rfl (by decide) rfl ?_
                                      refine r_wk (ls' := [(2, 178), (0, q), (0, l), (0, i), (0, lf), (0, n), (0, sl), (1, (x + ((v60 180 ((17 + (5 * l)) + c)) * (v131 197 r285)))), (3, 0), (0, c), (3, 0), (3, 0)]) ⟨Or.inr rfl, Or.inr rfl, Or.inr rfl, Or.inr rfl, Or.inr rfl, Or.inr rfl, Or.inr rfl, Or.inr rfl, Or.inr rfl, Or.inr rfl, Or.inl rfl, Or.inr rfl, trivial⟩ ?_
                                      exact (L293 (x + ((v60 180 ((17 + (5 * l)) + c)) * (v131 197 r285))) v131 (hfr131) (by first | exact hOwI_60 | exact hOwI_131) (hSInv_131) )
                                    · exact (L234   )
                              refine r_wk (ls' := [(2, 178), (0, q), (0, l), (0, i), (0, lf), (0, n), (0, sl), (1, x), (3, 0), (0, c), (0, (v60 180 ((17 + (5 * l)) + c))), (3, 0)]) ⟨Or.inr rfl, Or.inr rfl, Or.inr rfl, Or.inr rfl, Or.inr rfl, Or.inr rfl, Or.inr rfl, Or.inr rfl, Or.inr rfl, Or.inr rfl, Or.inr rfl, Or.inl rfl, trivial⟩ ?_
                              exact (L208  (fun k a b => by
              have z1 := isc k a b
              have z2 := is8 k a b
              by_cases e : k = v131 186 c
              · subst e; omega
              · have := z2 e; omega) )
                            · exact absurd (by decide) h171
                          · refine r_iconst (pc := 162) hX 94 rfl ?_
                            refine r_goto (pc := 163) hX 95 (tgt := 167) rfl (by decide) ?_
                            refine r_istore (ls' := [(2, 178), (0, q), (0, l), (0, i), (0, lf), (0, n), (0, sl), (1, x), (3, 0), (0, c), (0, (v60 180 ((17 + (5 * l)) + c))), (0, 1)]) (pc := 167) hX 97 rfl (by decide) rfl ?_
                            refine r_iload (pc := 169) hX 98 rfl rfl ?_
                            first | refine r_if_eq (pc := 171) hX 99 (tgt := 208) rfl (by decide) (⟨by omega, by omega⟩) (fun h171 => ?_) (fun h171 => ?_) | refine r_if_eq_any (pc := 171) hX 99 (tgt := 208) rfl (by decide) ?_ ?_
                            · exact absurd h171 (by decide)
                            · refine r_lload (pc := 174) hX 100 rfl rfl ?_
                              refine t_getR (pc := 176) hX 101 rfl rfl rfl fl_X12_53 rfl hG.1 (a_own hG).1 ?_
                              refine r_iload (pc := 180) hX 103 rfl rfl ?_
                              refine e_iald (y := (v131 186 c)) (pc := 182) hX 104 rfl (a_own hG).2.1 (a_own hG).2.2 (by omega) (by omega) (rfl) ?_
                              have hb182 := hOwI_131 c (by omega) (by omega)
                              refine r_iload_n (pc := 183) hX 105 rfl rfl ?_
                              first | refine r_icmp_ne (pc := 184) hX 106 (tgt := 201) rfl (by decide) (⟨by omega, by omega⟩) (⟨by omega, by omega⟩) (fun h184 => ?_) (fun h184 => ?_) | refine r_icmp_ne_any (pc := 184) hX 106 (tgt := 201) rfl (by decide) ?_ ?_
                              · refine r_lconst (pc := 201) hX 115 rfl ?_
                                show wp g X F_m_turnsTo 0 0 202 [(2, 178), (0, q), (0, l), (0, i), (0, lf), (0, n), (0, sl), (1, x), (3, 0), (0, c), (0, (v60 180 ((17 + (5 * l)) + c))), (0, 1)] [(1, 0), (1, x)] v131 ρ Z
                                refine r_ladd (pc := 202) hX 116 rfl ?_
                                refine r_lstore (ls' := [(2, 178), (0, q), (0, l), (0, i), (0, lf), (0, n), (0, sl), (1, (x + 0)), (3, 0), (0, c), (0, (v60 180 ((17 + (5 * l)) + c))), (0, 1)]) (pc := 203) hX 117 rfl (by decide) rfl ?_
                                refine r_goto (pc := 205) hX 118 (tgt := 293) rfl (by decide) ?_
                                refine r_wk (ls' := [(2, 178), (0, q), (0, l), (0, i), (0, lf), (0, n), (0, sl), (1, (x + 0)), (3, 0), (0, c), (3, 0), (3, 0)]) ⟨Or.inr rfl, Or.inr rfl, Or.inr rfl, Or.inr rfl, Or.inr rfl, Or.inr rfl, Or.inr rfl, Or.inr rfl, Or.inr rfl, Or.inr rfl, Or.inl rfl, Or.inl rfl, trivial⟩ ?_
                                exact (L293 (x + 0) v131 (hfr131) (by first | exact hOwI_60 | exact hOwI_131) (hSInv_131) )
                              · refine r_iload (pc := 187) hX 107 rfl rfl ?_
                                refine r_i2l (pc := 189) hX 108 rfl ⟨by omega, by omega⟩ ?_
                                refine r_iload (pc := 190) hX 109 rfl rfl ?_
                                refine r_iconst (pc := 192) hX 110 rfl ?_
                                refine r_isub (pc := 193) hX 111 rfl ?_
                                refine r_callS (as := [(0, (n - 1))]) (st := [(1, (v60 180 ((17 + (5 * l)) + c))), (1, x)]) (pc := 194) hX 112 rfl mo_m_twelves ml_X12_353 stt_m_twelves (c_twelves g v131 ρ Z hG ((n - 1)) (by omega)) rfl (by rw [hRm]; exact ⟨by decide, by decide⟩) (by rw [hRm]; exact ⟨by decide, by decide⟩) (Nat.le_of_ble_eq_true rfl) (fun o194 v194 ρ194 Z194 hq194 _ => ?_)
                                obtain ⟨rfl, rfl, rfl, r194, rfl, hq194⟩ := hq194
                                show wp g X F_m_turnsTo 0 0 197 [(2, 178), (0, q), (0, l), (0, i), (0, lf), (0, n), (0, sl), (1, x), (3, 0), (0, c), (0, (v60 180 ((17 + (5 * l)) + c))), (0, 1)] [(1, r194), (1, (v60 180 ((17 + (5 * l)) + c))), (1, x)] v131 ρ Z
                                refine r_lmul (pc := 197) hX 113 rfl ?_
                                refine r_goto (pc := 198) hX 114 (tgt := 202) rfl (by decide) ?_
                                refine r_ladd (pc := 202) hX 116 rfl ?_
                                refine r_lstore (ls' := [(2, 178), (0, q), (0, l), (0, i), (0, lf), (0, n), (0, sl), (1, (x + ((v60 180 ((17 + (5 * l)) + c)) * r194))), (3, 0), (0, c), (0, (v60 180 ((17 + (5 * l)) + c))), (0, 1)]) (pc := 203) hX 117 rfl (by decide) rfl ?_
                                refine r_goto (pc := 205) hX 118 (tgt := 293) rfl (by decide) ?_
                                refine r_wk (ls' := [(2, 178), (0, q), (0, l), (0, i), (0, lf), (0, n), (0, sl), (1, (x + ((v60 180 ((17 + (5 * l)) + c)) * r194))), (3, 0), (0, c), (3, 0), (3, 0)]) ⟨Or.inr rfl, Or.inr rfl, Or.inr rfl, Or.inr rfl, Or.inr rfl, Or.inr rfl, Or.inr rfl, Or.inr rfl, Or.inr rfl, Or.inr rfl, Or.inl rfl, Or.inl rfl, trivial⟩ ?_
                                exact (L293 (x + ((v60 180 ((17 + (5 * l)) + c)) * r194)) v131 (hfr131) (by first | exact hOwI_60 | exact hOwI_131) (hSInv_131) )
                      first | refine r_if_lt (pc := 103) hX 60 (tgt := 131) rfl (by decide) (⟨by omega, by omega⟩) (fun h103 => ?_) (fun h103 => ?_) | refine r_if_lt_any (pc := 103) hX 60 (tgt := 131) rfl (by decide) ?_ ?_
                      · exact (L131  v93 ((hfr60).tr hfr93 (by decide) (by decide)) (by first | exact hOwI_93 | (rw [up_f (by decide)]; exact hOwI_93)) (hSInv_93) (fun k a b => by
              have z := hq93 k a b
              first | omega | (by_cases e : k = v93 186 c; subst e; rw [up_s]; omega; rw [up_k e]; omega)) (fun k a b e => by
              have z := hq93 k a b
              first | omega | (rw [up_f (by decide)] at e; rw [up_k e]; omega)) )
                      · refine t_getR (pc := 106) hX 61 rfl rfl rfl fl_X12_50 rfl hG.1 (a_scores hG).1 ?_
                        refine t_getR (pc := 110) hX 63 rfl rfl rfl fl_X12_53 rfl hG.1 (a_own hG).1 ?_
                        refine r_iload (pc := 114) hX 65 rfl rfl ?_
                        refine e_iald (y := (v93 186 c)) (pc := 116) hX 66 rfl (a_own hG).2.1 (a_own hG).2.2 (by omega) (by omega) (rfl) ?_
                        have hb116 := hOwI_93 c (by omega) (by omega)
                        refine r_dup2i (pc := 117) hX 67 rfl (show (0 : Nat) ≠ 1 by decide) (show (2 : Nat) ≠ 1 by decide) ?_
                        refine e_iald (y := (v93 185 (v93 186 c))) (pc := 118) hX 68 rfl (a_scores hG).2.1 (a_scores hG).2.2 (by omega) (by omega) (rfl) ?_
                        refine t_getR (pc := 119) hX 69 rfl rfl rfl fl_X12_33 rfl hG.1 (a_s hG).1 ?_
                        refine r_bipush (pc := 123) hX 71 rfl (by decide) ?_
                        refine r_iload (pc := 125) hX 72 rfl rfl ?_
                        refine r_iadd (pc := 127) hX 73 rfl ?_
                        refine e_iald (y := (v93 180 (6 + c))) (pc := 128) hX 74 rfl (a_s hG).2.1 (a_s hG).2.2 (by omega) (by omega) (rfl) ?_
                        have hb128 := hSInv_93.c6 c (by omega) (by omega)
                        refine r_iadd (pc := 129) hX 75 rfl ?_
                        refine e_iast (pc := 130) hX 76 rfl (a_scores hG).2.1 (a_scores hG).2.2 (by decide) (by omega) (by omega) ?_
                        exact (L131  (up v93 185 (v93 186 c) ((v93 185 (v93 186 c)) + (v93 180 (6 + c)))) (((hfr60).tr hfr93 (by decide) (by decide)).arr (r := 185) (by decide) (by decide)) (by first | exact hOwI_93 | (rw [up_f (by decide)]; exact hOwI_93)) (by rw [up_f (by decide)]; exact hSInv_93) (fun k a b => by
              have z := hq93 k a b
              first | omega | (by_cases e : k = v93 186 c; subst e; rw [up_s]; omega; rw [up_k e]; omega)) (fun k a b e => by
              have z := hq93 k a b
              first | omega | (rw [up_f (by decide)] at e; rw [up_k e]; omega)) )
                    · refine r_goto (pc := 87) hX 52 (tgt := 293) rfl (by decide) ?_
                      refine r_wk (ls' := [(2, 178), (0, q), (0, l), (0, i), (0, lf), (0, n), (0, sl), (1, x), (3, 0), (0, c), (3, 0), (3, 0)]) ⟨Or.inr rfl, Or.inr rfl, Or.inr rfl, Or.inr rfl, Or.inr rfl, Or.inr rfl, Or.inr rfl, Or.inr rfl, Or.inr rfl, Or.inr rfl, Or.inl rfl, Or.inr rfl, trivial⟩ ?_
                      exact (L293 x v60 (hfr60) (by first | exact hOwI_60 | exact hOwI_131) (hSInv_60) )
              exact (L60 _ 0 0 v46 (hfr46) (hOwI_46) (hSInv_46) (by omega) (Nat.lt_succ_self _))
        exact (L46 _ 0 v36 (hfr36) (hOwI_36) (hSInv_36) (by omega) (Nat.lt_succ_self _))
  exact (L36 _ 1 (up (up v1 186 ((v1 180 (36 + q)) - 1) (-1)) 186 (v1 201 i) q) ((((Fr.rf).tr hfr1 (by decide) (by decide)).arr (r := 186) (by decide) (by decide)).arr (r := 186) (by decide) (by decide)) (OwI.st (OwI.st hq1.2.1 (by omega) (by omega) (by omega)) (by omega) (by omega) (by omega)) (by rw [up_f (by decide), up_f (by decide)]; exact hSInv_1) (by omega) (Nat.lt_succ_self _))
set_option maxHeartbeats 4000000 in
set_option maxRecDepth 100000 in
theorem c_took (g : Gp) (v ρ : Mv) (Z : Mz) (hG : GM ρ Z) (q : Int) (hq : inR q) (ht : -1 ≤ v 178 45 ∧ v 178 45 ≤ 3) : Ok g 2 0 0 F_m_took [(2, 178), (0, q)] v ρ Z (fun o v' ρ' Z' => ρ = ρ' ∧ Z = Z' ∧ Fr [] [0] v v' ∧ ∃ r : Int, o = some (0, r) ∧ True) := by
  refine Ok.of mo_m_took (Nat.le_of_ble_eq_true rfl) ?_
  intro X hX hRm hxn hQ
  show wp g X F_m_took 0 0 0 [(2, 178), (0, q)] [] v ρ Z
  refine r_aload_n (pc := 0) hX 0 rfl rfl ?_
  refine r_iconst (pc := 1) hX 1 rfl ?_
  refine r_putI (pc := 2) hX 2 rfl fl_X12_1 rfl (fun _ h => by cases h; rfl) hG.1 (by decide) ?_
  refine r_iload_n (pc := 5) hX 3 rfl rfl ?_
  refine r_iconst (pc := 6) hX 4 rfl ?_
  refine t_getI (y := (v 178 45)) (pc := 7) hX 5 rfl rfl rfl fl_X12_108 rfl hG.1 ((up_k (by decide)).trans (rfl)) ?_
  refine r_iconst (pc := 11) hX 7 rfl ?_
  refine r_isub (pc := 12) hX 8 rfl ?_
  refine r_callS (as := [(0, q), (0, 0), (0, ((v 178 45) - 1))]) (st := []) (pc := 13) hX 9 rfl mo_m_isIn ml_X12_222 stt_m_isIn (c_isIn g (up v 178 0 0) ρ Z hG (q) (0) (((v 178 45) - 1)) (by omega) (by omega) (by omega)) rfl (by rw [hRm]; exact ⟨by decide, by decide⟩) (by rw [hRm]; exact ⟨by decide, by decide⟩) (Nat.le_of_ble_eq_true rfl) (fun o13 v13 ρ13 Z13 hq13 _ => ?_)
  obtain ⟨rfl, rfl, rfl, r13, rfl, hq13⟩ := hq13
  try simp only [up_f (show (180 : Int) ≠ 178 by decide)] at hq13
  show wp g X F_m_took 0 0 16 [(2, 178), (0, q)] [(0, r13)] (up v 178 0 0) ρ Z
  first | refine r_if_eq (pc := 16) hX 10 (tgt := 28) rfl (by decide) (⟨by omega, by omega⟩) (fun h16 => ?_) (fun h16 => ?_) | refine r_if_eq_any (pc := 16) hX 10 (tgt := 28) rfl (by decide) ?_ ?_
  · refine r_iconst (pc := 28) hX 16 rfl ?_
    exact r_iret (pc := 29) hX 17 hQ rfl rfl (Nat.le_refl 0) (Nat.le_refl 0) ⟨rfl, rfl, (Fr.rf).fld (k := 0) (by decide), (-1), rfl, trivial⟩
  · refine t_getR (pc := 19) hX 11 rfl rfl rfl fl_X12_105 rfl hG.1 (a_tookRow hG).1 ?_
    refine r_iload_n (pc := 23) hX 13 rfl rfl ?_
    refine e_iald (y := (v 203 q)) (pc := 24) hX 14 rfl (a_tookRow hG).2.1 (a_tookRow hG).2.2 (by omega) (by omega) ((up_r (by decide)).trans (rfl)) ?_
    refine r_goto (pc := 25) hX 15 (tgt := 29) rfl (by decide) ?_
    exact r_iret (pc := 29) hX 17 hQ rfl rfl (Nat.le_refl 0) (Nat.le_refl 0) ⟨rfl, rfl, (Fr.rf).fld (k := 0) (by decide), (v 203 q), rfl, trivial⟩
set_option maxHeartbeats 4000000 in
set_option maxRecDepth 100000 in
theorem c_car (g : Gp) (v ρ : Mv) (Z : Mz) (hG : GM ρ Z) (i : Int) (hS : SInv (v 180)) (hi : inR i) : Ok g 2 0 0 F_m_car [(2, 178), (0, i)] v ρ Z (fun o v' ρ' Z' => ρ = ρ' ∧ Z = Z' ∧ Fr [] [0] v v' ∧ ∃ r : Int, o = some (0, r) ∧ True) := by
  refine Ok.of mo_m_car (Nat.le_of_ble_eq_true rfl) ?_
  intro X hX hRm hxn hQ
  show wp g X F_m_car 0 0 0 [(2, 178), (0, i)] [] v ρ Z
  have hb35 := hS.c35
  refine r_aload_n (pc := 0) hX 0 rfl rfl ?_
  refine r_iconst (pc := 1) hX 1 rfl ?_
  refine r_putI (pc := 2) hX 2 rfl fl_X12_1 rfl (fun _ h => by cases h; rfl) hG.1 (by decide) ?_
  refine r_iload_n (pc := 5) hX 3 rfl rfl ?_
  refine r_iconst (pc := 6) hX 4 rfl ?_
  refine t_getR (pc := 7) hX 5 rfl rfl rfl fl_X12_33 rfl hG.1 (a_s hG).1 ?_
  refine r_bipush (pc := 11) hX 7 rfl (by decide) ?_
  refine e_iald (y := (v 180 35)) (pc := 13) hX 8 rfl (a_s hG).2.1 (a_s hG).2.2 (by omega) (by omega) ((up_r (by decide)).trans (rfl)) ?_
  have hb13 := hS.c35
  refine r_iconst (pc := 14) hX 9 rfl ?_
  refine r_isub (pc := 15) hX 10 rfl ?_
  refine r_callS (as := [(0, i), (0, 0), (0, ((v 180 35) - 1))]) (st := []) (pc := 16) hX 11 rfl mo_m_isIn ml_X12_222 stt_m_isIn (c_isIn g (up v 178 0 0) ρ Z hG (i) (0) (((v 180 35) - 1)) (by omega) (by omega) (by omega)) rfl (by rw [hRm]; exact ⟨by decide, by decide⟩) (by rw [hRm]; exact ⟨by decide, by decide⟩) (Nat.le_of_ble_eq_true rfl) (fun o16 v16 ρ16 Z16 hq16 _ => ?_)
  obtain ⟨rfl, rfl, rfl, r16, rfl, hq16⟩ := hq16
  try simp only [up_f (show (180 : Int) ≠ 178 by decide)] at hq16
  show wp g X F_m_car 0 0 19 [(2, 178), (0, i)] [(0, r16)] (up v 178 0 0) ρ Z
  first | refine r_if_ne (pc := 19) hX 12 (tgt := 25) rfl (by decide) (⟨by omega, by omega⟩) (fun h19 => ?_) (fun h19 => ?_) | refine r_if_ne_any (pc := 19) hX 12 (tgt := 25) rfl (by decide) ?_ ?_
  · refine t_getR (pc := 25) hX 15 rfl rfl rfl fl_X12_33 rfl hG.1 (a_s hG).1 ?_
    refine r_bipush (pc := 29) hX 17 rfl (by decide) ?_
    refine r_iload_n (pc := 31) hX 18 rfl rfl ?_
    refine r_iadd (pc := 32) hX 19 rfl ?_
    refine e_iald (y := (v 180 (45 + i))) (pc := 33) hX 20 rfl (a_s hG).2.1 (a_s hG).2.2 (by omega) (by omega) ((up_r (by decide)).trans (rfl)) ?_
    have hb33 := hS.c45 i (by omega) (by omega)
    refine r_iconst (pc := 34) hX 21 rfl ?_
    first | refine r_icmp_ne (pc := 35) hX 22 (tgt := 42) rfl (by decide) (⟨by omega, by omega⟩) (⟨by omega, by omega⟩) (fun h35 => ?_) (fun h35 => ?_) | refine r_icmp_ne_any (pc := 35) hX 22 (tgt := 42) rfl (by decide) ?_ ?_
    · refine t_getR (pc := 42) hX 25 rfl rfl rfl fl_X12_33 rfl hG.1 (a_s hG).1 ?_
      refine r_bipush (pc := 46) hX 27 rfl (by decide) ?_
      refine r_iload_n (pc := 48) hX 28 rfl rfl ?_
      refine r_iadd (pc := 49) hX 29 rfl ?_
      refine e_iald (y := (v 180 (45 + i))) (pc := 50) hX 30 rfl (a_s hG).2.1 (a_s hG).2.2 (by omega) (by omega) ((up_r (by decide)).trans (rfl)) ?_
      have hb50 := hS.c45 i (by omega) (by omega)
      exact r_iret (pc := 51) hX 31 hQ rfl rfl (Nat.le_refl 0) (Nat.le_refl 0) ⟨rfl, rfl, (Fr.rf).fld (k := 0) (by decide), (v 180 (45 + i)), rfl, trivial⟩
    · refine r_iconst (pc := 38) hX 23 rfl ?_
      refine r_goto (pc := 39) hX 24 (tgt := 51) rfl (by decide) ?_
      exact r_iret (pc := 51) hX 31 hQ rfl rfl (Nat.le_refl 0) (Nat.le_refl 0) ⟨rfl, rfl, (Fr.rf).fld (k := 0) (by decide), (-1), rfl, trivial⟩
  · refine r_bipush (pc := 22) hX 13 rfl (by decide) ?_
    exact r_iret (pc := 24) hX 14 hQ rfl rfl (Nat.le_refl 0) (Nat.le_refl 0) ⟨rfl, rfl, (Fr.rf).fld (k := 0) (by decide), (-2), rfl, trivial⟩
set_option maxHeartbeats 4000000 in
set_option maxRecDepth 100000 in
theorem c_row (g : Gp) (v ρ : Mv) (Z : Mz) (hG : GM ρ Z)  (hS : SInv (v 180)) : Ok g 1 0 0 F_m_row [(2, 178)] v ρ Z (fun o v' ρ' Z' => ρ = ρ' ∧ Z = Z' ∧ Fr [] [0] v v' ∧ ∃ r : Int, o = some (0, r) ∧ True) := by
  refine Ok.of mo_m_row (Nat.le_of_ble_eq_true rfl) ?_
  intro X hX hRm hxn hQ
  show wp g X F_m_row 0 0 0 [(2, 178), (3, 0), (3, 0), (3, 0)] [] v ρ Z
  have hb35 := hS.c35
  refine r_aload_n (pc := 0) hX 0 rfl rfl ?_
  refine r_iconst (pc := 1) hX 1 rfl ?_
  refine r_putI (pc := 2) hX 2 rfl fl_X12_1 rfl (fun _ h => by cases h; rfl) hG.1 (by decide) ?_
  refine r_iconst (pc := 5) hX 3 rfl ?_
  refine r_istore_n (ls' := [(2, 178), (0, 0), (3, 0), (3, 0)]) (pc := 6) hX 4 rfl (by decide) rfl ?_
  refine r_iconst (pc := 7) hX 5 rfl ?_
  refine r_istore_n (ls' := [(2, 178), (0, 0), (0, 0), (3, 0)]) (pc := 8) hX 6 rfl (by decide) rfl ?_
  refine r_iconst (pc := 9) hX 7 rfl ?_
  refine r_istore_n (ls' := [(2, 178), (0, 0), (0, 0), (0, 0)]) (pc := 10) hX 8 rfl (by decide) rfl ?_
  have L11 : ∀ (n11 : Nat) (b n i : Int) , (0 ≤ i ∧ i ≤ v 180 35 ∧ 0 ≤ n ∧ n ≤ i ∧ 0 ≤ b ∧ b ≤ i) → (v 180 35 - i).toNat < n11 → wp g X F_m_row 0 0 11 [(2, 178), (0, b), (0, n), (0, i)] [] (up v 178 0 0) ρ Z := by
    intro n11
    induction n11 with
    | zero => intro b n i ii hme11; exact absurd hme11 (Nat.not_lt_zero _)
    | succ n11 ih11 =>
      intro b n i ii hme11
      refine r_iload_n (pc := 11) hX 9 rfl rfl ?_
      refine t_getR (pc := 12) hX 10 rfl rfl rfl fl_X12_33 rfl hG.1 (a_s hG).1 ?_
      refine r_bipush (pc := 16) hX 12 rfl (by decide) ?_
      refine e_iald (y := (v 180 35)) (pc := 18) hX 13 rfl (a_s hG).2.1 (a_s hG).2.2 (by omega) (by omega) ((up_r (by decide)).trans (rfl)) ?_
      have hb18 := hS.c35
      first | refine r_icmp_ge (pc := 19) hX 14 (tgt := 91) rfl (by decide) (⟨by omega, by omega⟩) (⟨by omega, by omega⟩) (fun h19 => ?_) (fun h19 => ?_) | refine r_icmp_ge_any (pc := 19) hX 14 (tgt := 91) rfl (by decide) ?_ ?_
      · refine r_iload_n (pc := 91) hX 57 rfl rfl ?_
        exact r_iret (pc := 92) hX 58 hQ rfl rfl (Nat.le_refl 0) (Nat.le_refl 0) ⟨rfl, rfl, (Fr.rf).fld (k := 0) (by decide), b, rfl, trivial⟩
      · refine t_getR (pc := 22) hX 15 rfl rfl rfl fl_X12_33 rfl hG.1 (a_s hG).1 ?_
        refine r_bipush (pc := 26) hX 17 rfl (by decide) ?_
        refine r_iload_n (pc := 28) hX 18 rfl rfl ?_
        refine r_iadd (pc := 29) hX 19 rfl ?_
        refine e_iald (y := (v 180 (45 + i))) (pc := 30) hX 20 rfl (a_s hG).2.1 (a_s hG).2.2 (by omega) (by omega) ((up_r (by decide)).trans (rfl)) ?_
        have hb30 := hS.c45 i (by omega) (by omega)
        refine r_iconst (pc := 31) hX 21 rfl ?_
        first | refine r_icmp_ne (pc := 32) hX 22 (tgt := 39) rfl (by decide) (⟨by omega, by omega⟩) (⟨by omega, by omega⟩) (fun h32 => ?_) (fun h32 => ?_) | refine r_icmp_ne_any (pc := 32) hX 22 (tgt := 39) rfl (by decide) ?_ ?_
        · refine r_iload_n (pc := 39) hX 25 rfl rfl ?_
          first | refine r_if_le (pc := 40) hX 26 (tgt := 72) rfl (by decide) (⟨by omega, by omega⟩) (fun h40 => ?_) (fun h40 => ?_) | refine r_if_le_any (pc := 40) hX 26 (tgt := 72) rfl (by decide) ?_ ?_
          · refine r_iconst (pc := 72) hX 46 rfl ?_
            refine r_istore_n (ls' := [(2, 178), (0, b), (0, 1), (0, i)]) (pc := 73) hX 47 rfl (by decide) rfl ?_
            refine r_iload_n (pc := 74) hX 48 rfl rfl ?_
            refine r_iload_n (pc := 75) hX 49 rfl rfl ?_
            first | refine r_icmp_le (pc := 76) hX 50 (tgt := 83) rfl (by decide) (⟨by omega, by omega⟩) (⟨by omega, by omega⟩) (fun h76 => ?_) (fun h76 => ?_) | refine r_icmp_le_any (pc := 76) hX 50 (tgt := 83) rfl (by decide) ?_ ?_
            · refine r_iload_n (pc := 83) hX 53 rfl rfl ?_
              refine r_istore_n (ls' := [(2, 178), (0, b), (0, 1), (0, i)]) (pc := 84) hX 54 rfl (by decide) rfl ?_
              refine r_iinc (ls' := [(2, 178), (0, b), (0, 1), (0, (i + 1))]) (pc := 85) hX 55 rfl rfl (by decide) rfl ?_
              refine r_goto (pc := 88) hX 56 (tgt := 11) rfl (by decide) ?_
              exact (ih11 b 1 (i + 1) (by omega) (by omega))
            · refine r_iload_n (pc := 79) hX 51 rfl rfl ?_
              refine r_goto (pc := 80) hX 52 (tgt := 84) rfl (by decide) ?_
              refine r_istore_n (ls' := [(2, 178), (0, 1), (0, 1), (0, i)]) (pc := 84) hX 54 rfl (by decide) rfl ?_
              refine r_iinc (ls' := [(2, 178), (0, 1), (0, 1), (0, (i + 1))]) (pc := 85) hX 55 rfl rfl (by decide) rfl ?_
              refine r_goto (pc := 88) hX 56 (tgt := 11) rfl (by decide) ?_
              exact (ih11 1 1 (i + 1) (by omega) (by omega))
          · refine t_getR (pc := 43) hX 27 rfl rfl rfl fl_X12_33 rfl hG.1 (a_s hG).1 ?_
            refine r_bipush (pc := 47) hX 29 rfl (by decide) ?_
            refine r_iload_n (pc := 49) hX 30 rfl rfl ?_
            refine r_iadd (pc := 50) hX 31 rfl ?_
            refine e_iald (y := (v 180 (45 + i))) (pc := 51) hX 32 rfl (a_s hG).2.1 (a_s hG).2.2 (by omega) (by omega) ((up_r (by decide)).trans (rfl)) ?_
            have hb51 := hS.c45 i (by omega) (by omega)
            refine t_getR (pc := 52) hX 33 rfl rfl rfl fl_X12_33 rfl hG.1 (a_s hG).1 ?_
            refine r_bipush (pc := 56) hX 35 rfl (by decide) ?_
            refine r_iload_n (pc := 58) hX 36 rfl rfl ?_
            refine r_iadd (pc := 59) hX 37 rfl ?_
            refine r_iconst (pc := 60) hX 38 rfl ?_
            refine r_isub (pc := 61) hX 39 rfl ?_
            refine e_iald (y := (v 180 ((45 + i) - 1))) (pc := 62) hX 40 rfl (a_s hG).2.1 (a_s hG).2.2 (by omega) (by omega) ((up_r (by decide)).trans (rfl)) ?_
            have hb62 := hS.c45 (i - 1) (by omega) (by omega)
            rw [show 45 + (i - 1) = 45 + i - 1 by omega] at hb62
            first | refine r_icmp_ne (pc := 63) hX 41 (tgt := 72) rfl (by decide) (⟨by omega, by omega⟩) (⟨by omega, by omega⟩) (fun h63 => ?_) (fun h63 => ?_) | refine r_icmp_ne_any (pc := 63) hX 41 (tgt := 72) rfl (by decide) ?_ ?_
            · refine r_iconst (pc := 72) hX 46 rfl ?_
              refine r_istore_n (ls' := [(2, 178), (0, b), (0, 1), (0, i)]) (pc := 73) hX 47 rfl (by decide) rfl ?_
              refine r_iload_n (pc := 74) hX 48 rfl rfl ?_
              refine r_iload_n (pc := 75) hX 49 rfl rfl ?_
              first | refine r_icmp_le (pc := 76) hX 50 (tgt := 83) rfl (by decide) (⟨by omega, by omega⟩) (⟨by omega, by omega⟩) (fun h76 => ?_) (fun h76 => ?_) | refine r_icmp_le_any (pc := 76) hX 50 (tgt := 83) rfl (by decide) ?_ ?_
              · refine r_iload_n (pc := 83) hX 53 rfl rfl ?_
                refine r_istore_n (ls' := [(2, 178), (0, b), (0, 1), (0, i)]) (pc := 84) hX 54 rfl (by decide) rfl ?_
                refine r_iinc (ls' := [(2, 178), (0, b), (0, 1), (0, (i + 1))]) (pc := 85) hX 55 rfl rfl (by decide) rfl ?_
                refine r_goto (pc := 88) hX 56 (tgt := 11) rfl (by decide) ?_
                exact (ih11 b 1 (i + 1) (by omega) (by omega))
              · refine r_iload_n (pc := 79) hX 51 rfl rfl ?_
                refine r_goto (pc := 80) hX 52 (tgt := 84) rfl (by decide) ?_
                refine r_istore_n (ls' := [(2, 178), (0, 1), (0, 1), (0, i)]) (pc := 84) hX 54 rfl (by decide) rfl ?_
                refine r_iinc (ls' := [(2, 178), (0, 1), (0, 1), (0, (i + 1))]) (pc := 85) hX 55 rfl rfl (by decide) rfl ?_
                refine r_goto (pc := 88) hX 56 (tgt := 11) rfl (by decide) ?_
                exact (ih11 1 1 (i + 1) (by omega) (by omega))
            · refine r_iload_n (pc := 66) hX 42 rfl rfl ?_
              refine r_iconst (pc := 67) hX 43 rfl ?_
              refine r_iadd (pc := 68) hX 44 rfl ?_
              refine r_goto (pc := 69) hX 45 (tgt := 73) rfl (by decide) ?_
              refine r_istore_n (ls' := [(2, 178), (0, b), (0, (n + 1)), (0, i)]) (pc := 73) hX 47 rfl (by decide) rfl ?_
              refine r_iload_n (pc := 74) hX 48 rfl rfl ?_
              refine r_iload_n (pc := 75) hX 49 rfl rfl ?_
              first | refine r_icmp_le (pc := 76) hX 50 (tgt := 83) rfl (by decide) (⟨by omega, by omega⟩) (⟨by omega, by omega⟩) (fun h76 => ?_) (fun h76 => ?_) | refine r_icmp_le_any (pc := 76) hX 50 (tgt := 83) rfl (by decide) ?_ ?_
              · refine r_iload_n (pc := 83) hX 53 rfl rfl ?_
                refine r_istore_n (ls' := [(2, 178), (0, b), (0, (n + 1)), (0, i)]) (pc := 84) hX 54 rfl (by decide) rfl ?_
                refine r_iinc (ls' := [(2, 178), (0, b), (0, (n + 1)), (0, (i + 1))]) (pc := 85) hX 55 rfl rfl (by decide) rfl ?_
                refine r_goto (pc := 88) hX 56 (tgt := 11) rfl (by decide) ?_
                exact (ih11 b (n + 1) (i + 1) (by omega) (by omega))
              · refine r_iload_n (pc := 79) hX 51 rfl rfl ?_
                refine r_goto (pc := 80) hX 52 (tgt := 84) rfl (by decide) ?_
                refine r_istore_n (ls' := [(2, 178), (0, (n + 1)), (0, (n + 1)), (0, i)]) (pc := 84) hX 54 rfl (by decide) rfl ?_
                refine r_iinc (ls' := [(2, 178), (0, (n + 1)), (0, (n + 1)), (0, (i + 1))]) (pc := 85) hX 55 rfl rfl (by decide) rfl ?_
                refine r_goto (pc := 88) hX 56 (tgt := 11) rfl (by decide) ?_
                exact (ih11 (n + 1) (n + 1) (i + 1) (by omega) (by omega))
        · refine r_iconst (pc := 35) hX 23 rfl ?_
          refine r_goto (pc := 36) hX 24 (tgt := 73) rfl (by decide) ?_
          refine r_istore_n (ls' := [(2, 178), (0, b), (0, 0), (0, i)]) (pc := 73) hX 47 rfl (by decide) rfl ?_
          refine r_iload_n (pc := 74) hX 48 rfl rfl ?_
          refine r_iload_n (pc := 75) hX 49 rfl rfl ?_
          first | refine r_icmp_le (pc := 76) hX 50 (tgt := 83) rfl (by decide) (⟨by omega, by omega⟩) (⟨by omega, by omega⟩) (fun h76 => ?_) (fun h76 => ?_) | refine r_icmp_le_any (pc := 76) hX 50 (tgt := 83) rfl (by decide) ?_ ?_
          · refine r_iload_n (pc := 83) hX 53 rfl rfl ?_
            refine r_istore_n (ls' := [(2, 178), (0, b), (0, 0), (0, i)]) (pc := 84) hX 54 rfl (by decide) rfl ?_
            refine r_iinc (ls' := [(2, 178), (0, b), (0, 0), (0, (i + 1))]) (pc := 85) hX 55 rfl rfl (by decide) rfl ?_
            refine r_goto (pc := 88) hX 56 (tgt := 11) rfl (by decide) ?_
            exact (ih11 b 0 (i + 1) (by omega) (by omega))
          · refine r_iload_n (pc := 79) hX 51 rfl rfl ?_
            refine r_goto (pc := 80) hX 52 (tgt := 84) rfl (by decide) ?_
            refine r_istore_n (ls' := [(2, 178), (0, 0), (0, 0), (0, i)]) (pc := 84) hX 54 rfl (by decide) rfl ?_
            refine r_iinc (ls' := [(2, 178), (0, 0), (0, 0), (0, (i + 1))]) (pc := 85) hX 55 rfl rfl (by decide) rfl ?_
            refine r_goto (pc := 88) hX 56 (tgt := 11) rfl (by decide) ?_
            exact (ih11 0 0 (i + 1) (by omega) (by omega))
  exact (L11 _ 0 0 0 (by omega) (Nat.lt_succ_self _))
