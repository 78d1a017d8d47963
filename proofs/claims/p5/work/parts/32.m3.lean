set_option maxHeartbeats 4000000 in
set_option maxRecDepth 100000 in
theorem c_weighs (g : Gp) (v ρ : Mv) (Z : Mz) (hG : GM ρ Z)  (hS : SInv (v 180)) : Ok g 2 0 0 F_m_weighs [(2, 178)] v ρ Z (fun o v' ρ' Z' => ρ = ρ' ∧ Z = Z' ∧ Fr [189] [] v v' ∧ o = none ∧ (WtN (v 180) (v' 189) (v 180 35).toNat)) := by
  refine Ok.of mo_m_weighs (Nat.le_of_ble_eq_true rfl) ?_
  intro X hX hRm hxn hQ
  show wp g X F_m_weighs 0 0 0 [(2, 178), (3, 0), (3, 0)] [] v ρ Z
  have hb35 := hS.c35
  have hl := hS.lds
  refine r_iconst (pc := 0) hX 0 rfl ?_
  refine r_istore_n (ls' := [(2, 178), (0, 0), (3, 0)]) (pc := 1) hX 1 rfl (by decide) rfl ?_
  have L2 : ∀ (n2 : Nat) (l : Int) (v2 : Mv) , (Fr [189] [] v v2) → (SInv (v2 180)) → (0 ≤ l ∧ l ≤ ldsF (v 180)) → (∀ j, 0 ≤ j → j < l → v2 189 j = wtF (v 180) j (v 180 35).toNat) → (ldsF (v 180) - l).toNat < n2 → wp g X F_m_weighs 0 0 2 [(2, 178), (0, l), (3, 0)] [] v2 ρ Z := by
    intro n2
    induction n2 with
    | zero => intro l v2 hfr2 hSInv_2 il ia hme2; exact absurd hme2 (Nat.not_lt_zero _)
    | succ n2 ih2 =>
      intro l v2 hfr2 hSInv_2 il ia hme2
      have es2 : v2 180 = v 180 := hfr2.1 180 (by decide) (by decide)
      refine r_iload_n (pc := 2) hX 2 rfl rfl ?_
      refine r_aload_n (pc := 3) hX 3 rfl rfl ?_
      refine r_callV (as := []) (st := [(0, l)]) (K := 12) (pc := 4) hX 4 rfl mo_m_lands ml_X12_322 im_m_lands se_m_lands (c_lands g v2 ρ Z hG  (hSInv_2)) rfl rfl rfl hG.1 (by rw [hRm]; exact ⟨by decide, by decide⟩) (by rw [hRm]; exact ⟨by decide, by decide⟩) (Nat.le_of_ble_eq_true rfl) (fun o4 v4 ρ4 Z4 hq4 _ => ?_)
      obtain ⟨rfl, rfl, rfl, r4, rfl, hq4⟩ := hq4
      show wp g X F_m_weighs 0 0 7 [(2, 178), (0, l), (3, 0)] [(0, r4), (0, l)] v2 ρ Z
      rw [es2] at hq4
      first | refine r_icmp_ge (pc := 7) hX 5 (tgt := 82) rfl (by decide) (⟨by omega, by omega⟩) (⟨by omega, by omega⟩) (fun h7 => ?_) (fun h7 => ?_) | refine r_icmp_ge_any (pc := 7) hX 5 (tgt := 82) rfl (by decide) ?_ ?_
      · exact r_vret (pc := 82) hX 52 hQ rfl rfl (Nat.le_refl 0) (Nat.le_refl 0) ⟨rfl, rfl, hfr2, rfl, (fun j h0 h1 => ia j h0 (by omega))⟩
      · refine t_getR (pc := 10) hX 6 rfl rfl rfl fl_X12_62 rfl hG.1 (a_weight hG).1 ?_
        refine r_iload_n (pc := 14) hX 8 rfl rfl ?_
        refine t_getR (pc := 15) hX 9 rfl rfl rfl fl_X12_33 rfl hG.1 (a_s hG).1 ?_
        refine r_bipush (pc := 19) hX 11 rfl (by decide) ?_
        refine r_iload_n (pc := 21) hX 12 rfl rfl ?_
        refine r_iadd (pc := 22) hX 13 rfl ?_
        refine e_iald (y := (v2 180 (14 + l))) (pc := 23) hX 14 rfl (a_s hG).2.1 (a_s hG).2.2 (by omega) (by omega) (rfl) ?_
        have hb23 := hSInv_2.c14 l (by omega) (by omega)
        refine r_i2l (pc := 24) hX 15 rfl ⟨by omega, by omega⟩ ?_
        refine e_last (pc := 25) hX 16 rfl (a_weight hG).2.1 (a_weight hG).2.2 (by decide) (by omega) (by omega) ?_
        refine r_iconst (pc := 26) hX 17 rfl ?_
        refine r_istore_n (ls' := [(2, 178), (0, l), (0, 0)]) (pc := 27) hX 18 rfl (by decide) rfl ?_
        have L28 : ∀ (n28 : Nat) (i : Int) (v28 : Mv) , (Fr [189] [] v v28) → (SInv (v28 180)) → (0 ≤ i ∧ i ≤ v 180 35) → (v28 189 l = wtF (v 180) l i.toNat) → (∀ j, 0 ≤ j → j < l → v28 189 j = wtF (v 180) j (v 180 35).toNat) → (v 180 35 - i).toNat < n28 → wp g X F_m_weighs 0 0 28 [(2, 178), (0, l), (0, i)] [] v28 ρ Z := by
          intro n28
          induction n28 with
          | zero => intro i v28 hfr28 hSInv_28 ii iw ib hme28; exact absurd hme28 (Nat.not_lt_zero _)
          | succ n28 ih28 =>
            intro i v28 hfr28 hSInv_28 ii iw ib hme28
            have es28 : v28 180 = v 180 := hfr28.1 180 (by decide) (by decide)
            refine r_iload_n (pc := 28) hX 19 rfl rfl ?_
            refine t_getR (pc := 29) hX 20 rfl rfl rfl fl_X12_33 rfl hG.1 (a_s hG).1 ?_
            refine r_bipush (pc := 33) hX 22 rfl (by decide) ?_
            refine e_iald (y := (v28 180 35)) (pc := 35) hX 23 rfl (a_s hG).2.1 (a_s hG).2.2 (by omega) (by omega) (rfl) ?_
            have hb35 := hSInv_28.c35
            first | refine r_icmp_ge (pc := 36) hX 24 (tgt := 76) rfl (by decide) (⟨by omega, by omega⟩) (⟨by omega, by omega⟩) (fun h36 => ?_) (fun h36 => ?_) | refine r_icmp_ge_any (pc := 36) hX 24 (tgt := 76) rfl (by decide) ?_ ?_
            · refine r_iinc (ls' := [(2, 178), (0, (l + 1)), (0, i)]) (pc := 76) hX 50 rfl rfl (by decide) rfl ?_
              refine r_goto (pc := 79) hX 51 (tgt := 2) rfl (by decide) ?_
              refine r_wk (ls' := [(2, 178), (0, (l + 1)), (3, 0)]) ⟨Or.inr rfl, Or.inr rfl, Or.inl rfl, trivial⟩ ?_
              exact (ih2 (l + 1) v28 (hfr28) (hSInv_28) (by omega) (fun j h0 h1 => by
            by_cases e : j = l
            · subst e; rw [iw, show i = v 180 35 by rw [es28] at *; omega]
            · exact ib j h0 (by omega)) (by omega))
            · refine t_getR (pc := 39) hX 25 rfl rfl rfl fl_X12_62 rfl hG.1 (a_weight hG).1 ?_
              refine r_iload_n (pc := 43) hX 27 rfl rfl ?_
              refine r_dup2i (pc := 44) hX 28 rfl (show (0 : Nat) ≠ 1 by decide) (show (2 : Nat) ≠ 1 by decide) ?_
              refine e_lald (y := (v28 189 l)) (pc := 45) hX 29 rfl (a_weight hG).2.1 (a_weight hG).2.2 (by omega) (by omega) (rfl) ?_
              refine t_getR (pc := 46) hX 30 rfl rfl rfl fl_X12_33 rfl hG.1 (a_s hG).1 ?_
              refine r_bipush (pc := 50) hX 32 rfl (by decide) ?_
              refine r_iconst (pc := 52) hX 33 rfl ?_
              refine r_iload_n (pc := 53) hX 34 rfl rfl ?_
              refine r_imul (pc := 54) hX 35 rfl ?_
              refine r_iadd (pc := 55) hX 36 rfl ?_
              refine t_getR (pc := 56) hX 37 rfl rfl rfl fl_X12_33 rfl hG.1 (a_s hG).1 ?_
              refine r_bipush (pc := 60) hX 39 rfl (by decide) ?_
              refine r_iload_n (pc := 62) hX 40 rfl rfl ?_
              refine r_iadd (pc := 63) hX 41 rfl ?_
              refine e_iald (y := (v28 180 (45 + i))) (pc := 64) hX 42 rfl (a_s hG).2.1 (a_s hG).2.2 (by omega) (by omega) (rfl) ?_
              have hb64 := hSInv_28.c45 i (by omega) (by omega)
              refine r_iadd (pc := 65) hX 43 rfl ?_
              refine e_iald (y := (v28 180 ((17 + (5 * l)) + (v28 180 (45 + i))))) (pc := 66) hX 44 rfl (a_s hG).2.1 (a_s hG).2.2 (by omega) (by omega) (rfl) ?_
              have hb66 := hSInv_28.c17 l (v28 180 (45 + i)) (by omega) (by omega) (by omega) (by omega)
              refine r_i2l (pc := 67) hX 45 rfl ⟨by omega, by omega⟩ ?_
              refine r_lmul (pc := 68) hX 46 rfl ?_
              refine e_last (pc := 69) hX 47 rfl (a_weight hG).2.1 (a_weight hG).2.2 (by decide) (by omega) (by omega) ?_
              refine r_iinc (ls' := [(2, 178), (0, l), (0, (i + 1))]) (pc := 70) hX 48 rfl rfl (by decide) rfl ?_
              refine r_goto (pc := 73) hX 49 (tgt := 28) rfl (by decide) ?_
              exact (ih28 (i + 1) (up v28 189 l ((v28 189 l) * (v28 180 ((17 + (5 * l)) + (v28 180 (45 + i)))))) ((hfr28).arr (r := 189) (by decide) (by decide)) (by rw [up_f (by decide)]; exact hSInv_28) (by rw [es28] at *; omega) (by rw [up_s, iw, es28, wtF_s (by omega)]) (fun j h0 h1 => by rw [up_k (by omega)]; exact ib j h0 h1) (by rw [es28] at *; omega))
        exact (L28 _ 0 (up v2 189 l (v2 180 (14 + l))) ((hfr2).arr (r := 189) (by decide) (by decide)) (by rw [up_f (by decide)]; exact hSInv_2) (by omega) (by rw [up_s, es2]; rfl) (fun j h0 h1 => by rw [up_k (by omega)]; exact ia j h0 h1) (Nat.lt_succ_self _))
  exact (L2 _ 0 v (Fr.rf) (hS) (by omega) (fun j h0 h1 => by omega) (Nat.lt_succ_self _))
set_option maxHeartbeats 4000000 in
set_option maxRecDepth 100000 in
theorem c_weighsFirst (g : Gp) (v ρ : Mv) (Z : Mz) (hG : GM ρ Z)  (hS : SInv (v 180)) : Ok g 2 0 0 F_m_weighsFirst [(2, 178)] v ρ Z (fun o v' ρ' Z' => ρ = ρ' ∧ Z = Z' ∧ Fr [189] [] v v' ∧ o = none ∧ (WtN (v 180) (v' 189) 0)) := by
  refine Ok.of mo_m_weighsFirst (Nat.le_of_ble_eq_true rfl) ?_
  intro X hX hRm hxn hQ
  show wp g X F_m_weighsFirst 0 0 0 [(2, 178), (3, 0)] [] v ρ Z
  have hl := hS.lds
  refine r_iconst (pc := 0) hX 0 rfl ?_
  refine r_istore_n (ls' := [(2, 178), (0, 0)]) (pc := 1) hX 1 rfl (by decide) rfl ?_
  have L2 : ∀ (n2 : Nat) (l : Int) (v2 : Mv) , (Fr [189] [] v v2) → (SInv (v2 180)) → (0 ≤ l ∧ l ≤ ldsF (v 180)) → (∀ j, 0 ≤ j → j < l → v2 189 j = wtF (v 180) j 0) → (ldsF (v 180) - l).toNat < n2 → wp g X F_m_weighsFirst 0 0 2 [(2, 178), (0, l)] [] v2 ρ Z := by
    intro n2
    induction n2 with
    | zero => intro l v2 hfr2 hSInv_2 il ia hme2; exact absurd hme2 (Nat.not_lt_zero _)
    | succ n2 ih2 =>
      intro l v2 hfr2 hSInv_2 il ia hme2
      have es2 : v2 180 = v 180 := hfr2.1 180 (by decide) (by decide)
      refine r_iload_n (pc := 2) hX 2 rfl rfl ?_
      refine r_aload_n (pc := 3) hX 3 rfl rfl ?_
      refine r_callV (as := []) (st := [(0, l)]) (K := 12) (pc := 4) hX 4 rfl mo_m_lands ml_X12_322 im_m_lands se_m_lands (c_lands g v2 ρ Z hG  (hSInv_2)) rfl rfl rfl hG.1 (by rw [hRm]; exact ⟨by decide, by decide⟩) (by rw [hRm]; exact ⟨by decide, by decide⟩) (Nat.le_of_ble_eq_true rfl) (fun o4 v4 ρ4 Z4 hq4 _ => ?_)
      obtain ⟨rfl, rfl, rfl, r4, rfl, hq4⟩ := hq4
      show wp g X F_m_weighsFirst 0 0 7 [(2, 178), (0, l)] [(0, r4), (0, l)] v2 ρ Z
      rw [es2] at hq4
      first | refine r_icmp_ge (pc := 7) hX 5 (tgt := 32) rfl (by decide) (⟨by omega, by omega⟩) (⟨by omega, by omega⟩) (fun h7 => ?_) (fun h7 => ?_) | refine r_icmp_ge_any (pc := 7) hX 5 (tgt := 32) rfl (by decide) ?_ ?_
      · exact r_vret (pc := 32) hX 19 hQ rfl rfl (Nat.le_refl 0) (Nat.le_refl 0) ⟨rfl, rfl, hfr2, rfl, (fun j h0 h1 => ia j h0 (by omega))⟩
      · refine t_getR (pc := 10) hX 6 rfl rfl rfl fl_X12_62 rfl hG.1 (a_weight hG).1 ?_
        refine r_iload_n (pc := 14) hX 8 rfl rfl ?_
        refine t_getR (pc := 15) hX 9 rfl rfl rfl fl_X12_33 rfl hG.1 (a_s hG).1 ?_
        refine r_bipush (pc := 19) hX 11 rfl (by decide) ?_
        refine r_iload_n (pc := 21) hX 12 rfl rfl ?_
        refine r_iadd (pc := 22) hX 13 rfl ?_
        refine e_iald (y := (v2 180 (14 + l))) (pc := 23) hX 14 rfl (a_s hG).2.1 (a_s hG).2.2 (by omega) (by omega) (rfl) ?_
        have hb23 := hSInv_2.c14 l (by omega) (by omega)
        refine r_i2l (pc := 24) hX 15 rfl ⟨by omega, by omega⟩ ?_
        refine e_last (pc := 25) hX 16 rfl (a_weight hG).2.1 (a_weight hG).2.2 (by decide) (by omega) (by omega) ?_
        refine r_iinc (ls' := [(2, 178), (0, (l + 1))]) (pc := 26) hX 17 rfl rfl (by decide) rfl ?_
        refine r_goto (pc := 29) hX 18 (tgt := 2) rfl (by decide) ?_
        exact (ih2 (l + 1) (up v2 189 l (v2 180 (14 + l))) ((hfr2).arr (r := 189) (by decide) (by decide)) (by rw [up_f (by decide)]; exact hSInv_2) (by omega) (fun j h0 h1 => by
            by_cases e : j = l
            · subst e; rw [up_s, es2]; rfl
            · rw [up_k e]; exact ia j h0 (by omega)) (by omega))
  exact (L2 _ 0 v (Fr.rf) (hS) (by omega) (fun j h0 h1 => by omega) (Nat.lt_succ_self _))
set_option maxHeartbeats 4000000 in
set_option maxRecDepth 100000 in
theorem c_weights (g : Gp) (v ρ : Mv) (Z : Mz) (hG : GM ρ Z)  (hS : SInv (v 180)) : Ok g 2 0 0 F_m_weights [(2, 178)] v ρ Z (fun o v' ρ' Z' => ρ = ρ' ∧ Z = Z' ∧ v = v' ∧ ∃ r : Int, o = some (1, r) ∧ (r = swF (v 189) (ldsF (v 180)).toNat)) := by
  refine Ok.of mo_m_weights (Nat.le_of_ble_eq_true rfl) ?_
  intro X hX hRm hxn hQ
  show wp g X F_m_weights 0 0 0 [(2, 178), (3, 0), (3, 0), (3, 0)] [] v ρ Z
  have hl := hS.lds
  refine r_lconst (pc := 0) hX 0 rfl ?_
  show wp g X F_m_weights 0 0 1 [(2, 178), (3, 0), (3, 0), (3, 0)] [(1, 0)] v ρ Z
  refine r_lstore_n (ls' := [(2, 178), (1, 0), (3, 0), (3, 0)]) (pc := 1) hX 1 rfl (by decide) rfl ?_
  refine r_iconst (pc := 2) hX 2 rfl ?_
  refine r_istore_n (ls' := [(2, 178), (1, 0), (3, 0), (0, 0)]) (pc := 3) hX 3 rfl (by decide) rfl ?_
  have L4 : ∀ (n4 : Nat) (sm l : Int) , (0 ≤ l ∧ l ≤ ldsF (v 180)) → (sm = swF (v 189) l.toNat) → (ldsF (v 180) - l).toNat < n4 → wp g X F_m_weights 0 0 4 [(2, 178), (1, sm), (3, 0), (0, l)] [] v ρ Z := by
    intro n4
    induction n4 with
    | zero => intro sm l il is hme4; exact absurd hme4 (Nat.not_lt_zero _)
    | succ n4 ih4 =>
      intro sm l il is hme4
      refine r_iload_n (pc := 4) hX 4 rfl rfl ?_
      refine r_aload_n (pc := 5) hX 5 rfl rfl ?_
      refine r_callV (as := []) (st := [(0, l)]) (K := 12) (pc := 6) hX 6 rfl mo_m_lands ml_X12_322 im_m_lands se_m_lands (c_lands g v ρ Z hG  (hS)) rfl rfl rfl hG.1 (by rw [hRm]; exact ⟨by decide, by decide⟩) (by rw [hRm]; exact ⟨by decide, by decide⟩) (Nat.le_of_ble_eq_true rfl) (fun o6 v6 ρ6 Z6 hq6 _ => ?_)
      obtain ⟨rfl, rfl, rfl, r6, rfl, hq6⟩ := hq6
      show wp g X F_m_weights 0 0 9 [(2, 178), (1, sm), (3, 0), (0, l)] [(0, r6), (0, l)] v ρ Z
      first | refine r_icmp_ge (pc := 9) hX 7 (tgt := 27) rfl (by decide) (⟨by omega, by omega⟩) (⟨by omega, by omega⟩) (fun h9 => ?_) (fun h9 => ?_) | refine r_icmp_ge_any (pc := 9) hX 7 (tgt := 27) rfl (by decide) ?_ ?_
      · refine r_lload_n (pc := 27) hX 17 rfl rfl ?_
        exact r_lret (pc := 28) hX 18 hQ rfl rfl (Nat.le_refl 0) (Nat.le_refl 0) ⟨rfl, rfl, rfl, sm, rfl, (by rw [show ldsF (v 180) = l by omega]; exact is)⟩
      · refine r_lload_n (pc := 12) hX 8 rfl rfl ?_
        refine t_getR (pc := 13) hX 9 rfl rfl rfl fl_X12_62 rfl hG.1 (a_weight hG).1 ?_
        refine r_iload_n (pc := 17) hX 11 rfl rfl ?_
        refine e_lald (y := (v 189 l)) (pc := 18) hX 12 rfl (a_weight hG).2.1 (a_weight hG).2.2 (by omega) (by omega) (rfl) ?_
        refine r_ladd (pc := 19) hX 13 rfl ?_
        refine r_lstore_n (ls' := [(2, 178), (1, (sm + (v 189 l))), (3, 0), (0, l)]) (pc := 20) hX 14 rfl (by decide) rfl ?_
        refine r_iinc (ls' := [(2, 178), (1, (sm + (v 189 l))), (3, 0), (0, (l + 1))]) (pc := 21) hX 15 rfl rfl (by decide) rfl ?_
        refine r_goto (pc := 24) hX 16 (tgt := 4) rfl (by decide) ?_
        exact (ih4 (sm + (v 189 l)) (l + 1) (by omega) (by rw [swF_s (by omega)]; omega) (by omega))
  exact (L4 _ 0 0 (by omega) (rfl) (Nat.lt_succ_self _))
set_option maxHeartbeats 4000000 in
set_option maxRecDepth 100000 in
theorem c_twelves (g : Gp) (v ρ : Mv) (Z : Mz) (hG : GM ρ Z) (n : Int) (hn : inR n) : Ok g 1 0 0 F_m_twelves [(0, n)] v ρ Z (fun o v' ρ' Z' => ρ = ρ' ∧ Z = Z' ∧ v = v' ∧ ∃ r : Int, o = some (1, r) ∧ (0 ≤ n → r = 12 ^ n.toNat)) := by
  refine Ok.of mo_m_twelves (Nat.le_of_ble_eq_true rfl) ?_
  intro X hX hRm hxn hQ
  show wp g X F_m_twelves 0 0 0 [(0, n), (3, 0), (3, 0), (3, 0)] [] v ρ Z
  refine r_lconst (pc := 0) hX 0 rfl ?_
  show wp g X F_m_twelves 0 0 1 [(0, n), (3, 0), (3, 0), (3, 0)] [(1, 1)] v ρ Z
  refine r_lstore_n (ls' := [(0, n), (1, 1), (3, 0), (3, 0)]) (pc := 1) hX 1 rfl (by decide) rfl ?_
  refine r_iconst (pc := 2) hX 2 rfl ?_
  refine r_istore_n (ls' := [(0, n), (1, 1), (3, 0), (0, 0)]) (pc := 3) hX 3 rfl (by decide) rfl ?_
  have L4 : ∀ (n4 : Nat) (x i : Int) , (0 ≤ i ∧ (i ≤ n ∨ n < 0 ∧ i = 0)) → (x = 12 ^ i.toNat) → (n - i).toNat < n4 → wp g X F_m_twelves 0 0 4 [(0, n), (1, x), (3, 0), (0, i)] [] v ρ Z := by
    intro n4
    induction n4 with
    | zero => intro x i ii ix hme4; exact absurd hme4 (Nat.not_lt_zero _)
    | succ n4 ih4 =>
      intro x i ii ix hme4
      refine r_iload_n (pc := 4) hX 4 rfl rfl ?_
      refine r_iload_n (pc := 5) hX 5 rfl rfl ?_
      first | refine r_icmp_ge (pc := 6) hX 6 (tgt := 21) rfl (by decide) (⟨by omega, by omega⟩) (⟨by omega, by omega⟩) (fun h6 => ?_) (fun h6 => ?_) | refine r_icmp_ge_any (pc := 6) hX 6 (tgt := 21) rfl (by decide) ?_ ?_
      · refine r_lload_n (pc := 21) hX 13 rfl rfl ?_
        exact r_lret (pc := 22) hX 14 hQ rfl rfl (Nat.le_refl 0) (Nat.le_refl 0) ⟨rfl, rfl, rfl, x, rfl, (fun h => by rw [ix, show i = n by omega])⟩
      · refine r_lload_n (pc := 9) hX 7 rfl rfl ?_
        refine r_ldc2 (y := 12) (pc := 10) hX 8 rfl kl_X12_347 (by decide) ?_
        refine r_lmul (pc := 13) hX 9 rfl ?_
        refine r_lstore_n (ls' := [(0, n), (1, (x * 12)), (3, 0), (0, i)]) (pc := 14) hX 10 rfl (by decide) rfl ?_
        refine r_iinc (ls' := [(0, n), (1, (x * 12)), (3, 0), (0, (i + 1))]) (pc := 15) hX 11 rfl rfl (by decide) rfl ?_
        refine r_goto (pc := 18) hX 12 (tgt := 4) rfl (by decide) ?_
        exact (ih4 (x * 12) (i + 1) (by omega) (by rw [ix, show (i + 1).toNat = i.toNat + 1 by omega, Int.pow_succ]) (by omega))
  exact (L4 _ 1 0 (by omega) (rfl) (Nat.lt_succ_self _))
set_option maxHeartbeats 4000000 in
set_option maxRecDepth 100000 in
theorem c_slot (g : Gp) (v ρ : Mv) (Z : Mz) (hG : GM ρ Z)   : Ok g 1 0 0 F_m_slot [(2, 178)] v ρ Z (fun o v' ρ' Z' => ρ = ρ' ∧ Z = Z' ∧ v = v' ∧ ∃ r : Int, o = some (0, r) ∧ (r = v 185 0 + 9 * v 185 1 + 81 * v 185 2)) := by
  refine Ok.of mo_m_slot (Nat.le_of_ble_eq_true rfl) ?_
  intro X hX hRm hxn hQ
  show wp g X F_m_slot 0 0 0 [(2, 178)] [] v ρ Z
  refine t_getR (pc := 0) hX 0 rfl rfl rfl fl_X12_50 rfl hG.1 (a_scores hG).1 ?_
  refine r_iconst (pc := 4) hX 2 rfl ?_
  refine e_iald (y := (v 185 0)) (pc := 5) hX 3 rfl (a_scores hG).2.1 (a_scores hG).2.2 (by omega) (by omega) (rfl) ?_
  refine r_bipush (pc := 6) hX 4 rfl (by decide) ?_
  refine t_getR (pc := 8) hX 5 rfl rfl rfl fl_X12_50 rfl hG.1 (a_scores hG).1 ?_
  refine r_iconst (pc := 12) hX 7 rfl ?_
  refine e_iald (y := (v 185 1)) (pc := 13) hX 8 rfl (a_scores hG).2.1 (a_scores hG).2.2 (by omega) (by omega) (rfl) ?_
  refine r_imul (pc := 14) hX 9 rfl ?_
  refine r_iadd (pc := 15) hX 10 rfl ?_
  refine r_bipush (pc := 16) hX 11 rfl (by decide) ?_
  refine t_getR (pc := 18) hX 12 rfl rfl rfl fl_X12_50 rfl hG.1 (a_scores hG).1 ?_
  refine r_iconst (pc := 22) hX 14 rfl ?_
  refine e_iald (y := (v 185 2)) (pc := 23) hX 15 rfl (a_scores hG).2.1 (a_scores hG).2.2 (by omega) (by omega) (rfl) ?_
  refine r_imul (pc := 24) hX 16 rfl ?_
  refine r_iadd (pc := 25) hX 17 rfl ?_
  exact r_iret (pc := 26) hX 18 hQ rfl rfl (Nat.le_refl 0) (Nat.le_refl 0) ⟨rfl, rfl, rfl, (((v 185 0) + (9 * (v 185 1))) + (81 * (v 185 2))), rfl, (by omega)⟩
set_option maxHeartbeats 4000000 in
set_option maxRecDepth 100000 in
theorem c_stands (g : Gp) (v ρ : Mv) (Z : Mz) (hG : GM ρ Z) (sl : Int) (hs : 0 ≤ sl ∧ sl < 729) : Ok g 1 0 0 F_m_stands [(2, 178), (0, sl)] v ρ Z (fun o v' ρ' Z' => ρ = ρ' ∧ Z = Z' ∧ Fr [185] [] v v' ∧ o = none ∧ (∀ q, 0 ≤ q → q ≤ 2 → 0 ≤ v' 185 q ∧ v' 185 q ≤ 8)) := by
  refine Ok.of mo_m_stands (Nat.le_of_ble_eq_true rfl) ?_
  intro X hX hRm hxn hQ
  show wp g X F_m_stands 0 0 0 [(2, 178), (0, sl)] [] v ρ Z
  refine t_getR (pc := 0) hX 0 rfl rfl rfl fl_X12_50 rfl hG.1 (a_scores hG).1 ?_
  refine r_iconst (pc := 4) hX 2 rfl ?_
  refine r_iload_n (pc := 5) hX 3 rfl rfl ?_
  refine r_bipush (pc := 6) hX 4 rfl (by decide) ?_
  refine r_irem (pc := 8) hX 5 rfl (⟨by omega, by omega⟩) (by omega) (⟨by omega, by omega⟩) (by omega) ?_
  refine e_iast (pc := 9) hX 6 rfl (a_scores hG).2.1 (a_scores hG).2.2 (by decide) (by omega) (by omega) ?_
  refine t_getR (pc := 10) hX 7 rfl rfl rfl fl_X12_50 rfl hG.1 (a_scores hG).1 ?_
  refine r_iconst (pc := 14) hX 9 rfl ?_
  refine r_iload_n (pc := 15) hX 10 rfl rfl ?_
  refine r_bipush (pc := 16) hX 11 rfl (by decide) ?_
  refine r_idiv (pc := 18) hX 12 rfl (⟨by omega, by omega⟩) (by omega) (⟨by omega, by omega⟩) (by omega) ?_
  refine r_bipush (pc := 19) hX 13 rfl (by decide) ?_
  refine r_irem (pc := 21) hX 14 rfl (⟨by omega, by omega⟩) (by omega) (⟨by omega, by omega⟩) (by omega) ?_
  refine e_iast (pc := 22) hX 15 rfl (a_scores hG).2.1 (a_scores hG).2.2 (by decide) (by omega) (by omega) ?_
  refine t_getR (pc := 23) hX 16 rfl rfl rfl fl_X12_50 rfl hG.1 (a_scores hG).1 ?_
  refine r_iconst (pc := 27) hX 18 rfl ?_
  refine r_iload_n (pc := 28) hX 19 rfl rfl ?_
  refine r_bipush (pc := 29) hX 20 rfl (by decide) ?_
  refine r_idiv (pc := 31) hX 21 rfl (⟨by omega, by omega⟩) (by omega) (⟨by omega, by omega⟩) (by omega) ?_
  refine e_iast (pc := 32) hX 22 rfl (a_scores hG).2.1 (a_scores hG).2.2 (by decide) (by omega) (by omega) ?_
  exact r_vret (pc := 33) hX 23 hQ rfl rfl (Nat.le_refl 0) (Nat.le_refl 0) ⟨rfl, rfl, (((Fr.rf).arr (r := 185) (by decide) (by decide)).arr (r := 185) (by decide) (by decide)).arr (r := 185) (by decide) (by decide), rfl, (fun q h0 h1 => by
    have hq : q = 0 ∨ q = 1 ∨ q = 2 := by omega
    rcases hq with rfl | rfl | rfl <;> simp [up] <;> omega)⟩
set_option maxHeartbeats 4000000 in
set_option maxRecDepth 100000 in
theorem c_ends (g : Gp) (v ρ : Mv) (Z : Mz) (hG : GM ρ Z) (w n car : Int) (hw : -1 ≤ w ∧ w ≤ 2) (hc : 0 ≤ car ∧ car ≤ 12) : Ok g 1 0 0 F_m_ends [(2, 178), (0, w), (1, n), (0, car)] v ρ Z (fun o v' ρ' Z' => ρ = ρ' ∧ Z = Z' ∧ Fr [192, 193] [] v v' ∧ o = none ∧ True) := by
  refine Ok.of mo_m_ends (Nat.le_of_ble_eq_true rfl) ?_
  intro X hX hRm hxn hQ
  show wp g X F_m_ends 0 0 0 [(2, 178), (0, w), (1, n), (3, 0), (0, car)] [] v ρ Z
  refine t_getR (pc := 0) hX 0 rfl rfl rfl fl_X12_71 rfl hG.1 (a_wonBy hG).1 ?_
  refine r_iload_n (pc := 4) hX 2 rfl rfl ?_
  first | refine r_if_ge (pc := 5) hX 3 (tgt := 12) rfl (by decide) (⟨by omega, by omega⟩) (fun h5 => ?_) (fun h5 => ?_) | refine r_if_ge_any (pc := 5) hX 3 (tgt := 12) rfl (by decide) ?_ ?_
  · refine r_iload_n (pc := 12) hX 6 rfl rfl ?_
    refine r_dup2i (pc := 13) hX 7 rfl (show (0 : Nat) ≠ 1 by decide) (show (2 : Nat) ≠ 1 by decide) ?_
    refine e_lald (y := (v 192 w)) (pc := 14) hX 8 rfl (a_wonBy hG).2.1 (a_wonBy hG).2.2 (by omega) (by omega) (rfl) ?_
    refine r_lload_n (pc := 15) hX 9 rfl rfl ?_
    refine r_ladd (pc := 16) hX 10 rfl ?_
    refine e_last (pc := 17) hX 11 rfl (a_wonBy hG).2.1 (a_wonBy hG).2.2 (by decide) (by omega) (by omega) ?_
    refine t_getR (pc := 18) hX 12 rfl rfl rfl fl_X12_74 rfl hG.1 (a_endsAt hG).1 ?_
    refine r_iload (pc := 22) hX 14 rfl rfl ?_
    refine r_dup2i (pc := 24) hX 15 rfl (show (0 : Nat) ≠ 1 by decide) (show (2 : Nat) ≠ 1 by decide) ?_
    refine e_lald (y := (v 193 car)) (pc := 25) hX 16 rfl (a_endsAt hG).2.1 (a_endsAt hG).2.2 (by omega) (by omega) ((up_r (by decide)).trans (rfl)) ?_
    refine r_lload_n (pc := 26) hX 17 rfl rfl ?_
    refine r_ladd (pc := 27) hX 18 rfl ?_
    refine e_last (pc := 28) hX 19 rfl (a_endsAt hG).2.1 (a_endsAt hG).2.2 (by decide) (by omega) (by omega) ?_
    exact r_vret (pc := 29) hX 20 hQ rfl rfl (Nat.le_refl 0) (Nat.le_refl 0) ⟨rfl, rfl, ((Fr.rf).arr (r := 192) (by decide) (by decide)).arr (r := 193) (by decide) (by decide), rfl, trivial⟩
  · refine r_iconst (pc := 8) hX 4 rfl ?_
    refine r_goto (pc := 9) hX 5 (tgt := 13) rfl (by decide) ?_
    refine r_dup2i (pc := 13) hX 7 rfl (show (0 : Nat) ≠ 1 by decide) (show (2 : Nat) ≠ 1 by decide) ?_
    refine e_lald (y := (v 192 3)) (pc := 14) hX 8 rfl (a_wonBy hG).2.1 (a_wonBy hG).2.2 (by omega) (by omega) (rfl) ?_
    refine r_lload_n (pc := 15) hX 9 rfl rfl ?_
    refine r_ladd (pc := 16) hX 10 rfl ?_
    refine e_last (pc := 17) hX 11 rfl (a_wonBy hG).2.1 (a_wonBy hG).2.2 (by decide) (by omega) (by omega) ?_
    refine t_getR (pc := 18) hX 12 rfl rfl rfl fl_X12_74 rfl hG.1 (a_endsAt hG).1 ?_
    refine r_iload (pc := 22) hX 14 rfl rfl ?_
    refine r_dup2i (pc := 24) hX 15 rfl (show (0 : Nat) ≠ 1 by decide) (show (2 : Nat) ≠ 1 by decide) ?_
    refine e_lald (y := (v 193 car)) (pc := 25) hX 16 rfl (a_endsAt hG).2.1 (a_endsAt hG).2.2 (by omega) (by omega) ((up_r (by decide)).trans (rfl)) ?_
    refine r_lload_n (pc := 26) hX 17 rfl rfl ?_
    refine r_ladd (pc := 27) hX 18 rfl ?_
    refine e_last (pc := 28) hX 19 rfl (a_endsAt hG).2.1 (a_endsAt hG).2.2 (by decide) (by omega) (by omega) ?_
    exact r_vret (pc := 29) hX 20 hQ rfl rfl (Nat.le_refl 0) (Nat.le_refl 0) ⟨rfl, rfl, ((Fr.rf).arr (r := 192) (by decide) (by decide)).arr (r := 193) (by decide) (by decide), rfl, trivial⟩
set_option maxHeartbeats 4000000 in
set_option maxRecDepth 100000 in
theorem c_comes (g : Gp) (v ρ : Mv) (Z : Mz) (hG : GM ρ Z) (l fr car lf : Int) (hS : SInv (v 180)) (hO : OwI (v 186)) (hl : 0 ≤ l ∧ l ≤ 2) (hf : 0 ≤ fr ∧ fr < 729) (hc : 1 ≤ car ∧ car ≤ lf ∧ lf ≤ 12) : Ok g 2 0 0 F_m_comes [(2, 178), (0, l), (0, fr), (0, car), (0, lf)] v ρ Z (fun o v' ρ' Z' => ρ = ρ' ∧ Z = Z' ∧ Fr [185, 191, 192, 193] [] v v' ∧ o = none ∧ True) := by
  refine Ok.of mo_m_comes (Nat.le_of_ble_eq_true rfl) ?_
  intro X hX hRm hxn hQ
  show wp g X F_m_comes 0 0 0 [(2, 178), (0, l), (0, fr), (0, car), (0, lf), (3, 0), (3, 0), (3, 0), (3, 0), (3, 0)] [] v ρ Z
  refine r_iconst (pc := 0) hX 0 rfl ?_
  refine r_istore (ls' := [(2, 178), (0, l), (0, fr), (0, car), (0, lf), (0, 0), (3, 0), (3, 0), (3, 0), (3, 0)]) (pc := 1) hX 1 rfl (by decide) rfl ?_
  have L3 : ∀ (n3 : Nat) (c : Int) (v3 : Mv) , (Fr [185, 191, 192, 193] [] v v3) → (OwI (v3 186)) → (SInv (v3 180)) → (0 ≤ c ∧ c ≤ 5) → (5 - c).toNat < n3 → wp g X F_m_comes 0 0 3 [(2, 178), (0, l), (0, fr), (0, car), (0, lf), (0, c), (3, 0), (3, 0), (3, 0), (3, 0)] [] v3 ρ Z := by
    intro n3
    induction n3 with
    | zero => intro c v3 hfr3 hOwI_3 hSInv_3 ic hme3; exact absurd hme3 (Nat.not_lt_zero _)
    | succ n3 ih3 =>
      intro c v3 hfr3 hOwI_3 hSInv_3 ic hme3
      refine r_iload (pc := 3) hX 2 rfl rfl ?_
      refine r_iconst (pc := 5) hX 3 rfl ?_
      first | refine r_icmp_ge (pc := 6) hX 4 (tgt := 193) rfl (by decide) (⟨by omega, by omega⟩) (⟨by omega, by omega⟩) (fun h6 => ?_) (fun h6 => ?_) | refine r_icmp_ge_any (pc := 6) hX 4 (tgt := 193) rfl (by decide) ?_ ?_
      · exact r_vret (pc := 193) hX 109 hQ rfl rfl (Nat.le_refl 0) (Nat.le_refl 0) ⟨rfl, rfl, hfr3, rfl, trivial⟩
      · refine t_getR (pc := 9) hX 5 rfl rfl rfl fl_X12_33 rfl hG.1 (a_s hG).1 ?_
        refine r_bipush (pc := 13) hX 7 rfl (by decide) ?_
        refine r_iconst (pc := 15) hX 8 rfl ?_
        refine r_iload_n (pc := 16) hX 9 rfl rfl ?_
        refine r_imul (pc := 17) hX 10 rfl ?_
        refine r_iadd (pc := 18) hX 11 rfl ?_
        refine r_iload (pc := 19) hX 12 rfl rfl ?_
        refine r_iadd (pc := 21) hX 13 rfl ?_
        refine e_iald (y := (v3 180 ((17 + (5 * l)) + c))) (pc := 22) hX 14 rfl (a_s hG).2.1 (a_s hG).2.2 (by omega) (by omega) (rfl) ?_
        have hb22 := hSInv_3.c17 l c (by omega) (by omega) (by omega) (by omega)
        refine r_istore (ls' := [(2, 178), (0, l), (0, fr), (0, car), (0, lf), (0, c), (0, (v3 180 ((17 + (5 * l)) + c))), (3, 0), (3, 0), (3, 0)]) (pc := 23) hX 15 rfl (by decide) rfl ?_
        refine r_iload (pc := 25) hX 16 rfl rfl ?_
        first | refine r_if_ne (pc := 27) hX 17 (tgt := 33) rfl (by decide) (⟨by omega, by omega⟩) (fun h27 => ?_) (fun h27 => ?_) | refine r_if_ne_any (pc := 27) hX 17 (tgt := 33) rfl (by decide) ?_ ?_
        · refine r_aload_n (pc := 33) hX 19 rfl rfl ?_
          refine r_iload_n (pc := 34) hX 20 rfl rfl ?_
          refine r_callV (as := [(0, fr)]) (st := []) (K := 12) (pc := 35) hX 21 rfl mo_m_stands ml_X12_371 im_m_stands se_m_stands (c_stands g v3 ρ Z hG (fr) (by omega)) rfl rfl rfl hG.1 (by rw [hRm]; exact ⟨by decide, by decide⟩) (by rw [hRm]; exact ⟨by decide, by decide⟩) (Nat.le_of_ble_eq_true rfl) (fun o35 v35 ρ35 Z35 hq35 _ => ?_)
          obtain ⟨rfl, rfl, hfr35, rfl, hq35⟩ := hq35
          have hSInv_35 : SInv (v35 180) := by rw [hfr35.1 180 (by decide) (by decide)]; exact hSInv_3
          have hOwI_35 : OwI (v35 186) := by rw [hfr35.1 186 (by decide) (by decide)]; exact hOwI_3
          show wp g X F_m_comes 0 0 38 [(2, 178), (0, l), (0, fr), (0, car), (0, lf), (0, c), (0, (v3 180 ((17 + (5 * l)) + c))), (3, 0), (3, 0), (3, 0)] [] v35 ρ Z
          refine t_getR (pc := 38) hX 22 rfl rfl rfl fl_X12_53 rfl hG.1 (a_own hG).1 ?_
          refine r_iload (pc := 42) hX 24 rfl rfl ?_
          refine e_iald (y := (v35 186 c)) (pc := 44) hX 25 rfl (a_own hG).2.1 (a_own hG).2.2 (by omega) (by omega) (rfl) ?_
          have hb44 := hOwI_35 c (by omega) (by omega)
          refine r_istore (ls' := [(2, 178), (0, l), (0, fr), (0, car), (0, lf), (0, c), (0, (v3 180 ((17 + (5 * l)) + c))), (0, (v35 186 c)), (3, 0), (3, 0)]) (pc := 45) hX 26 rfl (by decide) rfl ?_
          refine r_iload (pc := 47) hX 27 rfl rfl ?_
          have L72 : ∀ (q : Int) (v72 : Mv) , (Fr [185, 191, 192, 193] [] v v72) → (OwI (v72 186)) → (SInv (v72 180)) → (-1 ≤ q ∧ q ≤ 2) → (∀ j, 0 ≤ j → j ≤ 2 → j ≠ q → 0 ≤ v72 185 j ∧ v72 185 j ≤ 8) → (0 ≤ q → 0 ≤ v72 185 q ∧ v72 185 q ≤ 11) → wp g X F_m_comes 0 0 72 [(2, 178), (0, l), (0, fr), (0, car), (0, lf), (0, c), (0, (v3 180 ((17 + (5 * l)) + c))), (0, q), (3, 0), (3, 0)] [] v72 ρ Z := by
            intro q v72 hfr72 hOwI_72 hSInv_72 iq i8 i9
            have hC72 : ScI (v72 185) := fun j h0 h1 => by
              by_cases e : j = q
              · subst e; have := i9 h0; omega
              · have := i8 j h0 h1 e; omega
            refine t_getR (pc := 72) hX 42 rfl rfl rfl fl_X12_65 rfl hG.1 (a_ways hG).1 ?_
            refine r_iload_n (pc := 76) hX 44 rfl rfl ?_
            refine e_lald (y := (v72 190 fr)) (pc := 77) hX 45 rfl (a_ways hG).2.1 (a_ways hG).2.2 (by omega) (by omega) (rfl) ?_
            refine r_iload (pc := 78) hX 46 rfl rfl ?_
            refine r_i2l (pc := 80) hX 47 rfl ⟨by omega, by omega⟩ ?_
            refine r_lmul (pc := 81) hX 48 rfl ?_
            refine r_lstore (ls' := [(2, 178), (0, l), (0, fr), (0, car), (0, lf), (0, c), (0, (v3 180 ((17 + (5 * l)) + c))), (0, q), (1, ((v72 190 fr) * (v3 180 ((17 + (5 * l)) + c)))), (3, 0)]) (pc := 82) hX 49 rfl (by decide) rfl ?_
            refine r_iload (pc := 84) hX 50 rfl rfl ?_
            first | refine r_if_lt (pc := 86) hX 51 (tgt := 125) rfl (by decide) (⟨by omega, by omega⟩) (fun h86 => ?_) (fun h86 => ?_) | refine r_if_lt_any (pc := 86) hX 51 (tgt := 125) rfl (by decide) ?_ ?_
            · refine r_iload (pc := 125) hX 72 rfl rfl ?_
              refine r_iconst (pc := 127) hX 73 rfl ?_
              first | refine r_icmp_ge (pc := 128) hX 74 (tgt := 145) rfl (by decide) (⟨by omega, by omega⟩) (⟨by omega, by omega⟩) (fun h128 => ?_) (fun h128 => ?_) | refine r_icmp_ge_any (pc := 128) hX 74 (tgt := 145) rfl (by decide) ?_ ?_
              · refine r_iload_n (pc := 145) hX 83 rfl rfl ?_
                refine r_iload (pc := 146) hX 84 rfl rfl ?_
                first | refine r_icmp_ne (pc := 148) hX 85 (tgt := 173) rfl (by decide) (⟨by omega, by omega⟩) (⟨by omega, by omega⟩) (fun h148 => ?_) (fun h148 => ?_) | refine r_icmp_ne_any (pc := 148) hX 85 (tgt := 173) rfl (by decide) ?_ ?_
                · have h8 : ∀ j, 0 ≤ j → j ≤ 2 → 0 ≤ v72 185 j ∧ v72 185 j ≤ 8 := fun j h0 h1 => by
                    by_cases e : j = q
                    · subst e; have := i9 h0; omega
                    · exact i8 j h0 h1 e
                  have h80 := h8 0 (by decide) (by decide)
                  have h81 := h8 1 (by decide) (by decide)
                  have h82 := h8 2 (by decide) (by decide)
                  refine t_getR (pc := 173) hX 98 rfl rfl rfl fl_X12_68 rfl hG.1 (a_then hG).1 ?_
                  refine r_aload_n (pc := 177) hX 100 rfl rfl ?_
                  refine r_callV (as := []) (st := [(2, 191)]) (K := 12) (pc := 178) hX 101 rfl mo_m_slot ml_X12_364 im_m_slot se_m_slot (c_slot g v72 ρ Z hG  ) rfl rfl rfl hG.1 (by rw [hRm]; exact ⟨by decide, by decide⟩) (by rw [hRm]; exact ⟨by decide, by decide⟩) (Nat.le_of_ble_eq_true rfl) (fun o178 v178 ρ178 Z178 hq178 _ => ?_)
                  obtain ⟨rfl, rfl, rfl, r178, rfl, hq178⟩ := hq178
                  show wp g X F_m_comes 0 0 181 [(2, 178), (0, l), (0, fr), (0, car), (0, lf), (0, c), (0, (v3 180 ((17 + (5 * l)) + c))), (0, q), (1, ((v72 190 fr) * (v3 180 ((17 + (5 * l)) + c)))), (3, 0)] [(0, r178), (2, 191)] v72 ρ Z
                  refine r_dup2i (pc := 181) hX 102 rfl (show (0 : Nat) ≠ 1 by decide) (show (2 : Nat) ≠ 1 by decide) ?_
                  refine e_lald (y := (v72 191 r178)) (pc := 182) hX 103 rfl (a_then hG).2.1 (a_then hG).2.2 (by omega) (by omega) (rfl) ?_
                  refine r_lload (pc := 183) hX 104 rfl rfl ?_
                  refine r_ladd (pc := 185) hX 105 rfl ?_
                  refine e_last (pc := 186) hX 106 rfl (a_then hG).2.1 (a_then hG).2.2 (by decide) (by omega) (by omega) ?_
                  refine r_iinc (ls' := [(2, 178), (0, l), (0, fr), (0, car), (0, lf), (0, (c + 1)), (0, (v3 180 ((17 + (5 * l)) + c))), (0, q), (1, ((v72 190 fr) * (v3 180 ((17 + (5 * l)) + c)))), (3, 0)]) (pc := 187) hX 107 rfl rfl (by decide) rfl ?_
                  refine r_goto (pc := 190) hX 108 (tgt := 3) rfl (by decide) ?_
                  refine r_wk (ls' := [(2, 178), (0, l), (0, fr), (0, car), (0, lf), (0, (c + 1)), (3, 0), (3, 0), (3, 0), (3, 0)]) ⟨Or.inr rfl, Or.inr rfl, Or.inr rfl, Or.inr rfl, Or.inr rfl, Or.inr rfl, Or.inl rfl, Or.inl rfl, Or.inl rfl, Or.inr rfl, trivial⟩ ?_
                  exact (ih3 (c + 1) (up v72 191 r178 ((v72 191 r178) + ((v72 190 fr) * (v3 180 ((17 + (5 * l)) + c))))) ((hfr72).arr (r := 191) (by decide) (by decide)) (by rw [up_f (by decide)]; exact hOwI_72) (by rw [up_f (by decide)]; exact hSInv_72) (by omega) (by omega))
                · refine r_aload_n (pc := 151) hX 86 rfl rfl ?_
                  refine r_aload_n (pc := 152) hX 87 rfl rfl ?_
                  refine r_callV (as := []) (st := [(2, 178)]) (K := 12) (pc := 153) hX 88 rfl mo_m_ahead ml_X12_313 im_m_ahead se_m_ahead (c_ahead g v72 ρ Z hG  (hSInv_72) (hC72)) rfl rfl rfl hG.1 (by rw [hRm]; exact ⟨by decide, by decide⟩) (by rw [hRm]; exact ⟨by decide, by decide⟩) (Nat.le_of_ble_eq_true rfl) (fun o153 v153 ρ153 Z153 hq153 _ => ?_)
                  obtain ⟨rfl, rfl, rfl, r153, rfl, hq153⟩ := hq153
                  show wp g X F_m_comes 0 0 156 [(2, 178), (0, l), (0, fr), (0, car), (0, lf), (0, c), (0, (v3 180 ((17 + (5 * l)) + c))), (0, q), (1, ((v72 190 fr) * (v3 180 ((17 + (5 * l)) + c)))), (3, 0)] [(0, r153), (2, 178)] v72 ρ Z
                  refine r_lload (pc := 156) hX 89 rfl rfl ?_
                  refine r_iload (pc := 158) hX 90 rfl rfl ?_
                  refine r_iload_n (pc := 160) hX 91 rfl rfl ?_
                  refine r_isub (pc := 161) hX 92 rfl ?_
                  refine r_callS (as := [(0, (lf - car))]) (st := [(1, ((v72 190 fr) * (v3 180 ((17 + (5 * l)) + c)))), (0, r153), (2, 178)]) (pc := 162) hX 93 rfl mo_m_twelves ml_X12_353 stt_m_twelves (c_twelves g v72 ρ Z hG ((lf - car)) (by omega)) rfl (by rw [hRm]; exact ⟨by decide, by decide⟩) (by rw [hRm]; exact ⟨by decide, by decide⟩) (Nat.le_of_ble_eq_true rfl) (fun o162 v162 ρ162 Z162 hq162 _ => ?_)
                  obtain ⟨rfl, rfl, rfl, r162, rfl, hq162⟩ := hq162
                  show wp g X F_m_comes 0 0 165 [(2, 178), (0, l), (0, fr), (0, car), (0, lf), (0, c), (0, (v3 180 ((17 + (5 * l)) + c))), (0, q), (1, ((v72 190 fr) * (v3 180 ((17 + (5 * l)) + c)))), (3, 0)] [(1, r162), (1, ((v72 190 fr) * (v3 180 ((17 + (5 * l)) + c)))), (0, r153), (2, 178)] v72 ρ Z
                  refine r_lmul (pc := 165) hX 94 rfl ?_
                  refine r_iload_n (pc := 166) hX 95 rfl rfl ?_
                  refine r_callV (as := [(0, r153), (1, (((v72 190 fr) * (v3 180 ((17 + (5 * l)) + c))) * r162)), (0, car)]) (st := []) (K := 12) (pc := 167) hX 96 rfl mo_m_ends ml_X12_360 im_m_ends se_m_ends (c_ends g v72 ρ Z hG (r153) ((((v72 190 fr) * (v3 180 ((17 + (5 * l)) + c))) * r162)) (car) (by omega) (by omega)) rfl rfl rfl hG.1 (by rw [hRm]; exact ⟨by decide, by decide⟩) (by rw [hRm]; exact ⟨by decide, by decide⟩) (Nat.le_of_ble_eq_true rfl) (fun o167 v167 ρ167 Z167 hq167 _ => ?_)
                  obtain ⟨rfl, rfl, hfr167, rfl, hq167⟩ := hq167
                  have hSInv_167 : SInv (v167 180) := by rw [hfr167.1 180 (by decide) (by decide)]; exact hSInv_72
                  have hOwI_167 : OwI (v167 186) := by rw [hfr167.1 186 (by decide) (by decide)]; exact hOwI_72
                  show wp g X F_m_comes 0 0 170 [(2, 178), (0, l), (0, fr), (0, car), (0, lf), (0, c), (0, (v3 180 ((17 + (5 * l)) + c))), (0, q), (1, ((v72 190 fr) * (v3 180 ((17 + (5 * l)) + c)))), (3, 0)] [] v167 ρ Z
                  refine r_goto (pc := 170) hX 97 (tgt := 187) rfl (by decide) ?_
                  refine r_iinc (ls' := [(2, 178), (0, l), (0, fr), (0, car), (0, lf), (0, (c + 1)), (0, (v3 180 ((17 + (5 * l)) + c))), (0, q), (1, ((v72 190 fr) * (v3 180 ((17 + (5 * l)) + c)))), (3, 0)]) (pc := 187) hX 107 rfl rfl (by decide) rfl ?_
                  refine r_goto (pc := 190) hX 108 (tgt := 3) rfl (by decide) ?_
                  refine r_wk (ls' := [(2, 178), (0, l), (0, fr), (0, car), (0, lf), (0, (c + 1)), (3, 0), (3, 0), (3, 0), (3, 0)]) ⟨Or.inr rfl, Or.inr rfl, Or.inr rfl, Or.inr rfl, Or.inr rfl, Or.inr rfl, Or.inl rfl, Or.inl rfl, Or.inl rfl, Or.inr rfl, trivial⟩ ?_
                  exact (ih3 (c + 1) v167 ((hfr72).tr hfr167 (by decide) (by decide)) (hOwI_167) (hSInv_167) (by omega) (by omega))
              · refine t_getR (pc := 131) hX 75 rfl rfl rfl fl_X12_33 rfl hG.1 (a_s hG).1 ?_
                refine r_bipush (pc := 135) hX 77 rfl (by decide) ?_
                refine r_iload (pc := 137) hX 78 rfl rfl ?_
                refine r_iadd (pc := 139) hX 79 rfl ?_
                refine e_iald (y := (v72 180 (10 + c))) (pc := 140) hX 80 rfl (a_s hG).2.1 (a_s hG).2.2 (by omega) (by omega) (rfl) ?_
                have hb140 := hSInv_72.c10 c (by omega) (by omega)
                refine r_iconst (pc := 141) hX 81 rfl ?_
                first | refine r_icmp_eq (pc := 142) hX 82 (tgt := 151) rfl (by decide) (⟨by omega, by omega⟩) (⟨by omega, by omega⟩) (fun h142 => ?_) (fun h142 => ?_) | refine r_icmp_eq_any (pc := 142) hX 82 (tgt := 151) rfl (by decide) ?_ ?_
                · refine r_aload_n (pc := 151) hX 86 rfl rfl ?_
                  refine r_aload_n (pc := 152) hX 87 rfl rfl ?_
                  refine r_callV (as := []) (st := [(2, 178)]) (K := 12) (pc := 153) hX 88 rfl mo_m_ahead ml_X12_313 im_m_ahead se_m_ahead (c_ahead g v72 ρ Z hG  (hSInv_72) (hC72)) rfl rfl rfl hG.1 (by rw [hRm]; exact ⟨by decide, by decide⟩) (by rw [hRm]; exact ⟨by decide, by decide⟩) (Nat.le_of_ble_eq_true rfl) (fun o153 v153 ρ153 Z153 hq153 _ => ?_)
                  obtain ⟨rfl, rfl, rfl, r153, rfl, hq153⟩ := hq153
                  show wp g X F_m_comes 0 0 156 [(2, 178), (0, l), (0, fr), (0, car), (0, lf), (0, c), (0, (v3 180 ((17 + (5 * l)) + c))), (0, q), (1, ((v72 190 fr) * (v3 180 ((17 + (5 * l)) + c)))), (3, 0)] [(0, r153), (2, 178)] v72 ρ Z
                  refine r_lload (pc := 156) hX 89 rfl rfl ?_
                  refine r_iload (pc := 158) hX 90 rfl rfl ?_
                  refine r_iload_n (pc := 160) hX 91 rfl rfl ?_
                  refine r_isub (pc := 161) hX 92 rfl ?_
                  refine r_callS (as := [(0, (lf - car))]) (st := [(1, ((v72 190 fr) * (v3 180 ((17 + (5 * l)) + c)))), (0, r153), (2, 178)]) (pc := 162) hX 93 rfl mo_m_twelves ml_X12_353 stt_m_twelves (c_twelves g v72 ρ Z hG ((lf - car)) (by omega)) rfl (by rw [hRm]; exact ⟨by decide, by decide⟩) (by rw [hRm]; exact ⟨by decide, by decide⟩) (Nat.le_of_ble_eq_true rfl) (fun o162 v162 ρ162 Z162 hq162 _ => ?_)
                  obtain ⟨rfl, rfl, rfl, r162, rfl, hq162⟩ := hq162
                  show wp g X F_m_comes 0 0 165 [(2, 178), (0, l), (0, fr), (0, car), (0, lf), (0, c), (0, (v3 180 ((17 + (5 * l)) + c))), (0, q), (1, ((v72 190 fr) * (v3 180 ((17 + (5 * l)) + c)))), (3, 0)] [(1, r162), (1, ((v72 190 fr) * (v3 180 ((17 + (5 * l)) + c)))), (0, r153), (2, 178)] v72 ρ Z
                  refine r_lmul (pc := 165) hX 94 rfl ?_
                  refine r_iload_n (pc := 166) hX 95 rfl rfl ?_
                  refine r_callV (as := [(0, r153), (1, (((v72 190 fr) * (v3 180 ((17 + (5 * l)) + c))) * r162)), (0, car)]) (st := []) (K := 12) (pc := 167) hX 96 rfl mo_m_ends ml_X12_360 im_m_ends se_m_ends (c_ends g v72 ρ Z hG (r153) ((((v72 190 fr) * (v3 180 ((17 + (5 * l)) + c))) * r162)) (car) (by omega) (by omega)) rfl rfl rfl hG.1 (by rw [hRm]; exact ⟨by decide, by decide⟩) (by rw [hRm]; exact ⟨by decide, by decide⟩) (Nat.le_of_ble_eq_true rfl) (fun o167 v167 ρ167 Z167 hq167 _ => ?_)
                  obtain ⟨rfl, rfl, hfr167, rfl, hq167⟩ := hq167
                  have hSInv_167 : SInv (v167 180) := by rw [hfr167.1 180 (by decide) (by decide)]; exact hSInv_72
                  have hOwI_167 : OwI (v167 186) := by rw [hfr167.1 186 (by decide) (by decide)]; exact hOwI_72
                  show wp g X F_m_comes 0 0 170 [(2, 178), (0, l), (0, fr), (0, car), (0, lf), (0, c), (0, (v3 180 ((17 + (5 * l)) + c))), (0, q), (1, ((v72 190 fr) * (v3 180 ((17 + (5 * l)) + c)))), (3, 0)] [] v167 ρ Z
                  refine r_goto (pc := 170) hX 97 (tgt := 187) rfl (by decide) ?_
                  refine r_iinc (ls' := [(2, 178), (0, l), (0, fr), (0, car), (0, lf), (0, (c + 1)), (0, (v3 180 ((17 + (5 * l)) + c))), (0, q), (1, ((v72 190 fr) * (v3 180 ((17 + (5 * l)) + c)))), (3, 0)]) (pc := 187) hX 107 rfl rfl (by decide) rfl ?_
                  refine r_goto (pc := 190) hX 108 (tgt := 3) rfl (by decide) ?_
                  refine r_wk (ls' := [(2, 178), (0, l), (0, fr), (0, car), (0, lf), (0, (c + 1)), (3, 0), (3, 0), (3, 0), (3, 0)]) ⟨Or.inr rfl, Or.inr rfl, Or.inr rfl, Or.inr rfl, Or.inr rfl, Or.inr rfl, Or.inl rfl, Or.inl rfl, Or.inl rfl, Or.inr rfl, trivial⟩ ?_
                  exact (ih3 (c + 1) v167 ((hfr72).tr hfr167 (by decide) (by decide)) (hOwI_167) (hSInv_167) (by omega) (by omega))
                · refine r_iload_n (pc := 145) hX 83 rfl rfl ?_
                  refine r_iload (pc := 146) hX 84 rfl rfl ?_
                  first | refine r_icmp_ne (pc := 148) hX 85 (tgt := 173) rfl (by decide) (⟨by omega, by omega⟩) (⟨by omega, by omega⟩) (fun h148 => ?_) (fun h148 => ?_) | refine r_icmp_ne_any (pc := 148) hX 85 (tgt := 173) rfl (by decide) ?_ ?_
                  · have h8 : ∀ j, 0 ≤ j → j ≤ 2 → 0 ≤ v72 185 j ∧ v72 185 j ≤ 8 := fun j h0 h1 => by
                      by_cases e : j = q
                      · subst e; have := i9 h0; omega
                      · exact i8 j h0 h1 e
                    have h80 := h8 0 (by decide) (by decide)
                    have h81 := h8 1 (by decide) (by decide)
                    have h82 := h8 2 (by decide) (by decide)
                    refine t_getR (pc := 173) hX 98 rfl rfl rfl fl_X12_68 rfl hG.1 (a_then hG).1 ?_
                    refine r_aload_n (pc := 177) hX 100 rfl rfl ?_
                    refine r_callV (as := []) (st := [(2, 191)]) (K := 12) (pc := 178) hX 101 rfl mo_m_slot ml_X12_364 im_m_slot se_m_slot (c_slot g v72 ρ Z hG  ) rfl rfl rfl hG.1 (by rw [hRm]; exact ⟨by decide, by decide⟩) (by rw [hRm]; exact ⟨by decide, by decide⟩) (Nat.le_of_ble_eq_true rfl) (fun o178 v178 ρ178 Z178 hq178 _ => ?_)
                    obtain ⟨rfl, rfl, rfl, r178, rfl, hq178⟩ := hq178
                    show wp g X F_m_comes 0 0 181 [(2, 178), (0, l), (0, fr), (0, car), (0, lf), (0, c), (0, (v3 180 ((17 + (5 * l)) + c))), (0, q), (1, ((v72 190 fr) * (v3 180 ((17 + (5 * l)) + c)))), (3, 0)] [(0, r178), (2, 191)] v72 ρ Z
                    refine r_dup2i (pc := 181) hX 102 rfl (show (0 : Nat) ≠ 1 by decide) (show (2 : Nat) ≠ 1 by decide) ?_
                    refine e_lald (y := (v72 191 r178)) (pc := 182) hX 103 rfl (a_then hG).2.1 (a_then hG).2.2 (by omega) (by omega) (rfl) ?_
                    refine r_lload (pc := 183) hX 104 rfl rfl ?_
                    refine r_ladd (pc := 185) hX 105 rfl ?_
                    refine e_last (pc := 186) hX 106 rfl (a_then hG).2.1 (a_then hG).2.2 (by decide) (by omega) (by omega) ?_
                    refine r_iinc (ls' := [(2, 178), (0, l), (0, fr), (0, car), (0, lf), (0, (c + 1)), (0, (v3 180 ((17 + (5 * l)) + c))), (0, q), (1, ((v72 190 fr) * (v3 180 ((17 + (5 * l)) + c)))), (3, 0)]) (pc := 187) hX 107 rfl rfl (by decide) rfl ?_
                    refine r_goto (pc := 190) hX 108 (tgt := 3) rfl (by decide) ?_
                    refine r_wk (ls' := [(2, 178), (0, l), (0, fr), (0, car), (0, lf), (0, (c + 1)), (3, 0), (3, 0), (3, 0), (3, 0)]) ⟨Or.inr rfl, Or.inr rfl, Or.inr rfl, Or.inr rfl, Or.inr rfl, Or.inr rfl, Or.inl rfl, Or.inl rfl, Or.inl rfl, Or.inr rfl, trivial⟩ ?_
                    exact (ih3 (c + 1) (up v72 191 r178 ((v72 191 r178) + ((v72 190 fr) * (v3 180 ((17 + (5 * l)) + c))))) ((hfr72).arr (r := 191) (by decide) (by decide)) (by rw [up_f (by decide)]; exact hOwI_72) (by rw [up_f (by decide)]; exact hSInv_72) (by omega) (by omega))
                  · refine r_aload_n (pc := 151) hX 86 rfl rfl ?_
                    refine r_aload_n (pc := 152) hX 87 rfl rfl ?_
                    refine r_callV (as := []) (st := [(2, 178)]) (K := 12) (pc := 153) hX 88 rfl mo_m_ahead ml_X12_313 im_m_ahead se_m_ahead (c_ahead g v72 ρ Z hG  (hSInv_72) (hC72)) rfl rfl rfl hG.1 (by rw [hRm]; exact ⟨by decide, by decide⟩) (by rw [hRm]; exact ⟨by decide, by decide⟩) (Nat.le_of_ble_eq_true rfl) (fun o153 v153 ρ153 Z153 hq153 _ => ?_)
                    obtain ⟨rfl, rfl, rfl, r153, rfl, hq153⟩ := hq153
                    show wp g X F_m_comes 0 0 156 [(2, 178), (0, l), (0, fr), (0, car), (0, lf), (0, c), (0, (v3 180 ((17 + (5 * l)) + c))), (0, q), (1, ((v72 190 fr) * (v3 180 ((17 + (5 * l)) + c)))), (3, 0)] [(0, r153), (2, 178)] v72 ρ Z
                    refine r_lload (pc := 156) hX 89 rfl rfl ?_
                    refine r_iload (pc := 158) hX 90 rfl rfl ?_
                    refine r_iload_n (pc := 160) hX 91 rfl rfl ?_
                    refine r_isub (pc := 161) hX 92 rfl ?_
                    refine r_callS (as := [(0, (lf - car))]) (st := [(1, ((v72 190 fr) * (v3 180 ((17 + (5 * l)) + c)))), (0, r153), (2, 178)]) (pc := 162) hX 93 rfl mo_m_twelves ml_X12_353 stt_m_twelves (c_twelves g v72 ρ Z hG ((lf - car)) (by omega)) rfl (by rw [hRm]; exact ⟨by decide, by decide⟩) (by rw [hRm]; exact ⟨by decide, by decide⟩) (Nat.le_of_ble_eq_true rfl) (fun o162 v162 ρ162 Z162 hq162 _ => ?_)
                    obtain ⟨rfl, rfl, rfl, r162, rfl, hq162⟩ := hq162
                    show wp g X F_m_comes 0 0 165 [(2, 178), (0, l), (0, fr), (0, car), (0, lf), (0, c), (0, (v3 180 ((17 + (5 * l)) + c))), (0, q), (1, ((v72 190 fr) * (v3 180 ((17 + (5 * l)) + c)))), (3, 0)] [(1, r162), (1, ((v72 190 fr) * (v3 180 ((17 + (5 * l)) + c)))), (0, r153), (2, 178)] v72 ρ Z
                    refine r_lmul (pc := 165) hX 94 rfl ?_
                    refine r_iload_n (pc := 166) hX 95 rfl rfl ?_
                    refine r_callV (as := [(0, r153), (1, (((v72 190 fr) * (v3 180 ((17 + (5 * l)) + c))) * r162)), (0, car)]) (st := []) (K := 12) (pc := 167) hX 96 rfl mo_m_ends ml_X12_360 im_m_ends se_m_ends (c_ends g v72 ρ Z hG (r153) ((((v72 190 fr) * (v3 180 ((17 + (5 * l)) + c))) * r162)) (car) (by omega) (by omega)) rfl rfl rfl hG.1 (by rw [hRm]; exact ⟨by decide, by decide⟩) (by rw [hRm]; exact ⟨by decide, by decide⟩) (Nat.le_of_ble_eq_true rfl) (fun o167 v167 ρ167 Z167 hq167 _ => ?_)
                    obtain ⟨rfl, rfl, hfr167, rfl, hq167⟩ := hq167
                    have hSInv_167 : SInv (v167 180) := by rw [hfr167.1 180 (by decide) (by decide)]; exact hSInv_72
                    have hOwI_167 : OwI (v167 186) := by rw [hfr167.1 186 (by decide) (by decide)]; exact hOwI_72
                    show wp g X F_m_comes 0 0 170 [(2, 178), (0, l), (0, fr), (0, car), (0, lf), (0, c), (0, (v3 180 ((17 + (5 * l)) + c))), (0, q), (1, ((v72 190 fr) * (v3 180 ((17 + (5 * l)) + c)))), (3, 0)] [] v167 ρ Z
                    refine r_goto (pc := 170) hX 97 (tgt := 187) rfl (by decide) ?_
                    refine r_iinc (ls' := [(2, 178), (0, l), (0, fr), (0, car), (0, lf), (0, (c + 1)), (0, (v3 180 ((17 + (5 * l)) + c))), (0, q), (1, ((v72 190 fr) * (v3 180 ((17 + (5 * l)) + c)))), (3, 0)]) (pc := 187) hX 107 rfl rfl (by decide) rfl ?_
                    refine r_goto (pc := 190) hX 108 (tgt := 3) rfl (by decide) ?_
                    refine r_wk (ls' := [(2, 178), (0, l), (0, fr), (0, car), (0, lf), (0, (c + 1)), (3, 0), (3, 0), (3, 0), (3, 0)]) ⟨Or.inr rfl, Or.inr rfl, Or.inr rfl, Or.inr rfl, Or.inr rfl, Or.inr rfl, Or.inl rfl, Or.inl rfl, Or.inl rfl, Or.inr rfl, trivial⟩ ?_
                    exact (ih3 (c + 1) v167 ((hfr72).tr hfr167 (by decide) (by decide)) (hOwI_167) (hSInv_167) (by omega) (by omega))
            · refine t_getR (pc := 89) hX 52 rfl rfl rfl fl_X12_50 rfl hG.1 (a_scores hG).1 ?_
              refine r_iload (pc := 93) hX 54 rfl rfl ?_
              refine e_iald (y := (v72 185 q)) (pc := 95) hX 55 rfl (a_scores hG).2.1 (a_scores hG).2.2 (by omega) (by omega) (rfl) ?_
              refine t_getR (pc := 96) hX 56 rfl rfl rfl fl_X12_33 rfl hG.1 (a_s hG).1 ?_
              refine r_iconst (pc := 100) hX 58 rfl ?_
              refine e_iald (y := (v72 180 3)) (pc := 101) hX 59 rfl (a_s hG).2.1 (a_s hG).2.2 (by omega) (by omega) (rfl) ?_
              have hb101 := hSInv_72.c3
              first | refine r_icmp_lt (pc := 102) hX 60 (tgt := 125) rfl (by decide) (⟨by omega, by omega⟩) (⟨by omega, by omega⟩) (fun h102 => ?_) (fun h102 => ?_) | refine r_icmp_lt_any (pc := 102) hX 60 (tgt := 125) rfl (by decide) ?_ ?_
              · refine r_iload (pc := 125) hX 72 rfl rfl ?_
                refine r_iconst (pc := 127) hX 73 rfl ?_
                first | refine r_icmp_ge (pc := 128) hX 74 (tgt := 145) rfl (by decide) (⟨by omega, by omega⟩) (⟨by omega, by omega⟩) (fun h128 => ?_) (fun h128 => ?_) | refine r_icmp_ge_any (pc := 128) hX 74 (tgt := 145) rfl (by decide) ?_ ?_
                · refine r_iload_n (pc := 145) hX 83 rfl rfl ?_
                  refine r_iload (pc := 146) hX 84 rfl rfl ?_
                  first | refine r_icmp_ne (pc := 148) hX 85 (tgt := 173) rfl (by decide) (⟨by omega, by omega⟩) (⟨by omega, by omega⟩) (fun h148 => ?_) (fun h148 => ?_) | refine r_icmp_ne_any (pc := 148) hX 85 (tgt := 173) rfl (by decide) ?_ ?_
                  · have h8 : ∀ j, 0 ≤ j → j ≤ 2 → 0 ≤ v72 185 j ∧ v72 185 j ≤ 8 := fun j h0 h1 => by
                      by_cases e : j = q
                      · subst e; have := i9 h0; omega
                      · exact i8 j h0 h1 e
                    have h80 := h8 0 (by decide) (by decide)
                    have h81 := h8 1 (by decide) (by decide)
                    have h82 := h8 2 (by decide) (by decide)
                    refine t_getR (pc := 173) hX 98 rfl rfl rfl fl_X12_68 rfl hG.1 (a_then hG).1 ?_
                    refine r_aload_n (pc := 177) hX 100 rfl rfl ?_
                    refine r_callV (as := []) (st := [(2, 191)]) (K := 12) (pc := 178) hX 101 rfl mo_m_slot ml_X12_364 im_m_slot se_m_slot (c_slot g v72 ρ Z hG  ) rfl rfl rfl hG.1 (by rw [hRm]; exact ⟨by decide, by decide⟩) (by rw [hRm]; exact ⟨by decide, by decide⟩) (Nat.le_of_ble_eq_true rfl) (fun o178 v178 ρ178 Z178 hq178 _ => ?_)
                    obtain ⟨rfl, rfl, rfl, r178, rfl, hq178⟩ := hq178
                    show wp g X F_m_comes 0 0 181 [(2, 178), (0, l), (0, fr), (0, car), (0, lf), (0, c), (0, (v3 180 ((17 + (5 * l)) + c))), (0, q), (1, ((v72 190 fr) * (v3 180 ((17 + (5 * l)) + c)))), (3, 0)] [(0, r178), (2, 191)] v72 ρ Z
                    refine r_dup2i (pc := 181) hX 102 rfl (show (0 : Nat) ≠ 1 by decide) (show (2 : Nat) ≠ 1 by decide) ?_
                    refine e_lald (y := (v72 191 r178)) (pc := 182) hX 103 rfl (a_then hG).2.1 (a_then hG).2.2 (by omega) (by omega) (rfl) ?_
                    refine r_lload (pc := 183) hX 104 rfl rfl ?_
                    refine r_ladd (pc := 185) hX 105 rfl ?_
                    refine e_last (pc := 186) hX 106 rfl (a_then hG).2.1 (a_then hG).2.2 (by decide) (by omega) (by omega) ?_
                    refine r_iinc (ls' := [(2, 178), (0, l), (0, fr), (0, car), (0, lf), (0, (c + 1)), (0, (v3 180 ((17 + (5 * l)) + c))), (0, q), (1, ((v72 190 fr) * (v3 180 ((17 + (5 * l)) + c)))), (3, 0)]) (pc := 187) hX 107 rfl rfl (by decide) rfl ?_
                    refine r_goto (pc := 190) hX 108 (tgt := 3) rfl (by decide) ?_
                    refine r_wk (ls' := [(2, 178), (0, l), (0, fr), (0, car), (0, lf), (0, (c + 1)), (3, 0), (3, 0), (3, 0), (3, 0)]) ⟨Or.inr rfl, Or.inr rfl, Or.inr rfl, Or.inr rfl, Or.inr rfl, Or.inr rfl, Or.inl rfl, Or.inl rfl, Or.inl rfl, Or.inr rfl, trivial⟩ ?_
                    exact (ih3 (c + 1) (up v72 191 r178 ((v72 191 r178) + ((v72 190 fr) * (v3 180 ((17 + (5 * l)) + c))))) ((hfr72).arr (r := 191) (by decide) (by decide)) (by rw [up_f (by decide)]; exact hOwI_72) (by rw [up_f (by decide)]; exact hSInv_72) (by omega) (by omega))
                  · refine r_aload_n (pc := 151) hX 86 rfl rfl ?_
                    refine r_aload_n (pc := 152) hX 87 rfl rfl ?_
                    refine r_callV (as := []) (st := [(2, 178)]) (K := 12) (pc := 153) hX 88 rfl mo_m_ahead ml_X12_313 im_m_ahead se_m_ahead (c_ahead g v72 ρ Z hG  (hSInv_72) (hC72)) rfl rfl rfl hG.1 (by rw [hRm]; exact ⟨by decide, by decide⟩) (by rw [hRm]; exact ⟨by decide, by decide⟩) (Nat.le_of_ble_eq_true rfl) (fun o153 v153 ρ153 Z153 hq153 _ => ?_)
                    obtain ⟨rfl, rfl, rfl, r153, rfl, hq153⟩ := hq153
                    show wp g X F_m_comes 0 0 156 [(2, 178), (0, l), (0, fr), (0, car), (0, lf), (0, c), (0, (v3 180 ((17 + (5 * l)) + c))), (0, q), (1, ((v72 190 fr) * (v3 180 ((17 + (5 * l)) + c)))), (3, 0)] [(0, r153), (2, 178)] v72 ρ Z
                    refine r_lload (pc := 156) hX 89 rfl rfl ?_
                    refine r_iload (pc := 158) hX 90 rfl rfl ?_
                    refine r_iload_n (pc := 160) hX 91 rfl rfl ?_
                    refine r_isub (pc := 161) hX 92 rfl ?_
                    refine r_callS (as := [(0, (lf - car))]) (st := [(1, ((v72 190 fr) * (v3 180 ((17 + (5 * l)) + c)))), (0, r153), (2, 178)]) (pc := 162) hX 93 rfl mo_m_twelves ml_X12_353 stt_m_twelves (c_twelves g v72 ρ Z hG ((lf - car)) (by omega)) rfl (by rw [hRm]; exact ⟨by decide, by decide⟩) (by rw [hRm]; exact ⟨by decide, by decide⟩) (Nat.le_of_ble_eq_true rfl) (fun o162 v162 ρ162 Z162 hq162 _ => ?_)
                    obtain ⟨rfl, rfl, rfl, r162, rfl, hq162⟩ := hq162
                    show wp g X F_m_comes 0 0 165 [(2, 178), (0, l), (0, fr), (0, car), (0, lf), (0, c), (0, (v3 180 ((17 + (5 * l)) + c))), (0, q), (1, ((v72 190 fr) * (v3 180 ((17 + (5 * l)) + c)))), (3, 0)] [(1, r162), (1, ((v72 190 fr) * (v3 180 ((17 + (5 * l)) + c)))), (0, r153), (2, 178)] v72 ρ Z
                    refine r_lmul (pc := 165) hX 94 rfl ?_
                    refine r_iload_n (pc := 166) hX 95 rfl rfl ?_
                    refine r_callV (as := [(0, r153), (1, (((v72 190 fr) * (v3 180 ((17 + (5 * l)) + c))) * r162)), (0, car)]) (st := []) (K := 12) (pc := 167) hX 96 rfl mo_m_ends ml_X12_360 im_m_ends se_m_ends (c_ends g v72 ρ Z hG (r153) ((((v72 190 fr) * (v3 180 ((17 + (5 * l)) + c))) * r162)) (car) (by omega) (by omega)) rfl rfl rfl hG.1 (by rw [hRm]; exact ⟨by decide, by decide⟩) (by rw [hRm]; exact ⟨by decide, by decide⟩) (Nat.le_of_ble_eq_true rfl) (fun o167 v167 ρ167 Z167 hq167 _ => ?_)
                    obtain ⟨rfl, rfl, hfr167, rfl, hq167⟩ := hq167
                    have hSInv_167 : SInv (v167 180) := by rw [hfr167.1 180 (by decide) (by decide)]; exact hSInv_72
                    have hOwI_167 : OwI (v167 186) := by rw [hfr167.1 186 (by decide) (by decide)]; exact hOwI_72
                    show wp g X F_m_comes 0 0 170 [(2, 178), (0, l), (0, fr), (0, car), (0, lf), (0, c), (0, (v3 180 ((17 + (5 * l)) + c))), (0, q), (1, ((v72 190 fr) * (v3 180 ((17 + (5 * l)) + c)))), (3, 0)] [] v167 ρ Z
                    refine r_goto (pc := 170) hX 97 (tgt := 187) rfl (by decide) ?_
                    refine r_iinc (ls' := [(2, 178), (0, l), (0, fr), (0, car), (0, lf), (0, (c + 1)), (0, (v3 180 ((17 + (5 * l)) + c))), (0, q), (1, ((v72 190 fr) * (v3 180 ((17 + (5 * l)) + c)))), (3, 0)]) (pc := 187) hX 107 rfl rfl (by decide) rfl ?_
                    refine r_goto (pc := 190) hX 108 (tgt := 3) rfl (by decide) ?_
                    refine r_wk (ls' := [(2, 178), (0, l), (0, fr), (0, car), (0, lf), (0, (c + 1)), (3, 0), (3, 0), (3, 0), (3, 0)]) ⟨Or.inr rfl, Or.inr rfl, Or.inr rfl, Or.inr rfl, Or.inr rfl, Or.inr rfl, Or.inl rfl, Or.inl rfl, Or.inl rfl, Or.inr rfl, trivial⟩ ?_
                    exact (ih3 (c + 1) v167 ((hfr72).tr hfr167 (by decide) (by decide)) (hOwI_167) (hSInv_167) (by omega) (by omega))
                · refine t_getR (pc := 131) hX 75 rfl rfl rfl fl_X12_33 rfl hG.1 (a_s hG).1 ?_
                  refine r_bipush (pc := 135) hX 77 rfl (by decide) ?_
                  refine r_iload (pc := 137) hX 78 rfl rfl ?_
                  refine r_iadd (pc := 139) hX 79 rfl ?_
                  refine e_iald (y := (v72 180 (10 + c))) (pc := 140) hX 80 rfl (a_s hG).2.1 (a_s hG).2.2 (by omega) (by omega) (rfl) ?_
                  have hb140 := hSInv_72.c10 c (by omega) (by omega)
                  refine r_iconst (pc := 141) hX 81 rfl ?_
                  first | refine r_icmp_eq (pc := 142) hX 82 (tgt := 151) rfl (by decide) (⟨by omega, by omega⟩) (⟨by omega, by omega⟩) (fun h142 => ?_) (fun h142 => ?_) | refine r_icmp_eq_any (pc := 142) hX 82 (tgt := 151) rfl (by decide) ?_ ?_
                  · refine r_aload_n (pc := 151) hX 86 rfl rfl ?_
                    refine r_aload_n (pc := 152) hX 87 rfl rfl ?_
                    refine r_callV (as := []) (st := [(2, 178)]) (K := 12) (pc := 153) hX 88 rfl mo_m_ahead ml_X12_313 im_m_ahead se_m_ahead (c_ahead g v72 ρ Z hG  (hSInv_72) (hC72)) rfl rfl rfl hG.1 (by rw [hRm]; exact ⟨by decide, by decide⟩) (by rw [hRm]; exact ⟨by decide, by decide⟩) (Nat.le_of_ble_eq_true rfl) (fun o153 v153 ρ153 Z153 hq153 _ => ?_)
                    obtain ⟨rfl, rfl, rfl, r153, rfl, hq153⟩ := hq153
                    show wp g X F_m_comes 0 0 156 [(2, 178), (0, l), (0, fr), (0, car), (0, lf), (0, c), (0, (v3 180 ((17 + (5 * l)) + c))), (0, q), (1, ((v72 190 fr) * (v3 180 ((17 + (5 * l)) + c)))), (3, 0)] [(0, r153), (2, 178)] v72 ρ Z
                    refine r_lload (pc := 156) hX 89 rfl rfl ?_
                    refine r_iload (pc := 158) hX 90 rfl rfl ?_
                    refine r_iload_n (pc := 160) hX 91 rfl rfl ?_
                    refine r_isub (pc := 161) hX 92 rfl ?_
                    refine r_callS (as := [(0, (lf - car))]) (st := [(1, ((v72 190 fr) * (v3 180 ((17 + (5 * l)) + c)))), (0, r153), (2, 178)]) (pc := 162) hX 93 rfl mo_m_twelves ml_X12_353 stt_m_twelves (c_twelves g v72 ρ Z hG ((lf - car)) (by omega)) rfl (by rw [hRm]; exact ⟨by decide, by decide⟩) (by rw [hRm]; exact ⟨by decide, by decide⟩) (Nat.le_of_ble_eq_true rfl) (fun o162 v162 ρ162 Z162 hq162 _ => ?_)
                    obtain ⟨rfl, rfl, rfl, r162, rfl, hq162⟩ := hq162
                    show wp g X F_m_comes 0 0 165 [(2, 178), (0, l), (0, fr), (0, car), (0, lf), (0, c), (0, (v3 180 ((17 + (5 * l)) + c))), (0, q), (1, ((v72 190 fr) * (v3 180 ((17 + (5 * l)) + c)))), (3, 0)] [(1, r162), (1, ((v72 190 fr) * (v3 180 ((17 + (5 * l)) + c)))), (0, r153), (2, 178)] v72 ρ Z
                    refine r_lmul (pc := 165) hX 94 rfl ?_
                    refine r_iload_n (pc := 166) hX 95 rfl rfl ?_
                    refine r_callV (as := [(0, r153), (1, (((v72 190 fr) * (v3 180 ((17 + (5 * l)) + c))) * r162)), (0, car)]) (st := []) (K := 12) (pc := 167) hX 96 rfl mo_m_ends ml_X12_360 im_m_ends se_m_ends (c_ends g v72 ρ Z hG (r153) ((((v72 190 fr) * (v3 180 ((17 + (5 * l)) + c))) * r162)) (car) (by omega) (by omega)) rfl rfl rfl hG.1 (by rw [hRm]; exact ⟨by decide, by decide⟩) (by rw [hRm]; exact ⟨by decide, by decide⟩) (Nat.le_of_ble_eq_true rfl) (fun o167 v167 ρ167 Z167 hq167 _ => ?_)
                    obtain ⟨rfl, rfl, hfr167, rfl, hq167⟩ := hq167
                    have hSInv_167 : SInv (v167 180) := by rw [hfr167.1 180 (by decide) (by decide)]; exact hSInv_72
                    have hOwI_167 : OwI (v167 186) := by rw [hfr167.1 186 (by decide) (by decide)]; exact hOwI_72
                    show wp g X F_m_comes 0 0 170 [(2, 178), (0, l), (0, fr), (0, car), (0, lf), (0, c), (0, (v3 180 ((17 + (5 * l)) + c))), (0, q), (1, ((v72 190 fr) * (v3 180 ((17 + (5 * l)) + c)))), (3, 0)] [] v167 ρ Z
                    refine r_goto (pc := 170) hX 97 (tgt := 187) rfl (by decide) ?_
                    refine r_iinc (ls' := [(2, 178), (0, l), (0, fr), (0, car), (0, lf), (0, (c + 1)), (0, (v3 180 ((17 + (5 * l)) + c))), (0, q), (1, ((v72 190 fr) * (v3 180 ((17 + (5 * l)) + c)))), (3, 0)]) (pc := 187) hX 107 rfl rfl (by decide) rfl ?_
                    refine r_goto (pc := 190) hX 108 (tgt := 3) rfl (by decide) ?_
                    refine r_wk (ls' := [(2, 178), (0, l), (0, fr), (0, car), (0, lf), (0, (c + 1)), (3, 0), (3, 0), (3, 0), (3, 0)]) ⟨Or.inr rfl, Or.inr rfl, Or.inr rfl, Or.inr rfl, Or.inr rfl, Or.inr rfl, Or.inl rfl, Or.inl rfl, Or.inl rfl, Or.inr rfl, trivial⟩ ?_
                    exact (ih3 (c + 1) v167 ((hfr72).tr hfr167 (by decide) (by decide)) (hOwI_167) (hSInv_167) (by omega) (by omega))
                  · refine r_iload_n (pc := 145) hX 83 rfl rfl ?_
                    refine r_iload (pc := 146) hX 84 rfl rfl ?_
                    first | refine r_icmp_ne (pc := 148) hX 85 (tgt := 173) rfl (by decide) (⟨by omega, by omega⟩) (⟨by omega, by omega⟩) (fun h148 => ?_) (fun h148 => ?_) | refine r_icmp_ne_any (pc := 148) hX 85 (tgt := 173) rfl (by decide) ?_ ?_
                    · have h8 : ∀ j, 0 ≤ j → j ≤ 2 → 0 ≤ v72 185 j ∧ v72 185 j ≤ 8 := fun j h0 h1 => by
                        by_cases e : j = q
                        · subst e; have := i9 h0; omega
                        · exact i8 j h0 h1 e
                      have h80 := h8 0 (by decide) (by decide)
                      have h81 := h8 1 (by decide) (by decide)
                      have h82 := h8 2 (by decide) (by decide)
                      refine t_getR (pc := 173) hX 98 rfl rfl rfl fl_X12_68 rfl hG.1 (a_then hG).1 ?_
                      refine r_aload_n (pc := 177) hX 100 rfl rfl ?_
                      refine r_callV (as := []) (st := [(2, 191)]) (K := 12) (pc := 178) hX 101 rfl mo_m_slot ml_X12_364 im_m_slot se_m_slot (c_slot g v72 ρ Z hG  ) rfl rfl rfl hG.1 (by rw [hRm]; exact ⟨by decide, by decide⟩) (by rw [hRm]; exact ⟨by decide, by decide⟩) (Nat.le_of_ble_eq_true rfl) (fun o178 v178 ρ178 Z178 hq178 _ => ?_)
                      obtain ⟨rfl, rfl, rfl, r178, rfl, hq178⟩ := hq178
                      show wp g X F_m_comes 0 0 181 [(2, 178), (0, l), (0, fr), (0, car), (0, lf), (0, c), (0, (v3 180 ((17 + (5 * l)) + c))), (0, q), (1, ((v72 190 fr) * (v3 180 ((17 + (5 * l)) + c)))), (3, 0)] [(0, r178), (2, 191)] v72 ρ Z
                      refine r_dup2i (pc := 181) hX 102 rfl (show (0 : Nat) ≠ 1 by decide) (show (2 : Nat) ≠ 1 by decide) ?_
                      refine e_lald (y := (v72 191 r178)) (pc := 182) hX 103 rfl (a_then hG).2.1 (a_then hG).2.2 (by omega) (by omega) (rfl) ?_
                      refine r_lload (pc := 183) hX 104 rfl rfl ?_
                      refine r_ladd (pc := 185) hX 105 rfl ?_
                      refine e_last (pc := 186) hX 106 rfl (a_then hG).2.1 (a_then hG).2.2 (by decide) (by omega) (by omega) ?_
                      refine r_iinc (ls' := [(2, 178), (0, l), (0, fr), (0, car), (0, lf), (0, (c + 1)), (0, (v3 180 ((17 + (5 * l)) + c))), (0, q), (1, ((v72 190 fr) * (v3 180 ((17 + (5 * l)) + c)))), (3, 0)]) (pc := 187) hX 107 rfl rfl (by decide) rfl ?_
                      refine r_goto (pc := 190) hX 108 (tgt := 3) rfl (by decide) ?_
                      refine r_wk (ls' := [(2, 178), (0, l), (0, fr), (0, car), (0, lf), (0, (c + 1)), (3, 0), (3, 0), (3, 0), (3, 0)]) ⟨Or.inr rfl, Or.inr rfl, Or.inr rfl, Or.inr rfl, Or.inr rfl, Or.inr rfl, Or.inl rfl, Or.inl rfl, Or.inl rfl, Or.inr rfl, trivial⟩ ?_
                      exact (ih3 (c + 1) (up v72 191 r178 ((v72 191 r178) + ((v72 190 fr) * (v3 180 ((17 + (5 * l)) + c))))) ((hfr72).arr (r := 191) (by decide) (by decide)) (by rw [up_f (by decide)]; exact hOwI_72) (by rw [up_f (by decide)]; exact hSInv_72) (by omega) (by omega))
                    · refine r_aload_n (pc := 151) hX 86 rfl rfl ?_
                      refine r_aload_n (pc := 152) hX 87 rfl rfl ?_
                      refine r_callV (as := []) (st := [(2, 178)]) (K := 12) (pc := 153) hX 88 rfl mo_m_ahead ml_X12_313 im_m_ahead se_m_ahead (c_ahead g v72 ρ Z hG  (hSInv_72) (hC72)) rfl rfl rfl hG.1 (by rw [hRm]; exact ⟨by decide, by decide⟩) (by rw [hRm]; exact ⟨by decide, by decide⟩) (Nat.le_of_ble_eq_true rfl) (fun o153 v153 ρ153 Z153 hq153 _ => ?_)
                      obtain ⟨rfl, rfl, rfl, r153, rfl, hq153⟩ := hq153
                      show wp g X F_m_comes 0 0 156 [(2, 178), (0, l), (0, fr), (0, car), (0, lf), (0, c), (0, (v3 180 ((17 + (5 * l)) + c))), (0, q), (1, ((v72 190 fr) * (v3 180 ((17 + (5 * l)) + c)))), (3, 0)] [(0, r153), (2, 178)] v72 ρ Z
                      refine r_lload (pc := 156) hX 89 rfl rfl ?_
                      refine r_iload (pc := 158) hX 90 rfl rfl ?_
                      refine r_iload_n (pc := 160) hX 91 rfl rfl ?_
                      refine r_isub (pc := 161) hX 92 rfl ?_
                      refine r_callS (as := [(0, (lf - car))]) (st := [(1, ((v72 190 fr) * (v3 180 ((17 + (5 * l)) + c)))), (0, r153), (2, 178)]) (pc := 162) hX 93 rfl mo_m_twelves ml_X12_353 stt_m_twelves (c_twelves g v72 ρ Z hG ((lf - car)) (by omega)) rfl (by rw [hRm]; exact ⟨by decide, by decide⟩) (by rw [hRm]; exact ⟨by decide, by decide⟩) (Nat.le_of_ble_eq_true rfl) (fun o162 v162 ρ162 Z162 hq162 _ => ?_)
                      obtain ⟨rfl, rfl, rfl, r162, rfl, hq162⟩ := hq162
                      show wp g X F_m_comes 0 0 165 [(2, 178), (0, l), (0, fr), (0, car), (0, lf), (0, c), (0, (v3 180 ((17 + (5 * l)) + c))), (0, q), (1, ((v72 190 fr) * (v3 180 ((17 + (5 * l)) + c)))), (3, 0)] [(1, r162), (1, ((v72 190 fr) * (v3 180 ((17 + (5 * l)) + c)))), (0, r153), (2, 178)] v72 ρ Z
                      refine r_lmul (pc := 165) hX 94 rfl ?_
                      refine r_iload_n (pc := 166) hX 95 rfl rfl ?_
                      refine r_callV (as := [(0, r153), (1, (((v72 190 fr) * (v3 180 ((17 + (5 * l)) + c))) * r162)), (0, car)]) (st := []) (K := 12) (pc := 167) hX 96 rfl mo_m_ends ml_X12_360 im_m_ends se_m_ends (c_ends g v72 ρ Z hG (r153) ((((v72 190 fr) * (v3 180 ((17 + (5 * l)) + c))) * r162)) (car) (by omega) (by omega)) rfl rfl rfl hG.1 (by rw [hRm]; exact ⟨by decide, by decide⟩) (by rw [hRm]; exact ⟨by decide, by decide⟩) (Nat.le_of_ble_eq_true rfl) (fun o167 v167 ρ167 Z167 hq167 _ => ?_)
                      obtain ⟨rfl, rfl, hfr167, rfl, hq167⟩ := hq167
                      have hSInv_167 : SInv (v167 180) := by rw [hfr167.1 180 (by decide) (by decide)]; exact hSInv_72
                      have hOwI_167 : OwI (v167 186) := by rw [hfr167.1 186 (by decide) (by decide)]; exact hOwI_72
                      show wp g X F_m_comes 0 0 170 [(2, 178), (0, l), (0, fr), (0, car), (0, lf), (0, c), (0, (v3 180 ((17 + (5 * l)) + c))), (0, q), (1, ((v72 190 fr) * (v3 180 ((17 + (5 * l)) + c)))), (3, 0)] [] v167 ρ Z
                      refine r_goto (pc := 170) hX 97 (tgt := 187) rfl (by decide) ?_
                      refine r_iinc (ls' := [(2, 178), (0, l), (0, fr), (0, car), (0, lf), (0, (c + 1)), (0, (v3 180 ((17 + (5 * l)) + c))), (0, q), (1, ((v72 190 fr) * (v3 180 ((17 + (5 * l)) + c)))), (3, 0)]) (pc := 187) hX 107 rfl rfl (by decide) rfl ?_
                      refine r_goto (pc := 190) hX 108 (tgt := 3) rfl (by decide) ?_
                      refine r_wk (ls' := [(2, 178), (0, l), (0, fr), (0, car), (0, lf), (0, (c + 1)), (3, 0), (3, 0), (3, 0), (3, 0)]) ⟨Or.inr rfl, Or.inr rfl, Or.inr rfl, Or.inr rfl, Or.inr rfl, Or.inr rfl, Or.inl rfl, Or.inl rfl, Or.inl rfl, Or.inr rfl, trivial⟩ ?_
                      exact (ih3 (c + 1) v167 ((hfr72).tr hfr167 (by decide) (by decide)) (hOwI_167) (hSInv_167) (by omega) (by omega))
              · refine r_aload_n (pc := 105) hX 61 rfl rfl ?_
                refine r_iload (pc := 106) hX 62 rfl rfl ?_
                refine r_lload (pc := 108) hX 63 rfl rfl ?_
                refine r_iload (pc := 110) hX 64 rfl rfl ?_
                refine r_iload_n (pc := 112) hX 65 rfl rfl ?_
                refine r_isub (pc := 113) hX 66 rfl ?_
                refine r_callS (as := [(0, (lf - car))]) (st := [(1, ((v72 190 fr) * (v3 180 ((17 + (5 * l)) + c)))), (0, q), (2, 178)]) (pc := 114) hX 67 rfl mo_m_twelves ml_X12_353 stt_m_twelves (c_twelves g v72 ρ Z hG ((lf - car)) (by omega)) rfl (by rw [hRm]; exact ⟨by decide, by decide⟩) (by rw [hRm]; exact ⟨by decide, by decide⟩) (Nat.le_of_ble_eq_true rfl) (fun o114 v114 ρ114 Z114 hq114 _ => ?_)
                obtain ⟨rfl, rfl, rfl, r114, rfl, hq114⟩ := hq114
                show wp g X F_m_comes 0 0 117 [(2, 178), (0, l), (0, fr), (0, car), (0, lf), (0, c), (0, (v3 180 ((17 + (5 * l)) + c))), (0, q), (1, ((v72 190 fr) * (v3 180 ((17 + (5 * l)) + c)))), (3, 0)] [(1, r114), (1, ((v72 190 fr) * (v3 180 ((17 + (5 * l)) + c)))), (0, q), (2, 178)] v72 ρ Z
                refine r_lmul (pc := 117) hX 68 rfl ?_
                refine r_iload_n (pc := 118) hX 69 rfl rfl ?_
                refine r_callV (as := [(0, q), (1, (((v72 190 fr) * (v3 180 ((17 + (5 * l)) + c))) * r114)), (0, car)]) (st := []) (K := 12) (pc := 119) hX 70 rfl mo_m_ends ml_X12_360 im_m_ends se_m_ends (c_ends g v72 ρ Z hG (q) ((((v72 190 fr) * (v3 180 ((17 + (5 * l)) + c))) * r114)) (car) (by omega) (by omega)) rfl rfl rfl hG.1 (by rw [hRm]; exact ⟨by decide, by decide⟩) (by rw [hRm]; exact ⟨by decide, by decide⟩) (Nat.le_of_ble_eq_true rfl) (fun o119 v119 ρ119 Z119 hq119 _ => ?_)
                obtain ⟨rfl, rfl, hfr119, rfl, hq119⟩ := hq119
                have hSInv_119 : SInv (v119 180) := by rw [hfr119.1 180 (by decide) (by decide)]; exact hSInv_72
                have hOwI_119 : OwI (v119 186) := by rw [hfr119.1 186 (by decide) (by decide)]; exact hOwI_72
                show wp g X F_m_comes 0 0 122 [(2, 178), (0, l), (0, fr), (0, car), (0, lf), (0, c), (0, (v3 180 ((17 + (5 * l)) + c))), (0, q), (1, ((v72 190 fr) * (v3 180 ((17 + (5 * l)) + c)))), (3, 0)] [] v119 ρ Z
                refine r_goto (pc := 122) hX 71 (tgt := 187) rfl (by decide) ?_
                refine r_iinc (ls' := [(2, 178), (0, l), (0, fr), (0, car), (0, lf), (0, (c + 1)), (0, (v3 180 ((17 + (5 * l)) + c))), (0, q), (1, ((v72 190 fr) * (v3 180 ((17 + (5 * l)) + c)))), (3, 0)]) (pc := 187) hX 107 rfl rfl (by decide) rfl ?_
                refine r_goto (pc := 190) hX 108 (tgt := 3) rfl (by decide) ?_
                refine r_wk (ls' := [(2, 178), (0, l), (0, fr), (0, car), (0, lf), (0, (c + 1)), (3, 0), (3, 0), (3, 0), (3, 0)]) ⟨Or.inr rfl, Or.inr rfl, Or.inr rfl, Or.inr rfl, Or.inr rfl, Or.inr rfl, Or.inl rfl, Or.inl rfl, Or.inl rfl, Or.inr rfl, trivial⟩ ?_
                exact (ih3 (c + 1) v119 ((hfr72).tr hfr119 (by decide) (by decide)) (hOwI_119) (hSInv_119) (by omega) (by omega))
          first | refine r_if_lt (pc := 49) hX 28 (tgt := 72) rfl (by decide) (⟨by omega, by omega⟩) (fun h49 => ?_) (fun h49 => ?_) | refine r_if_lt_any (pc := 49) hX 28 (tgt := 72) rfl (by decide) ?_ ?_
          · exact (L72 (v35 186 c) v35 ((hfr3).tr hfr35 (by decide) (by decide)) (hOwI_35) (hSInv_35) (by omega) (fun j h0 h1 h2 => by first | exact hq35 j h0 h1 | (rw [up_k h2]; exact hq35 j h0 h1)) (fun h => by first | (exfalso; omega) | (rw [up_s]; have := hq35 _ h (by omega); omega)) )
          · refine t_getR (pc := 52) hX 29 rfl rfl rfl fl_X12_50 rfl hG.1 (a_scores hG).1 ?_
            refine r_iload (pc := 56) hX 31 rfl rfl ?_
            refine r_dup2i (pc := 58) hX 32 rfl (show (0 : Nat) ≠ 1 by decide) (show (2 : Nat) ≠ 1 by decide) ?_
            refine e_iald (y := (v35 185 (v35 186 c))) (pc := 59) hX 33 rfl (a_scores hG).2.1 (a_scores hG).2.2 (by omega) (by omega) (rfl) ?_
            refine t_getR (pc := 60) hX 34 rfl rfl rfl fl_X12_33 rfl hG.1 (a_s hG).1 ?_
            refine r_bipush (pc := 64) hX 36 rfl (by decide) ?_
            refine r_iload (pc := 66) hX 37 rfl rfl ?_
            refine r_iadd (pc := 68) hX 38 rfl ?_
            refine e_iald (y := (v35 180 (6 + c))) (pc := 69) hX 39 rfl (a_s hG).2.1 (a_s hG).2.2 (by omega) (by omega) (rfl) ?_
            have hb69 := hSInv_35.c6 c (by omega) (by omega)
            refine r_iadd (pc := 70) hX 40 rfl ?_
            refine e_iast (pc := 71) hX 41 rfl (a_scores hG).2.1 (a_scores hG).2.2 (by decide) (by omega) (by omega) ?_
            exact (L72 (v35 186 c) (up v35 185 (v35 186 c) ((v35 185 (v35 186 c)) + (v35 180 (6 + c)))) (((hfr3).tr hfr35 (by decide) (by decide)).arr (r := 185) (by decide) (by decide)) (by rw [up_f (by decide)]; exact hOwI_35) (by rw [up_f (by decide)]; exact hSInv_35) (by omega) (fun j h0 h1 h2 => by first | exact hq35 j h0 h1 | (rw [up_k h2]; exact hq35 j h0 h1)) (fun h => by first | (exfalso; omega) | (rw [up_s]; have := hq35 _ h (by omega); omega)) )
        · refine r_goto (pc := 30) hX 18 (tgt := 187) rfl (by decide) ?_
          refine r_iinc (ls' := [(2, 178), (0, l), (0, fr), (0, car), (0, lf), (0, (c + 1)), (0, (v3 180 ((17 + (5 * l)) + c))), (3, 0), (3, 0), (3, 0)]) (pc := 187) hX 107 rfl rfl (by decide) rfl ?_
          refine r_goto (pc := 190) hX 108 (tgt := 3) rfl (by decide) ?_
          refine r_wk (ls' := [(2, 178), (0, l), (0, fr), (0, car), (0, lf), (0, (c + 1)), (3, 0), (3, 0), (3, 0), (3, 0)]) ⟨Or.inr rfl, Or.inr rfl, Or.inr rfl, Or.inr rfl, Or.inr rfl, Or.inr rfl, Or.inl rfl, Or.inr rfl, Or.inr rfl, Or.inr rfl, trivial⟩ ?_
          exact (ih3 (c + 1) v3 (hfr3) (hOwI_3) (hSInv_3) (by omega) (by omega))
  exact (L3 _ 0 v (Fr.rf) (hO) (hS) (by omega) (Nat.lt_succ_self _))
set_option maxHeartbeats 4000000 in
set_option maxRecDepth 100000 in
theorem c_part (g : Gp) (v ρ : Mv) (Z : Mz) (hG : GM ρ Z) (up bl what : Int) (hu : inL up) (hb : inL bl) (h0 : bl ≠ 0) : Ok g 1 0 0 F_m_part [(1, up), (1, bl), (0, what)] v ρ Z (fun o v' ρ' Z' => ρ = ρ' ∧ Z = Z' ∧ v = v' ∧ ∃ r : Int, o = some (1, r) ∧ True) := by
  refine Ok.of mo_m_part (Nat.le_of_ble_eq_true rfl) ?_
  intro X hX hRm hxn hQ
  show wp g X F_m_part 0 0 0 [(1, up), (3, 0), (1, bl), (3, 0), (0, what), (3, 0), (3, 0), (3, 0), (3, 0), (3, 0), (3, 0)] [] v ρ Z
  refine r_lload_n (pc := 0) hX 0 rfl rfl ?_
  refine r_lconst (pc := 1) hX 1 rfl ?_
  show wp g X F_m_part 0 0 2 [(1, up), (3, 0), (1, bl), (3, 0), (0, what), (3, 0), (3, 0), (3, 0), (3, 0), (3, 0), (3, 0)] [(1, 0), (1, up)] v ρ Z
  refine r_lcmp_any (pc := 2) hX 2 rfl (fun z2 hz2a hz2b => ?_)
  have L17 : ∀ (n17 : Nat) (x y : Int) , (inL x) → (inL y) → (x ≠ 0 ∨ y ≠ 0) → y.natAbs < n17 → wp g X F_m_part 0 0 17 [(1, up), (3, 0), (1, bl), (3, 0), (0, what), (1, x), (3, 0), (1, y), (3, 0), (3, 0), (3, 0)] [] v ρ Z := by
    intro n17
    induction n17 with
    | zero => intro x y ix iy iz hme17; exact absurd hme17 (Nat.not_lt_zero _)
    | succ n17 ih17 =>
      intro x y ix iy iz hme17
      refine r_lload (pc := 17) hX 11 rfl rfl ?_
      refine r_lconst (pc := 19) hX 12 rfl ?_
      show wp g X F_m_part 0 0 20 [(1, up), (3, 0), (1, bl), (3, 0), (0, what), (1, x), (3, 0), (1, y), (3, 0), (3, 0), (3, 0)] [(1, 0), (1, y)] v ρ Z
      refine r_lcmp (pc := 20) hX 13 rfl (iy) (⟨by decide, by decide⟩) ?_
      refine r_if_eq (pc := 21) hX 14 (tgt := 42) rfl (by decide) (cmpI_in _ _) (fun h21 => ?_) (fun h21 => ?_)
      · rw [cmpI_eq] at h21
        refine r_iload (pc := 42) hX 24 rfl rfl ?_
        refine r_if_ne_any (pc := 44) hX 25 (tgt := 51) rfl (by decide) ?_ ?_
        · refine r_lload_n (pc := 51) hX 28 rfl rfl ?_
          refine r_lload (pc := 52) hX 29 rfl rfl ?_
          refine r_ldiv_any (pc := 54) hX 30 rfl (ix) (by omega) (fun z54 hz54 => ?_)
          exact r_lret (pc := 55) hX 31 hQ rfl rfl (Nat.le_refl 0) (Nat.le_refl 0) ⟨rfl, rfl, rfl, z54, rfl, trivial⟩
        · refine r_lload_n (pc := 47) hX 26 rfl rfl ?_
          refine r_goto (pc := 48) hX 27 (tgt := 52) rfl (by decide) ?_
          refine r_lload (pc := 52) hX 29 rfl rfl ?_
          refine r_ldiv_any (pc := 54) hX 30 rfl (ix) (by omega) (fun z54 hz54 => ?_)
          exact r_lret (pc := 55) hX 31 hQ rfl rfl (Nat.le_refl 0) (Nat.le_refl 0) ⟨rfl, rfl, rfl, z54, rfl, trivial⟩
      · rw [cmpI_eq] at h21
        refine r_lload (pc := 24) hX 15 rfl rfl ?_
        refine r_lload (pc := 26) hX 16 rfl rfl ?_
        refine r_lremT (pc := 28) hX 17 rfl (ix) (iy) (by omega) (fun hz28 => ?_)
        refine r_lstore (ls' := [(1, up), (3, 0), (1, bl), (3, 0), (0, what), (1, x), (3, 0), (1, y), (3, 0), (1, (x.tmod y)), (3, 0)]) (pc := 29) hX 18 rfl (by decide) rfl ?_
        refine r_lload (pc := 31) hX 19 rfl rfl ?_
        refine r_lstore (ls' := [(1, up), (3, 0), (1, bl), (3, 0), (0, what), (1, y), (3, 0), (1, y), (3, 0), (1, (x.tmod y)), (3, 0)]) (pc := 33) hX 20 rfl (by decide) rfl ?_
        refine r_lload (pc := 35) hX 21 rfl rfl ?_
        refine r_lstore (ls' := [(1, up), (3, 0), (1, bl), (3, 0), (0, what), (1, y), (3, 0), (1, (x.tmod y)), (3, 0), (1, (x.tmod y)), (3, 0)]) (pc := 37) hX 22 rfl (by decide) rfl ?_
        refine r_goto (pc := 39) hX 23 (tgt := 17) rfl (by decide) ?_
        refine r_wk (ls' := [(1, up), (3, 0), (1, bl), (3, 0), (0, what), (1, y), (3, 0), (1, (x.tmod y)), (3, 0), (3, 0), (3, 0)]) ⟨Or.inr rfl, Or.inr rfl, Or.inr rfl, Or.inr rfl, Or.inr rfl, Or.inr rfl, Or.inr rfl, Or.inr rfl, Or.inr rfl, Or.inl rfl, Or.inr rfl, trivial⟩ ?_
        exact (ih17 y (x.tmod y) (iy) (hz28) (by omega) (Nat.lt_of_lt_of_le (show (x.tmod y).natAbs < y.natAbs by rw [Int.natAbs_tmod]; exact Nat.mod_lt _ (by omega)) (by omega)))
  refine r_if_ge_any (pc := 3) hX 3 (tgt := 11) rfl (by decide) ?_ ?_
  · refine r_lload_n (pc := 11) hX 7 rfl rfl ?_
    refine r_lstore (ls' := [(1, up), (3, 0), (1, bl), (3, 0), (0, what), (1, up), (3, 0), (3, 0), (3, 0), (3, 0), (3, 0)]) (pc := 12) hX 8 rfl (by decide) rfl ?_
    refine r_lload_n (pc := 14) hX 9 rfl rfl ?_
    refine r_lstore (ls' := [(1, up), (3, 0), (1, bl), (3, 0), (0, what), (1, up), (3, 0), (1, bl), (3, 0), (3, 0), (3, 0)]) (pc := 15) hX 10 rfl (by decide) rfl ?_
    exact (L17 _ up bl (by first | exact hu | assumption) (hb) (Or.inr h0) (Nat.lt_succ_self _))
  · refine r_lload_n (pc := 6) hX 4 rfl rfl ?_
    refine r_lneg (pc := 7) hX 5 rfl ?_
    refine r_lany _ (fun z7 hz7 => ?_)
    refine r_goto (pc := 8) hX 6 (tgt := 12) rfl (by decide) ?_
    refine r_lstore (ls' := [(1, up), (3, 0), (1, bl), (3, 0), (0, what), (1, z7), (3, 0), (3, 0), (3, 0), (3, 0), (3, 0)]) (pc := 12) hX 8 rfl (by decide) rfl ?_
    refine r_lload_n (pc := 14) hX 9 rfl rfl ?_
    refine r_lstore (ls' := [(1, up), (3, 0), (1, bl), (3, 0), (0, what), (1, z7), (3, 0), (1, bl), (3, 0), (3, 0), (3, 0)]) (pc := 15) hX 10 rfl (by decide) rfl ?_
    exact (L17 _ z7 bl (by first | exact hu | assumption) (hb) (Or.inr h0) (Nat.lt_succ_self _))
