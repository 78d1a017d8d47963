set_option maxHeartbeats 4000000 in
set_option maxRecDepth 100000 in
theorem c_restoreF (g : Gp) (v ρ : Mv) (Z : Mz) (hG : GM ρ Z) (k : Int) (hS : SInv (v 180)) (hU : UInv (v 180) (v 187) (v 178 25)) (hk : inR k) (hK : ∀ j, 0 ≤ j → j ≤ 1 → v 209 j ≠ 0 → SInv (fun i => v 207 (238 * j + i))) : Ok g 2 0 0 F_m_restore [(2, 178), (0, k)] v ρ Z (fun o v' ρ' Z' => ρ = ρ' ∧ Z = Z' ∧ Fr [180, 183] [0, 25] v v' ∧ ∃ r : Int, o = some (0, r) ∧ (SInv (v' 180)) ∧ (UInv (v' 180) (v' 187) (v' 178 25)) ∧ ((r = 1 ∧ 0 ≤ k ∧ k ≤ 1 ∧ v 209 k ≠ 0 ∨ r = 0 ∧ (k < 0 ∨ 1 < k ∨ v 209 k = 0))) ∧ ((r = 1 → ∀ j, 0 ≤ j → j < 238 → v' 180 j = v 207 (238 * k + j)) ∧ (r = 0 → v' 180 = v 180))) := by
  refine Ok.of mo_m_restore (Nat.le_of_ble_eq_true rfl) ?_
  intro X hX hRm hxn hQ
  show wp g X F_m_restore 0 0 0 [(2, 178), (0, k), (3, 0)] [] v ρ Z
  refine r_aload_n (pc := 0) hX 0 rfl rfl ?_
  refine r_iconst (pc := 1) hX 1 rfl ?_
  refine r_putI (pc := 2) hX 2 rfl fl_X12_1 rfl (fun _ h => by cases h; rfl) hG.1 (by decide) ?_
  refine r_iload_n (pc := 5) hX 3 rfl rfl ?_
  refine r_iconst (pc := 6) hX 4 rfl ?_
  refine r_iconst (pc := 7) hX 5 rfl ?_
  refine r_callS (as := [(0, k), (0, 0), (0, 1)]) (st := []) (pc := 8) hX 6 rfl mo_m_isIn ml_X12_222 stt_m_isIn (c_isIn g (up v 178 0 0) ρ Z hG (k) (0) (1) (by omega) (by omega) (by omega)) rfl (by rw [hRm]; exact ⟨by decide, by decide⟩) (by rw [hRm]; exact ⟨by decide, by decide⟩) (Nat.le_of_ble_eq_true rfl) (fun o8 v8 ρ8 Z8 hq8 _ => ?_)
  obtain ⟨rfl, rfl, rfl, r8, rfl, hq8⟩ := hq8
  try simp only [up_f (show (180 : Int) ≠ 178 by decide)] at hq8
  show wp g X F_m_restore 0 0 11 [(2, 178), (0, k), (3, 0)] [(0, r8)] (up v 178 0 0) ρ Z
  have L23 : (k < 0 ∨ 1 < k ∨ v 209 k = 0) → wp g X F_m_restore 0 0 23 [(2, 178), (0, k), (3, 0)] [] (up v 178 0 0) ρ Z := by
    intro i23
    refine r_iconst (pc := 23) hX 13 rfl ?_
    exact r_zret (pc := 24) hX 14 hQ rfl rfl ⟨by omega, by omega⟩ (Nat.le_refl 0) (Nat.le_refl 0) ⟨rfl, rfl, (Fr.rf).fld (k := 0) (by decide), 0, rfl, (by rw [up_f (by decide)]; exact hS), (by rw [up_f (by decide), up_f (by decide), up_k (by decide)]; exact hU), (Or.inr ⟨rfl, i23⟩), (⟨fun z => absurd z (by decide), fun _ => up_f (by decide)⟩)⟩
  first | refine r_if_eq (pc := 11) hX 7 (tgt := 23) rfl (by decide) (⟨by omega, by omega⟩) (fun h11 => ?_) (fun h11 => ?_) | refine r_if_eq_any (pc := 11) hX 7 (tgt := 23) rfl (by decide) ?_ ?_
  · exact (L23  (by omega) )
  · refine t_getR (pc := 14) hX 8 rfl rfl rfl fl_X12_127 rfl hG.1 (a_areKept hG).1 ?_
    refine r_iload_n (pc := 18) hX 10 rfl rfl ?_
    refine e_zald (y := (v 209 k)) (pc := 19) hX 11 rfl (a_areKept hG).2.1 (a_areKept hG).2.2 (by omega) (by omega) ((up_r (by decide)).trans (rfl)) (fun hb19a hb19b => ?_)
    first | refine r_if_ne (pc := 20) hX 12 (tgt := 25) rfl (by decide) (⟨by omega, by omega⟩) (fun h20 => ?_) (fun h20 => ?_) | refine r_if_ne_any (pc := 20) hX 12 (tgt := 25) rfl (by decide) ?_ ?_
    · refine r_iconst (pc := 25) hX 15 rfl ?_
      refine r_istore_n (ls' := [(2, 178), (0, k), (0, 0)]) (pc := 26) hX 16 rfl (by decide) rfl ?_
      have L27 : ∀ (n27 : Nat) (i : Int) (v27 : Mv) , (Fr [180, 183] [0, 25] v v27) → (0 ≤ i ∧ i ≤ 238) → (∀ j, 0 ≤ j → j < i → v27 180 j = v 207 (238 * k + j)) → (238 - i).toNat < n27 → wp g X F_m_restore 0 0 27 [(2, 178), (0, k), (0, i)] [] v27 ρ Z := by
        intro n27
        induction n27 with
        | zero => intro i v27 hfr27 ii ia hme27; exact absurd hme27 (Nat.not_lt_zero _)
        | succ n27 ih27 =>
          intro i v27 hfr27 ii ia hme27
          have es27 : v27 207 = v 207 := hfr27.1 207 (by decide) (by decide)
          refine r_iload_n (pc := 27) hX 17 rfl rfl ?_
          refine r_sipush (pc := 28) hX 18 rfl (by decide) ?_
          first | refine r_icmp_ge (pc := 31) hX 19 (tgt := 58) rfl (by decide) (⟨by omega, by omega⟩) (⟨by omega, by omega⟩) (fun h31 => ?_) (fun h31 => ?_) | refine r_icmp_ge_any (pc := 31) hX 19 (tgt := 58) rfl (by decide) ?_ ?_
          · refine r_iconst (pc := 58) hX 34 rfl ?_
            refine r_istore_n (ls' := [(2, 178), (0, k), (0, 0)]) (pc := 59) hX 35 rfl (by decide) rfl ?_
            have L60 : ∀ (n60 : Nat) (i : Int) (v60 : Mv) , (Fr [180, 183] [0, 25] v v60) → (SInv (v60 180)) → (0 ≤ i ∧ i ≤ 10) → (v60 180 = v27 180) → (10 - i).toNat < n60 → wp g X F_m_restore 0 0 60 [(2, 178), (0, k), (0, i)] [] v60 ρ Z := by
              intro n60
              induction n60 with
              | zero => intro i v60 hfr60 hSInv_60 ii e60 hme60; exact absurd hme60 (Nat.not_lt_zero _)
              | succ n60 ih60 =>
                intro i v60 hfr60 hSInv_60 ii e60 hme60
                refine r_iload_n (pc := 60) hX 36 rfl rfl ?_
                refine r_bipush (pc := 61) hX 37 rfl (by decide) ?_
                first | refine r_icmp_ge (pc := 63) hX 38 (tgt := 89) rfl (by decide) (⟨by omega, by omega⟩) (⟨by omega, by omega⟩) (fun h63 => ?_) (fun h63 => ?_) | refine r_icmp_ge_any (pc := 63) hX 38 (tgt := 89) rfl (by decide) ?_ ?_
                · refine r_aload_n (pc := 89) hX 53 rfl rfl ?_
                  refine r_iconst (pc := 90) hX 54 rfl ?_
                  refine r_putI (pc := 91) hX 55 rfl fl_X12_278 rfl (fun _ h => by cases h; rfl) hG.1 (by decide) ?_
                  refine r_iconst (pc := 94) hX 56 rfl ?_
                  exact r_zret (pc := 95) hX 57 hQ rfl rfl ⟨by omega, by omega⟩ (Nat.le_refl 0) (Nat.le_refl 0) ⟨rfl, rfl, (hfr60).fld (k := 25) (by decide), 1, rfl, (by rw [up_f (by decide)]; exact hSInv_60), (by
        have z : UInv (up v60 178 25 0 180) (up v60 178 25 0 187) (up v60 178 25 0 178 25) := by rw [up_s]; exact UInv.none
        exact z), (Or.inl ⟨rfl, by omega, by omega, by omega⟩), (⟨fun _ j a b => by rw [up_f (by decide), e60]; exact ia j a (by omega), fun z => absurd z (by decide)⟩)⟩
                · refine t_getR (pc := 66) hX 39 rfl rfl rfl fl_X12_43 rfl hG.1 (a_names hG).1 ?_
                  refine r_iload_n (pc := 70) hX 41 rfl rfl ?_
                  refine t_getR (pc := 71) hX 42 rfl rfl rfl fl_X12_124 rfl hG.1 (a_namesKept hG).1 ?_
                  refine r_bipush (pc := 75) hX 44 rfl (by decide) ?_
                  refine r_iload_n (pc := 77) hX 45 rfl rfl ?_
                  refine r_imul (pc := 78) hX 46 rfl ?_
                  refine r_iload_n (pc := 79) hX 47 rfl rfl ?_
                  refine r_iadd (pc := 80) hX 48 rfl ?_
                  refine e_lald (y := (v60 208 ((10 * k) + i))) (pc := 81) hX 49 rfl (a_namesKept hG).2.1 (a_namesKept hG).2.2 (by omega) (by omega) (rfl) ?_
                  refine e_last (pc := 82) hX 50 rfl (a_names hG).2.1 (a_names hG).2.2 (by decide) (by omega) (by omega) ?_
                  refine r_iinc (ls' := [(2, 178), (0, k), (0, (i + 1))]) (pc := 83) hX 51 rfl rfl (by decide) rfl ?_
                  refine r_goto (pc := 86) hX 52 (tgt := 60) rfl (by decide) ?_
                  exact (ih60 (i + 1) (up v60 183 i (v60 208 ((10 * k) + i))) ((hfr60).arr (r := 183) (by decide) (by decide)) (by rw [up_f (by decide)]; exact hSInv_60) (by omega) ((up_f (by decide)).trans e60) (by omega))
            exact (L60 _ 0 v27 (hfr27) (SInv.cgB (hK k (by omega) (by omega) (by omega)) (fun j a b => ia j a (by omega))) (by omega) (rfl) (Nat.lt_succ_self _))
          · refine t_getR (pc := 34) hX 20 rfl rfl rfl fl_X12_33 rfl hG.1 (a_s hG).1 ?_
            refine r_iload_n (pc := 38) hX 22 rfl rfl ?_
            refine t_getR (pc := 39) hX 23 rfl rfl rfl fl_X12_121 rfl hG.1 (a_kept hG).1 ?_
            refine r_sipush (pc := 43) hX 25 rfl (by decide) ?_
            refine r_iload_n (pc := 46) hX 26 rfl rfl ?_
            refine r_imul (pc := 47) hX 27 rfl ?_
            refine r_iload_n (pc := 48) hX 28 rfl rfl ?_
            refine r_iadd (pc := 49) hX 29 rfl ?_
            refine e_iald (y := (v27 207 ((238 * k) + i))) (pc := 50) hX 30 rfl (a_kept hG).2.1 (a_kept hG).2.2 (by omega) (by omega) (rfl) ?_
            refine e_iast (pc := 51) hX 31 rfl (a_s hG).2.1 (a_s hG).2.2 (by decide) (by omega) (by omega) ?_
            refine r_iinc (ls' := [(2, 178), (0, k), (0, (i + 1))]) (pc := 52) hX 32 rfl rfl (by decide) rfl ?_
            refine r_goto (pc := 55) hX 33 (tgt := 27) rfl (by decide) ?_
            exact (ih27 (i + 1) (up v27 180 i (v27 207 ((238 * k) + i))) ((hfr27).arr (r := 180) (by decide) (by decide)) (by omega) (fun j a b => by
          by_cases e : j = i
          · subst e; rw [up_s, es27]
          · rw [up_k (by omega)]; exact ia j a (by omega)) (by omega))
      exact (L27 _ 0 (up v 178 0 0) ((Fr.rf).fld (k := 0) (by decide)) (by omega) (fun j a b => by omega) (Nat.lt_succ_self _))
    · exact (L23  (by omega) )
