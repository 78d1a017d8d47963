set_option maxHeartbeats 4000000 in
set_option maxRecDepth 100000 in
theorem c_octetX (g : Gp) (v ρ : Mv) (Z : Mz) (hG : GM ρ Z) (k : Int) (hk : 0 ≤ k ∧ k < 940) : Ok g 1 0 0 F_m_octet [(2, 178), (0, k)] v ρ Z (fun o v' ρ' Z' => ρ = ρ' ∧ Z = Z' ∧ v = v' ∧ ∃ r : Int, o = some (0, r) ∧ (0 ≤ r ∧ r ≤ 255 ∧ r = v 179 k % 256)) := by
  refine Ok.of mo_m_octet (Nat.le_of_ble_eq_true rfl) ?_
  intro X hX hRm hxn hQ
  show wp g X F_m_octet 0 0 0 [(2, 178), (0, k)] [] v ρ Z
  refine t_getR (pc := 0) hX 0 rfl rfl rfl fl_X12_14 rfl hG.1 (a_tape hG).1 ?_
  refine r_iload_n (pc := 4) hX 2 rfl rfl ?_
  refine e_bald (y := (v 179 k)) (pc := 5) hX 3 rfl (a_tape hG).2.1 (a_tape hG).2.2 (by omega) (by omega) (rfl) (fun hb5a hb5b => ?_)
  refine r_sipush (pc := 6) hX 4 rfl (by decide) ?_
  refine r_iandm (pc := 9) hX 5 8 rfl (by decide) (by decide) (m := 256) (by decide) ?_
  exact r_iret (pc := 10) hX 6 hQ rfl rfl (Nat.le_refl 0) (Nat.le_refl 0) ⟨rfl, rfl, rfl, ((v 179 k) % 256), rfl, (by omega)⟩
set_option maxHeartbeats 4000000 in
set_option maxRecDepth 100000 in
theorem c_peekX (g : Gp) (v ρ : Mv) (Z : Mz) (hG : GM ρ Z)  (hz : 0 ≤ v 178 3 ∧ v 178 3 ≤ 940) (hp : 0 ≤ v 178 4 ∧ v 178 4 ≤ 940) : Ok g 1 0 0 F_m_peek [(2, 178)] v ρ Z (fun o v' ρ' Z' => ρ = ρ' ∧ Z = Z' ∧ v = v' ∧ ∃ r : Int, o = some (0, r) ∧ ((r = -1 ∧ v 178 3 ≤ v 178 4 ∨ v 178 4 < v 178 3 ∧ r = v 179 (v 178 4) % 256)) ∧ (-1 ≤ r ∧ r ≤ 255)) := by
  refine Ok.of mo_m_peek (Nat.le_of_ble_eq_true rfl) ?_
  intro X hX hRm hxn hQ
  show wp g X F_m_peek 0 0 0 [(2, 178)] [] v ρ Z
  refine t_getI (y := (v 178 4)) (pc := 0) hX 0 rfl rfl rfl fl_X12_21 rfl hG.1 (rfl) ?_
  refine t_getI (y := (v 178 3)) (pc := 4) hX 2 rfl rfl rfl fl_X12_18 rfl hG.1 (rfl) ?_
  first | refine r_icmp_ge (pc := 8) hX 4 (tgt := 27) rfl (by decide) (⟨by omega, by omega⟩) (⟨by omega, by omega⟩) (fun h8 => ?_) (fun h8 => ?_) | refine r_icmp_ge_any (pc := 8) hX 4 (tgt := 27) rfl (by decide) ?_ ?_
  · refine r_iconst (pc := 27) hX 13 rfl ?_
    exact r_iret (pc := 28) hX 14 hQ rfl rfl (Nat.le_refl 0) (Nat.le_refl 0) ⟨rfl, rfl, rfl, (-1), rfl, (by omega), (by omega)⟩
  · refine t_getR (pc := 11) hX 5 rfl rfl rfl fl_X12_14 rfl hG.1 (a_tape hG).1 ?_
    refine t_getI (y := (v 178 4)) (pc := 15) hX 7 rfl rfl rfl fl_X12_21 rfl hG.1 (rfl) ?_
    refine e_bald (y := (v 179 (v 178 4))) (pc := 19) hX 9 rfl (a_tape hG).2.1 (a_tape hG).2.2 (by omega) (by omega) (rfl) (fun hb19a hb19b => ?_)
    refine r_sipush (pc := 20) hX 10 rfl (by decide) ?_
    refine r_iandm (pc := 23) hX 11 8 rfl (by decide) (by decide) (m := 256) (by decide) ?_
    refine r_goto (pc := 24) hX 12 (tgt := 28) rfl (by decide) ?_
    exact r_iret (pc := 28) hX 14 hQ rfl rfl (Nat.le_refl 0) (Nat.le_refl 0) ⟨rfl, rfl, rfl, ((v 179 (v 178 4)) % 256), rfl, (by omega), (by omega)⟩
set_option maxHeartbeats 4000000 in
set_option maxRecDepth 100000 in
theorem c_clears (g : Gp) (v ρ : Mv) (Z : Mz) (hG : GM ρ Z)   : Ok g 1 0 0 F_m_clears [(2, 178)] v ρ Z (fun o v' ρ' Z' => ρ = ρ' ∧ Z = Z' ∧ Fr [181] [] v v' ∧ o = none ∧ (v' 181 3 = 9 ∧ v' 181 4 = 12 ∧ ∀ k, 0 ≤ k → k < 35 → k ≠ 3 → k ≠ 4 → v' 181 k = 0)) := by
  refine Ok.of mo_m_clears (Nat.le_of_ble_eq_true rfl) ?_
  intro X hX hRm hxn hQ
  show wp g X F_m_clears 0 0 0 [(2, 178), (3, 0)] [] v ρ Z
  refine r_iconst (pc := 0) hX 0 rfl ?_
  refine r_istore_n (ls' := [(2, 178), (0, 0)]) (pc := 1) hX 1 rfl (by decide) rfl ?_
  have L2 : ∀ (n2 : Nat) (i : Int) (v2 : Mv) , (Fr [181] [] v v2) → (0 ≤ i ∧ i ≤ 35) → (∀ k, 0 ≤ k → k < i → v2 181 k = 0) → (35 - i).toNat < n2 → wp g X F_m_clears 0 0 2 [(2, 178), (0, i)] [] v2 ρ Z := by
    intro n2
    induction n2 with
    | zero => intro i v2 hfr2 ii iz hme2; exact absurd hme2 (Nat.not_lt_zero _)
    | succ n2 ih2 =>
      intro i v2 hfr2 ii iz hme2
      refine r_iload_n (pc := 2) hX 2 rfl rfl ?_
      refine r_bipush (pc := 3) hX 3 rfl (by decide) ?_
      first | refine r_icmp_ge (pc := 5) hX 4 (tgt := 21) rfl (by decide) (⟨by omega, by omega⟩) (⟨by omega, by omega⟩) (fun h5 => ?_) (fun h5 => ?_) | refine r_icmp_ge_any (pc := 5) hX 4 (tgt := 21) rfl (by decide) ?_ ?_
      · refine t_getR (pc := 21) hX 12 rfl rfl rfl fl_X12_37 rfl hG.1 (a_h hG).1 ?_
        refine r_iconst (pc := 25) hX 14 rfl ?_
        refine r_bipush (pc := 26) hX 15 rfl (by decide) ?_
        refine e_iast (pc := 28) hX 16 rfl (a_h hG).2.1 (a_h hG).2.2 (by decide) (by omega) (by omega) ?_
        refine t_getR (pc := 29) hX 17 rfl rfl rfl fl_X12_37 rfl hG.1 (a_h hG).1 ?_
        refine r_iconst (pc := 33) hX 19 rfl ?_
        refine r_bipush (pc := 34) hX 20 rfl (by decide) ?_
        refine e_iast (pc := 36) hX 21 rfl (a_h hG).2.1 (a_h hG).2.2 (by decide) (by omega) (by omega) ?_
        exact r_vret (pc := 37) hX 22 hQ rfl rfl (Nat.le_refl 0) (Nat.le_refl 0) ⟨rfl, rfl, ((hfr2).arr (r := 181) (by decide) (by decide)).arr (r := 181) (by decide) (by decide), rfl, (⟨by rw [up_k (by decide), up_s], up_s _ _ _ _, fun k a b c d => by rw [up_k d, up_k c]; exact iz k a (by omega)⟩)⟩
      · refine t_getR (pc := 8) hX 5 rfl rfl rfl fl_X12_37 rfl hG.1 (a_h hG).1 ?_
        refine r_iload_n (pc := 12) hX 7 rfl rfl ?_
        refine r_iconst (pc := 13) hX 8 rfl ?_
        refine e_iast (pc := 14) hX 9 rfl (a_h hG).2.1 (a_h hG).2.2 (by decide) (by omega) (by omega) ?_
        refine r_iinc (ls' := [(2, 178), (0, (i + 1))]) (pc := 15) hX 10 rfl rfl (by decide) rfl ?_
        refine r_goto (pc := 18) hX 11 (tgt := 2) rfl (by decide) ?_
        exact (ih2 (i + 1) (up v2 181 i 0) ((hfr2).arr (r := 181) (by decide) (by decide)) (by omega) (fun k a b => by
          by_cases e : k = i
          · subst e; rw [up_s]
          · rw [up_k e]; exact iz k a (by omega)) (by omega))
  exact (L2 _ 0 v (Fr.rf) (by omega) (fun k a b => by omega) (Nat.lt_succ_self _))
set_option maxHeartbeats 4000000 in
set_option maxRecDepth 100000 in
theorem c_isName (g : Gp) (v ρ : Mv) (Z : Mz) (hG : GM ρ Z)  (ht : 0 ≤ v 178 11 ∧ v 178 11 ≤ 4) : Ok g 1 0 0 F_m_isName [(2, 178)] v ρ Z (fun o v' ρ' Z' => ρ = ρ' ∧ Z = Z' ∧ v = v' ∧ ∃ r : Int, o = some (0, r) ∧ ((r = 0 ∨ r = 1 ∧ v 178 11 = 1))) := by
  refine Ok.of mo_m_isName (Nat.le_of_ble_eq_true rfl) ?_
  intro X hX hRm hxn hQ
  show wp g X F_m_isName 0 0 0 [(2, 178), (3, 0), (3, 0)] [] v ρ Z
  refine t_getI (y := (v 178 11)) (pc := 0) hX 0 rfl rfl rfl fl_X12_190 rfl hG.1 (rfl) ?_
  refine r_iconst (pc := 4) hX 2 rfl ?_
  first | refine r_icmp_ne (pc := 5) hX 3 (tgt := 12) rfl (by decide) (⟨by omega, by omega⟩) (⟨by omega, by omega⟩) (fun h5 => ?_) (fun h5 => ?_) | refine r_icmp_ne_any (pc := 5) hX 3 (tgt := 12) rfl (by decide) ?_ ?_
  · refine r_iconst (pc := 12) hX 6 rfl ?_
    refine r_istore_n (ls' := [(2, 178), (0, 0), (3, 0)]) (pc := 13) hX 7 rfl (by decide) rfl ?_
    refine r_iconst (pc := 14) hX 8 rfl ?_
    refine r_istore_n (ls' := [(2, 178), (0, 0), (0, 0)]) (pc := 15) hX 9 rfl (by decide) rfl ?_
    have L16 : ∀ (n16 : Nat) (is i : Int) , (0 ≤ i ∧ i ≤ 22 ∧ (is = 0 ∨ is = 1 ∧ v 178 11 = 1)) → (22 - i).toNat < n16 → wp g X F_m_isName 0 0 16 [(2, 178), (0, is), (0, i)] [] v ρ Z := by
      intro n16
      induction n16 with
      | zero => intro is i ii hme16; exact absurd hme16 (Nat.not_lt_zero _)
      | succ n16 ih16 =>
        intro is i ii hme16
        refine r_iload_n (pc := 16) hX 10 rfl rfl ?_
        refine r_bipush (pc := 17) hX 11 rfl (by decide) ?_
        first | refine r_icmp_ge (pc := 19) hX 12 (tgt := 52) rfl (by decide) (⟨by omega, by omega⟩) (⟨by omega, by omega⟩) (fun h19 => ?_) (fun h19 => ?_) | refine r_icmp_ge_any (pc := 19) hX 12 (tgt := 52) rfl (by decide) ?_ ?_
        · refine r_iload_n (pc := 52) hX 29 rfl rfl ?_
          exact r_zret (pc := 53) hX 30 hQ rfl rfl ⟨by omega, by omega⟩ (Nat.le_refl 0) (Nat.le_refl 0) ⟨rfl, rfl, rfl, is, rfl, (by omega)⟩
        · refine r_iload_n (pc := 22) hX 13 rfl rfl ?_
          first | refine r_if_eq (pc := 23) hX 14 (tgt := 44) rfl (by decide) (⟨by omega, by omega⟩) (fun h23 => ?_) (fun h23 => ?_) | refine r_if_eq_any (pc := 23) hX 14 (tgt := 44) rfl (by decide) ?_ ?_
          · refine r_iconst (pc := 44) hX 25 rfl ?_
            refine r_istore_n (ls' := [(2, 178), (0, 0), (0, i)]) (pc := 45) hX 26 rfl (by decide) rfl ?_
            refine r_iinc (ls' := [(2, 178), (0, 0), (0, (i + 1))]) (pc := 46) hX 27 rfl rfl (by decide) rfl ?_
            refine r_goto (pc := 49) hX 28 (tgt := 16) rfl (by decide) ?_
            exact (ih16 0 (i + 1) (by omega) (by omega))
          · refine t_getL (y := (v 178 17)) (pc := 26) hX 15 rfl rfl rfl fl_X12_203 rfl hG.1 (rfl) ?_
            refine t_getR (pc := 30) hX 17 rfl rfl rfl fl_X12_47 rfl hG.1 (a_reserved hG).1 ?_
            refine r_iload_n (pc := 34) hX 19 rfl rfl ?_
            refine e_lald (y := (v 184 i)) (pc := 35) hX 20 rfl (a_reserved hG).2.1 (a_reserved hG).2.2 (by omega) (by omega) (rfl) ?_
            refine r_lcmp_any (pc := 36) hX 21 rfl (fun z36 hz36a hz36b => ?_)
            first | refine r_if_eq (pc := 37) hX 22 (tgt := 44) rfl (by decide) (⟨by omega, by omega⟩) (fun h37 => ?_) (fun h37 => ?_) | refine r_if_eq_any (pc := 37) hX 22 (tgt := 44) rfl (by decide) ?_ ?_
            · refine r_iconst (pc := 44) hX 25 rfl ?_
              refine r_istore_n (ls' := [(2, 178), (0, 0), (0, i)]) (pc := 45) hX 26 rfl (by decide) rfl ?_
              refine r_iinc (ls' := [(2, 178), (0, 0), (0, (i + 1))]) (pc := 46) hX 27 rfl rfl (by decide) rfl ?_
              refine r_goto (pc := 49) hX 28 (tgt := 16) rfl (by decide) ?_
              exact (ih16 0 (i + 1) (by omega) (by omega))
            · refine r_iconst (pc := 40) hX 23 rfl ?_
              refine r_goto (pc := 41) hX 24 (tgt := 45) rfl (by decide) ?_
              refine r_istore_n (ls' := [(2, 178), (0, 1), (0, i)]) (pc := 45) hX 26 rfl (by decide) rfl ?_
              refine r_iinc (ls' := [(2, 178), (0, 1), (0, (i + 1))]) (pc := 46) hX 27 rfl rfl (by decide) rfl ?_
              refine r_goto (pc := 49) hX 28 (tgt := 16) rfl (by decide) ?_
              exact (ih16 1 (i + 1) (by omega) (by omega))
    exact (L16 _ 0 0 (by omega) (Nat.lt_succ_self _))
  · refine r_iconst (pc := 8) hX 4 rfl ?_
    refine r_goto (pc := 9) hX 5 (tgt := 13) rfl (by decide) ?_
    refine r_istore_n (ls' := [(2, 178), (0, 1), (3, 0)]) (pc := 13) hX 7 rfl (by decide) rfl ?_
    refine r_iconst (pc := 14) hX 8 rfl ?_
    refine r_istore_n (ls' := [(2, 178), (0, 1), (0, 0)]) (pc := 15) hX 9 rfl (by decide) rfl ?_
    have L16 : ∀ (n16 : Nat) (is i : Int) , (0 ≤ i ∧ i ≤ 22 ∧ (is = 0 ∨ is = 1 ∧ v 178 11 = 1)) → (22 - i).toNat < n16 → wp g X F_m_isName 0 0 16 [(2, 178), (0, is), (0, i)] [] v ρ Z := by
      intro n16
      induction n16 with
      | zero => intro is i ii hme16; exact absurd hme16 (Nat.not_lt_zero _)
      | succ n16 ih16 =>
        intro is i ii hme16
        refine r_iload_n (pc := 16) hX 10 rfl rfl ?_
        refine r_bipush (pc := 17) hX 11 rfl (by decide) ?_
        first | refine r_icmp_ge (pc := 19) hX 12 (tgt := 52) rfl (by decide) (⟨by omega, by omega⟩) (⟨by omega, by omega⟩) (fun h19 => ?_) (fun h19 => ?_) | refine r_icmp_ge_any (pc := 19) hX 12 (tgt := 52) rfl (by decide) ?_ ?_
        · refine r_iload_n (pc := 52) hX 29 rfl rfl ?_
          exact r_zret (pc := 53) hX 30 hQ rfl rfl ⟨by omega, by omega⟩ (Nat.le_refl 0) (Nat.le_refl 0) ⟨rfl, rfl, rfl, is, rfl, (by omega)⟩
        · refine r_iload_n (pc := 22) hX 13 rfl rfl ?_
          first | refine r_if_eq (pc := 23) hX 14 (tgt := 44) rfl (by decide) (⟨by omega, by omega⟩) (fun h23 => ?_) (fun h23 => ?_) | refine r_if_eq_any (pc := 23) hX 14 (tgt := 44) rfl (by decide) ?_ ?_
          · refine r_iconst (pc := 44) hX 25 rfl ?_
            refine r_istore_n (ls' := [(2, 178), (0, 0), (0, i)]) (pc := 45) hX 26 rfl (by decide) rfl ?_
            refine r_iinc (ls' := [(2, 178), (0, 0), (0, (i + 1))]) (pc := 46) hX 27 rfl rfl (by decide) rfl ?_
            refine r_goto (pc := 49) hX 28 (tgt := 16) rfl (by decide) ?_
            exact (ih16 0 (i + 1) (by omega) (by omega))
          · refine t_getL (y := (v 178 17)) (pc := 26) hX 15 rfl rfl rfl fl_X12_203 rfl hG.1 (rfl) ?_
            refine t_getR (pc := 30) hX 17 rfl rfl rfl fl_X12_47 rfl hG.1 (a_reserved hG).1 ?_
            refine r_iload_n (pc := 34) hX 19 rfl rfl ?_
            refine e_lald (y := (v 184 i)) (pc := 35) hX 20 rfl (a_reserved hG).2.1 (a_reserved hG).2.2 (by omega) (by omega) (rfl) ?_
            refine r_lcmp_any (pc := 36) hX 21 rfl (fun z36 hz36a hz36b => ?_)
            first | refine r_if_eq (pc := 37) hX 22 (tgt := 44) rfl (by decide) (⟨by omega, by omega⟩) (fun h37 => ?_) (fun h37 => ?_) | refine r_if_eq_any (pc := 37) hX 22 (tgt := 44) rfl (by decide) ?_ ?_
            · refine r_iconst (pc := 44) hX 25 rfl ?_
              refine r_istore_n (ls' := [(2, 178), (0, 0), (0, i)]) (pc := 45) hX 26 rfl (by decide) rfl ?_
              refine r_iinc (ls' := [(2, 178), (0, 0), (0, (i + 1))]) (pc := 46) hX 27 rfl rfl (by decide) rfl ?_
              refine r_goto (pc := 49) hX 28 (tgt := 16) rfl (by decide) ?_
              exact (ih16 0 (i + 1) (by omega) (by omega))
            · refine r_iconst (pc := 40) hX 23 rfl ?_
              refine r_goto (pc := 41) hX 24 (tgt := 45) rfl (by decide) ?_
              refine r_istore_n (ls' := [(2, 178), (0, 1), (0, i)]) (pc := 45) hX 26 rfl (by decide) rfl ?_
              refine r_iinc (ls' := [(2, 178), (0, 1), (0, (i + 1))]) (pc := 46) hX 27 rfl rfl (by decide) rfl ?_
              refine r_goto (pc := 49) hX 28 (tgt := 16) rfl (by decide) ?_
              exact (ih16 1 (i + 1) (by omega) (by omega))
    exact (L16 _ 1 0 (by omega) (Nat.lt_succ_self _))
set_option maxHeartbeats 4000000 in
set_option maxRecDepth 100000 in
theorem c_four (g : Gp) (v ρ : Mv) (Z : Mz) (hG : GM ρ Z) (x : Int) (hl : 0 ≤ v 178 2 ∧ v 178 2 ≤ 936) : Ok g 1 0 0 F_m_four [(2, 178), (0, x)] v ρ Z (fun o v' ρ' Z' => ρ = ρ' ∧ Z = Z' ∧ Fr [179] [2] v v' ∧ o = none ∧ (v' 178 2 = v 178 2 + 4)) := by
  refine Ok.of mo_m_four (Nat.le_of_ble_eq_true rfl) ?_
  intro X hX hRm hxn hQ
  show wp g X F_m_four 0 0 0 [(2, 178), (0, x), (3, 0)] [] v ρ Z
  refine r_bipush (pc := 0) hX 0 rfl (by decide) ?_
  refine r_istore_n (ls' := [(2, 178), (0, x), (0, 24)]) (pc := 2) hX 1 rfl (by decide) rfl ?_
  have L3 : ∀ (n3 : Nat) (i : Int) (v3 : Mv) , (Fr [179] [2] v v3) → ((i = 24 ∧ v3 178 2 = v 178 2 ∨ i = 16 ∧ v3 178 2 = v 178 2 + 1 ∨ i = 8 ∧ v3 178 2 = v 178 2 + 2 ∨ i = 0 ∧ v3 178 2 = v 178 2 + 3 ∨ i = -8 ∧ v3 178 2 = v 178 2 + 4)) → (i + 8).toNat < n3 → wp g X F_m_four 0 0 3 [(2, 178), (0, x), (0, i)] [] v3 ρ Z := by
    intro n3
    induction n3 with
    | zero => intro i v3 hfr3 ii hme3; exact absurd hme3 (Nat.not_lt_zero _)
    | succ n3 ih3 =>
      intro i v3 hfr3 ii hme3
      refine r_iload_n (pc := 3) hX 2 rfl rfl ?_
      first | refine r_if_lt (pc := 4) hX 3 (tgt := 36) rfl (by decide) (⟨by omega, by omega⟩) (fun h4 => ?_) (fun h4 => ?_) | refine r_if_lt_any (pc := 4) hX 3 (tgt := 36) rfl (by decide) ?_ ?_
      · exact r_vret (pc := 36) hX 21 hQ rfl rfl (Nat.le_refl 0) (Nat.le_refl 0) ⟨rfl, rfl, hfr3, rfl, (by omega)⟩
      · refine t_getR (pc := 7) hX 4 rfl rfl rfl fl_X12_14 rfl hG.1 (a_tape hG).1 ?_
        refine t_getI (y := (v3 178 2)) (pc := 11) hX 6 rfl rfl rfl fl_X12_7 rfl hG.1 (rfl) ?_
        refine r_iload_n (pc := 15) hX 8 rfl rfl ?_
        refine r_iload_n (pc := 16) hX 9 rfl rfl ?_
        refine r_ishr_any (pc := 17) hX 10 rfl (fun z17 hz17 => ?_)
        refine r_i2b_any (pc := 18) hX 11 rfl (fun z18 hz18a hz18b => ?_)
        refine e_bast (pc := 19) hX 12 rfl (a_tape hG).2.1 (a_tape hG).2.2 (by decide) (by omega) (by omega) ⟨by omega, by omega⟩ ?_
        refine r_aload_n (pc := 20) hX 13 rfl rfl ?_
        refine r_dup (pc := 21) hX 14 rfl (show (2 : Nat) ≠ 1 by decide) ?_
        refine e_getI (y := (v3 178 2)) (pc := 22) hX 15 rfl fl_X12_7 rfl hG.1 ((up_r (by decide)).trans (rfl)) ?_
        refine r_iconst (pc := 25) hX 16 rfl ?_
        refine r_iadd (pc := 26) hX 17 rfl ?_
        refine r_putI (pc := 27) hX 18 rfl fl_X12_7 rfl (fun _ h => by cases h; rfl) hG.1 (by decide) ?_
        refine r_iinc (ls' := [(2, 178), (0, x), (0, (i + (-8)))]) (pc := 30) hX 19 rfl rfl (by decide) rfl ?_
        refine r_goto (pc := 33) hX 20 (tgt := 3) rfl (by decide) ?_
        exact (ih3 (i + (-8)) (up (up v3 179 (v3 178 2) z18) 178 2 ((v3 178 2) + 1)) (((hfr3).arr (r := 179) (by decide) (by decide)).fld (k := 2) (by decide)) (by (repeat (first | rw [up_k (by decide)] | rw [up_s] | rw [up_r (by decide)])); omega) (by omega))
  exact (L3 _ 24 v (Fr.rf) (by omega) (Nat.lt_succ_self _))
set_option maxHeartbeats 4000000 in
set_option maxRecDepth 100000 in
theorem c_feed (g : Gp) (v ρ : Mv) (Z : Mz) (hG : GM ρ Z) (a b c d e : Int) (hl : 0 ≤ v 178 2 ∧ v 178 2 ≤ 940) : Ok g 2 0 0 F_m_feed [(2, 178), (0, a), (0, b), (0, c), (0, d), (0, e)] v ρ Z (fun o v' ρ' Z' => ρ = ρ' ∧ Z = Z' ∧ Fr [179] [0, 2] v v' ∧ ∃ r : Int, o = some (0, r) ∧ (0 ≤ v' 178 2 ∧ v' 178 2 ≤ 940) ∧ ((v 178 2 ≤ 920 ∧ r = v 178 2 + 20 ∧ v' 178 2 = v 178 2 + 20 ∨ 920 < v 178 2 ∧ r = -1 ∧ v' 178 2 = v 178 2))) := by
  refine Ok.of mo_m_feed (Nat.le_of_ble_eq_true rfl) ?_
  intro X hX hRm hxn hQ
  show wp g X F_m_feed 0 0 0 [(2, 178), (0, a), (0, b), (0, c), (0, d), (0, e)] [] v ρ Z
  refine r_aload_n (pc := 0) hX 0 rfl rfl ?_
  refine r_iconst (pc := 1) hX 1 rfl ?_
  refine r_putI (pc := 2) hX 2 rfl fl_X12_1 rfl (fun _ h => by cases h; rfl) hG.1 (by decide) ?_
  refine t_getI (y := (v 178 2)) (pc := 5) hX 3 rfl rfl rfl fl_X12_7 rfl hG.1 ((up_k (by decide)).trans (rfl)) ?_
  refine r_bipush (pc := 9) hX 5 rfl (by decide) ?_
  refine r_iadd (pc := 11) hX 6 rfl ?_
  refine r_sipush (pc := 12) hX 7 rfl (by decide) ?_
  first | refine r_icmp_le (pc := 15) hX 8 (tgt := 20) rfl (by decide) (⟨by omega, by omega⟩) (⟨by omega, by omega⟩) (fun h15 => ?_) (fun h15 => ?_) | refine r_icmp_le_any (pc := 15) hX 8 (tgt := 20) rfl (by decide) ?_ ?_
  · refine r_aload_n (pc := 20) hX 11 rfl rfl ?_
    refine r_iload_n (pc := 21) hX 12 rfl rfl ?_
    refine r_callV (as := [(0, a)]) (st := []) (K := 12) (pc := 22) hX 13 rfl mo_m_four ml_X12_10 im_m_four se_m_four (c_four g (up v 178 0 0) ρ Z hG (a) (by (repeat (first | rw [up_k (by decide)] | rw [up_s] | rw [up_r (by decide)])); omega)) rfl rfl rfl hG.1 (by rw [hRm]; exact ⟨by decide, by decide⟩) (by rw [hRm]; exact ⟨by decide, by decide⟩) (Nat.le_of_ble_eq_true rfl) (fun o22 v22 ρ22 Z22 hq22 _ => ?_)
    obtain ⟨rfl, rfl, hfr22, rfl, hq22⟩ := hq22
    try simp only [up_f (show (180 : Int) ≠ 178 by decide), up_k (show (2 : Int) ≠ 0 by decide)] at hq22
    show wp g X F_m_feed 0 0 25 [(2, 178), (0, a), (0, b), (0, c), (0, d), (0, e)] [] v22 ρ Z
    refine r_aload_n (pc := 25) hX 14 rfl rfl ?_
    refine r_iload_n (pc := 26) hX 15 rfl rfl ?_
    refine r_callV (as := [(0, b)]) (st := []) (K := 12) (pc := 27) hX 16 rfl mo_m_four ml_X12_10 im_m_four se_m_four (c_four g v22 ρ Z hG (b) (by omega)) rfl rfl rfl hG.1 (by rw [hRm]; exact ⟨by decide, by decide⟩) (by rw [hRm]; exact ⟨by decide, by decide⟩) (Nat.le_of_ble_eq_true rfl) (fun o27 v27 ρ27 Z27 hq27 _ => ?_)
    obtain ⟨rfl, rfl, hfr27, rfl, hq27⟩ := hq27
    show wp g X F_m_feed 0 0 30 [(2, 178), (0, a), (0, b), (0, c), (0, d), (0, e)] [] v27 ρ Z
    refine r_aload_n (pc := 30) hX 17 rfl rfl ?_
    refine r_iload_n (pc := 31) hX 18 rfl rfl ?_
    refine r_callV (as := [(0, c)]) (st := []) (K := 12) (pc := 32) hX 19 rfl mo_m_four ml_X12_10 im_m_four se_m_four (c_four g v27 ρ Z hG (c) (by omega)) rfl rfl rfl hG.1 (by rw [hRm]; exact ⟨by decide, by decide⟩) (by rw [hRm]; exact ⟨by decide, by decide⟩) (Nat.le_of_ble_eq_true rfl) (fun o32 v32 ρ32 Z32 hq32 _ => ?_)
    obtain ⟨rfl, rfl, hfr32, rfl, hq32⟩ := hq32
    show wp g X F_m_feed 0 0 35 [(2, 178), (0, a), (0, b), (0, c), (0, d), (0, e)] [] v32 ρ Z
    refine r_aload_n (pc := 35) hX 20 rfl rfl ?_
    refine r_iload (pc := 36) hX 21 rfl rfl ?_
    refine r_callV (as := [(0, d)]) (st := []) (K := 12) (pc := 38) hX 22 rfl mo_m_four ml_X12_10 im_m_four se_m_four (c_four g v32 ρ Z hG (d) (by omega)) rfl rfl rfl hG.1 (by rw [hRm]; exact ⟨by decide, by decide⟩) (by rw [hRm]; exact ⟨by decide, by decide⟩) (Nat.le_of_ble_eq_true rfl) (fun o38 v38 ρ38 Z38 hq38 _ => ?_)
    obtain ⟨rfl, rfl, hfr38, rfl, hq38⟩ := hq38
    show wp g X F_m_feed 0 0 41 [(2, 178), (0, a), (0, b), (0, c), (0, d), (0, e)] [] v38 ρ Z
    refine r_aload_n (pc := 41) hX 23 rfl rfl ?_
    refine r_iload (pc := 42) hX 24 rfl rfl ?_
    refine r_callV (as := [(0, e)]) (st := []) (K := 12) (pc := 44) hX 25 rfl mo_m_four ml_X12_10 im_m_four se_m_four (c_four g v38 ρ Z hG (e) (by omega)) rfl rfl rfl hG.1 (by rw [hRm]; exact ⟨by decide, by decide⟩) (by rw [hRm]; exact ⟨by decide, by decide⟩) (Nat.le_of_ble_eq_true rfl) (fun o44 v44 ρ44 Z44 hq44 _ => ?_)
    obtain ⟨rfl, rfl, hfr44, rfl, hq44⟩ := hq44
    show wp g X F_m_feed 0 0 47 [(2, 178), (0, a), (0, b), (0, c), (0, d), (0, e)] [] v44 ρ Z
    refine t_getI (y := (v44 178 2)) (pc := 47) hX 26 rfl rfl rfl fl_X12_7 rfl hG.1 (rfl) ?_
    exact r_iret (pc := 51) hX 28 hQ rfl rfl (Nat.le_refl 0) (Nat.le_refl 0) ⟨rfl, rfl, ((((((Fr.rf).fld (k := 0) (by decide)).tr hfr22 (by decide) (by decide)).tr hfr27 (by decide) (by decide)).tr hfr32 (by decide) (by decide)).tr hfr38 (by decide) (by decide)).tr hfr44 (by decide) (by decide), (v44 178 2), rfl, (by (repeat (first | rw [up_k (by decide)] | rw [up_s] | rw [up_r (by decide)])); omega), (by (repeat (first | rw [up_k (by decide)] | rw [up_s] | rw [up_r (by decide)])); omega)⟩
  · refine r_iconst (pc := 18) hX 9 rfl ?_
    exact r_iret (pc := 19) hX 10 hQ rfl rfl (Nat.le_refl 0) (Nat.le_refl 0) ⟨rfl, rfl, (Fr.rf).fld (k := 0) (by decide), (-1), rfl, (by (repeat (first | rw [up_k (by decide)] | rw [up_s] | rw [up_r (by decide)])); omega), (by (repeat (first | rw [up_k (by decide)] | rw [up_s] | rw [up_r (by decide)])); omega)⟩
set_option maxHeartbeats 4000000 in
set_option maxRecDepth 100000 in
theorem c_go (g : Gp) (v ρ : Mv) (Z : Mz) (hG : GM ρ Z)  (hL : 0 ≤ v 178 4 ∧ v 178 4 ≤ v 178 3 ∧ v 178 3 ≤ 940 ∧ 0 ≤ v 178 11 ∧ v 178 11 ≤ 4 ∧ inR (v 178 5) ∧ inR (v 178 14)) : Ok g 2 0 0 F_m_go [(2, 178)] v ρ Z (fun o v' ρ' Z' => ρ = ρ' ∧ Z = Z' ∧ Fr [] [4, 11, 12, 13, 14, 17] v v' ∧ o = none ∧ (0 ≤ v' 178 4 ∧ v' 178 4 ≤ v' 178 3 ∧ v' 178 3 ≤ 940 ∧ 0 ≤ v' 178 11 ∧ v' 178 11 ≤ 4 ∧ inR (v' 178 5) ∧ inR (v' 178 14) ∧ v 178 4 ≤ v' 178 4 ∧ v' 178 3 = v 178 3 ∧ (v 178 4 < v' 178 4 ∨ v' 178 11 = 0 ∨ v' 178 11 = 4))) := by
  refine Ok.of mo_m_go (Nat.le_of_ble_eq_true rfl) ?_
  intro X hX hRm hxn hQ
  show wp g X F_m_go 0 0 0 [(2, 178), (3, 0), (3, 0), (3, 0)] [] v ρ Z
  have L0 : ∀ (n0 : Nat) (v0 : Mv) , (Fr [] [4, 11, 12, 13, 14, 17] v v0) → (0 ≤ v0 178 4 ∧ v0 178 4 ≤ v0 178 3 ∧ v0 178 3 ≤ 940 ∧ 0 ≤ v0 178 11 ∧ v0 178 11 ≤ 4 ∧ inR (v0 178 5) ∧ inR (v0 178 14)) → (v 178 4 ≤ v0 178 4 ∧ v0 178 3 = v 178 3) → (940 - v0 178 4).toNat < n0 → wp g X F_m_go 0 0 0 [(2, 178), (3, 0), (3, 0), (3, 0)] [] v0 ρ Z := by
    intro n0
    induction n0 with
    | zero => intro v0 hfr0 il ip hme0; exact absurd hme0 (Nat.not_lt_zero _)
    | succ n0 ih0 =>
      intro v0 hfr0 il ip hme0
      refine r_aload_n (pc := 0) hX 0 rfl rfl ?_
      refine r_callV (as := []) (st := []) (K := 12) (pc := 1) hX 1 rfl mo_m_peek ml_X12_180 im_m_peek se_m_peek (c_peekX g v0 ρ Z hG  (by (repeat (first | rw [up_k (by decide)] | rw [up_s] | rw [up_r (by decide)])); omega) (by (repeat (first | rw [up_k (by decide)] | rw [up_s] | rw [up_r (by decide)])); omega)) rfl rfl rfl hG.1 (by rw [hRm]; exact ⟨by decide, by decide⟩) (by rw [hRm]; exact ⟨by decide, by decide⟩) (Nat.le_of_ble_eq_true rfl) (fun o1 v1 ρ1 Z1 hq1 _ => ?_)
      obtain ⟨rfl, rfl, rfl, r1, rfl, hq1⟩ := hq1
      show wp g X F_m_go 0 0 4 [(2, 178), (3, 0), (3, 0), (3, 0)] [(0, r1)] v0 ρ Z
      refine r_bipush (pc := 4) hX 2 rfl (by decide) ?_
      have L18 : (v0 178 4 < v0 178 3) → wp g X F_m_go 0 0 18 [(2, 178), (3, 0), (3, 0), (3, 0)] [] v0 ρ Z := by
        intro i18
        refine r_aload_n (pc := 18) hX 8 rfl rfl ?_
        refine r_dup (pc := 19) hX 9 rfl (show (2 : Nat) ≠ 1 by decide) ?_
        refine e_getI (y := (v0 178 4)) (pc := 20) hX 10 rfl fl_X12_21 rfl hG.1 (rfl) ?_
        refine r_iconst (pc := 23) hX 11 rfl ?_
        refine r_iadd (pc := 24) hX 12 rfl ?_
        refine r_putI (pc := 25) hX 13 rfl fl_X12_21 rfl (fun _ h => by cases h; rfl) hG.1 (by decide) ?_
        refine r_goto (pc := 28) hX 14 (tgt := 0) rfl (by decide) ?_
        exact (ih0  (up v0 178 4 ((v0 178 4) + 1)) ((hfr0).fld (k := 4) (by decide)) (by (repeat (first | rw [up_k (by decide)] | rw [up_s] | rw [up_r (by decide)])); omega) (by (repeat (first | rw [up_k (by decide)] | rw [up_s] | rw [up_r (by decide)])); omega) (by (repeat (first | rw [up_k (by decide)] | rw [up_s] | rw [up_r (by decide)])); omega))
      first | refine r_icmp_eq (pc := 6) hX 3 (tgt := 18) rfl (by decide) (⟨by omega, by omega⟩) (⟨by omega, by omega⟩) (fun h6 => ?_) (fun h6 => ?_) | refine r_icmp_eq_any (pc := 6) hX 3 (tgt := 18) rfl (by decide) ?_ ?_
      · exact (L18  (by omega) )
      · refine r_aload_n (pc := 9) hX 4 rfl rfl ?_
        refine r_callV (as := []) (st := []) (K := 12) (pc := 10) hX 5 rfl mo_m_peek ml_X12_180 im_m_peek se_m_peek (c_peekX g v0 ρ Z hG  (by (repeat (first | rw [up_k (by decide)] | rw [up_s] | rw [up_r (by decide)])); omega) (by (repeat (first | rw [up_k (by decide)] | rw [up_s] | rw [up_r (by decide)])); omega)) rfl rfl rfl hG.1 (by rw [hRm]; exact ⟨by decide, by decide⟩) (by rw [hRm]; exact ⟨by decide, by decide⟩) (Nat.le_of_ble_eq_true rfl) (fun o10 v10 ρ10 Z10 hq10 _ => ?_)
        obtain ⟨rfl, rfl, rfl, r10, rfl, hq10⟩ := hq10
        show wp g X F_m_go 0 0 13 [(2, 178), (3, 0), (3, 0), (3, 0)] [(0, r10)] v0 ρ Z
        refine r_bipush (pc := 13) hX 6 rfl (by decide) ?_
        first | refine r_icmp_ne (pc := 15) hX 7 (tgt := 31) rfl (by decide) (⟨by omega, by omega⟩) (⟨by omega, by omega⟩) (fun h15 => ?_) (fun h15 => ?_) | refine r_icmp_ne_any (pc := 15) hX 7 (tgt := 31) rfl (by decide) ?_ ?_
        · refine r_aload_n (pc := 31) hX 15 rfl rfl ?_
          refine t_getI (y := (v0 178 4)) (pc := 32) hX 16 rfl rfl rfl fl_X12_21 rfl hG.1 (rfl) ?_
          refine r_putI (pc := 36) hX 18 rfl fl_X12_184 rfl (fun _ h => by cases h; rfl) hG.1 (by decide) ?_
          refine r_aload_n (pc := 39) hX 19 rfl rfl ?_
          refine r_iconst (pc := 40) hX 20 rfl ?_
          refine r_putI (pc := 41) hX 21 rfl fl_X12_187 rfl (fun _ h => by cases h; rfl) hG.1 (by decide) ?_
          refine t_getI (y := (v0 178 3)) (pc := 44) hX 22 rfl rfl rfl fl_X12_18 rfl hG.1 ((up_k (by decide)).trans ((up_k (by decide)).trans (rfl))) ?_
          refine t_getI (y := (v0 178 5)) (pc := 48) hX 24 rfl rfl rfl fl_X12_24 rfl hG.1 ((up_k (by decide)).trans ((up_k (by decide)).trans (rfl))) ?_
          first | refine r_icmp_le (pc := 52) hX 26 (tgt := 80) rfl (by decide) (⟨by omega, by omega⟩) (⟨by omega, by omega⟩) (fun h52 => ?_) (fun h52 => ?_) | refine r_icmp_le_any (pc := 52) hX 26 (tgt := 80) rfl (by decide) ?_ ?_
          · refine r_aload_n (pc := 80) hX 40 rfl rfl ?_
            refine r_callV (as := []) (st := []) (K := 12) (pc := 81) hX 41 rfl mo_m_peek ml_X12_180 im_m_peek se_m_peek (c_peekX g (up (up v0 178 12 (v0 178 4)) 178 13 0) ρ Z hG  (by (repeat (first | rw [up_k (by decide)] | rw [up_s] | rw [up_r (by decide)])); omega) (by (repeat (first | rw [up_k (by decide)] | rw [up_s] | rw [up_r (by decide)])); omega)) rfl rfl rfl hG.1 (by rw [hRm]; exact ⟨by decide, by decide⟩) (by rw [hRm]; exact ⟨by decide, by decide⟩) (Nat.le_of_ble_eq_true rfl) (fun o81 v81 ρ81 Z81 hq81 _ => ?_)
            obtain ⟨rfl, rfl, rfl, r81, rfl, hq81⟩ := hq81
            try simp only [up_f (show (179 : Int) ≠ 178 by decide), up_f (show (180 : Int) ≠ 178 by decide), up_k (show (3 : Int) ≠ 12 by decide), up_k (show (3 : Int) ≠ 13 by decide), up_k (show (4 : Int) ≠ 12 by decide), up_k (show (4 : Int) ≠ 13 by decide)] at hq81
            show wp g X F_m_go 0 0 84 [(2, 178), (3, 0), (3, 0), (3, 0)] [(0, r81)] (up (up v0 178 12 (v0 178 4)) 178 13 0) ρ Z
            refine r_istore_n (ls' := [(2, 178), (0, r81), (3, 0), (3, 0)]) (pc := 84) hX 42 rfl (by decide) rfl ?_
            refine r_iload_n (pc := 85) hX 43 rfl rfl ?_
            first | refine r_if_ge (pc := 86) hX 44 (tgt := 95) rfl (by decide) (⟨by omega, by omega⟩) (fun h86 => ?_) (fun h86 => ?_) | refine r_if_ge_any (pc := 86) hX 44 (tgt := 95) rfl (by decide) ?_ ?_
            · refine r_iload_n (pc := 95) hX 49 rfl rfl ?_
              refine r_callS (as := [(0, r81)]) (st := []) (pc := 96) hX 50 rfl mo_m_isSmall ml_X12_193 stt_m_isSmall (c_isSmall g (up (up v0 178 12 (v0 178 4)) 178 13 0) ρ Z hG (r81) (by omega)) rfl (by rw [hRm]; exact ⟨by decide, by decide⟩) (by rw [hRm]; exact ⟨by decide, by decide⟩) (Nat.le_of_ble_eq_true rfl) (fun o96 v96 ρ96 Z96 hq96 _ => ?_)
              obtain ⟨rfl, rfl, rfl, r96, rfl, hq96⟩ := hq96
              try simp only [up_f (show (180 : Int) ≠ 178 by decide)] at hq96
              show wp g X F_m_go 0 0 99 [(2, 178), (0, r81), (3, 0), (3, 0)] [(0, r96)] (up (up v0 178 12 (v0 178 4)) 178 13 0) ρ Z
              have L164 : ((97 ≤ r81 ∧ r81 ≤ 122 ∨ 48 ≤ r81 ∧ r81 ≤ 57)) → wp g X F_m_go 0 0 164 [(2, 178), (0, r81), (3, 0), (3, 0)] [] (up (up v0 178 12 (v0 178 4)) 178 13 0) ρ Z := by
                intro i164
                refine r_iload_n (pc := 164) hX 85 rfl rfl ?_
                refine r_callS (as := [(0, r81)]) (st := []) (pc := 165) hX 86 rfl mo_m_isSmall ml_X12_193 stt_m_isSmall (c_isSmall g (up (up v0 178 12 (v0 178 4)) 178 13 0) ρ Z hG (r81) (by omega)) rfl (by rw [hRm]; exact ⟨by decide, by decide⟩) (by rw [hRm]; exact ⟨by decide, by decide⟩) (Nat.le_of_ble_eq_true rfl) (fun o165 v165 ρ165 Z165 hq165 _ => ?_)
                obtain ⟨rfl, rfl, rfl, r165, rfl, hq165⟩ := hq165
                try simp only [up_f (show (180 : Int) ≠ 178 by decide)] at hq165
                show wp g X F_m_go 0 0 168 [(2, 178), (0, r81), (3, 0), (3, 0)] [(0, r165)] (up (up v0 178 12 (v0 178 4)) 178 13 0) ρ Z
                refine r_istore_n (ls' := [(2, 178), (0, r81), (0, r165), (3, 0)]) (pc := 168) hX 87 rfl (by decide) rfl ?_
                refine r_iconst (pc := 169) hX 88 rfl ?_
                refine r_istore_n (ls' := [(2, 178), (0, r81), (0, r165), (0, 1)]) (pc := 170) hX 89 rfl (by decide) rfl ?_
                refine r_aload_n (pc := 171) hX 90 rfl rfl ?_
                refine r_lconst (pc := 172) hX 91 rfl ?_
                show wp g X F_m_go 0 0 173 [(2, 178), (0, r81), (0, r165), (0, 1)] [(1, 0), (2, 178)] (up (up v0 178 12 (v0 178 4)) 178 13 0) ρ Z
                refine r_putL (pc := 173) hX 92 rfl fl_X12_203 rfl (fun _ h => by cases h; rfl) hG.1 (by decide) ?_
                refine r_aload_n (pc := 176) hX 93 rfl rfl ?_
                refine r_iconst (pc := 177) hX 94 rfl ?_
                refine r_putI (pc := 178) hX 95 rfl fl_X12_200 rfl (fun _ h => by cases h; rfl) hG.1 (by decide) ?_
                have L181 : ∀ (n181 : Nat) (ok : Int) (v181 : Mv) , (Fr [] [4, 11, 12, 13, 14, 17] v v181) → (0 ≤ v181 178 4 ∧ v181 178 4 ≤ v181 178 3 ∧ v181 178 3 ≤ 940 ∧ 0 ≤ v181 178 11 ∧ v181 178 11 ≤ 4 ∧ inR (v181 178 5) ∧ inR (v181 178 14)) → (v0 178 4 ≤ v181 178 4 ∧ v181 178 3 = v 178 3 ∧ 0 ≤ ok ∧ ok ≤ 1) → ((v0 178 4 < v181 178 4 ∨ v181 178 4 < v181 178 3 ∧ (97 ≤ v181 179 (v181 178 4) % 256 ∧ v181 179 (v181 178 4) % 256 ≤ 122 ∨ 48 ≤ v181 179 (v181 178 4) % 256 ∧ v181 179 (v181 178 4) % 256 ≤ 57))) → (0 ≤ v181 178 13 ∧ v181 178 13 ≤ v181 178 4 ∧ (v181 178 13 = 0 → v181 178 14 = 0) ∧ (v181 178 13 ≤ 1 → -48 ≤ v181 178 14 ∧ v181 178 14 ≤ 207) ∧ -1000 ≤ v181 178 14 ∧ v181 178 14 ≤ 3000) → (940 - v181 178 4).toNat < n181 → wp g X F_m_go 0 0 181 [(2, 178), (0, r81), (0, r165), (0, ok)] [] v181 ρ Z := by
                  intro n181
                  induction n181 with
                  | zero => intro ok v181 hfr181 jl jp js jn hme181; exact absurd hme181 (Nat.not_lt_zero _)
                  | succ n181 ih181 =>
                    intro ok v181 hfr181 jl jp js jn hme181
                    refine r_aload_n (pc := 181) hX 96 rfl rfl ?_
                    refine r_callV (as := []) (st := []) (K := 12) (pc := 182) hX 97 rfl mo_m_peek ml_X12_180 im_m_peek se_m_peek (c_peekX g v181 ρ Z hG  (by (repeat (first | rw [up_k (by decide)] | rw [up_s] | rw [up_r (by decide)])); omega) (by (repeat (first | rw [up_k (by decide)] | rw [up_s] | rw [up_r (by decide)])); omega)) rfl rfl rfl hG.1 (by rw [hRm]; exact ⟨by decide, by decide⟩) (by rw [hRm]; exact ⟨by decide, by decide⟩) (Nat.le_of_ble_eq_true rfl) (fun o182 v182 ρ182 Z182 hq182 _ => ?_)
                    obtain ⟨rfl, rfl, rfl, r182, rfl, hq182⟩ := hq182
                    show wp g X F_m_go 0 0 185 [(2, 178), (0, r81), (0, r165), (0, ok)] [(0, r182)] v181 ρ Z
                    refine r_callS (as := [(0, r182)]) (st := []) (pc := 185) hX 98 rfl mo_m_isSmall ml_X12_193 stt_m_isSmall (c_isSmall g v181 ρ Z hG (r182) (by omega)) rfl (by rw [hRm]; exact ⟨by decide, by decide⟩) (by rw [hRm]; exact ⟨by decide, by decide⟩) (Nat.le_of_ble_eq_true rfl) (fun o185 v185 ρ185 Z185 hq185 _ => ?_)
                    obtain ⟨rfl, rfl, rfl, r185, rfl, hq185⟩ := hq185
                    show wp g X F_m_go 0 0 188 [(2, 178), (0, r81), (0, r165), (0, ok)] [(0, r185)] v181 ρ Z
                    have L201 : (v181 178 4 < v181 178 3) → wp g X F_m_go 0 0 201 [(2, 178), (0, r81), (0, r165), (0, ok)] [] v181 ρ Z := by
                      intro k201
                      refine r_iload_n (pc := 201) hX 104 rfl rfl ?_
                      have L221 : ∀ (okn : Int) , (0 ≤ okn ∧ okn ≤ 1) → wp g X F_m_go 0 0 221 [(2, 178), (0, r81), (0, r165), (3, 0)] [(0, okn)] v181 ρ Z := by
                        intro okn iok
                        refine r_istore_n (ls' := [(2, 178), (0, r81), (0, r165), (0, okn)]) (pc := 221) hX 114 rfl (by decide) rfl ?_
                        refine t_getI (y := (v181 178 13)) (pc := 222) hX 115 rfl rfl rfl fl_X12_187 rfl hG.1 (rfl) ?_
                        refine r_bipush (pc := 226) hX 117 rfl (by decide) ?_
                        have L248 : ∀ (v248 : Mv) , (Fr [] [4, 11, 12, 13, 14, 17] v v248) → (v248 178 3 = v181 178 3) → (v248 178 4 = v181 178 4) → (v248 178 5 = v181 178 5) → (v248 178 11 = v181 178 11) → (v248 178 13 = v181 178 13) → (v248 178 14 = v181 178 14) → wp g X F_m_go 0 0 248 [(2, 178), (0, r81), (0, r165), (0, okn)] [] v248 ρ Z := by
                          intro v248 hfr248 e3 e4 e5 e11 e13 e14
                          refine t_getI (y := (v248 178 13)) (pc := 248) hX 129 rfl rfl rfl fl_X12_187 rfl hG.1 (rfl) ?_
                          refine r_iconst (pc := 252) hX 131 rfl ?_
                          have L275 : ∀ (v275 : Mv) , (Fr [] [4, 11, 12, 13, 14, 17] v v275) → (v275 178 3 = v181 178 3) → (v275 178 4 = v181 178 4) → (v275 178 5 = v181 178 5) → (v275 178 11 = v181 178 11) → (v275 178 13 = v181 178 13) → ((v275 178 13 = 0 → -48 ≤ v275 178 14 ∧ v275 178 14 ≤ 207) ∧ (v275 178 13 ≠ 0 → -1000 ≤ v275 178 14 ∧ v275 178 14 ≤ 3000)) → wp g X F_m_go 0 0 275 [(2, 178), (0, r81), (0, r165), (0, okn)] [] v275 ρ Z := by
                            intro v275 hfr275 f3 f4 f5 f11 f13 fn
                            refine r_aload_n (pc := 275) hX 144 rfl rfl ?_
                            refine r_dup (pc := 276) hX 145 rfl (show (2 : Nat) ≠ 1 by decide) ?_
                            refine e_getI (y := (v275 178 13)) (pc := 277) hX 146 rfl fl_X12_187 rfl hG.1 (rfl) ?_
                            refine r_iconst (pc := 280) hX 147 rfl ?_
                            refine r_iadd (pc := 281) hX 148 rfl ?_
                            refine r_putI (pc := 282) hX 149 rfl fl_X12_187 rfl (fun _ h => by cases h; rfl) hG.1 (by decide) ?_
                            refine r_aload_n (pc := 285) hX 150 rfl rfl ?_
                            refine r_dup (pc := 286) hX 151 rfl (show (2 : Nat) ≠ 1 by decide) ?_
                            refine e_getI (y := (v275 178 4)) (pc := 287) hX 152 rfl fl_X12_21 rfl hG.1 ((up_k (by decide)).trans (rfl)) ?_
                            refine r_iconst (pc := 290) hX 153 rfl ?_
                            refine r_iadd (pc := 291) hX 154 rfl ?_
                            refine r_putI (pc := 292) hX 155 rfl fl_X12_21 rfl (fun _ h => by cases h; rfl) hG.1 (by decide) ?_
                            refine r_goto (pc := 295) hX 156 (tgt := 181) rfl (by decide) ?_
                            exact (ih181 okn (up (up v275 178 13 ((v275 178 13) + 1)) 178 4 ((v275 178 4) + 1)) (((hfr275).fld (k := 13) (by decide)).fld (k := 4) (by decide)) (by (repeat (first | rw [up_k (by decide)] | rw [up_s] | rw [up_r (by decide)])); omega) (by (repeat (first | rw [up_k (by decide)] | rw [up_s] | rw [up_r (by decide)])); omega) (by left; (repeat (first | rw [up_k (by decide)] | rw [up_s] | rw [up_r (by decide)])); omega) (by (repeat (first | rw [up_k (by decide)] | rw [up_s] | rw [up_r (by decide)])); omega) (by (repeat (first | rw [up_k (by decide)] | rw [up_s] | rw [up_r (by decide)])); omega))
                          first | refine r_icmp_ge (pc := 253) hX 132 (tgt := 275) rfl (by decide) (⟨by omega, by omega⟩) (⟨by omega, by omega⟩) (fun h253 => ?_) (fun h253 => ?_) | refine r_icmp_ge_any (pc := 253) hX 132 (tgt := 275) rfl (by decide) ?_ ?_
                          · exact (L275  v248 (hfr248) ((rfl).trans (by omega)) ((rfl).trans (by omega)) ((rfl).trans (by omega)) ((rfl).trans (by omega)) ((rfl).trans (by omega)) (by (repeat (first | rw [up_k (by decide)] | rw [up_s] | rw [up_r (by decide)])); omega) )
                          · refine r_aload_n (pc := 256) hX 133 rfl rfl ?_
                            refine r_bipush (pc := 257) hX 134 rfl (by decide) ?_
                            refine t_getI (y := (v248 178 14)) (pc := 259) hX 135 rfl rfl rfl fl_X12_200 rfl hG.1 (rfl) ?_
                            refine r_imul (pc := 263) hX 137 rfl ?_
                            refine r_aload_n (pc := 264) hX 138 rfl rfl ?_
                            refine r_callV (as := []) (st := [(0, (10 * (v248 178 14))), (2, 178)]) (K := 12) (pc := 265) hX 139 rfl mo_m_peek ml_X12_180 im_m_peek se_m_peek (c_peekX g v248 ρ Z hG  (by (repeat (first | rw [up_k (by decide)] | rw [up_s] | rw [up_r (by decide)])); omega) (by (repeat (first | rw [up_k (by decide)] | rw [up_s] | rw [up_r (by decide)])); omega)) rfl rfl rfl hG.1 (by rw [hRm]; exact ⟨by decide, by decide⟩) (by rw [hRm]; exact ⟨by decide, by decide⟩) (Nat.le_of_ble_eq_true rfl) (fun o265 v265 ρ265 Z265 hq265 _ => ?_)
                            obtain ⟨rfl, rfl, rfl, r265, rfl, hq265⟩ := hq265
                            show wp g X F_m_go 0 0 268 [(2, 178), (0, r81), (0, r165), (0, okn)] [(0, r265), (0, (10 * (v248 178 14))), (2, 178)] v248 ρ Z
                            refine r_iadd (pc := 268) hX 140 rfl ?_
                            refine r_bipush (pc := 269) hX 141 rfl (by decide) ?_
                            refine r_isub (pc := 271) hX 142 rfl ?_
                            refine r_putI (pc := 272) hX 143 rfl fl_X12_200 rfl (fun _ h => by cases h; rfl) hG.1 (by decide) ?_
                            exact (L275  (up v248 178 14 (((10 * (v248 178 14)) + r265) - 48)) ((hfr248).fld (k := 14) (by decide)) (((up_k (by decide)).trans (rfl)).trans (by omega)) (((up_k (by decide)).trans (rfl)).trans (by omega)) (((up_k (by decide)).trans (rfl)).trans (by omega)) (((up_k (by decide)).trans (rfl)).trans (by omega)) (((up_k (by decide)).trans (rfl)).trans (by omega)) (by (repeat (first | rw [up_k (by decide)] | rw [up_s] | rw [up_r (by decide)])); omega) )
                        first | refine r_icmp_ge (pc := 228) hX 118 (tgt := 248) rfl (by decide) (⟨by omega, by omega⟩) (⟨by omega, by omega⟩) (fun h228 => ?_) (fun h228 => ?_) | refine r_icmp_ge_any (pc := 228) hX 118 (tgt := 248) rfl (by decide) ?_ ?_
                        · exact (L248  v181 (hfr181) ((rfl).trans (by omega)) ((rfl).trans (by omega)) ((rfl).trans (by omega)) ((rfl).trans (by omega)) ((rfl).trans (by omega)) ((rfl).trans (by omega)) )
                        · refine r_aload_n (pc := 231) hX 119 rfl rfl ?_
                          refine t_getL (y := (v181 178 17)) (pc := 232) hX 120 rfl rfl rfl fl_X12_203 rfl hG.1 (rfl) ?_
                          refine r_bipush (pc := 236) hX 122 rfl (by decide) ?_
                          refine r_lshl_any (pc := 238) hX 123 rfl (fun z238 hz238 => ?_)
                          refine r_aload_n (pc := 239) hX 124 rfl rfl ?_
                          refine r_callV (as := []) (st := [(1, z238), (2, 178)]) (K := 12) (pc := 240) hX 125 rfl mo_m_peek ml_X12_180 im_m_peek se_m_peek (c_peekX g v181 ρ Z hG  (by (repeat (first | rw [up_k (by decide)] | rw [up_s] | rw [up_r (by decide)])); omega) (by (repeat (first | rw [up_k (by decide)] | rw [up_s] | rw [up_r (by decide)])); omega)) rfl rfl rfl hG.1 (by rw [hRm]; exact ⟨by decide, by decide⟩) (by rw [hRm]; exact ⟨by decide, by decide⟩) (Nat.le_of_ble_eq_true rfl) (fun o240 v240 ρ240 Z240 hq240 _ => ?_)
                          obtain ⟨rfl, rfl, rfl, r240, rfl, hq240⟩ := hq240
                          show wp g X F_m_go 0 0 243 [(2, 178), (0, r81), (0, r165), (0, okn)] [(0, r240), (1, z238), (2, 178)] v181 ρ Z
                          refine r_i2l (pc := 243) hX 126 rfl ⟨by omega, by omega⟩ ?_
                          refine r_lor_any (pc := 244) hX 127 rfl (fun z244 hz244 => ?_)
                          refine r_putL (pc := 245) hX 128 rfl fl_X12_203 rfl (fun _ h => by cases h; rfl) hG.1 (by decide) ?_
                          exact (L248  (up v181 178 17 z244) ((hfr181).fld (k := 17) (by decide)) (((up_k (by decide)).trans (rfl)).trans (by omega)) (((up_k (by decide)).trans (rfl)).trans (by omega)) (((up_k (by decide)).trans (rfl)).trans (by omega)) (((up_k (by decide)).trans (rfl)).trans (by omega)) (((up_k (by decide)).trans (rfl)).trans (by omega)) (((up_k (by decide)).trans (rfl)).trans (by omega)) )
                      first | refine r_if_eq (pc := 202) hX 105 (tgt := 220) rfl (by decide) (⟨by omega, by omega⟩) (fun h202 => ?_) (fun h202 => ?_) | refine r_if_eq_any (pc := 202) hX 105 (tgt := 220) rfl (by decide) ?_ ?_
                      · refine r_iconst (pc := 220) hX 113 rfl ?_
                        refine r_wk (ls' := [(2, 178), (0, r81), (0, r165), (3, 0)]) ⟨Or.inr rfl, Or.inr rfl, Or.inr rfl, Or.inl rfl, trivial⟩ ?_
                        exact (L221 0 (by omega) )
                      · refine r_aload_n (pc := 205) hX 106 rfl rfl ?_
                        refine r_callV (as := []) (st := []) (K := 12) (pc := 206) hX 107 rfl mo_m_peek ml_X12_180 im_m_peek se_m_peek (c_peekX g v181 ρ Z hG  (by (repeat (first | rw [up_k (by decide)] | rw [up_s] | rw [up_r (by decide)])); omega) (by (repeat (first | rw [up_k (by decide)] | rw [up_s] | rw [up_r (by decide)])); omega)) rfl rfl rfl hG.1 (by rw [hRm]; exact ⟨by decide, by decide⟩) (by rw [hRm]; exact ⟨by decide, by decide⟩) (Nat.le_of_ble_eq_true rfl) (fun o206 v206 ρ206 Z206 hq206 _ => ?_)
                        obtain ⟨rfl, rfl, rfl, r206, rfl, hq206⟩ := hq206
                        show wp g X F_m_go 0 0 209 [(2, 178), (0, r81), (0, r165), (0, ok)] [(0, r206)] v181 ρ Z
                        refine r_callS (as := [(0, r206)]) (st := []) (pc := 209) hX 108 rfl mo_m_isSmall ml_X12_193 stt_m_isSmall (c_isSmall g v181 ρ Z hG (r206) (by omega)) rfl (by rw [hRm]; exact ⟨by decide, by decide⟩) (by rw [hRm]; exact ⟨by decide, by decide⟩) (Nat.le_of_ble_eq_true rfl) (fun o209 v209 ρ209 Z209 hq209 _ => ?_)
                        obtain ⟨rfl, rfl, rfl, r209, rfl, hq209⟩ := hq209
                        show wp g X F_m_go 0 0 212 [(2, 178), (0, r81), (0, r165), (0, ok)] [(0, r209)] v181 ρ Z
                        refine r_iload_n (pc := 212) hX 109 rfl rfl ?_
                        first | refine r_icmp_ne (pc := 213) hX 110 (tgt := 220) rfl (by decide) (⟨by omega, by omega⟩) (⟨by omega, by omega⟩) (fun h213 => ?_) (fun h213 => ?_) | refine r_icmp_ne_any (pc := 213) hX 110 (tgt := 220) rfl (by decide) ?_ ?_
                        · refine r_iconst (pc := 220) hX 113 rfl ?_
                          refine r_wk (ls' := [(2, 178), (0, r81), (0, r165), (3, 0)]) ⟨Or.inr rfl, Or.inr rfl, Or.inr rfl, Or.inl rfl, trivial⟩ ?_
                          exact (L221 0 (by omega) )
                        · refine r_iconst (pc := 216) hX 111 rfl ?_
                          refine r_goto (pc := 217) hX 112 (tgt := 221) rfl (by decide) ?_
                          refine r_wk (ls' := [(2, 178), (0, r81), (0, r165), (3, 0)]) ⟨Or.inr rfl, Or.inr rfl, Or.inr rfl, Or.inl rfl, trivial⟩ ?_
                          exact (L221 1 (by omega) )
                    first | refine r_if_ne (pc := 188) hX 99 (tgt := 201) rfl (by decide) (⟨by omega, by omega⟩) (fun h188 => ?_) (fun h188 => ?_) | refine r_if_ne_any (pc := 188) hX 99 (tgt := 201) rfl (by decide) ?_ ?_
                    · exact (L201  (by omega) )
                    · refine r_aload_n (pc := 191) hX 100 rfl rfl ?_
                      refine r_callV (as := []) (st := []) (K := 12) (pc := 192) hX 101 rfl mo_m_peek ml_X12_180 im_m_peek se_m_peek (c_peekX g v181 ρ Z hG  (by (repeat (first | rw [up_k (by decide)] | rw [up_s] | rw [up_r (by decide)])); omega) (by (repeat (first | rw [up_k (by decide)] | rw [up_s] | rw [up_r (by decide)])); omega)) rfl rfl rfl hG.1 (by rw [hRm]; exact ⟨by decide, by decide⟩) (by rw [hRm]; exact ⟨by decide, by decide⟩) (Nat.le_of_ble_eq_true rfl) (fun o192 v192 ρ192 Z192 hq192 _ => ?_)
                      obtain ⟨rfl, rfl, rfl, r192, rfl, hq192⟩ := hq192
                      show wp g X F_m_go 0 0 195 [(2, 178), (0, r81), (0, r165), (0, ok)] [(0, r192)] v181 ρ Z
                      refine r_callS (as := [(0, r192)]) (st := []) (pc := 195) hX 102 rfl mo_m_isDigit ml_X12_197 stt_m_isDigit (c_isDigit g v181 ρ Z hG (r192) (by omega)) rfl (by rw [hRm]; exact ⟨by decide, by decide⟩) (by rw [hRm]; exact ⟨by decide, by decide⟩) (Nat.le_of_ble_eq_true rfl) (fun o195 v195 ρ195 Z195 hq195 _ => ?_)
                      obtain ⟨rfl, rfl, rfl, r195, rfl, hq195⟩ := hq195
                      show wp g X F_m_go 0 0 198 [(2, 178), (0, r81), (0, r165), (0, ok)] [(0, r195)] v181 ρ Z
                      first | refine r_if_eq (pc := 198) hX 103 (tgt := 298) rfl (by decide) (⟨by omega, by omega⟩) (fun h198 => ?_) (fun h198 => ?_) | refine r_if_eq_any (pc := 198) hX 103 (tgt := 298) rfl (by decide) ?_ ?_
                      · refine r_aload_n (pc := 298) hX 157 rfl rfl ?_
                        refine r_iload_n (pc := 299) hX 158 rfl rfl ?_
                        first | refine r_if_eq (pc := 300) hX 159 (tgt := 320) rfl (by decide) (⟨by omega, by omega⟩) (fun h300 => ?_) (fun h300 => ?_) | refine r_if_eq_any (pc := 300) hX 159 (tgt := 320) rfl (by decide) ?_ ?_
                        · refine r_iconst (pc := 320) hX 168 rfl ?_
                          refine r_goto (pc := 321) hX 169 (tgt := 333) rfl (by decide) ?_
                          refine r_putI (pc := 333) hX 175 rfl fl_X12_190 rfl (fun _ h => by cases h; rfl) hG.1 (by decide) ?_
                          show wp g X F_m_go 0 0 336 [(2, 178), (0, r81), (0, r165), (0, ok)] [] (up v181 178 11 4) ρ Z
                          exact r_vret (pc := 336) hX 176 hQ rfl rfl (Nat.le_refl 0) (Nat.le_refl 0) ⟨rfl, rfl, (hfr181).fld (k := 11) (by decide), rfl, (by (repeat (first | rw [up_k (by decide)] | rw [up_s] | rw [up_r (by decide)])); omega)⟩
                        · refine t_getI (y := (v181 178 13)) (pc := 303) hX 160 rfl rfl rfl fl_X12_187 rfl hG.1 (rfl) ?_
                          refine r_iload_n (pc := 307) hX 162 rfl rfl ?_
                          first | refine r_if_eq (pc := 308) hX 163 (tgt := 316) rfl (by decide) (⟨by omega, by omega⟩) (fun h308 => ?_) (fun h308 => ?_) | refine r_if_eq_any (pc := 308) hX 163 (tgt := 316) rfl (by decide) ?_ ?_
                          · refine r_iconst (pc := 316) hX 166 rfl ?_
                            first | refine r_icmp_le (pc := 317) hX 167 (tgt := 324) rfl (by decide) (⟨by omega, by omega⟩) (⟨by omega, by omega⟩) (fun h317 => ?_) (fun h317 => ?_) | refine r_icmp_le_any (pc := 317) hX 167 (tgt := 324) rfl (by decide) ?_ ?_
                            · refine r_iload_n (pc := 324) hX 170 rfl rfl ?_
                              first | refine r_if_eq (pc := 325) hX 171 (tgt := 332) rfl (by decide) (⟨by omega, by omega⟩) (fun h325 => ?_) (fun h325 => ?_) | refine r_if_eq_any (pc := 325) hX 171 (tgt := 332) rfl (by decide) ?_ ?_
                              · refine r_iconst (pc := 332) hX 174 rfl ?_
                                refine r_putI (pc := 333) hX 175 rfl fl_X12_190 rfl (fun _ h => by cases h; rfl) hG.1 (by decide) ?_
                                show wp g X F_m_go 0 0 336 [(2, 178), (0, r81), (0, r165), (0, ok)] [] (up v181 178 11 2) ρ Z
                                exact r_vret (pc := 336) hX 176 hQ rfl rfl (Nat.le_refl 0) (Nat.le_refl 0) ⟨rfl, rfl, (hfr181).fld (k := 11) (by decide), rfl, (by (repeat (first | rw [up_k (by decide)] | rw [up_s] | rw [up_r (by decide)])); omega)⟩
                              · refine r_iconst (pc := 328) hX 172 rfl ?_
                                refine r_goto (pc := 329) hX 173 (tgt := 333) rfl (by decide) ?_
                                refine r_putI (pc := 333) hX 175 rfl fl_X12_190 rfl (fun _ h => by cases h; rfl) hG.1 (by decide) ?_
                                show wp g X F_m_go 0 0 336 [(2, 178), (0, r81), (0, r165), (0, ok)] [] (up v181 178 11 1) ρ Z
                                exact r_vret (pc := 336) hX 176 hQ rfl rfl (Nat.le_refl 0) (Nat.le_refl 0) ⟨rfl, rfl, (hfr181).fld (k := 11) (by decide), rfl, (by (repeat (first | rw [up_k (by decide)] | rw [up_s] | rw [up_r (by decide)])); omega)⟩
                            · refine r_iconst (pc := 320) hX 168 rfl ?_
                              refine r_goto (pc := 321) hX 169 (tgt := 333) rfl (by decide) ?_
                              refine r_putI (pc := 333) hX 175 rfl fl_X12_190 rfl (fun _ h => by cases h; rfl) hG.1 (by decide) ?_
                              show wp g X F_m_go 0 0 336 [(2, 178), (0, r81), (0, r165), (0, ok)] [] (up v181 178 11 4) ρ Z
                              exact r_vret (pc := 336) hX 176 hQ rfl rfl (Nat.le_refl 0) (Nat.le_refl 0) ⟨rfl, rfl, (hfr181).fld (k := 11) (by decide), rfl, (by (repeat (first | rw [up_k (by decide)] | rw [up_s] | rw [up_r (by decide)])); omega)⟩
                          · refine r_bipush (pc := 311) hX 164 rfl (by decide) ?_
                            refine r_goto (pc := 313) hX 165 (tgt := 317) rfl (by decide) ?_
                            first | refine r_icmp_le (pc := 317) hX 167 (tgt := 324) rfl (by decide) (⟨by omega, by omega⟩) (⟨by omega, by omega⟩) (fun h317 => ?_) (fun h317 => ?_) | refine r_icmp_le_any (pc := 317) hX 167 (tgt := 324) rfl (by decide) ?_ ?_
                            · refine r_iload_n (pc := 324) hX 170 rfl rfl ?_
                              first | refine r_if_eq (pc := 325) hX 171 (tgt := 332) rfl (by decide) (⟨by omega, by omega⟩) (fun h325 => ?_) (fun h325 => ?_) | refine r_if_eq_any (pc := 325) hX 171 (tgt := 332) rfl (by decide) ?_ ?_
                              · refine r_iconst (pc := 332) hX 174 rfl ?_
                                refine r_putI (pc := 333) hX 175 rfl fl_X12_190 rfl (fun _ h => by cases h; rfl) hG.1 (by decide) ?_
                                show wp g X F_m_go 0 0 336 [(2, 178), (0, r81), (0, r165), (0, ok)] [] (up v181 178 11 2) ρ Z
                                exact r_vret (pc := 336) hX 176 hQ rfl rfl (Nat.le_refl 0) (Nat.le_refl 0) ⟨rfl, rfl, (hfr181).fld (k := 11) (by decide), rfl, (by (repeat (first | rw [up_k (by decide)] | rw [up_s] | rw [up_r (by decide)])); omega)⟩
                              · refine r_iconst (pc := 328) hX 172 rfl ?_
                                refine r_goto (pc := 329) hX 173 (tgt := 333) rfl (by decide) ?_
                                refine r_putI (pc := 333) hX 175 rfl fl_X12_190 rfl (fun _ h => by cases h; rfl) hG.1 (by decide) ?_
                                show wp g X F_m_go 0 0 336 [(2, 178), (0, r81), (0, r165), (0, ok)] [] (up v181 178 11 1) ρ Z
                                exact r_vret (pc := 336) hX 176 hQ rfl rfl (Nat.le_refl 0) (Nat.le_refl 0) ⟨rfl, rfl, (hfr181).fld (k := 11) (by decide), rfl, (by (repeat (first | rw [up_k (by decide)] | rw [up_s] | rw [up_r (by decide)])); omega)⟩
                            · refine r_iconst (pc := 320) hX 168 rfl ?_
                              refine r_goto (pc := 321) hX 169 (tgt := 333) rfl (by decide) ?_
                              refine r_putI (pc := 333) hX 175 rfl fl_X12_190 rfl (fun _ h => by cases h; rfl) hG.1 (by decide) ?_
                              show wp g X F_m_go 0 0 336 [(2, 178), (0, r81), (0, r165), (0, ok)] [] (up v181 178 11 4) ρ Z
                              exact r_vret (pc := 336) hX 176 hQ rfl rfl (Nat.le_refl 0) (Nat.le_refl 0) ⟨rfl, rfl, (hfr181).fld (k := 11) (by decide), rfl, (by (repeat (first | rw [up_k (by decide)] | rw [up_s] | rw [up_r (by decide)])); omega)⟩
                      · exact (L201  (by omega) )
                exact (L181 _ 1 (up (up (up (up v0 178 12 (v0 178 4)) 178 13 0) 178 17 0) 178 14 0) (((((hfr0).fld (k := 12) (by decide)).fld (k := 13) (by decide)).fld (k := 17) (by decide)).fld (k := 14) (by decide)) (by (repeat (first | rw [up_k (by decide)] | rw [up_s] | rw [up_r (by decide)])); omega) (by (repeat (first | rw [up_k (by decide)] | rw [up_s] | rw [up_r (by decide)])); omega) (by (repeat (first | rw [up_k (by decide)] | rw [up_s] | rw [up_r (by decide)])); omega) (by (repeat (first | rw [up_k (by decide)] | rw [up_s] | rw [up_r (by decide)])); omega) (Nat.lt_succ_self _))
              first | refine r_if_ne (pc := 99) hX 51 (tgt := 164) rfl (by decide) (⟨by omega, by omega⟩) (fun h99 => ?_) (fun h99 => ?_) | refine r_if_ne_any (pc := 99) hX 51 (tgt := 164) rfl (by decide) ?_ ?_
              · exact (L164  (by omega) )
              · refine r_iload_n (pc := 102) hX 52 rfl rfl ?_
                refine r_callS (as := [(0, r81)]) (st := []) (pc := 103) hX 53 rfl mo_m_isDigit ml_X12_197 stt_m_isDigit (c_isDigit g (up (up v0 178 12 (v0 178 4)) 178 13 0) ρ Z hG (r81) (by omega)) rfl (by rw [hRm]; exact ⟨by decide, by decide⟩) (by rw [hRm]; exact ⟨by decide, by decide⟩) (Nat.le_of_ble_eq_true rfl) (fun o103 v103 ρ103 Z103 hq103 _ => ?_)
                obtain ⟨rfl, rfl, rfl, r103, rfl, hq103⟩ := hq103
                try simp only [up_f (show (180 : Int) ≠ 178 by decide)] at hq103
                show wp g X F_m_go 0 0 106 [(2, 178), (0, r81), (3, 0), (3, 0)] [(0, r103)] (up (up v0 178 12 (v0 178 4)) 178 13 0) ρ Z
                first | refine r_if_ne (pc := 106) hX 54 (tgt := 164) rfl (by decide) (⟨by omega, by omega⟩) (fun h106 => ?_) (fun h106 => ?_) | refine r_if_ne_any (pc := 106) hX 54 (tgt := 164) rfl (by decide) ?_ ?_
                · exact (L164  (by omega) )
                · refine r_aload_n (pc := 109) hX 55 rfl rfl ?_
                  refine r_iload_n (pc := 110) hX 56 rfl rfl ?_
                  refine r_bipush (pc := 111) hX 57 rfl (by decide) ?_
                  first | refine r_icmp_eq (pc := 113) hX 58 (tgt := 140) rfl (by decide) (⟨by omega, by omega⟩) (⟨by omega, by omega⟩) (fun h113 => ?_) (fun h113 => ?_) | refine r_icmp_eq_any (pc := 113) hX 58 (tgt := 140) rfl (by decide) ?_ ?_
                  · refine r_iconst (pc := 140) hX 71 rfl ?_
                    refine r_goto (pc := 141) hX 72 (tgt := 145) rfl (by decide) ?_
                    refine r_putI (pc := 145) hX 74 rfl fl_X12_190 rfl (fun _ h => by cases h; rfl) hG.1 (by decide) ?_
                    refine r_aload_n (pc := 148) hX 75 rfl rfl ?_
                    refine r_iload_n (pc := 149) hX 76 rfl rfl ?_
                    refine r_putI (pc := 150) hX 77 rfl fl_X12_200 rfl (fun _ h => by cases h; rfl) hG.1 (by decide) ?_
                    refine r_aload_n (pc := 153) hX 78 rfl rfl ?_
                    refine r_dup (pc := 154) hX 79 rfl (show (2 : Nat) ≠ 1 by decide) ?_
                    refine e_getI (y := (v0 178 4)) (pc := 155) hX 80 rfl fl_X12_21 rfl hG.1 ((up_k (by decide)).trans ((up_k (by decide)).trans ((up_k (by decide)).trans ((up_k (by decide)).trans (rfl))))) ?_
                    refine r_iconst (pc := 158) hX 81 rfl ?_
                    refine r_iadd (pc := 159) hX 82 rfl ?_
                    refine r_putI (pc := 160) hX 83 rfl fl_X12_21 rfl (fun _ h => by cases h; rfl) hG.1 (by decide) ?_
                    show wp g X F_m_go 0 0 163 [(2, 178), (0, r81), (3, 0), (3, 0)] [] (up (up (up (up (up v0 178 12 (v0 178 4)) 178 13 0) 178 11 3) 178 14 r81) 178 4 ((v0 178 4) + 1)) ρ Z
                    exact r_vret (pc := 163) hX 84 hQ rfl rfl (Nat.le_refl 0) (Nat.le_refl 0) ⟨rfl, rfl, (((((hfr0).fld (k := 12) (by decide)).fld (k := 13) (by decide)).fld (k := 11) (by decide)).fld (k := 14) (by decide)).fld (k := 4) (by decide), rfl, (by (repeat (first | rw [up_k (by decide)] | rw [up_s] | rw [up_r (by decide)])); omega)⟩
                  · refine r_iload_n (pc := 116) hX 59 rfl rfl ?_
                    refine r_bipush (pc := 117) hX 60 rfl (by decide) ?_
                    first | refine r_icmp_eq (pc := 119) hX 61 (tgt := 140) rfl (by decide) (⟨by omega, by omega⟩) (⟨by omega, by omega⟩) (fun h119 => ?_) (fun h119 => ?_) | refine r_icmp_eq_any (pc := 119) hX 61 (tgt := 140) rfl (by decide) ?_ ?_
                    · refine r_iconst (pc := 140) hX 71 rfl ?_
                      refine r_goto (pc := 141) hX 72 (tgt := 145) rfl (by decide) ?_
                      refine r_putI (pc := 145) hX 74 rfl fl_X12_190 rfl (fun _ h => by cases h; rfl) hG.1 (by decide) ?_
                      refine r_aload_n (pc := 148) hX 75 rfl rfl ?_
                      refine r_iload_n (pc := 149) hX 76 rfl rfl ?_
                      refine r_putI (pc := 150) hX 77 rfl fl_X12_200 rfl (fun _ h => by cases h; rfl) hG.1 (by decide) ?_
                      refine r_aload_n (pc := 153) hX 78 rfl rfl ?_
                      refine r_dup (pc := 154) hX 79 rfl (show (2 : Nat) ≠ 1 by decide) ?_
                      refine e_getI (y := (v0 178 4)) (pc := 155) hX 80 rfl fl_X12_21 rfl hG.1 ((up_k (by decide)).trans ((up_k (by decide)).trans ((up_k (by decide)).trans ((up_k (by decide)).trans (rfl))))) ?_
                      refine r_iconst (pc := 158) hX 81 rfl ?_
                      refine r_iadd (pc := 159) hX 82 rfl ?_
                      refine r_putI (pc := 160) hX 83 rfl fl_X12_21 rfl (fun _ h => by cases h; rfl) hG.1 (by decide) ?_
                      show wp g X F_m_go 0 0 163 [(2, 178), (0, r81), (3, 0), (3, 0)] [] (up (up (up (up (up v0 178 12 (v0 178 4)) 178 13 0) 178 11 3) 178 14 r81) 178 4 ((v0 178 4) + 1)) ρ Z
                      exact r_vret (pc := 163) hX 84 hQ rfl rfl (Nat.le_refl 0) (Nat.le_refl 0) ⟨rfl, rfl, (((((hfr0).fld (k := 12) (by decide)).fld (k := 13) (by decide)).fld (k := 11) (by decide)).fld (k := 14) (by decide)).fld (k := 4) (by decide), rfl, (by (repeat (first | rw [up_k (by decide)] | rw [up_s] | rw [up_r (by decide)])); omega)⟩
                    · refine r_iload_n (pc := 122) hX 62 rfl rfl ?_
                      refine r_bipush (pc := 123) hX 63 rfl (by decide) ?_
                      first | refine r_icmp_eq (pc := 125) hX 64 (tgt := 140) rfl (by decide) (⟨by omega, by omega⟩) (⟨by omega, by omega⟩) (fun h125 => ?_) (fun h125 => ?_) | refine r_icmp_eq_any (pc := 125) hX 64 (tgt := 140) rfl (by decide) ?_ ?_
                      · refine r_iconst (pc := 140) hX 71 rfl ?_
                        refine r_goto (pc := 141) hX 72 (tgt := 145) rfl (by decide) ?_
                        refine r_putI (pc := 145) hX 74 rfl fl_X12_190 rfl (fun _ h => by cases h; rfl) hG.1 (by decide) ?_
                        refine r_aload_n (pc := 148) hX 75 rfl rfl ?_
                        refine r_iload_n (pc := 149) hX 76 rfl rfl ?_
                        refine r_putI (pc := 150) hX 77 rfl fl_X12_200 rfl (fun _ h => by cases h; rfl) hG.1 (by decide) ?_
                        refine r_aload_n (pc := 153) hX 78 rfl rfl ?_
                        refine r_dup (pc := 154) hX 79 rfl (show (2 : Nat) ≠ 1 by decide) ?_
                        refine e_getI (y := (v0 178 4)) (pc := 155) hX 80 rfl fl_X12_21 rfl hG.1 ((up_k (by decide)).trans ((up_k (by decide)).trans ((up_k (by decide)).trans ((up_k (by decide)).trans (rfl))))) ?_
                        refine r_iconst (pc := 158) hX 81 rfl ?_
                        refine r_iadd (pc := 159) hX 82 rfl ?_
                        refine r_putI (pc := 160) hX 83 rfl fl_X12_21 rfl (fun _ h => by cases h; rfl) hG.1 (by decide) ?_
                        show wp g X F_m_go 0 0 163 [(2, 178), (0, r81), (3, 0), (3, 0)] [] (up (up (up (up (up v0 178 12 (v0 178 4)) 178 13 0) 178 11 3) 178 14 r81) 178 4 ((v0 178 4) + 1)) ρ Z
                        exact r_vret (pc := 163) hX 84 hQ rfl rfl (Nat.le_refl 0) (Nat.le_refl 0) ⟨rfl, rfl, (((((hfr0).fld (k := 12) (by decide)).fld (k := 13) (by decide)).fld (k := 11) (by decide)).fld (k := 14) (by decide)).fld (k := 4) (by decide), rfl, (by (repeat (first | rw [up_k (by decide)] | rw [up_s] | rw [up_r (by decide)])); omega)⟩
                      · refine r_iload_n (pc := 128) hX 65 rfl rfl ?_
                        refine r_bipush (pc := 129) hX 66 rfl (by decide) ?_
                        first | refine r_icmp_lt (pc := 131) hX 67 (tgt := 144) rfl (by decide) (⟨by omega, by omega⟩) (⟨by omega, by omega⟩) (fun h131 => ?_) (fun h131 => ?_) | refine r_icmp_lt_any (pc := 131) hX 67 (tgt := 144) rfl (by decide) ?_ ?_
                        · refine r_iconst (pc := 144) hX 73 rfl ?_
                          refine r_putI (pc := 145) hX 74 rfl fl_X12_190 rfl (fun _ h => by cases h; rfl) hG.1 (by decide) ?_
                          refine r_aload_n (pc := 148) hX 75 rfl rfl ?_
                          refine r_iload_n (pc := 149) hX 76 rfl rfl ?_
                          refine r_putI (pc := 150) hX 77 rfl fl_X12_200 rfl (fun _ h => by cases h; rfl) hG.1 (by decide) ?_
                          refine r_aload_n (pc := 153) hX 78 rfl rfl ?_
                          refine r_dup (pc := 154) hX 79 rfl (show (2 : Nat) ≠ 1 by decide) ?_
                          refine e_getI (y := (v0 178 4)) (pc := 155) hX 80 rfl fl_X12_21 rfl hG.1 ((up_k (by decide)).trans ((up_k (by decide)).trans ((up_k (by decide)).trans ((up_k (by decide)).trans (rfl))))) ?_
                          refine r_iconst (pc := 158) hX 81 rfl ?_
                          refine r_iadd (pc := 159) hX 82 rfl ?_
                          refine r_putI (pc := 160) hX 83 rfl fl_X12_21 rfl (fun _ h => by cases h; rfl) hG.1 (by decide) ?_
                          show wp g X F_m_go 0 0 163 [(2, 178), (0, r81), (3, 0), (3, 0)] [] (up (up (up (up (up v0 178 12 (v0 178 4)) 178 13 0) 178 11 4) 178 14 r81) 178 4 ((v0 178 4) + 1)) ρ Z
                          exact r_vret (pc := 163) hX 84 hQ rfl rfl (Nat.le_refl 0) (Nat.le_refl 0) ⟨rfl, rfl, (((((hfr0).fld (k := 12) (by decide)).fld (k := 13) (by decide)).fld (k := 11) (by decide)).fld (k := 14) (by decide)).fld (k := 4) (by decide), rfl, (by (repeat (first | rw [up_k (by decide)] | rw [up_s] | rw [up_r (by decide)])); omega)⟩
                        · refine r_iload_n (pc := 134) hX 68 rfl rfl ?_
                          refine r_bipush (pc := 135) hX 69 rfl (by decide) ?_
                          first | refine r_icmp_gt (pc := 137) hX 70 (tgt := 144) rfl (by decide) (⟨by omega, by omega⟩) (⟨by omega, by omega⟩) (fun h137 => ?_) (fun h137 => ?_) | refine r_icmp_gt_any (pc := 137) hX 70 (tgt := 144) rfl (by decide) ?_ ?_
                          · refine r_iconst (pc := 144) hX 73 rfl ?_
                            refine r_putI (pc := 145) hX 74 rfl fl_X12_190 rfl (fun _ h => by cases h; rfl) hG.1 (by decide) ?_
                            refine r_aload_n (pc := 148) hX 75 rfl rfl ?_
                            refine r_iload_n (pc := 149) hX 76 rfl rfl ?_
                            refine r_putI (pc := 150) hX 77 rfl fl_X12_200 rfl (fun _ h => by cases h; rfl) hG.1 (by decide) ?_
                            refine r_aload_n (pc := 153) hX 78 rfl rfl ?_
                            refine r_dup (pc := 154) hX 79 rfl (show (2 : Nat) ≠ 1 by decide) ?_
                            refine e_getI (y := (v0 178 4)) (pc := 155) hX 80 rfl fl_X12_21 rfl hG.1 ((up_k (by decide)).trans ((up_k (by decide)).trans ((up_k (by decide)).trans ((up_k (by decide)).trans (rfl))))) ?_
                            refine r_iconst (pc := 158) hX 81 rfl ?_
                            refine r_iadd (pc := 159) hX 82 rfl ?_
                            refine r_putI (pc := 160) hX 83 rfl fl_X12_21 rfl (fun _ h => by cases h; rfl) hG.1 (by decide) ?_
                            show wp g X F_m_go 0 0 163 [(2, 178), (0, r81), (3, 0), (3, 0)] [] (up (up (up (up (up v0 178 12 (v0 178 4)) 178 13 0) 178 11 4) 178 14 r81) 178 4 ((v0 178 4) + 1)) ρ Z
                            exact r_vret (pc := 163) hX 84 hQ rfl rfl (Nat.le_refl 0) (Nat.le_refl 0) ⟨rfl, rfl, (((((hfr0).fld (k := 12) (by decide)).fld (k := 13) (by decide)).fld (k := 11) (by decide)).fld (k := 14) (by decide)).fld (k := 4) (by decide), rfl, (by (repeat (first | rw [up_k (by decide)] | rw [up_s] | rw [up_r (by decide)])); omega)⟩
                          · refine r_iconst (pc := 140) hX 71 rfl ?_
                            refine r_goto (pc := 141) hX 72 (tgt := 145) rfl (by decide) ?_
                            refine r_putI (pc := 145) hX 74 rfl fl_X12_190 rfl (fun _ h => by cases h; rfl) hG.1 (by decide) ?_
                            refine r_aload_n (pc := 148) hX 75 rfl rfl ?_
                            refine r_iload_n (pc := 149) hX 76 rfl rfl ?_
                            refine r_putI (pc := 150) hX 77 rfl fl_X12_200 rfl (fun _ h => by cases h; rfl) hG.1 (by decide) ?_
                            refine r_aload_n (pc := 153) hX 78 rfl rfl ?_
                            refine r_dup (pc := 154) hX 79 rfl (show (2 : Nat) ≠ 1 by decide) ?_
                            refine e_getI (y := (v0 178 4)) (pc := 155) hX 80 rfl fl_X12_21 rfl hG.1 ((up_k (by decide)).trans ((up_k (by decide)).trans ((up_k (by decide)).trans ((up_k (by decide)).trans (rfl))))) ?_
                            refine r_iconst (pc := 158) hX 81 rfl ?_
                            refine r_iadd (pc := 159) hX 82 rfl ?_
                            refine r_putI (pc := 160) hX 83 rfl fl_X12_21 rfl (fun _ h => by cases h; rfl) hG.1 (by decide) ?_
                            show wp g X F_m_go 0 0 163 [(2, 178), (0, r81), (3, 0), (3, 0)] [] (up (up (up (up (up v0 178 12 (v0 178 4)) 178 13 0) 178 11 3) 178 14 r81) 178 4 ((v0 178 4) + 1)) ρ Z
                            exact r_vret (pc := 163) hX 84 hQ rfl rfl (Nat.le_refl 0) (Nat.le_refl 0) ⟨rfl, rfl, (((((hfr0).fld (k := 12) (by decide)).fld (k := 13) (by decide)).fld (k := 11) (by decide)).fld (k := 14) (by decide)).fld (k := 4) (by decide), rfl, (by (repeat (first | rw [up_k (by decide)] | rw [up_s] | rw [up_r (by decide)])); omega)⟩
            · refine r_aload_n (pc := 89) hX 45 rfl rfl ?_
              refine r_iconst (pc := 90) hX 46 rfl ?_
              refine r_putI (pc := 91) hX 47 rfl fl_X12_190 rfl (fun _ h => by cases h; rfl) hG.1 (by decide) ?_
              show wp g X F_m_go 0 0 94 [(2, 178), (0, r81), (3, 0), (3, 0)] [] (up (up (up v0 178 12 (v0 178 4)) 178 13 0) 178 11 0) ρ Z
              exact r_vret (pc := 94) hX 48 hQ rfl rfl (Nat.le_refl 0) (Nat.le_refl 0) ⟨rfl, rfl, (((hfr0).fld (k := 12) (by decide)).fld (k := 13) (by decide)).fld (k := 11) (by decide), rfl, (by (repeat (first | rw [up_k (by decide)] | rw [up_s] | rw [up_r (by decide)])); omega)⟩
          · refine t_getI (y := (v0 178 4)) (pc := 55) hX 27 rfl rfl rfl fl_X12_21 rfl hG.1 ((up_k (by decide)).trans ((up_k (by decide)).trans (rfl))) ?_
            refine t_getI (y := (v0 178 5)) (pc := 59) hX 29 rfl rfl rfl fl_X12_24 rfl hG.1 ((up_k (by decide)).trans ((up_k (by decide)).trans (rfl))) ?_
            first | refine r_icmp_lt (pc := 63) hX 31 (tgt := 80) rfl (by decide) (⟨by omega, by omega⟩) (⟨by omega, by omega⟩) (fun h63 => ?_) (fun h63 => ?_) | refine r_icmp_lt_any (pc := 63) hX 31 (tgt := 80) rfl (by decide) ?_ ?_
            · refine r_aload_n (pc := 80) hX 40 rfl rfl ?_
              refine r_callV (as := []) (st := []) (K := 12) (pc := 81) hX 41 rfl mo_m_peek ml_X12_180 im_m_peek se_m_peek (c_peekX g (up (up v0 178 12 (v0 178 4)) 178 13 0) ρ Z hG  (by (repeat (first | rw [up_k (by decide)] | rw [up_s] | rw [up_r (by decide)])); omega) (by (repeat (first | rw [up_k (by decide)] | rw [up_s] | rw [up_r (by decide)])); omega)) rfl rfl rfl hG.1 (by rw [hRm]; exact ⟨by decide, by decide⟩) (by rw [hRm]; exact ⟨by decide, by decide⟩) (Nat.le_of_ble_eq_true rfl) (fun o81 v81 ρ81 Z81 hq81 _ => ?_)
              obtain ⟨rfl, rfl, rfl, r81, rfl, hq81⟩ := hq81
              try simp only [up_f (show (179 : Int) ≠ 178 by decide), up_f (show (180 : Int) ≠ 178 by decide), up_k (show (3 : Int) ≠ 12 by decide), up_k (show (3 : Int) ≠ 13 by decide), up_k (show (4 : Int) ≠ 12 by decide), up_k (show (4 : Int) ≠ 13 by decide)] at hq81
              show wp g X F_m_go 0 0 84 [(2, 178), (3, 0), (3, 0), (3, 0)] [(0, r81)] (up (up v0 178 12 (v0 178 4)) 178 13 0) ρ Z
              refine r_istore_n (ls' := [(2, 178), (0, r81), (3, 0), (3, 0)]) (pc := 84) hX 42 rfl (by decide) rfl ?_
              refine r_iload_n (pc := 85) hX 43 rfl rfl ?_
              first | refine r_if_ge (pc := 86) hX 44 (tgt := 95) rfl (by decide) (⟨by omega, by omega⟩) (fun h86 => ?_) (fun h86 => ?_) | refine r_if_ge_any (pc := 86) hX 44 (tgt := 95) rfl (by decide) ?_ ?_
              · refine r_iload_n (pc := 95) hX 49 rfl rfl ?_
                refine r_callS (as := [(0, r81)]) (st := []) (pc := 96) hX 50 rfl mo_m_isSmall ml_X12_193 stt_m_isSmall (c_isSmall g (up (up v0 178 12 (v0 178 4)) 178 13 0) ρ Z hG (r81) (by omega)) rfl (by rw [hRm]; exact ⟨by decide, by decide⟩) (by rw [hRm]; exact ⟨by decide, by decide⟩) (Nat.le_of_ble_eq_true rfl) (fun o96 v96 ρ96 Z96 hq96 _ => ?_)
                obtain ⟨rfl, rfl, rfl, r96, rfl, hq96⟩ := hq96
                try simp only [up_f (show (180 : Int) ≠ 178 by decide)] at hq96
                show wp g X F_m_go 0 0 99 [(2, 178), (0, r81), (3, 0), (3, 0)] [(0, r96)] (up (up v0 178 12 (v0 178 4)) 178 13 0) ρ Z
                have L164 : ((97 ≤ r81 ∧ r81 ≤ 122 ∨ 48 ≤ r81 ∧ r81 ≤ 57)) → wp g X F_m_go 0 0 164 [(2, 178), (0, r81), (3, 0), (3, 0)] [] (up (up v0 178 12 (v0 178 4)) 178 13 0) ρ Z := by
                  intro i164
                  refine r_iload_n (pc := 164) hX 85 rfl rfl ?_
                  refine r_callS (as := [(0, r81)]) (st := []) (pc := 165) hX 86 rfl mo_m_isSmall ml_X12_193 stt_m_isSmall (c_isSmall g (up (up v0 178 12 (v0 178 4)) 178 13 0) ρ Z hG (r81) (by omega)) rfl (by rw [hRm]; exact ⟨by decide, by decide⟩) (by rw [hRm]; exact ⟨by decide, by decide⟩) (Nat.le_of_ble_eq_true rfl) (fun o165 v165 ρ165 Z165 hq165 _ => ?_)
                  obtain ⟨rfl, rfl, rfl, r165, rfl, hq165⟩ := hq165
                  try simp only [up_f (show (180 : Int) ≠ 178 by decide)] at hq165
                  show wp g X F_m_go 0 0 168 [(2, 178), (0, r81), (3, 0), (3, 0)] [(0, r165)] (up (up v0 178 12 (v0 178 4)) 178 13 0) ρ Z
                  refine r_istore_n (ls' := [(2, 178), (0, r81), (0, r165), (3, 0)]) (pc := 168) hX 87 rfl (by decide) rfl ?_
                  refine r_iconst (pc := 169) hX 88 rfl ?_
                  refine r_istore_n (ls' := [(2, 178), (0, r81), (0, r165), (0, 1)]) (pc := 170) hX 89 rfl (by decide) rfl ?_
                  refine r_aload_n (pc := 171) hX 90 rfl rfl ?_
                  refine r_lconst (pc := 172) hX 91 rfl ?_
                  show wp g X F_m_go 0 0 173 [(2, 178), (0, r81), (0, r165), (0, 1)] [(1, 0), (2, 178)] (up (up v0 178 12 (v0 178 4)) 178 13 0) ρ Z
                  refine r_putL (pc := 173) hX 92 rfl fl_X12_203 rfl (fun _ h => by cases h; rfl) hG.1 (by decide) ?_
                  refine r_aload_n (pc := 176) hX 93 rfl rfl ?_
                  refine r_iconst (pc := 177) hX 94 rfl ?_
                  refine r_putI (pc := 178) hX 95 rfl fl_X12_200 rfl (fun _ h => by cases h; rfl) hG.1 (by decide) ?_
                  have L181 : ∀ (n181 : Nat) (ok : Int) (v181 : Mv) , (Fr [] [4, 11, 12, 13, 14, 17] v v181) → (0 ≤ v181 178 4 ∧ v181 178 4 ≤ v181 178 3 ∧ v181 178 3 ≤ 940 ∧ 0 ≤ v181 178 11 ∧ v181 178 11 ≤ 4 ∧ inR (v181 178 5) ∧ inR (v181 178 14)) → (v0 178 4 ≤ v181 178 4 ∧ v181 178 3 = v 178 3 ∧ 0 ≤ ok ∧ ok ≤ 1) → ((v0 178 4 < v181 178 4 ∨ v181 178 4 < v181 178 3 ∧ (97 ≤ v181 179 (v181 178 4) % 256 ∧ v181 179 (v181 178 4) % 256 ≤ 122 ∨ 48 ≤ v181 179 (v181 178 4) % 256 ∧ v181 179 (v181 178 4) % 256 ≤ 57))) → (0 ≤ v181 178 13 ∧ v181 178 13 ≤ v181 178 4 ∧ (v181 178 13 = 0 → v181 178 14 = 0) ∧ (v181 178 13 ≤ 1 → -48 ≤ v181 178 14 ∧ v181 178 14 ≤ 207) ∧ -1000 ≤ v181 178 14 ∧ v181 178 14 ≤ 3000) → (940 - v181 178 4).toNat < n181 → wp g X F_m_go 0 0 181 [(2, 178), (0, r81), (0, r165), (0, ok)] [] v181 ρ Z := by
                    intro n181
                    induction n181 with
                    | zero => intro ok v181 hfr181 jl jp js jn hme181; exact absurd hme181 (Nat.not_lt_zero _)
                    | succ n181 ih181 =>
                      intro ok v181 hfr181 jl jp js jn hme181
                      refine r_aload_n (pc := 181) hX 96 rfl rfl ?_
                      refine r_callV (as := []) (st := []) (K := 12) (pc := 182) hX 97 rfl mo_m_peek ml_X12_180 im_m_peek se_m_peek (c_peekX g v181 ρ Z hG  (by (repeat (first | rw [up_k (by decide)] | rw [up_s] | rw [up_r (by decide)])); omega) (by (repeat (first | rw [up_k (by decide)] | rw [up_s] | rw [up_r (by decide)])); omega)) rfl rfl rfl hG.1 (by rw [hRm]; exact ⟨by decide, by decide⟩) (by rw [hRm]; exact ⟨by decide, by decide⟩) (Nat.le_of_ble_eq_true rfl) (fun o182 v182 ρ182 Z182 hq182 _ => ?_)
                      obtain ⟨rfl, rfl, rfl, r182, rfl, hq182⟩ := hq182
                      show wp g X F_m_go 0 0 185 [(2, 178), (0, r81), (0, r165), (0, ok)] [(0, r182)] v181 ρ Z
                      refine r_callS (as := [(0, r182)]) (st := []) (pc := 185) hX 98 rfl mo_m_isSmall ml_X12_193 stt_m_isSmall (c_isSmall g v181 ρ Z hG (r182) (by omega)) rfl (by rw [hRm]; exact ⟨by decide, by decide⟩) (by rw [hRm]; exact ⟨by decide, by decide⟩) (Nat.le_of_ble_eq_true rfl) (fun o185 v185 ρ185 Z185 hq185 _ => ?_)
                      obtain ⟨rfl, rfl, rfl, r185, rfl, hq185⟩ := hq185
                      show wp g X F_m_go 0 0 188 [(2, 178), (0, r81), (0, r165), (0, ok)] [(0, r185)] v181 ρ Z
                      have L201 : (v181 178 4 < v181 178 3) → wp g X F_m_go 0 0 201 [(2, 178), (0, r81), (0, r165), (0, ok)] [] v181 ρ Z := by
                        intro k201
                        refine r_iload_n (pc := 201) hX 104 rfl rfl ?_
                        have L221 : ∀ (okn : Int) , (0 ≤ okn ∧ okn ≤ 1) → wp g X F_m_go 0 0 221 [(2, 178), (0, r81), (0, r165), (3, 0)] [(0, okn)] v181 ρ Z := by
                          intro okn iok
                          refine r_istore_n (ls' := [(2, 178), (0, r81), (0, r165), (0, okn)]) (pc := 221) hX 114 rfl (by decide) rfl ?_
                          refine t_getI (y := (v181 178 13)) (pc := 222) hX 115 rfl rfl rfl fl_X12_187 rfl hG.1 (rfl) ?_
                          refine r_bipush (pc := 226) hX 117 rfl (by decide) ?_
                          have L248 : ∀ (v248 : Mv) , (Fr [] [4, 11, 12, 13, 14, 17] v v248) → (v248 178 3 = v181 178 3) → (v248 178 4 = v181 178 4) → (v248 178 5 = v181 178 5) → (v248 178 11 = v181 178 11) → (v248 178 13 = v181 178 13) → (v248 178 14 = v181 178 14) → wp g X F_m_go 0 0 248 [(2, 178), (0, r81), (0, r165), (0, okn)] [] v248 ρ Z := by
                            intro v248 hfr248 e3 e4 e5 e11 e13 e14
                            refine t_getI (y := (v248 178 13)) (pc := 248) hX 129 rfl rfl rfl fl_X12_187 rfl hG.1 (rfl) ?_
                            refine r_iconst (pc := 252) hX 131 rfl ?_
                            have L275 : ∀ (v275 : Mv) , (Fr [] [4, 11, 12, 13, 14, 17] v v275) → (v275 178 3 = v181 178 3) → (v275 178 4 = v181 178 4) → (v275 178 5 = v181 178 5) → (v275 178 11 = v181 178 11) → (v275 178 13 = v181 178 13) → ((v275 178 13 = 0 → -48 ≤ v275 178 14 ∧ v275 178 14 ≤ 207) ∧ (v275 178 13 ≠ 0 → -1000 ≤ v275 178 14 ∧ v275 178 14 ≤ 3000)) → wp g X F_m_go 0 0 275 [(2, 178), (0, r81), (0, r165), (0, okn)] [] v275 ρ Z := by
                              intro v275 hfr275 f3 f4 f5 f11 f13 fn
                              refine r_aload_n (pc := 275) hX 144 rfl rfl ?_
                              refine r_dup (pc := 276) hX 145 rfl (show (2 : Nat) ≠ 1 by decide) ?_
                              refine e_getI (y := (v275 178 13)) (pc := 277) hX 146 rfl fl_X12_187 rfl hG.1 (rfl) ?_
                              refine r_iconst (pc := 280) hX 147 rfl ?_
                              refine r_iadd (pc := 281) hX 148 rfl ?_
                              refine r_putI (pc := 282) hX 149 rfl fl_X12_187 rfl (fun _ h => by cases h; rfl) hG.1 (by decide) ?_
                              refine r_aload_n (pc := 285) hX 150 rfl rfl ?_
                              refine r_dup (pc := 286) hX 151 rfl (show (2 : Nat) ≠ 1 by decide) ?_
                              refine e_getI (y := (v275 178 4)) (pc := 287) hX 152 rfl fl_X12_21 rfl hG.1 ((up_k (by decide)).trans (rfl)) ?_
                              refine r_iconst (pc := 290) hX 153 rfl ?_
                              refine r_iadd (pc := 291) hX 154 rfl ?_
                              refine r_putI (pc := 292) hX 155 rfl fl_X12_21 rfl (fun _ h => by cases h; rfl) hG.1 (by decide) ?_
                              refine r_goto (pc := 295) hX 156 (tgt := 181) rfl (by decide) ?_
                              exact (ih181 okn (up (up v275 178 13 ((v275 178 13) + 1)) 178 4 ((v275 178 4) + 1)) (((hfr275).fld (k := 13) (by decide)).fld (k := 4) (by decide)) (by (repeat (first | rw [up_k (by decide)] | rw [up_s] | rw [up_r (by decide)])); omega) (by (repeat (first | rw [up_k (by decide)] | rw [up_s] | rw [up_r (by decide)])); omega) (by left; (repeat (first | rw [up_k (by decide)] | rw [up_s] | rw [up_r (by decide)])); omega) (by (repeat (first | rw [up_k (by decide)] | rw [up_s] | rw [up_r (by decide)])); omega) (by (repeat (first | rw [up_k (by decide)] | rw [up_s] | rw [up_r (by decide)])); omega))
                            first | refine r_icmp_ge (pc := 253) hX 132 (tgt := 275) rfl (by decide) (⟨by omega, by omega⟩) (⟨by omega, by omega⟩) (fun h253 => ?_) (fun h253 => ?_) | refine r_icmp_ge_any (pc := 253) hX 132 (tgt := 275) rfl (by decide) ?_ ?_
                            · exact (L275  v248 (hfr248) ((rfl).trans (by omega)) ((rfl).trans (by omega)) ((rfl).trans (by omega)) ((rfl).trans (by omega)) ((rfl).trans (by omega)) (by (repeat (first | rw [up_k (by decide)] | rw [up_s] | rw [up_r (by decide)])); omega) )
                            · refine r_aload_n (pc := 256) hX 133 rfl rfl ?_
                              refine r_bipush (pc := 257) hX 134 rfl (by decide) ?_
                              refine t_getI (y := (v248 178 14)) (pc := 259) hX 135 rfl rfl rfl fl_X12_200 rfl hG.1 (rfl) ?_
                              refine r_imul (pc := 263) hX 137 rfl ?_
                              refine r_aload_n (pc := 264) hX 138 rfl rfl ?_
                              refine r_callV (as := []) (st := [(0, (10 * (v248 178 14))), (2, 178)]) (K := 12) (pc := 265) hX 139 rfl mo_m_peek ml_X12_180 im_m_peek se_m_peek (c_peekX g v248 ρ Z hG  (by (repeat (first | rw [up_k (by decide)] | rw [up_s] | rw [up_r (by decide)])); omega) (by (repeat (first | rw [up_k (by decide)] | rw [up_s] | rw [up_r (by decide)])); omega)) rfl rfl rfl hG.1 (by rw [hRm]; exact ⟨by decide, by decide⟩) (by rw [hRm]; exact ⟨by decide, by decide⟩) (Nat.le_of_ble_eq_true rfl) (fun o265 v265 ρ265 Z265 hq265 _ => ?_)
                              obtain ⟨rfl, rfl, rfl, r265, rfl, hq265⟩ := hq265
                              show wp g X F_m_go 0 0 268 [(2, 178), (0, r81), (0, r165), (0, okn)] [(0, r265), (0, (10 * (v248 178 14))), (2, 178)] v248 ρ Z
                              refine r_iadd (pc := 268) hX 140 rfl ?_
                              refine r_bipush (pc := 269) hX 141 rfl (by decide) ?_
                              refine r_isub (pc := 271) hX 142 rfl ?_
                              refine r_putI (pc := 272) hX 143 rfl fl_X12_200 rfl (fun _ h => by cases h; rfl) hG.1 (by decide) ?_
                              exact (L275  (up v248 178 14 (((10 * (v248 178 14)) + r265) - 48)) ((hfr248).fld (k := 14) (by decide)) (((up_k (by decide)).trans (rfl)).trans (by omega)) (((up_k (by decide)).trans (rfl)).trans (by omega)) (((up_k (by decide)).trans (rfl)).trans (by omega)) (((up_k (by decide)).trans (rfl)).trans (by omega)) (((up_k (by decide)).trans (rfl)).trans (by omega)) (by (repeat (first | rw [up_k (by decide)] | rw [up_s] | rw [up_r (by decide)])); omega) )
                          first | refine r_icmp_ge (pc := 228) hX 118 (tgt := 248) rfl (by decide) (⟨by omega, by omega⟩) (⟨by omega, by omega⟩) (fun h228 => ?_) (fun h228 => ?_) | refine r_icmp_ge_any (pc := 228) hX 118 (tgt := 248) rfl (by decide) ?_ ?_
                          · exact (L248  v181 (hfr181) ((rfl).trans (by omega)) ((rfl).trans (by omega)) ((rfl).trans (by omega)) ((rfl).trans (by omega)) ((rfl).trans (by omega)) ((rfl).trans (by omega)) )
                          · refine r_aload_n (pc := 231) hX 119 rfl rfl ?_
                            refine t_getL (y := (v181 178 17)) (pc := 232) hX 120 rfl rfl rfl fl_X12_203 rfl hG.1 (rfl) ?_
                            refine r_bipush (pc := 236) hX 122 rfl (by decide) ?_
                            refine r_lshl_any (pc := 238) hX 123 rfl (fun z238 hz238 => ?_)
                            refine r_aload_n (pc := 239) hX 124 rfl rfl ?_
                            refine r_callV (as := []) (st := [(1, z238), (2, 178)]) (K := 12) (pc := 240) hX 125 rfl mo_m_peek ml_X12_180 im_m_peek se_m_peek (c_peekX g v181 ρ Z hG  (by (repeat (first | rw [up_k (by decide)] | rw [up_s] | rw [up_r (by decide)])); omega) (by (repeat (first | rw [up_k (by decide)] | rw [up_s] | rw [up_r (by decide)])); omega)) rfl rfl rfl hG.1 (by rw [hRm]; exact ⟨by decide, by decide⟩) (by rw [hRm]; exact ⟨by decide, by decide⟩) (Nat.le_of_ble_eq_true rfl) (fun o240 v240 ρ240 Z240 hq240 _ => ?_)
                            obtain ⟨rfl, rfl, rfl, r240, rfl, hq240⟩ := hq240
                            show wp g X F_m_go 0 0 243 [(2, 178), (0, r81), (0, r165), (0, okn)] [(0, r240), (1, z238), (2, 178)] v181 ρ Z
                            refine r_i2l (pc := 243) hX 126 rfl ⟨by omega, by omega⟩ ?_
                            refine r_lor_any (pc := 244) hX 127 rfl (fun z244 hz244 => ?_)
                            refine r_putL (pc := 245) hX 128 rfl fl_X12_203 rfl (fun _ h => by cases h; rfl) hG.1 (by decide) ?_
                            exact (L248  (up v181 178 17 z244) ((hfr181).fld (k := 17) (by decide)) (((up_k (by decide)).trans (rfl)).trans (by omega)) (((up_k (by decide)).trans (rfl)).trans (by omega)) (((up_k (by decide)).trans (rfl)).trans (by omega)) (((up_k (by decide)).trans (rfl)).trans (by omega)) (((up_k (by decide)).trans (rfl)).trans (by omega)) (((up_k (by decide)).trans (rfl)).trans (by omega)) )
                        first | refine r_if_eq (pc := 202) hX 105 (tgt := 220) rfl (by decide) (⟨by omega, by omega⟩) (fun h202 => ?_) (fun h202 => ?_) | refine r_if_eq_any (pc := 202) hX 105 (tgt := 220) rfl (by decide) ?_ ?_
                        · refine r_iconst (pc := 220) hX 113 rfl ?_
                          refine r_wk (ls' := [(2, 178), (0, r81), (0, r165), (3, 0)]) ⟨Or.inr rfl, Or.inr rfl, Or.inr rfl, Or.inl rfl, trivial⟩ ?_
                          exact (L221 0 (by omega) )
                        · refine r_aload_n (pc := 205) hX 106 rfl rfl ?_
                          refine r_callV (as := []) (st := []) (K := 12) (pc := 206) hX 107 rfl mo_m_peek ml_X12_180 im_m_peek se_m_peek (c_peekX g v181 ρ Z hG  (by (repeat (first | rw [up_k (by decide)] | rw [up_s] | rw [up_r (by decide)])); omega) (by (repeat (first | rw [up_k (by decide)] | rw [up_s] | rw [up_r (by decide)])); omega)) rfl rfl rfl hG.1 (by rw [hRm]; exact ⟨by decide, by decide⟩) (by rw [hRm]; exact ⟨by decide, by decide⟩) (Nat.le_of_ble_eq_true rfl) (fun o206 v206 ρ206 Z206 hq206 _ => ?_)
                          obtain ⟨rfl, rfl, rfl, r206, rfl, hq206⟩ := hq206
                          show wp g X F_m_go 0 0 209 [(2, 178), (0, r81), (0, r165), (0, ok)] [(0, r206)] v181 ρ Z
                          refine r_callS (as := [(0, r206)]) (st := []) (pc := 209) hX 108 rfl mo_m_isSmall ml_X12_193 stt_m_isSmall (c_isSmall g v181 ρ Z hG (r206) (by omega)) rfl (by rw [hRm]; exact ⟨by decide, by decide⟩) (by rw [hRm]; exact ⟨by decide, by decide⟩) (Nat.le_of_ble_eq_true rfl) (fun o209 v209 ρ209 Z209 hq209 _ => ?_)
                          obtain ⟨rfl, rfl, rfl, r209, rfl, hq209⟩ := hq209
                          show wp g X F_m_go 0 0 212 [(2, 178), (0, r81), (0, r165), (0, ok)] [(0, r209)] v181 ρ Z
                          refine r_iload_n (pc := 212) hX 109 rfl rfl ?_
                          first | refine r_icmp_ne (pc := 213) hX 110 (tgt := 220) rfl (by decide) (⟨by omega, by omega⟩) (⟨by omega, by omega⟩) (fun h213 => ?_) (fun h213 => ?_) | refine r_icmp_ne_any (pc := 213) hX 110 (tgt := 220) rfl (by decide) ?_ ?_
                          · refine r_iconst (pc := 220) hX 113 rfl ?_
                            refine r_wk (ls' := [(2, 178), (0, r81), (0, r165), (3, 0)]) ⟨Or.inr rfl, Or.inr rfl, Or.inr rfl, Or.inl rfl, trivial⟩ ?_
                            exact (L221 0 (by omega) )
                          · refine r_iconst (pc := 216) hX 111 rfl ?_
                            refine r_goto (pc := 217) hX 112 (tgt := 221) rfl (by decide) ?_
                            refine r_wk (ls' := [(2, 178), (0, r81), (0, r165), (3, 0)]) ⟨Or.inr rfl, Or.inr rfl, Or.inr rfl, Or.inl rfl, trivial⟩ ?_
                            exact (L221 1 (by omega) )
                      first | refine r_if_ne (pc := 188) hX 99 (tgt := 201) rfl (by decide) (⟨by omega, by omega⟩) (fun h188 => ?_) (fun h188 => ?_) | refine r_if_ne_any (pc := 188) hX 99 (tgt := 201) rfl (by decide) ?_ ?_
                      · exact (L201  (by omega) )
                      · refine r_aload_n (pc := 191) hX 100 rfl rfl ?_
                        refine r_callV (as := []) (st := []) (K := 12) (pc := 192) hX 101 rfl mo_m_peek ml_X12_180 im_m_peek se_m_peek (c_peekX g v181 ρ Z hG  (by (repeat (first | rw [up_k (by decide)] | rw [up_s] | rw [up_r (by decide)])); omega) (by (repeat (first | rw [up_k (by decide)] | rw [up_s] | rw [up_r (by decide)])); omega)) rfl rfl rfl hG.1 (by rw [hRm]; exact ⟨by decide, by decide⟩) (by rw [hRm]; exact ⟨by decide, by decide⟩) (Nat.le_of_ble_eq_true rfl) (fun o192 v192 ρ192 Z192 hq192 _ => ?_)
                        obtain ⟨rfl, rfl, rfl, r192, rfl, hq192⟩ := hq192
                        show wp g X F_m_go 0 0 195 [(2, 178), (0, r81), (0, r165), (0, ok)] [(0, r192)] v181 ρ Z
                        refine r_callS (as := [(0, r192)]) (st := []) (pc := 195) hX 102 rfl mo_m_isDigit ml_X12_197 stt_m_isDigit (c_isDigit g v181 ρ Z hG (r192) (by omega)) rfl (by rw [hRm]; exact ⟨by decide, by decide⟩) (by rw [hRm]; exact ⟨by decide, by decide⟩) (Nat.le_of_ble_eq_true rfl) (fun o195 v195 ρ195 Z195 hq195 _ => ?_)
                        obtain ⟨rfl, rfl, rfl, r195, rfl, hq195⟩ := hq195
                        show wp g X F_m_go 0 0 198 [(2, 178), (0, r81), (0, r165), (0, ok)] [(0, r195)] v181 ρ Z
                        first | refine r_if_eq (pc := 198) hX 103 (tgt := 298) rfl (by decide) (⟨by omega, by omega⟩) (fun h198 => ?_) (fun h198 => ?_) | refine r_if_eq_any (pc := 198) hX 103 (tgt := 298) rfl (by decide) ?_ ?_
                        · refine r_aload_n (pc := 298) hX 157 rfl rfl ?_
                          refine r_iload_n (pc := 299) hX 158 rfl rfl ?_
                          first | refine r_if_eq (pc := 300) hX 159 (tgt := 320) rfl (by decide) (⟨by omega, by omega⟩) (fun h300 => ?_) (fun h300 => ?_) | refine r_if_eq_any (pc := 300) hX 159 (tgt := 320) rfl (by decide) ?_ ?_
                          · refine r_iconst (pc := 320) hX 168 rfl ?_
                            refine r_goto (pc := 321) hX 169 (tgt := 333) rfl (by decide) ?_
                            refine r_putI (pc := 333) hX 175 rfl fl_X12_190 rfl (fun _ h => by cases h; rfl) hG.1 (by decide) ?_
                            show wp g X F_m_go 0 0 336 [(2, 178), (0, r81), (0, r165), (0, ok)] [] (up v181 178 11 4) ρ Z
                            exact r_vret (pc := 336) hX 176 hQ rfl rfl (Nat.le_refl 0) (Nat.le_refl 0) ⟨rfl, rfl, (hfr181).fld (k := 11) (by decide), rfl, (by (repeat (first | rw [up_k (by decide)] | rw [up_s] | rw [up_r (by decide)])); omega)⟩
                          · refine t_getI (y := (v181 178 13)) (pc := 303) hX 160 rfl rfl rfl fl_X12_187 rfl hG.1 (rfl) ?_
                            refine r_iload_n (pc := 307) hX 162 rfl rfl ?_
                            first | refine r_if_eq (pc := 308) hX 163 (tgt := 316) rfl (by decide) (⟨by omega, by omega⟩) (fun h308 => ?_) (fun h308 => ?_) | refine r_if_eq_any (pc := 308) hX 163 (tgt := 316) rfl (by decide) ?_ ?_
                            · refine r_iconst (pc := 316) hX 166 rfl ?_
                              first | refine r_icmp_le (pc := 317) hX 167 (tgt := 324) rfl (by decide) (⟨by omega, by omega⟩) (⟨by omega, by omega⟩) (fun h317 => ?_) (fun h317 => ?_) | refine r_icmp_le_any (pc := 317) hX 167 (tgt := 324) rfl (by decide) ?_ ?_
                              · refine r_iload_n (pc := 324) hX 170 rfl rfl ?_
                                first | refine r_if_eq (pc := 325) hX 171 (tgt := 332) rfl (by decide) (⟨by omega, by omega⟩) (fun h325 => ?_) (fun h325 => ?_) | refine r_if_eq_any (pc := 325) hX 171 (tgt := 332) rfl (by decide) ?_ ?_
                                · refine r_iconst (pc := 332) hX 174 rfl ?_
                                  refine r_putI (pc := 333) hX 175 rfl fl_X12_190 rfl (fun _ h => by cases h; rfl) hG.1 (by decide) ?_
                                  show wp g X F_m_go 0 0 336 [(2, 178), (0, r81), (0, r165), (0, ok)] [] (up v181 178 11 2) ρ Z
                                  exact r_vret (pc := 336) hX 176 hQ rfl rfl (Nat.le_refl 0) (Nat.le_refl 0) ⟨rfl, rfl, (hfr181).fld (k := 11) (by decide), rfl, (by (repeat (first | rw [up_k (by decide)] | rw [up_s] | rw [up_r (by decide)])); omega)⟩
                                · refine r_iconst (pc := 328) hX 172 rfl ?_
                                  refine r_goto (pc := 329) hX 173 (tgt := 333) rfl (by decide) ?_
                                  refine r_putI (pc := 333) hX 175 rfl fl_X12_190 rfl (fun _ h => by cases h; rfl) hG.1 (by decide) ?_
                                  show wp g X F_m_go 0 0 336 [(2, 178), (0, r81), (0, r165), (0, ok)] [] (up v181 178 11 1) ρ Z
                                  exact r_vret (pc := 336) hX 176 hQ rfl rfl (Nat.le_refl 0) (Nat.le_refl 0) ⟨rfl, rfl, (hfr181).fld (k := 11) (by decide), rfl, (by (repeat (first | rw [up_k (by decide)] | rw [up_s] | rw [up_r (by decide)])); omega)⟩
                              · refine r_iconst (pc := 320) hX 168 rfl ?_
                                refine r_goto (pc := 321) hX 169 (tgt := 333) rfl (by decide) ?_
                                refine r_putI (pc := 333) hX 175 rfl fl_X12_190 rfl (fun _ h => by cases h; rfl) hG.1 (by decide) ?_
                                show wp g X F_m_go 0 0 336 [(2, 178), (0, r81), (0, r165), (0, ok)] [] (up v181 178 11 4) ρ Z
                                exact r_vret (pc := 336) hX 176 hQ rfl rfl (Nat.le_refl 0) (Nat.le_refl 0) ⟨rfl, rfl, (hfr181).fld (k := 11) (by decide), rfl, (by (repeat (first | rw [up_k (by decide)] | rw [up_s] | rw [up_r (by decide)])); omega)⟩
                            · refine r_bipush (pc := 311) hX 164 rfl (by decide) ?_
                              refine r_goto (pc := 313) hX 165 (tgt := 317) rfl (by decide) ?_
                              first | refine r_icmp_le (pc := 317) hX 167 (tgt := 324) rfl (by decide) (⟨by omega, by omega⟩) (⟨by omega, by omega⟩) (fun h317 => ?_) (fun h317 => ?_) | refine r_icmp_le_any (pc := 317) hX 167 (tgt := 324) rfl (by decide) ?_ ?_
                              · refine r_iload_n (pc := 324) hX 170 rfl rfl ?_
                                first | refine r_if_eq (pc := 325) hX 171 (tgt := 332) rfl (by decide) (⟨by omega, by omega⟩) (fun h325 => ?_) (fun h325 => ?_) | refine r_if_eq_any (pc := 325) hX 171 (tgt := 332) rfl (by decide) ?_ ?_
                                · refine r_iconst (pc := 332) hX 174 rfl ?_
                                  refine r_putI (pc := 333) hX 175 rfl fl_X12_190 rfl (fun _ h => by cases h; rfl) hG.1 (by decide) ?_
                                  show wp g X F_m_go 0 0 336 [(2, 178), (0, r81), (0, r165), (0, ok)] [] (up v181 178 11 2) ρ Z
                                  exact r_vret (pc := 336) hX 176 hQ rfl rfl (Nat.le_refl 0) (Nat.le_refl 0) ⟨rfl, rfl, (hfr181).fld (k := 11) (by decide), rfl, (by (repeat (first | rw [up_k (by decide)] | rw [up_s] | rw [up_r (by decide)])); omega)⟩
                                · refine r_iconst (pc := 328) hX 172 rfl ?_
                                  refine r_goto (pc := 329) hX 173 (tgt := 333) rfl (by decide) ?_
                                  refine r_putI (pc := 333) hX 175 rfl fl_X12_190 rfl (fun _ h => by cases h; rfl) hG.1 (by decide) ?_
                                  show wp g X F_m_go 0 0 336 [(2, 178), (0, r81), (0, r165), (0, ok)] [] (up v181 178 11 1) ρ Z
                                  exact r_vret (pc := 336) hX 176 hQ rfl rfl (Nat.le_refl 0) (Nat.le_refl 0) ⟨rfl, rfl, (hfr181).fld (k := 11) (by decide), rfl, (by (repeat (first | rw [up_k (by decide)] | rw [up_s] | rw [up_r (by decide)])); omega)⟩
                              · refine r_iconst (pc := 320) hX 168 rfl ?_
                                refine r_goto (pc := 321) hX 169 (tgt := 333) rfl (by decide) ?_
                                refine r_putI (pc := 333) hX 175 rfl fl_X12_190 rfl (fun _ h => by cases h; rfl) hG.1 (by decide) ?_
                                show wp g X F_m_go 0 0 336 [(2, 178), (0, r81), (0, r165), (0, ok)] [] (up v181 178 11 4) ρ Z
                                exact r_vret (pc := 336) hX 176 hQ rfl rfl (Nat.le_refl 0) (Nat.le_refl 0) ⟨rfl, rfl, (hfr181).fld (k := 11) (by decide), rfl, (by (repeat (first | rw [up_k (by decide)] | rw [up_s] | rw [up_r (by decide)])); omega)⟩
                        · exact (L201  (by omega) )
                  exact (L181 _ 1 (up (up (up (up v0 178 12 (v0 178 4)) 178 13 0) 178 17 0) 178 14 0) (((((hfr0).fld (k := 12) (by decide)).fld (k := 13) (by decide)).fld (k := 17) (by decide)).fld (k := 14) (by decide)) (by (repeat (first | rw [up_k (by decide)] | rw [up_s] | rw [up_r (by decide)])); omega) (by (repeat (first | rw [up_k (by decide)] | rw [up_s] | rw [up_r (by decide)])); omega) (by (repeat (first | rw [up_k (by decide)] | rw [up_s] | rw [up_r (by decide)])); omega) (by (repeat (first | rw [up_k (by decide)] | rw [up_s] | rw [up_r (by decide)])); omega) (Nat.lt_succ_self _))
                first | refine r_if_ne (pc := 99) hX 51 (tgt := 164) rfl (by decide) (⟨by omega, by omega⟩) (fun h99 => ?_) (fun h99 => ?_) | refine r_if_ne_any (pc := 99) hX 51 (tgt := 164) rfl (by decide) ?_ ?_
                · exact (L164  (by omega) )
                · refine r_iload_n (pc := 102) hX 52 rfl rfl ?_
                  refine r_callS (as := [(0, r81)]) (st := []) (pc := 103) hX 53 rfl mo_m_isDigit ml_X12_197 stt_m_isDigit (c_isDigit g (up (up v0 178 12 (v0 178 4)) 178 13 0) ρ Z hG (r81) (by omega)) rfl (by rw [hRm]; exact ⟨by decide, by decide⟩) (by rw [hRm]; exact ⟨by decide, by decide⟩) (Nat.le_of_ble_eq_true rfl) (fun o103 v103 ρ103 Z103 hq103 _ => ?_)
                  obtain ⟨rfl, rfl, rfl, r103, rfl, hq103⟩ := hq103
                  try simp only [up_f (show (180 : Int) ≠ 178 by decide)] at hq103
                  show wp g X F_m_go 0 0 106 [(2, 178), (0, r81), (3, 0), (3, 0)] [(0, r103)] (up (up v0 178 12 (v0 178 4)) 178 13 0) ρ Z
                  first | refine r_if_ne (pc := 106) hX 54 (tgt := 164) rfl (by decide) (⟨by omega, by omega⟩) (fun h106 => ?_) (fun h106 => ?_) | refine r_if_ne_any (pc := 106) hX 54 (tgt := 164) rfl (by decide) ?_ ?_
                  · exact (L164  (by omega) )
                  · refine r_aload_n (pc := 109) hX 55 rfl rfl ?_
                    refine r_iload_n (pc := 110) hX 56 rfl rfl ?_
                    refine r_bipush (pc := 111) hX 57 rfl (by decide) ?_
                    first | refine r_icmp_eq (pc := 113) hX 58 (tgt := 140) rfl (by decide) (⟨by omega, by omega⟩) (⟨by omega, by omega⟩) (fun h113 => ?_) (fun h113 => ?_) | refine r_icmp_eq_any (pc := 113) hX 58 (tgt := 140) rfl (by decide) ?_ ?_
                    · refine r_iconst (pc := 140) hX 71 rfl ?_
                      refine r_goto (pc := 141) hX 72 (tgt := 145) rfl (by decide) ?_
                      refine r_putI (pc := 145) hX 74 rfl fl_X12_190 rfl (fun _ h => by cases h; rfl) hG.1 (by decide) ?_
                      refine r_aload_n (pc := 148) hX 75 rfl rfl ?_
                      refine r_iload_n (pc := 149) hX 76 rfl rfl ?_
                      refine r_putI (pc := 150) hX 77 rfl fl_X12_200 rfl (fun _ h => by cases h; rfl) hG.1 (by decide) ?_
                      refine r_aload_n (pc := 153) hX 78 rfl rfl ?_
                      refine r_dup (pc := 154) hX 79 rfl (show (2 : Nat) ≠ 1 by decide) ?_
                      refine e_getI (y := (v0 178 4)) (pc := 155) hX 80 rfl fl_X12_21 rfl hG.1 ((up_k (by decide)).trans ((up_k (by decide)).trans ((up_k (by decide)).trans ((up_k (by decide)).trans (rfl))))) ?_
                      refine r_iconst (pc := 158) hX 81 rfl ?_
                      refine r_iadd (pc := 159) hX 82 rfl ?_
                      refine r_putI (pc := 160) hX 83 rfl fl_X12_21 rfl (fun _ h => by cases h; rfl) hG.1 (by decide) ?_
                      show wp g X F_m_go 0 0 163 [(2, 178), (0, r81), (3, 0), (3, 0)] [] (up (up (up (up (up v0 178 12 (v0 178 4)) 178 13 0) 178 11 3) 178 14 r81) 178 4 ((v0 178 4) + 1)) ρ Z
                      exact r_vret (pc := 163) hX 84 hQ rfl rfl (Nat.le_refl 0) (Nat.le_refl 0) ⟨rfl, rfl, (((((hfr0).fld (k := 12) (by decide)).fld (k := 13) (by decide)).fld (k := 11) (by decide)).fld (k := 14) (by decide)).fld (k := 4) (by decide), rfl, (by (repeat (first | rw [up_k (by decide)] | rw [up_s] | rw [up_r (by decide)])); omega)⟩
                    · refine r_iload_n (pc := 116) hX 59 rfl rfl ?_
                      refine r_bipush (pc := 117) hX 60 rfl (by decide) ?_
                      first | refine r_icmp_eq (pc := 119) hX 61 (tgt := 140) rfl (by decide) (⟨by omega, by omega⟩) (⟨by omega, by omega⟩) (fun h119 => ?_) (fun h119 => ?_) | refine r_icmp_eq_any (pc := 119) hX 61 (tgt := 140) rfl (by decide) ?_ ?_
                      · refine r_iconst (pc := 140) hX 71 rfl ?_
                        refine r_goto (pc := 141) hX 72 (tgt := 145) rfl (by decide) ?_
                        refine r_putI (pc := 145) hX 74 rfl fl_X12_190 rfl (fun _ h => by cases h; rfl) hG.1 (by decide) ?_
                        refine r_aload_n (pc := 148) hX 75 rfl rfl ?_
                        refine r_iload_n (pc := 149) hX 76 rfl rfl ?_
                        refine r_putI (pc := 150) hX 77 rfl fl_X12_200 rfl (fun _ h => by cases h; rfl) hG.1 (by decide) ?_
                        refine r_aload_n (pc := 153) hX 78 rfl rfl ?_
                        refine r_dup (pc := 154) hX 79 rfl (show (2 : Nat) ≠ 1 by decide) ?_
                        refine e_getI (y := (v0 178 4)) (pc := 155) hX 80 rfl fl_X12_21 rfl hG.1 ((up_k (by decide)).trans ((up_k (by decide)).trans ((up_k (by decide)).trans ((up_k (by decide)).trans (rfl))))) ?_
                        refine r_iconst (pc := 158) hX 81 rfl ?_
                        refine r_iadd (pc := 159) hX 82 rfl ?_
                        refine r_putI (pc := 160) hX 83 rfl fl_X12_21 rfl (fun _ h => by cases h; rfl) hG.1 (by decide) ?_
                        show wp g X F_m_go 0 0 163 [(2, 178), (0, r81), (3, 0), (3, 0)] [] (up (up (up (up (up v0 178 12 (v0 178 4)) 178 13 0) 178 11 3) 178 14 r81) 178 4 ((v0 178 4) + 1)) ρ Z
                        exact r_vret (pc := 163) hX 84 hQ rfl rfl (Nat.le_refl 0) (Nat.le_refl 0) ⟨rfl, rfl, (((((hfr0).fld (k := 12) (by decide)).fld (k := 13) (by decide)).fld (k := 11) (by decide)).fld (k := 14) (by decide)).fld (k := 4) (by decide), rfl, (by (repeat (first | rw [up_k (by decide)] | rw [up_s] | rw [up_r (by decide)])); omega)⟩
                      · refine r_iload_n (pc := 122) hX 62 rfl rfl ?_
                        refine r_bipush (pc := 123) hX 63 rfl (by decide) ?_
                        first | refine r_icmp_eq (pc := 125) hX 64 (tgt := 140) rfl (by decide) (⟨by omega, by omega⟩) (⟨by omega, by omega⟩) (fun h125 => ?_) (fun h125 => ?_) | refine r_icmp_eq_any (pc := 125) hX 64 (tgt := 140) rfl (by decide) ?_ ?_
                        · refine r_iconst (pc := 140) hX 71 rfl ?_
                          refine r_goto (pc := 141) hX 72 (tgt := 145) rfl (by decide) ?_
                          refine r_putI (pc := 145) hX 74 rfl fl_X12_190 rfl (fun _ h => by cases h; rfl) hG.1 (by decide) ?_
                          refine r_aload_n (pc := 148) hX 75 rfl rfl ?_
                          refine r_iload_n (pc := 149) hX 76 rfl rfl ?_
                          refine r_putI (pc := 150) hX 77 rfl fl_X12_200 rfl (fun _ h => by cases h; rfl) hG.1 (by decide) ?_
                          refine r_aload_n (pc := 153) hX 78 rfl rfl ?_
                          refine r_dup (pc := 154) hX 79 rfl (show (2 : Nat) ≠ 1 by decide) ?_
                          refine e_getI (y := (v0 178 4)) (pc := 155) hX 80 rfl fl_X12_21 rfl hG.1 ((up_k (by decide)).trans ((up_k (by decide)).trans ((up_k (by decide)).trans ((up_k (by decide)).trans (rfl))))) ?_
                          refine r_iconst (pc := 158) hX 81 rfl ?_
                          refine r_iadd (pc := 159) hX 82 rfl ?_
                          refine r_putI (pc := 160) hX 83 rfl fl_X12_21 rfl (fun _ h => by cases h; rfl) hG.1 (by decide) ?_
                          show wp g X F_m_go 0 0 163 [(2, 178), (0, r81), (3, 0), (3, 0)] [] (up (up (up (up (up v0 178 12 (v0 178 4)) 178 13 0) 178 11 3) 178 14 r81) 178 4 ((v0 178 4) + 1)) ρ Z
                          exact r_vret (pc := 163) hX 84 hQ rfl rfl (Nat.le_refl 0) (Nat.le_refl 0) ⟨rfl, rfl, (((((hfr0).fld (k := 12) (by decide)).fld (k := 13) (by decide)).fld (k := 11) (by decide)).fld (k := 14) (by decide)).fld (k := 4) (by decide), rfl, (by (repeat (first | rw [up_k (by decide)] | rw [up_s] | rw [up_r (by decide)])); omega)⟩
                        · refine r_iload_n (pc := 128) hX 65 rfl rfl ?_
                          refine r_bipush (pc := 129) hX 66 rfl (by decide) ?_
                          first | refine r_icmp_lt (pc := 131) hX 67 (tgt := 144) rfl (by decide) (⟨by omega, by omega⟩) (⟨by omega, by omega⟩) (fun h131 => ?_) (fun h131 => ?_) | refine r_icmp_lt_any (pc := 131) hX 67 (tgt := 144) rfl (by decide) ?_ ?_
                          · refine r_iconst (pc := 144) hX 73 rfl ?_
                            refine r_putI (pc := 145) hX 74 rfl fl_X12_190 rfl (fun _ h => by cases h; rfl) hG.1 (by decide) ?_
                            refine r_aload_n (pc := 148) hX 75 rfl rfl ?_
                            refine r_iload_n (pc := 149) hX 76 rfl rfl ?_
                            refine r_putI (pc := 150) hX 77 rfl fl_X12_200 rfl (fun _ h => by cases h; rfl) hG.1 (by decide) ?_
                            refine r_aload_n (pc := 153) hX 78 rfl rfl ?_
                            refine r_dup (pc := 154) hX 79 rfl (show (2 : Nat) ≠ 1 by decide) ?_
                            refine e_getI (y := (v0 178 4)) (pc := 155) hX 80 rfl fl_X12_21 rfl hG.1 ((up_k (by decide)).trans ((up_k (by decide)).trans ((up_k (by decide)).trans ((up_k (by decide)).trans (rfl))))) ?_
                            refine r_iconst (pc := 158) hX 81 rfl ?_
                            refine r_iadd (pc := 159) hX 82 rfl ?_
                            refine r_putI (pc := 160) hX 83 rfl fl_X12_21 rfl (fun _ h => by cases h; rfl) hG.1 (by decide) ?_
                            show wp g X F_m_go 0 0 163 [(2, 178), (0, r81), (3, 0), (3, 0)] [] (up (up (up (up (up v0 178 12 (v0 178 4)) 178 13 0) 178 11 4) 178 14 r81) 178 4 ((v0 178 4) + 1)) ρ Z
                            exact r_vret (pc := 163) hX 84 hQ rfl rfl (Nat.le_refl 0) (Nat.le_refl 0) ⟨rfl, rfl, (((((hfr0).fld (k := 12) (by decide)).fld (k := 13) (by decide)).fld (k := 11) (by decide)).fld (k := 14) (by decide)).fld (k := 4) (by decide), rfl, (by (repeat (first | rw [up_k (by decide)] | rw [up_s] | rw [up_r (by decide)])); omega)⟩
                          · refine r_iload_n (pc := 134) hX 68 rfl rfl ?_
                            refine r_bipush (pc := 135) hX 69 rfl (by decide) ?_
                            first | refine r_icmp_gt (pc := 137) hX 70 (tgt := 144) rfl (by decide) (⟨by omega, by omega⟩) (⟨by omega, by omega⟩) (fun h137 => ?_) (fun h137 => ?_) | refine r_icmp_gt_any (pc := 137) hX 70 (tgt := 144) rfl (by decide) ?_ ?_
                            · refine r_iconst (pc := 144) hX 73 rfl ?_
                              refine r_putI (pc := 145) hX 74 rfl fl_X12_190 rfl (fun _ h => by cases h; rfl) hG.1 (by decide) ?_
                              refine r_aload_n (pc := 148) hX 75 rfl rfl ?_
                              refine r_iload_n (pc := 149) hX 76 rfl rfl ?_
                              refine r_putI (pc := 150) hX 77 rfl fl_X12_200 rfl (fun _ h => by cases h; rfl) hG.1 (by decide) ?_
                              refine r_aload_n (pc := 153) hX 78 rfl rfl ?_
                              refine r_dup (pc := 154) hX 79 rfl (show (2 : Nat) ≠ 1 by decide) ?_
                              refine e_getI (y := (v0 178 4)) (pc := 155) hX 80 rfl fl_X12_21 rfl hG.1 ((up_k (by decide)).trans ((up_k (by decide)).trans ((up_k (by decide)).trans ((up_k (by decide)).trans (rfl))))) ?_
                              refine r_iconst (pc := 158) hX 81 rfl ?_
                              refine r_iadd (pc := 159) hX 82 rfl ?_
                              refine r_putI (pc := 160) hX 83 rfl fl_X12_21 rfl (fun _ h => by cases h; rfl) hG.1 (by decide) ?_
                              show wp g X F_m_go 0 0 163 [(2, 178), (0, r81), (3, 0), (3, 0)] [] (up (up (up (up (up v0 178 12 (v0 178 4)) 178 13 0) 178 11 4) 178 14 r81) 178 4 ((v0 178 4) + 1)) ρ Z
                              exact r_vret (pc := 163) hX 84 hQ rfl rfl (Nat.le_refl 0) (Nat.le_refl 0) ⟨rfl, rfl, (((((hfr0).fld (k := 12) (by decide)).fld (k := 13) (by decide)).fld (k := 11) (by decide)).fld (k := 14) (by decide)).fld (k := 4) (by decide), rfl, (by (repeat (first | rw [up_k (by decide)] | rw [up_s] | rw [up_r (by decide)])); omega)⟩
                            · refine r_iconst (pc := 140) hX 71 rfl ?_
                              refine r_goto (pc := 141) hX 72 (tgt := 145) rfl (by decide) ?_
                              refine r_putI (pc := 145) hX 74 rfl fl_X12_190 rfl (fun _ h => by cases h; rfl) hG.1 (by decide) ?_
                              refine r_aload_n (pc := 148) hX 75 rfl rfl ?_
                              refine r_iload_n (pc := 149) hX 76 rfl rfl ?_
                              refine r_putI (pc := 150) hX 77 rfl fl_X12_200 rfl (fun _ h => by cases h; rfl) hG.1 (by decide) ?_
                              refine r_aload_n (pc := 153) hX 78 rfl rfl ?_
                              refine r_dup (pc := 154) hX 79 rfl (show (2 : Nat) ≠ 1 by decide) ?_
                              refine e_getI (y := (v0 178 4)) (pc := 155) hX 80 rfl fl_X12_21 rfl hG.1 ((up_k (by decide)).trans ((up_k (by decide)).trans ((up_k (by decide)).trans ((up_k (by decide)).trans (rfl))))) ?_
                              refine r_iconst (pc := 158) hX 81 rfl ?_
                              refine r_iadd (pc := 159) hX 82 rfl ?_
                              refine r_putI (pc := 160) hX 83 rfl fl_X12_21 rfl (fun _ h => by cases h; rfl) hG.1 (by decide) ?_
                              show wp g X F_m_go 0 0 163 [(2, 178), (0, r81), (3, 0), (3, 0)] [] (up (up (up (up (up v0 178 12 (v0 178 4)) 178 13 0) 178 11 3) 178 14 r81) 178 4 ((v0 178 4) + 1)) ρ Z
                              exact r_vret (pc := 163) hX 84 hQ rfl rfl (Nat.le_refl 0) (Nat.le_refl 0) ⟨rfl, rfl, (((((hfr0).fld (k := 12) (by decide)).fld (k := 13) (by decide)).fld (k := 11) (by decide)).fld (k := 14) (by decide)).fld (k := 4) (by decide), rfl, (by (repeat (first | rw [up_k (by decide)] | rw [up_s] | rw [up_r (by decide)])); omega)⟩
              · refine r_aload_n (pc := 89) hX 45 rfl rfl ?_
                refine r_iconst (pc := 90) hX 46 rfl ?_
                refine r_putI (pc := 91) hX 47 rfl fl_X12_190 rfl (fun _ h => by cases h; rfl) hG.1 (by decide) ?_
                show wp g X F_m_go 0 0 94 [(2, 178), (0, r81), (3, 0), (3, 0)] [] (up (up (up v0 178 12 (v0 178 4)) 178 13 0) 178 11 0) ρ Z
                exact r_vret (pc := 94) hX 48 hQ rfl rfl (Nat.le_refl 0) (Nat.le_refl 0) ⟨rfl, rfl, (((hfr0).fld (k := 12) (by decide)).fld (k := 13) (by decide)).fld (k := 11) (by decide), rfl, (by (repeat (first | rw [up_k (by decide)] | rw [up_s] | rw [up_r (by decide)])); omega)⟩
            · refine r_aload_n (pc := 66) hX 32 rfl rfl ?_
              refine t_getI (y := (v0 178 5)) (pc := 67) hX 33 rfl rfl rfl fl_X12_24 rfl hG.1 ((up_k (by decide)).trans ((up_k (by decide)).trans (rfl))) ?_
              refine r_putI (pc := 71) hX 35 rfl fl_X12_184 rfl (fun _ h => by cases h; rfl) hG.1 (by decide) ?_
              refine r_aload_n (pc := 74) hX 36 rfl rfl ?_
              refine r_iconst (pc := 75) hX 37 rfl ?_
              refine r_putI (pc := 76) hX 38 rfl fl_X12_190 rfl (fun _ h => by cases h; rfl) hG.1 (by decide) ?_
              show wp g X F_m_go 0 0 79 [(2, 178), (3, 0), (3, 0), (3, 0)] [] (up (up (up (up v0 178 12 (v0 178 4)) 178 13 0) 178 12 (v0 178 5)) 178 11 4) ρ Z
              exact r_vret (pc := 79) hX 39 hQ rfl rfl (Nat.le_refl 0) (Nat.le_refl 0) ⟨rfl, rfl, ((((hfr0).fld (k := 12) (by decide)).fld (k := 13) (by decide)).fld (k := 12) (by decide)).fld (k := 11) (by decide), rfl, (by (repeat (first | rw [up_k (by decide)] | rw [up_s] | rw [up_r (by decide)])); omega)⟩
        · exact (L18  (by omega) )
  exact (L0 _  v (Fr.rf) (hL) (by omega) (Nat.lt_succ_self _))
