set_option maxHeartbeats 4000000 in
set_option maxRecDepth 100000 in
theorem c_isIn (g : Gp) (v ρ : Mv) (Z : Mz) (hG : GM ρ Z) (a lo hi : Int) (ha : inR a) (hlo : inR lo) (hhi : inR hi) : Ok g 1 0 0 F_m_isIn [(0, a), (0, lo), (0, hi)] v ρ Z (fun o v' ρ' Z' => ρ = ρ' ∧ Z = Z' ∧ v = v' ∧ ∃ r : Int, o = some (0, r) ∧ ((r = 1 ∧ lo ≤ a ∧ a ≤ hi ∨ r = 0 ∧ ¬ (lo ≤ a ∧ a ≤ hi)))) := by
  refine Ok.of mo_m_isIn (Nat.le_of_ble_eq_true rfl) ?_
  intro X hX hRm hxn hQ
  show wp g X F_m_isIn 0 0 0 [(0, a), (0, lo), (0, hi)] [] v ρ Z
  refine r_iload_n (pc := 0) hX 0 rfl rfl ?_
  refine r_iload_n (pc := 1) hX 1 rfl rfl ?_
  first | refine r_icmp_lt (pc := 2) hX 2 (tgt := 14) rfl (by decide) (⟨by omega, by omega⟩) (⟨by omega, by omega⟩) (fun h2 => ?_) (fun h2 => ?_) | refine r_icmp_lt_any (pc := 2) hX 2 (tgt := 14) rfl (by decide) ?_ ?_
  · refine r_iconst (pc := 14) hX 8 rfl ?_
    exact r_zret (pc := 15) hX 9 hQ rfl rfl ⟨by omega, by omega⟩ (Nat.le_refl 0) (Nat.le_refl 0) ⟨rfl, rfl, rfl, 0, rfl, (by omega)⟩
  · refine r_iload_n (pc := 5) hX 3 rfl rfl ?_
    refine r_iload_n (pc := 6) hX 4 rfl rfl ?_
    first | refine r_icmp_gt (pc := 7) hX 5 (tgt := 14) rfl (by decide) (⟨by omega, by omega⟩) (⟨by omega, by omega⟩) (fun h7 => ?_) (fun h7 => ?_) | refine r_icmp_gt_any (pc := 7) hX 5 (tgt := 14) rfl (by decide) ?_ ?_
    · refine r_iconst (pc := 14) hX 8 rfl ?_
      exact r_zret (pc := 15) hX 9 hQ rfl rfl ⟨by omega, by omega⟩ (Nat.le_refl 0) (Nat.le_refl 0) ⟨rfl, rfl, rfl, 0, rfl, (by omega)⟩
    · refine r_iconst (pc := 10) hX 6 rfl ?_
      refine r_goto (pc := 11) hX 7 (tgt := 15) rfl (by decide) ?_
      exact r_zret (pc := 15) hX 9 hQ rfl rfl ⟨by omega, by omega⟩ (Nat.le_refl 0) (Nat.le_refl 0) ⟨rfl, rfl, rfl, 1, rfl, (by omega)⟩
set_option maxHeartbeats 4000000 in
set_option maxRecDepth 100000 in
theorem c_throwsIf (g : Gp) (v ρ : Mv) (Z : Mz) (hG : GM ρ Z) (is : Int) (hi : 0 ≤ is ∧ is ≤ 1) : Ok g 1 0 0 F_m_throwsIf [(2, 178), (0, is)] v ρ Z (fun o v' ρ' Z' => ρ = ρ' ∧ Z = Z' ∧ Fr [] [0] v v' ∧ ∃ r : Int, o = some (0, r) ∧ (r = is)) := by
  refine Ok.of mo_m_throwsIf (Nat.le_of_ble_eq_true rfl) ?_
  intro X hX hRm hxn hQ
  show wp g X F_m_throwsIf 0 0 0 [(2, 178), (0, is)] [] v ρ Z
  refine r_aload_n (pc := 0) hX 0 rfl rfl ?_
  refine r_iload_n (pc := 1) hX 1 rfl rfl ?_
  first | refine r_if_eq (pc := 2) hX 2 (tgt := 9) rfl (by decide) (⟨by omega, by omega⟩) (fun h2 => ?_) (fun h2 => ?_) | refine r_if_eq_any (pc := 2) hX 2 (tgt := 9) rfl (by decide) ?_ ?_
  · refine r_iconst (pc := 9) hX 5 rfl ?_
    refine r_putI (pc := 10) hX 6 rfl fl_X12_1 rfl (fun _ h => by cases h; rfl) hG.1 (by decide) ?_
    refine r_iload_n (pc := 13) hX 7 rfl rfl ?_
    exact r_zret (pc := 14) hX 8 hQ rfl rfl ⟨by omega, by omega⟩ (Nat.le_refl 0) (Nat.le_refl 0) ⟨rfl, rfl, (Fr.rf).fld (k := 0) (by decide), is, rfl, (by omega)⟩
  · refine r_iconst (pc := 5) hX 3 rfl ?_
    refine r_goto (pc := 6) hX 4 (tgt := 10) rfl (by decide) ?_
    refine r_putI (pc := 10) hX 6 rfl fl_X12_1 rfl (fun _ h => by cases h; rfl) hG.1 (by decide) ?_
    refine r_iload_n (pc := 13) hX 7 rfl rfl ?_
    exact r_zret (pc := 14) hX 8 hQ rfl rfl ⟨by omega, by omega⟩ (Nat.le_refl 0) (Nat.le_refl 0) ⟨rfl, rfl, (Fr.rf).fld (k := 0) (by decide), is, rfl, (by omega)⟩
set_option maxHeartbeats 4000000 in
set_option maxRecDepth 100000 in
theorem c_bitOf (g : Gp) (v ρ : Mv) (Z : Mz) (hG : GM ρ Z) (a k : Int)  : Ok g 1 0 0 F_m_bitOf [(0, a), (0, k)] v ρ Z (fun o v' ρ' Z' => ρ = ρ' ∧ Z = Z' ∧ v = v' ∧ ∃ r : Int, o = some (0, r) ∧ (0 ≤ r ∧ r ≤ 1)) := by
  refine Ok.of mo_m_bitOf (Nat.le_of_ble_eq_true rfl) ?_
  intro X hX hRm hxn hQ
  show wp g X F_m_bitOf 0 0 0 [(0, a), (0, k)] [] v ρ Z
  refine r_iload_n (pc := 0) hX 0 rfl rfl ?_
  refine r_iload_n (pc := 1) hX 1 rfl rfl ?_
  refine r_ishr_any (pc := 2) hX 2 rfl (fun z2 hz2 => ?_)
  refine r_iconst (pc := 3) hX 3 rfl ?_
  refine r_iandm (pc := 4) hX 4 1 rfl (by decide) (by decide) (m := 2) (by decide) ?_
  refine r_iconst (pc := 5) hX 5 rfl ?_
  first | refine r_icmp_ne (pc := 6) hX 6 (tgt := 13) rfl (by decide) (⟨by omega, by omega⟩) (⟨by omega, by omega⟩) (fun h6 => ?_) (fun h6 => ?_) | refine r_icmp_ne_any (pc := 6) hX 6 (tgt := 13) rfl (by decide) ?_ ?_
  · refine r_iconst (pc := 13) hX 9 rfl ?_
    exact r_zret (pc := 14) hX 10 hQ rfl rfl ⟨by omega, by omega⟩ (Nat.le_refl 0) (Nat.le_refl 0) ⟨rfl, rfl, rfl, 0, rfl, (by omega)⟩
  · refine r_iconst (pc := 9) hX 7 rfl ?_
    refine r_goto (pc := 10) hX 8 (tgt := 14) rfl (by decide) ?_
    exact r_zret (pc := 14) hX 10 hQ rfl rfl ⟨by omega, by omega⟩ (Nat.le_refl 0) (Nat.le_refl 0) ⟨rfl, rfl, rfl, 1, rfl, (by omega)⟩
set_option maxHeartbeats 4000000 in
set_option maxRecDepth 100000 in
theorem c_octet (g : Gp) (v ρ : Mv) (Z : Mz) (hG : GM ρ Z) (k : Int) (hk : 0 ≤ k ∧ k < 940) : Ok g 1 0 0 F_m_octet [(2, 178), (0, k)] v ρ Z (fun o v' ρ' Z' => ρ = ρ' ∧ Z = Z' ∧ v = v' ∧ ∃ r : Int, o = some (0, r) ∧ (0 ≤ r ∧ r ≤ 255)) := by
  refine Ok.of mo_m_octet (Nat.le_of_ble_eq_true rfl) ?_
  intro X hX hRm hxn hQ
  show wp g X F_m_octet 0 0 0 [(2, 178), (0, k)] [] v ρ Z
  refine t_getR (pc := 0) hX 0 rfl rfl rfl fl_X12_14 rfl hG.1 (a_tape hG).1 ?_
  refine r_iload_n (pc := 4) hX 2 rfl rfl ?_
  refine e_bald (y := (v 179 k)) (pc := 5) hX 3 rfl (a_tape hG).2.1 (a_tape hG).2.2 (by omega) (by omega) (rfl) (fun hb5a hb5b => ?_)
  refine r_sipush (pc := 6) hX 4 rfl (by decide) ?_
  refine r_iandm (pc := 9) hX 5 8 rfl (by decide) (by decide) (m := 256) (by decide) ?_
  exact r_iret (pc := 10) hX 6 hQ rfl rfl (Nat.le_refl 0) (Nat.le_refl 0) ⟨rfl, rfl, rfl, ((v 179 k) % 256), rfl, (by omega)⟩
set_option maxHeartbeats 4000000 in
set_option maxRecDepth 100000 in
theorem c_lands (g : Gp) (v ρ : Mv) (Z : Mz) (hG : GM ρ Z)  (hS : SInv (v 180)) : Ok g 1 0 0 F_m_lands [(2, 178)] v ρ Z (fun o v' ρ' Z' => ρ = ρ' ∧ Z = Z' ∧ v = v' ∧ ∃ r : Int, o = some (0, r) ∧ (r = ldsF (v 180)) ∧ (1 ≤ r ∧ r ≤ 3)) := by
  refine Ok.of mo_m_lands (Nat.le_of_ble_eq_true rfl) ?_
  intro X hX hRm hxn hQ
  show wp g X F_m_lands 0 0 0 [(2, 178)] [] v ρ Z
  refine t_getR (pc := 0) hX 0 rfl rfl rfl fl_X12_33 rfl hG.1 (a_s hG).1 ?_
  refine r_iconst (pc := 4) hX 2 rfl ?_
  refine e_iald (y := (v 180 1)) (pc := 5) hX 3 rfl (a_s hG).2.1 (a_s hG).2.2 (by omega) (by omega) (rfl) ?_
  have hb5 := hS.c1
  first | refine r_if_ne (pc := 6) hX 4 (tgt := 13) rfl (by decide) (⟨by omega, by omega⟩) (fun h6 => ?_) (fun h6 => ?_) | refine r_if_ne_any (pc := 6) hX 4 (tgt := 13) rfl (by decide) ?_ ?_
  · refine t_getR (pc := 13) hX 7 rfl rfl rfl fl_X12_33 rfl hG.1 (a_s hG).1 ?_
    refine r_iconst (pc := 17) hX 9 rfl ?_
    refine e_iald (y := (v 180 1)) (pc := 18) hX 10 rfl (a_s hG).2.1 (a_s hG).2.2 (by omega) (by omega) (rfl) ?_
    have hb18 := hS.c1
    exact r_iret (pc := 19) hX 11 hQ rfl rfl (Nat.le_refl 0) (Nat.le_refl 0) ⟨rfl, rfl, rfl, (v 180 1), rfl, (by unfold ldsF; split <;> omega), (by omega)⟩
  · refine r_iconst (pc := 9) hX 5 rfl ?_
    refine r_goto (pc := 10) hX 6 (tgt := 19) rfl (by decide) ?_
    exact r_iret (pc := 19) hX 11 hQ rfl rfl (Nat.le_refl 0) (Nat.le_refl 0) ⟨rfl, rfl, rfl, 1, rfl, (by unfold ldsF; split <;> omega), (by omega)⟩
set_option maxHeartbeats 4000000 in
set_option maxRecDepth 100000 in
theorem c_isSmall (g : Gp) (v ρ : Mv) (Z : Mz) (hG : GM ρ Z) (c : Int) (hc : inR c) : Ok g 1 0 0 F_m_isSmall [(0, c)] v ρ Z (fun o v' ρ' Z' => ρ = ρ' ∧ Z = Z' ∧ v = v' ∧ ∃ r : Int, o = some (0, r) ∧ ((r = 1 ∧ 97 ≤ c ∧ c ≤ 122 ∨ r = 0 ∧ ¬ (97 ≤ c ∧ c ≤ 122)))) := by
  refine Ok.of mo_m_isSmall (Nat.le_of_ble_eq_true rfl) ?_
  intro X hX hRm hxn hQ
  show wp g X F_m_isSmall 0 0 0 [(0, c)] [] v ρ Z
  refine r_iload_n (pc := 0) hX 0 rfl rfl ?_
  refine r_bipush (pc := 1) hX 1 rfl (by decide) ?_
  first | refine r_icmp_lt (pc := 3) hX 2 (tgt := 16) rfl (by decide) (⟨by omega, by omega⟩) (⟨by omega, by omega⟩) (fun h3 => ?_) (fun h3 => ?_) | refine r_icmp_lt_any (pc := 3) hX 2 (tgt := 16) rfl (by decide) ?_ ?_
  · refine r_iconst (pc := 16) hX 8 rfl ?_
    exact r_zret (pc := 17) hX 9 hQ rfl rfl ⟨by omega, by omega⟩ (Nat.le_refl 0) (Nat.le_refl 0) ⟨rfl, rfl, rfl, 0, rfl, (by omega)⟩
  · refine r_iload_n (pc := 6) hX 3 rfl rfl ?_
    refine r_bipush (pc := 7) hX 4 rfl (by decide) ?_
    first | refine r_icmp_gt (pc := 9) hX 5 (tgt := 16) rfl (by decide) (⟨by omega, by omega⟩) (⟨by omega, by omega⟩) (fun h9 => ?_) (fun h9 => ?_) | refine r_icmp_gt_any (pc := 9) hX 5 (tgt := 16) rfl (by decide) ?_ ?_
    · refine r_iconst (pc := 16) hX 8 rfl ?_
      exact r_zret (pc := 17) hX 9 hQ rfl rfl ⟨by omega, by omega⟩ (Nat.le_refl 0) (Nat.le_refl 0) ⟨rfl, rfl, rfl, 0, rfl, (by omega)⟩
    · refine r_iconst (pc := 12) hX 6 rfl ?_
      refine r_goto (pc := 13) hX 7 (tgt := 17) rfl (by decide) ?_
      exact r_zret (pc := 17) hX 9 hQ rfl rfl ⟨by omega, by omega⟩ (Nat.le_refl 0) (Nat.le_refl 0) ⟨rfl, rfl, rfl, 1, rfl, (by omega)⟩
set_option maxHeartbeats 4000000 in
set_option maxRecDepth 100000 in
theorem c_isDigit (g : Gp) (v ρ : Mv) (Z : Mz) (hG : GM ρ Z) (c : Int) (hc : inR c) : Ok g 1 0 0 F_m_isDigit [(0, c)] v ρ Z (fun o v' ρ' Z' => ρ = ρ' ∧ Z = Z' ∧ v = v' ∧ ∃ r : Int, o = some (0, r) ∧ ((r = 1 ∧ 48 ≤ c ∧ c ≤ 57 ∨ r = 0 ∧ ¬ (48 ≤ c ∧ c ≤ 57)))) := by
  refine Ok.of mo_m_isDigit (Nat.le_of_ble_eq_true rfl) ?_
  intro X hX hRm hxn hQ
  show wp g X F_m_isDigit 0 0 0 [(0, c)] [] v ρ Z
  refine r_iload_n (pc := 0) hX 0 rfl rfl ?_
  refine r_bipush (pc := 1) hX 1 rfl (by decide) ?_
  first | refine r_icmp_lt (pc := 3) hX 2 (tgt := 16) rfl (by decide) (⟨by omega, by omega⟩) (⟨by omega, by omega⟩) (fun h3 => ?_) (fun h3 => ?_) | refine r_icmp_lt_any (pc := 3) hX 2 (tgt := 16) rfl (by decide) ?_ ?_
  · refine r_iconst (pc := 16) hX 8 rfl ?_
    exact r_zret (pc := 17) hX 9 hQ rfl rfl ⟨by omega, by omega⟩ (Nat.le_refl 0) (Nat.le_refl 0) ⟨rfl, rfl, rfl, 0, rfl, (by omega)⟩
  · refine r_iload_n (pc := 6) hX 3 rfl rfl ?_
    refine r_bipush (pc := 7) hX 4 rfl (by decide) ?_
    first | refine r_icmp_gt (pc := 9) hX 5 (tgt := 16) rfl (by decide) (⟨by omega, by omega⟩) (⟨by omega, by omega⟩) (fun h9 => ?_) (fun h9 => ?_) | refine r_icmp_gt_any (pc := 9) hX 5 (tgt := 16) rfl (by decide) ?_ ?_
    · refine r_iconst (pc := 16) hX 8 rfl ?_
      exact r_zret (pc := 17) hX 9 hQ rfl rfl ⟨by omega, by omega⟩ (Nat.le_refl 0) (Nat.le_refl 0) ⟨rfl, rfl, rfl, 0, rfl, (by omega)⟩
    · refine r_iconst (pc := 12) hX 6 rfl ?_
      refine r_goto (pc := 13) hX 7 (tgt := 17) rfl (by decide) ?_
      exact r_zret (pc := 17) hX 9 hQ rfl rfl ⟨by omega, by omega⟩ (Nat.le_refl 0) (Nat.le_refl 0) ⟨rfl, rfl, rfl, 1, rfl, (by omega)⟩
set_option maxHeartbeats 4000000 in
set_option maxRecDepth 100000 in
theorem c_peek (g : Gp) (v ρ : Mv) (Z : Mz) (hG : GM ρ Z)  (hz : 0 ≤ v 178 3 ∧ v 178 3 ≤ 940) (hp : 0 ≤ v 178 4 ∧ v 178 4 ≤ 940) : Ok g 1 0 0 F_m_peek [(2, 178)] v ρ Z (fun o v' ρ' Z' => ρ = ρ' ∧ Z = Z' ∧ v = v' ∧ ∃ r : Int, o = some (0, r) ∧ ((r = -1 ∧ v 178 3 ≤ v 178 4 ∨ v 178 4 < v 178 3 ∧ 0 ≤ r ∧ r ≤ 255))) := by
  refine Ok.of mo_m_peek (Nat.le_of_ble_eq_true rfl) ?_
  intro X hX hRm hxn hQ
  show wp g X F_m_peek 0 0 0 [(2, 178)] [] v ρ Z
  refine t_getI (y := (v 178 4)) (pc := 0) hX 0 rfl rfl rfl fl_X12_21 rfl hG.1 (rfl) ?_
  refine t_getI (y := (v 178 3)) (pc := 4) hX 2 rfl rfl rfl fl_X12_18 rfl hG.1 (rfl) ?_
  first | refine r_icmp_ge (pc := 8) hX 4 (tgt := 27) rfl (by decide) (⟨by omega, by omega⟩) (⟨by omega, by omega⟩) (fun h8 => ?_) (fun h8 => ?_) | refine r_icmp_ge_any (pc := 8) hX 4 (tgt := 27) rfl (by decide) ?_ ?_
  · refine r_iconst (pc := 27) hX 13 rfl ?_
    exact r_iret (pc := 28) hX 14 hQ rfl rfl (Nat.le_refl 0) (Nat.le_refl 0) ⟨rfl, rfl, rfl, (-1), rfl, (by omega)⟩
  · refine t_getR (pc := 11) hX 5 rfl rfl rfl fl_X12_14 rfl hG.1 (a_tape hG).1 ?_
    refine t_getI (y := (v 178 4)) (pc := 15) hX 7 rfl rfl rfl fl_X12_21 rfl hG.1 (rfl) ?_
    refine e_bald (y := (v 179 (v 178 4))) (pc := 19) hX 9 rfl (a_tape hG).2.1 (a_tape hG).2.2 (by omega) (by omega) (rfl) (fun hb19a hb19b => ?_)
    refine r_sipush (pc := 20) hX 10 rfl (by decide) ?_
    refine r_iandm (pc := 23) hX 11 8 rfl (by decide) (by decide) (m := 256) (by decide) ?_
    refine r_goto (pc := 24) hX 12 (tgt := 28) rfl (by decide) ?_
    exact r_iret (pc := 28) hX 14 hQ rfl rfl (Nat.le_refl 0) (Nat.le_refl 0) ⟨rfl, rfl, rfl, ((v 179 (v 178 4)) % 256), rfl, (by omega)⟩
set_option maxHeartbeats 4000000 in
set_option maxRecDepth 100000 in
theorem c_bad (g : Gp) (v ρ : Mv) (Z : Mz) (hG : GM ρ Z) (kind : Int)  : Ok g 1 0 0 F_m_bad [(2, 178), (0, kind)] v ρ Z (fun o v' ρ' Z' => ρ = ρ' ∧ Z = Z' ∧ Fr [] [15, 16] v v' ∧ ∃ r : Int, o = some (0, r) ∧ (r = 0)) := by
  refine Ok.of mo_m_bad (Nat.le_of_ble_eq_true rfl) ?_
  intro X hX hRm hxn hQ
  show wp g X F_m_bad 0 0 0 [(2, 178), (0, kind)] [] v ρ Z
  refine r_aload_n (pc := 0) hX 0 rfl rfl ?_
  refine r_iload_n (pc := 1) hX 1 rfl rfl ?_
  refine r_putI (pc := 2) hX 2 rfl fl_X12_207 rfl (fun _ h => by cases h; rfl) hG.1 (by decide) ?_
  refine r_aload_n (pc := 5) hX 3 rfl rfl ?_
  refine t_getI (y := (v 178 12)) (pc := 6) hX 4 rfl rfl rfl fl_X12_184 rfl hG.1 ((up_k (by decide)).trans (rfl)) ?_
  refine r_putI (pc := 10) hX 6 rfl fl_X12_210 rfl (fun _ h => by cases h; rfl) hG.1 (by decide) ?_
  refine r_iconst (pc := 13) hX 7 rfl ?_
  exact r_zret (pc := 14) hX 8 hQ rfl rfl ⟨by omega, by omega⟩ (Nat.le_refl 0) (Nat.le_refl 0) ⟨rfl, rfl, ((Fr.rf).fld (k := 15) (by decide)).fld (k := 16) (by decide), 0, rfl, (by omega)⟩
set_option maxHeartbeats 4000000 in
set_option maxRecDepth 100000 in
theorem c_isWord (g : Gp) (v ρ : Mv) (Z : Mz) (hG : GM ρ Z) (w : Int) (ht : 0 ≤ v 178 11 ∧ v 178 11 ≤ 4) : Ok g 1 0 0 F_m_isWord [(2, 178), (1, w)] v ρ Z (fun o v' ρ' Z' => ρ = ρ' ∧ Z = Z' ∧ v = v' ∧ ∃ r : Int, o = some (0, r) ∧ ((r = 0 ∨ r = 1 ∧ v 178 11 = 1))) := by
  refine Ok.of mo_m_isWord (Nat.le_of_ble_eq_true rfl) ?_
  intro X hX hRm hxn hQ
  show wp g X F_m_isWord 0 0 0 [(2, 178), (1, w), (3, 0)] [] v ρ Z
  refine t_getI (y := (v 178 11)) (pc := 0) hX 0 rfl rfl rfl fl_X12_190 rfl hG.1 (rfl) ?_
  refine r_iconst (pc := 4) hX 2 rfl ?_
  first | refine r_icmp_ne (pc := 5) hX 3 (tgt := 21) rfl (by decide) (⟨by omega, by omega⟩) (⟨by omega, by omega⟩) (fun h5 => ?_) (fun h5 => ?_) | refine r_icmp_ne_any (pc := 5) hX 3 (tgt := 21) rfl (by decide) ?_ ?_
  · refine r_iconst (pc := 21) hX 11 rfl ?_
    exact r_zret (pc := 22) hX 12 hQ rfl rfl ⟨by omega, by omega⟩ (Nat.le_refl 0) (Nat.le_refl 0) ⟨rfl, rfl, rfl, 0, rfl, (by omega)⟩
  · refine t_getL (y := (v 178 17)) (pc := 8) hX 4 rfl rfl rfl fl_X12_203 rfl hG.1 (rfl) ?_
    refine r_lload_n (pc := 12) hX 6 rfl rfl ?_
    refine r_lcmp_any (pc := 13) hX 7 rfl (fun z13 hz13a hz13b => ?_)
    first | refine r_if_ne (pc := 14) hX 8 (tgt := 21) rfl (by decide) (⟨by omega, by omega⟩) (fun h14 => ?_) (fun h14 => ?_) | refine r_if_ne_any (pc := 14) hX 8 (tgt := 21) rfl (by decide) ?_ ?_
    · refine r_iconst (pc := 21) hX 11 rfl ?_
      exact r_zret (pc := 22) hX 12 hQ rfl rfl ⟨by omega, by omega⟩ (Nat.le_refl 0) (Nat.le_refl 0) ⟨rfl, rfl, rfl, 0, rfl, (by omega)⟩
    · refine r_iconst (pc := 17) hX 9 rfl ?_
      refine r_goto (pc := 18) hX 10 (tgt := 22) rfl (by decide) ?_
      exact r_zret (pc := 22) hX 12 hQ rfl rfl ⟨by omega, by omega⟩ (Nat.le_refl 0) (Nat.le_refl 0) ⟨rfl, rfl, rfl, 1, rfl, (by omega)⟩
set_option maxHeartbeats 4000000 in
set_option maxRecDepth 100000 in
theorem c_isSign (g : Gp) (v ρ : Mv) (Z : Mz) (hG : GM ρ Z) (c : Int) (ht : 0 ≤ v 178 11 ∧ v 178 11 ≤ 4) : Ok g 1 0 0 F_m_isSign [(2, 178), (0, c)] v ρ Z (fun o v' ρ' Z' => ρ = ρ' ∧ Z = Z' ∧ v = v' ∧ ∃ r : Int, o = some (0, r) ∧ ((r = 0 ∨ r = 1 ∧ v 178 11 = 3))) := by
  refine Ok.of mo_m_isSign (Nat.le_of_ble_eq_true rfl) ?_
  intro X hX hRm hxn hQ
  show wp g X F_m_isSign 0 0 0 [(2, 178), (0, c)] [] v ρ Z
  refine t_getI (y := (v 178 11)) (pc := 0) hX 0 rfl rfl rfl fl_X12_190 rfl hG.1 (rfl) ?_
  refine r_iconst (pc := 4) hX 2 rfl ?_
  first | refine r_icmp_ne (pc := 5) hX 3 (tgt := 20) rfl (by decide) (⟨by omega, by omega⟩) (⟨by omega, by omega⟩) (fun h5 => ?_) (fun h5 => ?_) | refine r_icmp_ne_any (pc := 5) hX 3 (tgt := 20) rfl (by decide) ?_ ?_
  · refine r_iconst (pc := 20) hX 10 rfl ?_
    exact r_zret (pc := 21) hX 11 hQ rfl rfl ⟨by omega, by omega⟩ (Nat.le_refl 0) (Nat.le_refl 0) ⟨rfl, rfl, rfl, 0, rfl, (by omega)⟩
  · refine t_getI (y := (v 178 14)) (pc := 8) hX 4 rfl rfl rfl fl_X12_200 rfl hG.1 (rfl) ?_
    refine r_iload_n (pc := 12) hX 6 rfl rfl ?_
    first | refine r_icmp_ne (pc := 13) hX 7 (tgt := 20) rfl (by decide) (⟨by omega, by omega⟩) (⟨by omega, by omega⟩) (fun h13 => ?_) (fun h13 => ?_) | refine r_icmp_ne_any (pc := 13) hX 7 (tgt := 20) rfl (by decide) ?_ ?_
    · refine r_iconst (pc := 20) hX 10 rfl ?_
      exact r_zret (pc := 21) hX 11 hQ rfl rfl ⟨by omega, by omega⟩ (Nat.le_refl 0) (Nat.le_refl 0) ⟨rfl, rfl, rfl, 0, rfl, (by omega)⟩
    · refine r_iconst (pc := 16) hX 8 rfl ?_
      refine r_goto (pc := 17) hX 9 (tgt := 21) rfl (by decide) ?_
      exact r_zret (pc := 21) hX 11 hQ rfl rfl ⟨by omega, by omega⟩ (Nat.le_refl 0) (Nat.le_refl 0) ⟨rfl, rfl, rfl, 1, rfl, (by omega)⟩
set_option maxHeartbeats 4000000 in
set_option maxRecDepth 100000 in
theorem c_find (g : Gp) (v ρ : Mv) (Z : Mz) (hG : GM ρ Z) (fr many : Int) (hf : 0 ≤ fr) (hm : inR many ∧ fr + many ≤ 20) : Ok g 1 0 0 F_m_find [(2, 178), (0, fr), (0, many)] v ρ Z (fun o v' ρ' Z' => ρ = ρ' ∧ Z = Z' ∧ v = v' ∧ ∃ r : Int, o = some (0, r) ∧ (-1 ≤ r ∧ (0 ≤ r → r < many))) := by
  refine Ok.of mo_m_find (Nat.le_of_ble_eq_true rfl) ?_
  intro X hX hRm hxn hQ
  show wp g X F_m_find 0 0 0 [(2, 178), (0, fr), (0, many), (3, 0)] [] v ρ Z
  refine r_iconst (pc := 0) hX 0 rfl ?_
  refine r_istore_n (ls' := [(2, 178), (0, fr), (0, many), (0, 0)]) (pc := 1) hX 1 rfl (by decide) rfl ?_
  have L2 : ∀ (n2 : Nat) (k : Int) , (0 ≤ k ∧ (k ≤ many ∨ many < 0 ∧ k = 0)) → (many - k).toNat < n2 → wp g X F_m_find 0 0 2 [(2, 178), (0, fr), (0, many), (0, k)] [] v ρ Z := by
    intro n2
    induction n2 with
    | zero => intro k ik hme2; exact absurd hme2 (Nat.not_lt_zero _)
    | succ n2 ih2 =>
      intro k ik hme2
      refine r_iload_n (pc := 2) hX 2 rfl rfl ?_
      refine r_iload_n (pc := 3) hX 3 rfl rfl ?_
      first | refine r_icmp_ge (pc := 4) hX 4 (tgt := 31) rfl (by decide) (⟨by omega, by omega⟩) (⟨by omega, by omega⟩) (fun h4 => ?_) (fun h4 => ?_) | refine r_icmp_ge_any (pc := 4) hX 4 (tgt := 31) rfl (by decide) ?_ ?_
      · refine r_iconst (pc := 31) hX 19 rfl ?_
        exact r_iret (pc := 32) hX 20 hQ rfl rfl (Nat.le_refl 0) (Nat.le_refl 0) ⟨rfl, rfl, rfl, (-1), rfl, (by omega)⟩
      · refine t_getR (pc := 7) hX 5 rfl rfl rfl fl_X12_43 rfl hG.1 (a_names hG).1 ?_
        refine r_iload_n (pc := 11) hX 7 rfl rfl ?_
        refine r_iload_n (pc := 12) hX 8 rfl rfl ?_
        refine r_iadd (pc := 13) hX 9 rfl ?_
        refine e_lald (y := (v 183 (fr + k))) (pc := 14) hX 10 rfl (a_names hG).2.1 (a_names hG).2.2 (by omega) (by omega) (rfl) ?_
        refine t_getL (y := (v 178 17)) (pc := 15) hX 11 rfl rfl rfl fl_X12_203 rfl hG.1 (rfl) ?_
        refine r_lcmp_any (pc := 19) hX 13 rfl (fun z19 hz19a hz19b => ?_)
        first | refine r_if_ne (pc := 20) hX 14 (tgt := 25) rfl (by decide) (⟨by omega, by omega⟩) (fun h20 => ?_) (fun h20 => ?_) | refine r_if_ne_any (pc := 20) hX 14 (tgt := 25) rfl (by decide) ?_ ?_
        · refine r_iinc (ls' := [(2, 178), (0, fr), (0, many), (0, (k + 1))]) (pc := 25) hX 17 rfl rfl (by decide) rfl ?_
          refine r_goto (pc := 28) hX 18 (tgt := 2) rfl (by decide) ?_
          exact (ih2 (k + 1) (by omega) (by omega))
        · refine r_iload_n (pc := 23) hX 15 rfl rfl ?_
          exact r_iret (pc := 24) hX 16 hQ rfl rfl (Nat.le_refl 0) (Nat.le_refl 0) ⟨rfl, rfl, rfl, k, rfl, (by omega)⟩
  exact (L2 _ 0 (by omega) (Nat.lt_succ_self _))
set_option maxHeartbeats 4000000 in
set_option maxRecDepth 100000 in
theorem c_fault (g : Gp) (v ρ : Mv) (Z : Mz) (hG : GM ρ Z)   : Ok g 1 0 0 F_m_fault [(2, 178)] v ρ Z (fun o v' ρ' Z' => ρ = ρ' ∧ Z = Z' ∧ Fr [] [0] v v' ∧ ∃ r : Int, o = some (0, r) ∧ (True)) := by
  refine Ok.of mo_m_fault (Nat.le_of_ble_eq_true rfl) ?_
  intro X hX hRm hxn hQ
  show wp g X F_m_fault 0 0 0 [(2, 178)] [] v ρ Z
  refine r_aload_n (pc := 0) hX 0 rfl rfl ?_
  refine r_iconst (pc := 1) hX 1 rfl ?_
  refine r_putI (pc := 2) hX 2 rfl fl_X12_1 rfl (fun _ h => by cases h; rfl) hG.1 (by decide) ?_
  refine t_getI (y := (v 178 15)) (pc := 5) hX 3 rfl rfl rfl fl_X12_207 rfl hG.1 ((up_k (by decide)).trans (rfl)) ?_
  exact r_iret (pc := 9) hX 5 hQ rfl rfl (Nat.le_refl 0) (Nat.le_refl 0) ⟨rfl, rfl, (Fr.rf).fld (k := 0) (by decide), (v 178 15), rfl, (trivial)⟩
set_option maxHeartbeats 4000000 in
set_option maxRecDepth 100000 in
theorem c_ownerOf (g : Gp) (v ρ : Mv) (Z : Mz) (hG : GM ρ Z) (c : Int) (hS : SInv (v 180)) : Ok g 1 0 0 F_m_ownerOf [(2, 178), (0, c)] v ρ Z (fun o v' ρ' Z' => ρ = ρ' ∧ Z = Z' ∧ v = v' ∧ ∃ r : Int, o = some (0, r) ∧ (-1 ≤ r ∧ r < v 180 2 ∧ r ≤ 2)) := by
  refine Ok.of mo_m_ownerOf (Nat.le_of_ble_eq_true rfl) ?_
  intro X hX hRm hxn hQ
  show wp g X F_m_ownerOf 0 0 0 [(2, 178), (0, c), (3, 0)] [] v ρ Z
  have hb2 := hS.c2
  refine r_iconst (pc := 0) hX 0 rfl ?_
  refine r_istore_n (ls' := [(2, 178), (0, c), (0, 0)]) (pc := 1) hX 1 rfl (by decide) rfl ?_
  have L2 : ∀ (n2 : Nat) (q : Int) , (0 ≤ q ∧ q ≤ v 180 2) → (v 180 2 - q).toNat < n2 → wp g X F_m_ownerOf 0 0 2 [(2, 178), (0, c), (0, q)] [] v ρ Z := by
    intro n2
    induction n2 with
    | zero => intro q iq hme2; exact absurd hme2 (Nat.not_lt_zero _)
    | succ n2 ih2 =>
      intro q iq hme2
      have hq2 := hS.c2
      refine r_iload_n (pc := 2) hX 2 rfl rfl ?_
      refine t_getR (pc := 3) hX 3 rfl rfl rfl fl_X12_33 rfl hG.1 (a_s hG).1 ?_
      refine r_iconst (pc := 7) hX 5 rfl ?_
      refine e_iald (y := (v 180 2)) (pc := 8) hX 6 rfl (a_s hG).2.1 (a_s hG).2.2 (by omega) (by omega) (rfl) ?_
      have hb8 := hS.c2
      first | refine r_icmp_ge (pc := 9) hX 7 (tgt := 35) rfl (by decide) (⟨by omega, by omega⟩) (⟨by omega, by omega⟩) (fun h9 => ?_) (fun h9 => ?_) | refine r_icmp_ge_any (pc := 9) hX 7 (tgt := 35) rfl (by decide) ?_ ?_
      · refine r_iconst (pc := 35) hX 22 rfl ?_
        exact r_iret (pc := 36) hX 23 hQ rfl rfl (Nat.le_refl 0) (Nat.le_refl 0) ⟨rfl, rfl, rfl, (-1), rfl, (by omega)⟩
      · refine t_getR (pc := 12) hX 8 rfl rfl rfl fl_X12_33 rfl hG.1 (a_s hG).1 ?_
        refine r_bipush (pc := 16) hX 10 rfl (by decide) ?_
        refine r_iload_n (pc := 18) hX 11 rfl rfl ?_
        refine r_iadd (pc := 19) hX 12 rfl ?_
        refine e_iald (y := (v 180 (36 + q))) (pc := 20) hX 13 rfl (a_s hG).2.1 (a_s hG).2.2 (by omega) (by omega) (rfl) ?_
        have hb20 := hS.c36 q (by omega) (by omega)
        refine r_iload_n (pc := 21) hX 14 rfl rfl ?_
        refine r_iconst (pc := 22) hX 15 rfl ?_
        refine r_iadd (pc := 23) hX 16 rfl ?_
        first | refine r_icmp_ne (pc := 24) hX 17 (tgt := 29) rfl (by decide) (⟨by omega, by omega⟩) (⟨by omega, by omega⟩) (fun h24 => ?_) (fun h24 => ?_) | refine r_icmp_ne_any (pc := 24) hX 17 (tgt := 29) rfl (by decide) ?_ ?_
        · refine r_iinc (ls' := [(2, 178), (0, c), (0, (q + 1))]) (pc := 29) hX 20 rfl rfl (by decide) rfl ?_
          refine r_goto (pc := 32) hX 21 (tgt := 2) rfl (by decide) ?_
          exact (ih2 (q + 1) (by omega) (by omega))
        · refine r_iload_n (pc := 27) hX 18 rfl rfl ?_
          exact r_iret (pc := 28) hX 19 hQ rfl rfl (Nat.le_refl 0) (Nat.le_refl 0) ⟨rfl, rfl, rfl, q, rfl, (by omega)⟩
  exact (L2 _ 0 (by omega) (Nat.lt_succ_self _))
set_option maxHeartbeats 4000000 in
set_option maxRecDepth 100000 in
theorem c_carsLeft (g : Gp) (v ρ : Mv) (Z : Mz) (hG : GM ρ Z)  (hS : SInv (v 180)) : Ok g 1 0 0 F_m_carsLeft [(2, 178)] v ρ Z (fun o v' ρ' Z' => ρ = ρ' ∧ Z = Z' ∧ v = v' ∧ ∃ r : Int, o = some (0, r) ∧ (0 ≤ r ∧ r ≤ 12 ∧ r = v 180 4 - v 180 35)) := by
  refine Ok.of mo_m_carsLeft (Nat.le_of_ble_eq_true rfl) ?_
  intro X hX hRm hxn hQ
  show wp g X F_m_carsLeft 0 0 0 [(2, 178)] [] v ρ Z
  refine t_getR (pc := 0) hX 0 rfl rfl rfl fl_X12_33 rfl hG.1 (a_s hG).1 ?_
  refine r_iconst (pc := 4) hX 2 rfl ?_
  refine e_iald (y := (v 180 4)) (pc := 5) hX 3 rfl (a_s hG).2.1 (a_s hG).2.2 (by omega) (by omega) (rfl) ?_
  have hb5 := hS.c4
  refine t_getR (pc := 6) hX 4 rfl rfl rfl fl_X12_33 rfl hG.1 (a_s hG).1 ?_
  refine r_bipush (pc := 10) hX 6 rfl (by decide) ?_
  refine e_iald (y := (v 180 35)) (pc := 12) hX 7 rfl (a_s hG).2.1 (a_s hG).2.2 (by omega) (by omega) (rfl) ?_
  have hb12 := hS.c35
  refine r_isub (pc := 13) hX 8 rfl ?_
  exact r_iret (pc := 14) hX 9 hQ rfl rfl (Nat.le_refl 0) (Nat.le_refl 0) ⟨rfl, rfl, rfl, ((v 180 4) - (v 180 35)), rfl, (by omega)⟩
set_option maxHeartbeats 4000000 in
set_option maxRecDepth 100000 in
theorem c_isColour (g : Gp) (v ρ : Mv) (Z : Mz) (hG : GM ρ Z) (c : Int) (hS : SInv (v 180)) (hc : inR c) : Ok g 2 0 0 F_m_isColour [(2, 178), (0, c)] v ρ Z (fun o v' ρ' Z' => ρ = ρ' ∧ Z = Z' ∧ v = v' ∧ ∃ r : Int, o = some (0, r) ∧ ((r = 1 ∧ 0 ≤ c ∧ c < v 180 0 ∨ r = 0 ∧ ¬ (0 ≤ c ∧ c < v 180 0)))) := by
  refine Ok.of mo_m_isColour (Nat.le_of_ble_eq_true rfl) ?_
  intro X hX hRm hxn hQ
  show wp g X F_m_isColour 0 0 0 [(2, 178), (0, c)] [] v ρ Z
  refine r_iload_n (pc := 0) hX 0 rfl rfl ?_
  refine r_iconst (pc := 1) hX 1 rfl ?_
  refine t_getR (pc := 2) hX 2 rfl rfl rfl fl_X12_33 rfl hG.1 (a_s hG).1 ?_
  refine r_iconst (pc := 6) hX 4 rfl ?_
  refine e_iald (y := (v 180 0)) (pc := 7) hX 5 rfl (a_s hG).2.1 (a_s hG).2.2 (by omega) (by omega) (rfl) ?_
  have hb7 := hS.c0
  refine r_iconst (pc := 8) hX 6 rfl ?_
  refine r_isub (pc := 9) hX 7 rfl ?_
  refine r_callS (as := [(0, c), (0, 0), (0, ((v 180 0) - 1))]) (st := []) (pc := 10) hX 8 rfl mo_m_isIn ml_X12_222 stt_m_isIn (c_isIn g v ρ Z hG (c) (0) (((v 180 0) - 1)) (by omega) (by omega) (by omega)) rfl (by rw [hRm]; exact ⟨by decide, by decide⟩) (by rw [hRm]; exact ⟨by decide, by decide⟩) (Nat.le_of_ble_eq_true rfl) (fun o10 v10 ρ10 Z10 hq10 _ => ?_)
  obtain ⟨rfl, rfl, rfl, r10, rfl, hq10⟩ := hq10
  show wp g X F_m_isColour 0 0 13 [(2, 178), (0, c)] [(0, r10)] v ρ Z
  exact r_zret (pc := 13) hX 9 hQ rfl rfl ⟨by omega, by omega⟩ (Nat.le_refl 0) (Nat.le_refl 0) ⟨rfl, rfl, rfl, r10, rfl, (by omega)⟩
set_option maxHeartbeats 4000000 in
set_option maxRecDepth 100000 in
theorem c_isLand (g : Gp) (v ρ : Mv) (Z : Mz) (hG : GM ρ Z) (c : Int) (hS : SInv (v 180)) (hc : inR c) : Ok g 2 0 0 F_m_isLand [(2, 178), (0, c)] v ρ Z (fun o v' ρ' Z' => ρ = ρ' ∧ Z = Z' ∧ v = v' ∧ ∃ r : Int, o = some (0, r) ∧ ((r = 1 ∧ 0 ≤ c ∧ c < v 180 1 ∨ r = 0 ∧ ¬ (0 ≤ c ∧ c < v 180 1)))) := by
  refine Ok.of mo_m_isLand (Nat.le_of_ble_eq_true rfl) ?_
  intro X hX hRm hxn hQ
  show wp g X F_m_isLand 0 0 0 [(2, 178), (0, c)] [] v ρ Z
  refine r_iload_n (pc := 0) hX 0 rfl rfl ?_
  refine r_iconst (pc := 1) hX 1 rfl ?_
  refine t_getR (pc := 2) hX 2 rfl rfl rfl fl_X12_33 rfl hG.1 (a_s hG).1 ?_
  refine r_iconst (pc := 6) hX 4 rfl ?_
  refine e_iald (y := (v 180 1)) (pc := 7) hX 5 rfl (a_s hG).2.1 (a_s hG).2.2 (by omega) (by omega) (rfl) ?_
  have hb7 := hS.c1
  refine r_iconst (pc := 8) hX 6 rfl ?_
  refine r_isub (pc := 9) hX 7 rfl ?_
  refine r_callS (as := [(0, c), (0, 0), (0, ((v 180 1) - 1))]) (st := []) (pc := 10) hX 8 rfl mo_m_isIn ml_X12_222 stt_m_isIn (c_isIn g v ρ Z hG (c) (0) (((v 180 1) - 1)) (by omega) (by omega) (by omega)) rfl (by rw [hRm]; exact ⟨by decide, by decide⟩) (by rw [hRm]; exact ⟨by decide, by decide⟩) (Nat.le_of_ble_eq_true rfl) (fun o10 v10 ρ10 Z10 hq10 _ => ?_)
  obtain ⟨rfl, rfl, rfl, r10, rfl, hq10⟩ := hq10
  show wp g X F_m_isLand 0 0 13 [(2, 178), (0, c)] [(0, r10)] v ρ Z
  exact r_zret (pc := 13) hX 9 hQ rfl rfl ⟨by omega, by omega⟩ (Nat.le_refl 0) (Nat.le_refl 0) ⟨rfl, rfl, rfl, r10, rfl, (by omega)⟩
set_option maxHeartbeats 4000000 in
set_option maxRecDepth 100000 in
theorem c_isPlayer (g : Gp) (v ρ : Mv) (Z : Mz) (hG : GM ρ Z) (c : Int) (hS : SInv (v 180)) (hc : inR c) : Ok g 2 0 0 F_m_isPlayer [(2, 178), (0, c)] v ρ Z (fun o v' ρ' Z' => ρ = ρ' ∧ Z = Z' ∧ v = v' ∧ ∃ r : Int, o = some (0, r) ∧ ((r = 1 ∧ 0 ≤ c ∧ c < v 180 2 ∨ r = 0 ∧ ¬ (0 ≤ c ∧ c < v 180 2)))) := by
  refine Ok.of mo_m_isPlayer (Nat.le_of_ble_eq_true rfl) ?_
  intro X hX hRm hxn hQ
  show wp g X F_m_isPlayer 0 0 0 [(2, 178), (0, c)] [] v ρ Z
  refine r_iload_n (pc := 0) hX 0 rfl rfl ?_
  refine r_iconst (pc := 1) hX 1 rfl ?_
  refine t_getR (pc := 2) hX 2 rfl rfl rfl fl_X12_33 rfl hG.1 (a_s hG).1 ?_
  refine r_iconst (pc := 6) hX 4 rfl ?_
  refine e_iald (y := (v 180 2)) (pc := 7) hX 5 rfl (a_s hG).2.1 (a_s hG).2.2 (by omega) (by omega) (rfl) ?_
  have hb7 := hS.c2
  refine r_iconst (pc := 8) hX 6 rfl ?_
  refine r_isub (pc := 9) hX 7 rfl ?_
  refine r_callS (as := [(0, c), (0, 0), (0, ((v 180 2) - 1))]) (st := []) (pc := 10) hX 8 rfl mo_m_isIn ml_X12_222 stt_m_isIn (c_isIn g v ρ Z hG (c) (0) (((v 180 2) - 1)) (by omega) (by omega) (by omega)) rfl (by rw [hRm]; exact ⟨by decide, by decide⟩) (by rw [hRm]; exact ⟨by decide, by decide⟩) (Nat.le_of_ble_eq_true rfl) (fun o10 v10 ρ10 Z10 hq10 _ => ?_)
  obtain ⟨rfl, rfl, rfl, r10, rfl, hq10⟩ := hq10
  show wp g X F_m_isPlayer 0 0 13 [(2, 178), (0, c)] [(0, r10)] v ρ Z
  exact r_zret (pc := 13) hX 9 hQ rfl rfl ⟨by omega, by omega⟩ (Nat.le_refl 0) (Nat.le_refl 0) ⟨rfl, rfl, rfl, r10, rfl, (by omega)⟩
set_option maxHeartbeats 4000000 in
set_option maxRecDepth 100000 in
theorem c_isPart (g : Gp) (v ρ : Mv) (Z : Mz) (hG : GM ρ Z) (c : Int) (hc : inR c) : Ok g 2 0 0 F_m_isPart [(0, c)] v ρ Z (fun o v' ρ' Z' => ρ = ρ' ∧ Z = Z' ∧ v = v' ∧ ∃ r : Int, o = some (0, r) ∧ ((r = 1 ∧ 0 ≤ c ∧ c ≤ 1 ∨ r = 0 ∧ ¬ (0 ≤ c ∧ c ≤ 1)))) := by
  refine Ok.of mo_m_isPart (Nat.le_of_ble_eq_true rfl) ?_
  intro X hX hRm hxn hQ
  show wp g X F_m_isPart 0 0 0 [(0, c)] [] v ρ Z
  refine r_iload_n (pc := 0) hX 0 rfl rfl ?_
  refine r_iconst (pc := 1) hX 1 rfl ?_
  refine r_iconst (pc := 2) hX 2 rfl ?_
  refine r_callS (as := [(0, c), (0, 0), (0, 1)]) (st := []) (pc := 3) hX 3 rfl mo_m_isIn ml_X12_222 stt_m_isIn (c_isIn g v ρ Z hG (c) (0) (1) (by omega) (by omega) (by omega)) rfl (by rw [hRm]; exact ⟨by decide, by decide⟩) (by rw [hRm]; exact ⟨by decide, by decide⟩) (Nat.le_of_ble_eq_true rfl) (fun o3 v3 ρ3 Z3 hq3 _ => ?_)
  obtain ⟨rfl, rfl, rfl, r3, rfl, hq3⟩ := hq3
  show wp g X F_m_isPart 0 0 6 [(0, c)] [(0, r3)] v ρ Z
  exact r_zret (pc := 6) hX 4 hQ rfl rfl ⟨by omega, by omega⟩ (Nat.le_refl 0) (Nat.le_refl 0) ⟨rfl, rfl, rfl, r3, rfl, (by omega)⟩
set_option maxHeartbeats 4000000 in
set_option maxRecDepth 100000 in
theorem c_place (g : Gp) (v ρ : Mv) (Z : Mz) (hG : GM ρ Z) (l i lf sl : Int)  : Ok g 1 0 0 F_m_place [(2, 178), (0, l), (0, i), (0, lf), (0, sl)] v ρ Z (fun o v' ρ' Z' => ρ = ρ' ∧ Z = Z' ∧ v = v' ∧ ∃ r : Int, o = some (0, r) ∧ (r = ((l * 3 + i) * 13 + lf) * 729 + sl)) := by
  refine Ok.of mo_m_place (Nat.le_of_ble_eq_true rfl) ?_
  intro X hX hRm hxn hQ
  show wp g X F_m_place 0 0 0 [(2, 178), (0, l), (0, i), (0, lf), (0, sl)] [] v ρ Z
  refine r_iload_n (pc := 0) hX 0 rfl rfl ?_
  refine r_iconst (pc := 1) hX 1 rfl ?_
  refine r_imul (pc := 2) hX 2 rfl ?_
  refine r_iload_n (pc := 3) hX 3 rfl rfl ?_
  refine r_iadd (pc := 4) hX 4 rfl ?_
  refine r_bipush (pc := 5) hX 5 rfl (by decide) ?_
  refine r_imul (pc := 7) hX 6 rfl ?_
  refine r_iload_n (pc := 8) hX 7 rfl rfl ?_
  refine r_iadd (pc := 9) hX 8 rfl ?_
  refine r_sipush (pc := 10) hX 9 rfl (by decide) ?_
  refine r_imul (pc := 13) hX 10 rfl ?_
  refine r_iload (pc := 14) hX 11 rfl rfl ?_
  refine r_iadd (pc := 16) hX 12 rfl ?_
  exact r_iret (pc := 17) hX 13 hQ rfl rfl (Nat.le_refl 0) (Nat.le_refl 0) ⟨rfl, rfl, rfl, ((((((l * 3) + i) * 13) + lf) * 729) + sl), rfl, (by omega)⟩
set_option maxHeartbeats 4000000 in
set_option maxRecDepth 100000 in
theorem c_rowOf (g : Gp) (v ρ : Mv) (Z : Mz) (hG : GM ρ Z) (a b c d : Int)  : Ok g 1 0 0 F_m_rowOf [(0, a), (0, b), (0, c), (0, d)] v ρ Z (fun o v' ρ' Z' => ρ = ρ' ∧ Z = Z' ∧ v = v' ∧ ∃ r : Int, o = some (0, r) ∧ (r = ((a * 13 + b) * 13 + c) * 13 + d)) := by
  refine Ok.of mo_m_rowOf (Nat.le_of_ble_eq_true rfl) ?_
  intro X hX hRm hxn hQ
  show wp g X F_m_rowOf 0 0 0 [(0, a), (0, b), (0, c), (0, d)] [] v ρ Z
  refine r_iload_n (pc := 0) hX 0 rfl rfl ?_
  refine r_bipush (pc := 1) hX 1 rfl (by decide) ?_
  refine r_imul (pc := 3) hX 2 rfl ?_
  refine r_iload_n (pc := 4) hX 3 rfl rfl ?_
  refine r_iadd (pc := 5) hX 4 rfl ?_
  refine r_bipush (pc := 6) hX 5 rfl (by decide) ?_
  refine r_imul (pc := 8) hX 6 rfl ?_
  refine r_iload_n (pc := 9) hX 7 rfl rfl ?_
  refine r_iadd (pc := 10) hX 8 rfl ?_
  refine r_bipush (pc := 11) hX 9 rfl (by decide) ?_
  refine r_imul (pc := 13) hX 10 rfl ?_
  refine r_iload_n (pc := 14) hX 11 rfl rfl ?_
  refine r_iadd (pc := 15) hX 12 rfl ?_
  exact r_iret (pc := 16) hX 13 hQ rfl rfl (Nat.le_refl 0) (Nat.le_refl 0) ⟨rfl, rfl, rfl, ((((((a * 13) + b) * 13) + c) * 13) + d), rfl, (by omega)⟩
set_option maxHeartbeats 4000000 in
set_option maxRecDepth 100000 in
theorem c_stepOf (g : Gp) (v ρ : Mv) (Z : Mz) (hG : GM ρ Z) (c : Int) (hc : inR c) : Ok g 1 0 0 F_m_stepOf [(0, c)] v ρ Z (fun o v' ρ' Z' => ρ = ρ' ∧ Z = Z' ∧ v = v' ∧ ∃ r : Int, o = some (0, r) ∧ ((c = 0 → r = 2197) ∧ (c = 1 → r = 169) ∧ (c = 2 → r = 13) ∧ (c = 3 → r = 1) ∧ (4 ≤ c → r = 0))) := by
  refine Ok.of mo_m_stepOf (Nat.le_of_ble_eq_true rfl) ?_
  intro X hX hRm hxn hQ
  show wp g X F_m_stepOf 0 0 0 [(0, c)] [] v ρ Z
  refine r_iload_n (pc := 0) hX 0 rfl rfl ?_
  first | refine r_if_ne (pc := 1) hX 1 (tgt := 10) rfl (by decide) (⟨by omega, by omega⟩) (fun h1 => ?_) (fun h1 => ?_) | refine r_if_ne_any (pc := 1) hX 1 (tgt := 10) rfl (by decide) ?_ ?_
  · refine r_iload_n (pc := 10) hX 4 rfl rfl ?_
    refine r_iconst (pc := 11) hX 5 rfl ?_
    first | refine r_icmp_ne (pc := 12) hX 6 (tgt := 21) rfl (by decide) (⟨by omega, by omega⟩) (⟨by omega, by omega⟩) (fun h12 => ?_) (fun h12 => ?_) | refine r_icmp_ne_any (pc := 12) hX 6 (tgt := 21) rfl (by decide) ?_ ?_
    · refine r_iload_n (pc := 21) hX 9 rfl rfl ?_
      refine r_iconst (pc := 22) hX 10 rfl ?_
      first | refine r_icmp_ne (pc := 23) hX 11 (tgt := 31) rfl (by decide) (⟨by omega, by omega⟩) (⟨by omega, by omega⟩) (fun h23 => ?_) (fun h23 => ?_) | refine r_icmp_ne_any (pc := 23) hX 11 (tgt := 31) rfl (by decide) ?_ ?_
      · refine r_iload_n (pc := 31) hX 14 rfl rfl ?_
        refine r_iconst (pc := 32) hX 15 rfl ?_
        first | refine r_icmp_ne (pc := 33) hX 16 (tgt := 40) rfl (by decide) (⟨by omega, by omega⟩) (⟨by omega, by omega⟩) (fun h33 => ?_) (fun h33 => ?_) | refine r_icmp_ne_any (pc := 33) hX 16 (tgt := 40) rfl (by decide) ?_ ?_
        · refine r_iconst (pc := 40) hX 19 rfl ?_
          exact r_iret (pc := 41) hX 20 hQ rfl rfl (Nat.le_refl 0) (Nat.le_refl 0) ⟨rfl, rfl, rfl, 0, rfl, (by omega)⟩
        · refine r_iconst (pc := 36) hX 17 rfl ?_
          refine r_goto (pc := 37) hX 18 (tgt := 41) rfl (by decide) ?_
          exact r_iret (pc := 41) hX 20 hQ rfl rfl (Nat.le_refl 0) (Nat.le_refl 0) ⟨rfl, rfl, rfl, 1, rfl, (by omega)⟩
      · refine r_bipush (pc := 26) hX 12 rfl (by decide) ?_
        refine r_goto (pc := 28) hX 13 (tgt := 41) rfl (by decide) ?_
        exact r_iret (pc := 41) hX 20 hQ rfl rfl (Nat.le_refl 0) (Nat.le_refl 0) ⟨rfl, rfl, rfl, 13, rfl, (by omega)⟩
    · refine r_sipush (pc := 15) hX 7 rfl (by decide) ?_
      refine r_goto (pc := 18) hX 8 (tgt := 41) rfl (by decide) ?_
      exact r_iret (pc := 41) hX 20 hQ rfl rfl (Nat.le_refl 0) (Nat.le_refl 0) ⟨rfl, rfl, rfl, 169, rfl, (by omega)⟩
  · refine r_sipush (pc := 4) hX 2 rfl (by decide) ?_
    refine r_goto (pc := 7) hX 3 (tgt := 41) rfl (by decide) ?_
    exact r_iret (pc := 41) hX 20 hQ rfl rfl (Nat.le_refl 0) (Nat.le_refl 0) ⟨rfl, rfl, rfl, 2197, rfl, (by omega)⟩
set_option maxHeartbeats 4000000 in
set_option maxRecDepth 100000 in
theorem c_end (g : Gp) (v ρ : Mv) (Z : Mz) (hG : GM ρ Z) (n : Int) (hn : inR n) (hl : 0 ≤ v 178 2 ∧ v 178 2 ≤ 940) : Ok g 1 0 0 F_m_end [(2, 178), (0, n)] v ρ Z (fun o v' ρ' Z' => ρ = ρ' ∧ Z = Z' ∧ Fr [] [0, 2] v v' ∧ ∃ r : Int, o = some (0, r) ∧ ((r = 1 ∧ 0 ≤ n ∧ n ≤ v 178 2 ∧ v' 178 2 = n ∨ r = 0 ∧ ¬ (0 ≤ n ∧ n ≤ v 178 2) ∧ v' 178 2 = v 178 2))) := by
  refine Ok.of mo_m_end (Nat.le_of_ble_eq_true rfl) ?_
  intro X hX hRm hxn hQ
  show wp g X F_m_end 0 0 0 [(2, 178), (0, n)] [] v ρ Z
  refine r_aload_n (pc := 0) hX 0 rfl rfl ?_
  refine r_iconst (pc := 1) hX 1 rfl ?_
  refine r_putI (pc := 2) hX 2 rfl fl_X12_1 rfl (fun _ h => by cases h; rfl) hG.1 (by decide) ?_
  refine r_iload_n (pc := 5) hX 3 rfl rfl ?_
  first | refine r_if_lt (pc := 6) hX 4 (tgt := 17) rfl (by decide) (⟨by omega, by omega⟩) (fun h6 => ?_) (fun h6 => ?_) | refine r_if_lt_any (pc := 6) hX 4 (tgt := 17) rfl (by decide) ?_ ?_
  · refine r_iconst (pc := 17) hX 9 rfl ?_
    exact r_zret (pc := 18) hX 10 hQ rfl rfl ⟨by omega, by omega⟩ (Nat.le_refl 0) (Nat.le_refl 0) ⟨rfl, rfl, (Fr.rf).fld (k := 0) (by decide), 0, rfl, (by first | (left; refine ⟨rfl, by omega, by omega, ?_⟩; simp [up]; done) | (right; refine ⟨rfl, by omega, ?_⟩; simp [up]; done))⟩
  · refine r_iload_n (pc := 9) hX 5 rfl rfl ?_
    refine t_getI (y := (v 178 2)) (pc := 10) hX 6 rfl rfl rfl fl_X12_7 rfl hG.1 ((up_k (by decide)).trans (rfl)) ?_
    first | refine r_icmp_le (pc := 14) hX 8 (tgt := 19) rfl (by decide) (⟨by omega, by omega⟩) (⟨by omega, by omega⟩) (fun h14 => ?_) (fun h14 => ?_) | refine r_icmp_le_any (pc := 14) hX 8 (tgt := 19) rfl (by decide) ?_ ?_
    · refine r_aload_n (pc := 19) hX 11 rfl rfl ?_
      refine r_iload_n (pc := 20) hX 12 rfl rfl ?_
      refine r_putI (pc := 21) hX 13 rfl fl_X12_7 rfl (fun _ h => by cases h; rfl) hG.1 (by decide) ?_
      refine r_iconst (pc := 24) hX 14 rfl ?_
      exact r_zret (pc := 25) hX 15 hQ rfl rfl ⟨by omega, by omega⟩ (Nat.le_refl 0) (Nat.le_refl 0) ⟨rfl, rfl, ((Fr.rf).fld (k := 0) (by decide)).fld (k := 2) (by decide), 1, rfl, (by first | (left; refine ⟨rfl, by omega, by omega, ?_⟩; simp [up]; done) | (right; refine ⟨rfl, by omega, ?_⟩; simp [up]; done))⟩
    · refine r_iconst (pc := 17) hX 9 rfl ?_
      exact r_zret (pc := 18) hX 10 hQ rfl rfl ⟨by omega, by omega⟩ (Nat.le_refl 0) (Nat.le_refl 0) ⟨rfl, rfl, (Fr.rf).fld (k := 0) (by decide), 0, rfl, (by first | (left; refine ⟨rfl, by omega, by omega, ?_⟩; simp [up]; done) | (right; refine ⟨rfl, by omega, ?_⟩; simp [up]; done))⟩
set_option maxHeartbeats 4000000 in
set_option maxRecDepth 100000 in
theorem c_taken (g : Gp) (v ρ : Mv) (Z : Mz) (hG : GM ρ Z) (most : Int)  : Ok g 1 0 0 F_m_taken [(2, 178), (0, most)] v ρ Z (fun o v' ρ' Z' => ρ = ρ' ∧ Z = Z' ∧ Fr [] [2, 3, 4, 5] v v' ∧ o = none ∧ (v' 178 3 = v 178 2 ∧ v' 178 2 = 0 ∧ v' 178 4 = 0 ∧ v' 178 5 = most)) := by
  refine Ok.of mo_m_taken (Nat.le_of_ble_eq_true rfl) ?_
  intro X hX hRm hxn hQ
  show wp g X F_m_taken 0 0 0 [(2, 178), (0, most)] [] v ρ Z
  refine r_aload_n (pc := 0) hX 0 rfl rfl ?_
  refine t_getI (y := (v 178 2)) (pc := 1) hX 1 rfl rfl rfl fl_X12_7 rfl hG.1 (rfl) ?_
  refine r_putI (pc := 5) hX 3 rfl fl_X12_18 rfl (fun _ h => by cases h; rfl) hG.1 (by decide) ?_
  refine r_aload_n (pc := 8) hX 4 rfl rfl ?_
  refine r_iconst (pc := 9) hX 5 rfl ?_
  refine r_putI (pc := 10) hX 6 rfl fl_X12_7 rfl (fun _ h => by cases h; rfl) hG.1 (by decide) ?_
  refine r_aload_n (pc := 13) hX 7 rfl rfl ?_
  refine r_iconst (pc := 14) hX 8 rfl ?_
  refine r_putI (pc := 15) hX 9 rfl fl_X12_21 rfl (fun _ h => by cases h; rfl) hG.1 (by decide) ?_
  refine r_aload_n (pc := 18) hX 10 rfl rfl ?_
  refine r_iload_n (pc := 19) hX 11 rfl rfl ?_
  refine r_putI (pc := 20) hX 12 rfl fl_X12_24 rfl (fun _ h => by cases h; rfl) hG.1 (by decide) ?_
  exact r_vret (pc := 23) hX 13 hQ rfl rfl (Nat.le_refl 0) (Nat.le_refl 0) ⟨rfl, rfl, ((((Fr.rf).fld (k := 3) (by decide)).fld (k := 2) (by decide)).fld (k := 4) (by decide)).fld (k := 5) (by decide), rfl, (by simp [up])⟩
