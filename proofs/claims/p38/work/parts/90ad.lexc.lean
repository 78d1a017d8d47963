set_option maxHeartbeats 4000000 in
set_option maxRecDepth 100000 in
theorem c_X8_byteAtF (g : Gp) (ω : Rw) (v ρ : Mv) (Z : Mz) (hH : HT ω v ρ Z) (t : Int) (ht : ω t = 2) (i : Int) (hir : inR i) : Ok g 1 0 0 F_X8_byteAt [(2, t), (0, i)] v ρ Z (fun o9 v' ρ' Z' => ρ = ρ' ∧ Z = Z' ∧ v = v' ∧ ∃ r : Int, o9 = some (0, r) ∧ ((0 ≤ i ∧ i < v t 1 ∧ r = v (ρ t 0) i % 256 ∨ ¬ (0 ≤ i ∧ i < v t 1) ∧ r = -1))) := by
  refine Ok.of mo_X8_byteAt (Nat.le_of_ble_eq_true rfl) ?_
  intro X hX hRm hxn hQ
  show wp g X F_X8_byteAt 0 0 0 [(2, t), (0, i)] [] v ρ Z
  refine r_iload_n (pc := 0) hX 0 rfl rfl ?_
  first | refine r_if_lt (pc := 1) hX 1 (tgt := 32) rfl (by decide) (⟨by omega, by omega⟩) (fun h1 => ?_) (fun h1 => ?_) | refine r_if_lt_any (pc := 1) hX 1 (tgt := 32) rfl (by decide) ?_ ?_
  · refine r_iconst (pc := 32) hX 16 rfl ?_
    exact r_iret (pc := 33) hX 17 hQ rfl rfl (Nat.le_of_ble_eq_true rfl) (Nat.le_of_ble_eq_true rfl) ⟨rfl, rfl, rfl, (-1), rfl, (by omega)⟩
  · refine r_iload_n (pc := 4) hX 2 rfl rfl ?_
    refine t_getI (y := (v t 1)) (pc := 5) hX 3 rfl rfl rfl fl_X8_15 rfl (hH.kd ht (by decide)) (rfl) ?_
    have hb5 : 0 ≤ (v t 1) ∧ (v t 1) ≤ 940 := hH.rg ht (by decide) rfl
    first | refine r_icmp_ge (pc := 9) hX 5 (tgt := 32) rfl (by decide) (⟨by omega, by omega⟩) (⟨by omega, by omega⟩) (fun h9 => ?_) (fun h9 => ?_) | refine r_icmp_ge_any (pc := 9) hX 5 (tgt := 32) rfl (by decide) ?_ ?_
    · refine r_iconst (pc := 32) hX 16 rfl ?_
      exact r_iret (pc := 33) hX 17 hQ rfl rfl (Nat.le_of_ble_eq_true rfl) (Nat.le_of_ble_eq_true rfl) ⟨rfl, rfl, rfl, (-1), rfl, (by omega)⟩
    · refine r_iload_n (pc := 12) hX 6 rfl rfl ?_
      refine r_sipush (pc := 13) hX 7 rfl (by decide) ?_
      first | refine r_icmp_ge (pc := 16) hX 8 (tgt := 32) rfl (by decide) (⟨by omega, by omega⟩) (⟨by omega, by omega⟩) (fun h16 => ?_) (fun h16 => ?_) | refine r_icmp_ge_any (pc := 16) hX 8 (tgt := 32) rfl (by decide) ?_ ?_
      · refine r_iconst (pc := 32) hX 16 rfl ?_
        exact r_iret (pc := 33) hX 17 hQ rfl rfl (Nat.le_of_ble_eq_true rfl) (Nat.le_of_ble_eq_true rfl) ⟨rfl, rfl, rfl, (-1), rfl, (by omega)⟩
      · refine t_getR (q := (ρ t 0)) (pc := 19) hX 9 rfl rfl rfl fl_X8_11 rfl (hH.kd ht (by decide)) (rfl) ?_
        have hw19_ : ω (ρ t 0) = 3 := hH.rf ht (by decide) rfl
        refine r_iload_n (pc := 23) hX 11 rfl rfl ?_
        refine e_bald (y := (v (ρ t 0) i)) (n := 940) (pc := 24) hX 12 rfl (hH.kd hw19_ (by decide)) (hH.ln hw19_ (by decide)) (by omega) (by omega) (rfl) (fun hb24a hb24b => ?_)
        refine r_sipush (pc := 25) hX 13 rfl (by decide) ?_
        refine r_iandm (pc := 28) hX 14 8 rfl (by decide) (by decide) (m := 256) (by decide) ?_
        refine r_goto (pc := 29) hX 15 (tgt := 33) rfl (by decide) ?_
        exact r_iret (pc := 33) hX 17 hQ rfl rfl (Nat.le_of_ble_eq_true rfl) (Nat.le_of_ble_eq_true rfl) ⟨rfl, rfl, rfl, ((v (ρ t 0) i) % 256), rfl, (by omega)⟩
set_option maxHeartbeats 4000000 in
set_option maxRecDepth 100000 in
theorem c_X8_isBlankF (g : Gp) (ω : Rw) (v ρ : Mv) (Z : Mz) (hH : HT ω v ρ Z) (c : Int) (hcr : inR c) : Ok g 1 0 0 F_X8_isBlank [(0, c)] v ρ Z (fun o9 v' ρ' Z' => ρ = ρ' ∧ Z = Z' ∧ v = v' ∧ ∃ r : Int, o9 = some (0, r) ∧ ((r = 1 ∧ (c = 32 ∨ c = 10) ∨ r = 0 ∧ ¬ (c = 32 ∨ c = 10)))) := by
  refine Ok.of mo_X8_isBlank (Nat.le_of_ble_eq_true rfl) ?_
  intro X hX hRm hxn hQ
  show wp g X F_X8_isBlank 0 0 0 [(0, c)] [] v ρ Z
  refine r_iload_n (pc := 0) hX 0 rfl rfl ?_
  refine r_bipush (pc := 1) hX 1 rfl (by decide) ?_
  first | refine r_icmp_eq (pc := 3) hX 2 (tgt := 12) rfl (by decide) (⟨by omega, by omega⟩) (⟨by omega, by omega⟩) (fun h3 => ?_) (fun h3 => ?_) | refine r_icmp_eq_any (pc := 3) hX 2 (tgt := 12) rfl (by decide) ?_ ?_
  · refine r_iconst (pc := 12) hX 6 rfl ?_
    refine r_goto (pc := 13) hX 7 (tgt := 17) rfl (by decide) ?_
    exact r_zret (pc := 17) hX 9 hQ rfl rfl ⟨by omega, by omega⟩ (Nat.le_of_ble_eq_true rfl) (Nat.le_of_ble_eq_true rfl) ⟨rfl, rfl, rfl, 1, rfl, (by omega)⟩
  · refine r_iload_n (pc := 6) hX 3 rfl rfl ?_
    refine r_bipush (pc := 7) hX 4 rfl (by decide) ?_
    first | refine r_icmp_ne (pc := 9) hX 5 (tgt := 16) rfl (by decide) (⟨by omega, by omega⟩) (⟨by omega, by omega⟩) (fun h9 => ?_) (fun h9 => ?_) | refine r_icmp_ne_any (pc := 9) hX 5 (tgt := 16) rfl (by decide) ?_ ?_
    · refine r_iconst (pc := 16) hX 8 rfl ?_
      exact r_zret (pc := 17) hX 9 hQ rfl rfl ⟨by omega, by omega⟩ (Nat.le_of_ble_eq_true rfl) (Nat.le_of_ble_eq_true rfl) ⟨rfl, rfl, rfl, 0, rfl, (by omega)⟩
    · refine r_iconst (pc := 12) hX 6 rfl ?_
      refine r_goto (pc := 13) hX 7 (tgt := 17) rfl (by decide) ?_
      exact r_zret (pc := 17) hX 9 hQ rfl rfl ⟨by omega, by omega⟩ (Nat.le_of_ble_eq_true rfl) (Nat.le_of_ble_eq_true rfl) ⟨rfl, rfl, rfl, 1, rfl, (by omega)⟩
set_option maxHeartbeats 4000000 in
set_option maxRecDepth 100000 in
theorem c_X8_goesOnF (g : Gp) (ω : Rw) (v ρ : Mv) (Z : Mz) (hH : HT ω v ρ Z) (c : Int) (hcr : inR c) : Ok g 1 0 0 F_X8_goesOn [(0, c)] v ρ Z (fun o9 v' ρ' Z' => ρ = ρ' ∧ Z = Z' ∧ v = v' ∧ ∃ r : Int, o9 = some (0, r) ∧ ((r = 1 ∧ (97 ≤ c ∧ c ≤ 122 ∨ 48 ≤ c ∧ c ≤ 57) ∨ r = 0 ∧ ¬ (97 ≤ c ∧ c ≤ 122 ∨ 48 ≤ c ∧ c ≤ 57)))) := by
  refine Ok.of mo_X8_goesOn (Nat.le_of_ble_eq_true rfl) ?_
  intro X hX hRm hxn hQ
  show wp g X F_X8_goesOn 0 0 0 [(0, c)] [] v ρ Z
  refine r_iload_n (pc := 0) hX 0 rfl rfl ?_
  refine r_bipush (pc := 1) hX 1 rfl (by decide) ?_
  first | refine r_icmp_lt (pc := 3) hX 2 (tgt := 12) rfl (by decide) (⟨by omega, by omega⟩) (⟨by omega, by omega⟩) (fun h3 => ?_) (fun h3 => ?_) | refine r_icmp_lt_any (pc := 3) hX 2 (tgt := 12) rfl (by decide) ?_ ?_
  · refine r_iload_n (pc := 12) hX 6 rfl rfl ?_
    refine r_bipush (pc := 13) hX 7 rfl (by decide) ?_
    first | refine r_icmp_lt (pc := 15) hX 8 (tgt := 28) rfl (by decide) (⟨by omega, by omega⟩) (⟨by omega, by omega⟩) (fun h15 => ?_) (fun h15 => ?_) | refine r_icmp_lt_any (pc := 15) hX 8 (tgt := 28) rfl (by decide) ?_ ?_
    · refine r_iconst (pc := 28) hX 14 rfl ?_
      exact r_zret (pc := 29) hX 15 hQ rfl rfl ⟨by omega, by omega⟩ (Nat.le_of_ble_eq_true rfl) (Nat.le_of_ble_eq_true rfl) ⟨rfl, rfl, rfl, 0, rfl, (by omega)⟩
    · refine r_iload_n (pc := 18) hX 9 rfl rfl ?_
      refine r_bipush (pc := 19) hX 10 rfl (by decide) ?_
      first | refine r_icmp_gt (pc := 21) hX 11 (tgt := 28) rfl (by decide) (⟨by omega, by omega⟩) (⟨by omega, by omega⟩) (fun h21 => ?_) (fun h21 => ?_) | refine r_icmp_gt_any (pc := 21) hX 11 (tgt := 28) rfl (by decide) ?_ ?_
      · refine r_iconst (pc := 28) hX 14 rfl ?_
        exact r_zret (pc := 29) hX 15 hQ rfl rfl ⟨by omega, by omega⟩ (Nat.le_of_ble_eq_true rfl) (Nat.le_of_ble_eq_true rfl) ⟨rfl, rfl, rfl, 0, rfl, (by omega)⟩
      · refine r_iconst (pc := 24) hX 12 rfl ?_
        refine r_goto (pc := 25) hX 13 (tgt := 29) rfl (by decide) ?_
        exact r_zret (pc := 29) hX 15 hQ rfl rfl ⟨by omega, by omega⟩ (Nat.le_of_ble_eq_true rfl) (Nat.le_of_ble_eq_true rfl) ⟨rfl, rfl, rfl, 1, rfl, (by omega)⟩
  · refine r_iload_n (pc := 6) hX 3 rfl rfl ?_
    refine r_bipush (pc := 7) hX 4 rfl (by decide) ?_
    first | refine r_icmp_le (pc := 9) hX 5 (tgt := 24) rfl (by decide) (⟨by omega, by omega⟩) (⟨by omega, by omega⟩) (fun h9 => ?_) (fun h9 => ?_) | refine r_icmp_le_any (pc := 9) hX 5 (tgt := 24) rfl (by decide) ?_ ?_
    · refine r_iconst (pc := 24) hX 12 rfl ?_
      refine r_goto (pc := 25) hX 13 (tgt := 29) rfl (by decide) ?_
      exact r_zret (pc := 29) hX 15 hQ rfl rfl ⟨by omega, by omega⟩ (Nat.le_of_ble_eq_true rfl) (Nat.le_of_ble_eq_true rfl) ⟨rfl, rfl, rfl, 1, rfl, (by omega)⟩
    · refine r_iload_n (pc := 12) hX 6 rfl rfl ?_
      refine r_bipush (pc := 13) hX 7 rfl (by decide) ?_
      first | refine r_icmp_lt (pc := 15) hX 8 (tgt := 28) rfl (by decide) (⟨by omega, by omega⟩) (⟨by omega, by omega⟩) (fun h15 => ?_) (fun h15 => ?_) | refine r_icmp_lt_any (pc := 15) hX 8 (tgt := 28) rfl (by decide) ?_ ?_
      · refine r_iconst (pc := 28) hX 14 rfl ?_
        exact r_zret (pc := 29) hX 15 hQ rfl rfl ⟨by omega, by omega⟩ (Nat.le_of_ble_eq_true rfl) (Nat.le_of_ble_eq_true rfl) ⟨rfl, rfl, rfl, 0, rfl, (by omega)⟩
      · refine r_iload_n (pc := 18) hX 9 rfl rfl ?_
        refine r_bipush (pc := 19) hX 10 rfl (by decide) ?_
        first | refine r_icmp_gt (pc := 21) hX 11 (tgt := 28) rfl (by decide) (⟨by omega, by omega⟩) (⟨by omega, by omega⟩) (fun h21 => ?_) (fun h21 => ?_) | refine r_icmp_gt_any (pc := 21) hX 11 (tgt := 28) rfl (by decide) ?_ ?_
        · refine r_iconst (pc := 28) hX 14 rfl ?_
          exact r_zret (pc := 29) hX 15 hQ rfl rfl ⟨by omega, by omega⟩ (Nat.le_of_ble_eq_true rfl) (Nat.le_of_ble_eq_true rfl) ⟨rfl, rfl, rfl, 0, rfl, (by omega)⟩
        · refine r_iconst (pc := 24) hX 12 rfl ?_
          refine r_goto (pc := 25) hX 13 (tgt := 29) rfl (by decide) ?_
          exact r_zret (pc := 29) hX 15 hQ rfl rfl ⟨by omega, by omega⟩ (Nat.le_of_ble_eq_true rfl) (Nat.le_of_ble_eq_true rfl) ⟨rfl, rfl, rfl, 1, rfl, (by omega)⟩
set_option maxHeartbeats 4000000 in
set_option maxRecDepth 100000 in
theorem c_X8_isMarkSignF (g : Gp) (ω : Rw) (v ρ : Mv) (Z : Mz) (hH : HT ω v ρ Z) (c : Int) (hcr : inR c) : Ok g 1 0 0 F_X8_isMarkSign [(0, c)] v ρ Z (fun o9 v' ρ' Z' => ρ = ρ' ∧ Z = Z' ∧ v = v' ∧ ∃ r : Int, o9 = some (0, r) ∧ ((r = 1 ∧ (c = 59 ∨ 60 ≤ c ∧ c ≤ 62 ∨ c = 40 ∨ c = 41) ∨ r = 0 ∧ ¬ (c = 59 ∨ 60 ≤ c ∧ c ≤ 62 ∨ c = 40 ∨ c = 41)))) := by
  refine Ok.of mo_X8_isMarkSign (Nat.le_of_ble_eq_true rfl) ?_
  intro X hX hRm hxn hQ
  show wp g X F_X8_isMarkSign 0 0 0 [(0, c)] [] v ρ Z
  refine r_iload_n (pc := 0) hX 0 rfl rfl ?_
  refine r_bipush (pc := 1) hX 1 rfl (by decide) ?_
  first | refine r_icmp_eq (pc := 3) hX 2 (tgt := 30) rfl (by decide) (⟨by omega, by omega⟩) (⟨by omega, by omega⟩) (fun h3 => ?_) (fun h3 => ?_) | refine r_icmp_eq_any (pc := 3) hX 2 (tgt := 30) rfl (by decide) ?_ ?_
  · refine r_iconst (pc := 30) hX 15 rfl ?_
    refine r_goto (pc := 31) hX 16 (tgt := 35) rfl (by decide) ?_
    exact r_zret (pc := 35) hX 18 hQ rfl rfl ⟨by omega, by omega⟩ (Nat.le_of_ble_eq_true rfl) (Nat.le_of_ble_eq_true rfl) ⟨rfl, rfl, rfl, 1, rfl, (by omega)⟩
  · refine r_iload_n (pc := 6) hX 3 rfl rfl ?_
    refine r_bipush (pc := 7) hX 4 rfl (by decide) ?_
    first | refine r_icmp_lt (pc := 9) hX 5 (tgt := 18) rfl (by decide) (⟨by omega, by omega⟩) (⟨by omega, by omega⟩) (fun h9 => ?_) (fun h9 => ?_) | refine r_icmp_lt_any (pc := 9) hX 5 (tgt := 18) rfl (by decide) ?_ ?_
    · refine r_iload_n (pc := 18) hX 9 rfl rfl ?_
      refine r_bipush (pc := 19) hX 10 rfl (by decide) ?_
      first | refine r_icmp_eq (pc := 21) hX 11 (tgt := 30) rfl (by decide) (⟨by omega, by omega⟩) (⟨by omega, by omega⟩) (fun h21 => ?_) (fun h21 => ?_) | refine r_icmp_eq_any (pc := 21) hX 11 (tgt := 30) rfl (by decide) ?_ ?_
      · refine r_iconst (pc := 30) hX 15 rfl ?_
        refine r_goto (pc := 31) hX 16 (tgt := 35) rfl (by decide) ?_
        exact r_zret (pc := 35) hX 18 hQ rfl rfl ⟨by omega, by omega⟩ (Nat.le_of_ble_eq_true rfl) (Nat.le_of_ble_eq_true rfl) ⟨rfl, rfl, rfl, 1, rfl, (by omega)⟩
      · refine r_iload_n (pc := 24) hX 12 rfl rfl ?_
        refine r_bipush (pc := 25) hX 13 rfl (by decide) ?_
        first | refine r_icmp_ne (pc := 27) hX 14 (tgt := 34) rfl (by decide) (⟨by omega, by omega⟩) (⟨by omega, by omega⟩) (fun h27 => ?_) (fun h27 => ?_) | refine r_icmp_ne_any (pc := 27) hX 14 (tgt := 34) rfl (by decide) ?_ ?_
        · refine r_iconst (pc := 34) hX 17 rfl ?_
          exact r_zret (pc := 35) hX 18 hQ rfl rfl ⟨by omega, by omega⟩ (Nat.le_of_ble_eq_true rfl) (Nat.le_of_ble_eq_true rfl) ⟨rfl, rfl, rfl, 0, rfl, (by omega)⟩
        · refine r_iconst (pc := 30) hX 15 rfl ?_
          refine r_goto (pc := 31) hX 16 (tgt := 35) rfl (by decide) ?_
          exact r_zret (pc := 35) hX 18 hQ rfl rfl ⟨by omega, by omega⟩ (Nat.le_of_ble_eq_true rfl) (Nat.le_of_ble_eq_true rfl) ⟨rfl, rfl, rfl, 1, rfl, (by omega)⟩
    · refine r_iload_n (pc := 12) hX 6 rfl rfl ?_
      refine r_bipush (pc := 13) hX 7 rfl (by decide) ?_
      first | refine r_icmp_le (pc := 15) hX 8 (tgt := 30) rfl (by decide) (⟨by omega, by omega⟩) (⟨by omega, by omega⟩) (fun h15 => ?_) (fun h15 => ?_) | refine r_icmp_le_any (pc := 15) hX 8 (tgt := 30) rfl (by decide) ?_ ?_
      · refine r_iconst (pc := 30) hX 15 rfl ?_
        refine r_goto (pc := 31) hX 16 (tgt := 35) rfl (by decide) ?_
        exact r_zret (pc := 35) hX 18 hQ rfl rfl ⟨by omega, by omega⟩ (Nat.le_of_ble_eq_true rfl) (Nat.le_of_ble_eq_true rfl) ⟨rfl, rfl, rfl, 1, rfl, (by omega)⟩
      · refine r_iload_n (pc := 18) hX 9 rfl rfl ?_
        refine r_bipush (pc := 19) hX 10 rfl (by decide) ?_
        first | refine r_icmp_eq (pc := 21) hX 11 (tgt := 30) rfl (by decide) (⟨by omega, by omega⟩) (⟨by omega, by omega⟩) (fun h21 => ?_) (fun h21 => ?_) | refine r_icmp_eq_any (pc := 21) hX 11 (tgt := 30) rfl (by decide) ?_ ?_
        · refine r_iconst (pc := 30) hX 15 rfl ?_
          refine r_goto (pc := 31) hX 16 (tgt := 35) rfl (by decide) ?_
          exact r_zret (pc := 35) hX 18 hQ rfl rfl ⟨by omega, by omega⟩ (Nat.le_of_ble_eq_true rfl) (Nat.le_of_ble_eq_true rfl) ⟨rfl, rfl, rfl, 1, rfl, (by omega)⟩
        · refine r_iload_n (pc := 24) hX 12 rfl rfl ?_
          refine r_bipush (pc := 25) hX 13 rfl (by decide) ?_
          first | refine r_icmp_ne (pc := 27) hX 14 (tgt := 34) rfl (by decide) (⟨by omega, by omega⟩) (⟨by omega, by omega⟩) (fun h27 => ?_) (fun h27 => ?_) | refine r_icmp_ne_any (pc := 27) hX 14 (tgt := 34) rfl (by decide) ?_ ?_
          · refine r_iconst (pc := 34) hX 17 rfl ?_
            exact r_zret (pc := 35) hX 18 hQ rfl rfl ⟨by omega, by omega⟩ (Nat.le_of_ble_eq_true rfl) (Nat.le_of_ble_eq_true rfl) ⟨rfl, rfl, rfl, 0, rfl, (by omega)⟩
          · refine r_iconst (pc := 30) hX 15 rfl ?_
            refine r_goto (pc := 31) hX 16 (tgt := 35) rfl (by decide) ?_
            exact r_zret (pc := 35) hX 18 hQ rfl rfl ⟨by omega, by omega⟩ (Nat.le_of_ble_eq_true rfl) (Nat.le_of_ble_eq_true rfl) ⟨rfl, rfl, rfl, 1, rfl, (by omega)⟩
set_option maxHeartbeats 4000000 in
set_option maxRecDepth 100000 in
theorem c_X8_isMarkF (g : Gp) (ω : Rw) (v ρ : Mv) (Z : Mz) (hH : HT ω v ρ Z) (t : Int) (ht : ω t = 2) (c : Int) (hcr : inR c) : Ok g 1 0 0 F_X8_isMark [(2, t), (0, c)] v ρ Z (fun o9 v' ρ' Z' => ρ = ρ' ∧ Z = Z' ∧ v = v' ∧ ∃ r : Int, o9 = some (0, r) ∧ ((r = 1 ∧ (v t 4 = 3 ∧ v t 6 = c) ∨ r = 0 ∧ ¬ (v t 4 = 3 ∧ v t 6 = c)))) := by
  refine Ok.of mo_X8_isMark (Nat.le_of_ble_eq_true rfl) ?_
  intro X hX hRm hxn hQ
  show wp g X F_X8_isMark 0 0 0 [(2, t), (0, c)] [] v ρ Z
  refine t_getI (y := (v t 4)) (pc := 0) hX 0 rfl rfl rfl fl_X8_52 rfl (hH.kd ht (by decide)) (rfl) ?_
  have hb0 : 0 ≤ (v t 4) ∧ (v t 4) ≤ 4 := hH.rg ht (by decide) rfl
  refine r_iconst (pc := 4) hX 2 rfl ?_
  first | refine r_icmp_ne (pc := 5) hX 3 (tgt := 20) rfl (by decide) (⟨by omega, by omega⟩) (⟨by omega, by omega⟩) (fun h5 => ?_) (fun h5 => ?_) | refine r_icmp_ne_any (pc := 5) hX 3 (tgt := 20) rfl (by decide) ?_ ?_
  · refine r_iconst (pc := 20) hX 10 rfl ?_
    exact r_zret (pc := 21) hX 11 hQ rfl rfl ⟨by omega, by omega⟩ (Nat.le_of_ble_eq_true rfl) (Nat.le_of_ble_eq_true rfl) ⟨rfl, rfl, rfl, 0, rfl, (by omega)⟩
  · refine t_getI (y := (v t 6)) (pc := 8) hX 4 rfl rfl rfl fl_X8_49 rfl (hH.kd ht (by decide)) (rfl) ?_
    have hb8 : (-2147483648) ≤ (v t 6) ∧ (v t 6) ≤ 2147483647 := hH.rg ht (by decide) rfl
    refine r_iload_n (pc := 12) hX 6 rfl rfl ?_
    first | refine r_icmp_ne (pc := 13) hX 7 (tgt := 20) rfl (by decide) (⟨by omega, by omega⟩) (⟨by omega, by omega⟩) (fun h13 => ?_) (fun h13 => ?_) | refine r_icmp_ne_any (pc := 13) hX 7 (tgt := 20) rfl (by decide) ?_ ?_
    · refine r_iconst (pc := 20) hX 10 rfl ?_
      exact r_zret (pc := 21) hX 11 hQ rfl rfl ⟨by omega, by omega⟩ (Nat.le_of_ble_eq_true rfl) (Nat.le_of_ble_eq_true rfl) ⟨rfl, rfl, rfl, 0, rfl, (by omega)⟩
    · refine r_iconst (pc := 16) hX 8 rfl ?_
      refine r_goto (pc := 17) hX 9 (tgt := 21) rfl (by decide) ?_
      exact r_zret (pc := 21) hX 11 hQ rfl rfl ⟨by omega, by omega⟩ (Nat.le_of_ble_eq_true rfl) (Nat.le_of_ble_eq_true rfl) ⟨rfl, rfl, rfl, 1, rfl, (by omega)⟩
set_option maxHeartbeats 4000000 in
set_option maxRecDepth 100000 in
theorem c_X8_isComparingF (g : Gp) (ω : Rw) (v ρ : Mv) (Z : Mz) (hH : HT ω v ρ Z) (t : Int) (ht : ω t = 2)  : Ok g 1 0 0 F_X8_isComparing [(2, t)] v ρ Z (fun o9 v' ρ' Z' => ρ = ρ' ∧ Z = Z' ∧ v = v' ∧ ∃ r : Int, o9 = some (0, r) ∧ ((r = 1 ∧ (v t 4 = 3 ∧ 60 ≤ v t 6 ∧ v t 6 ≤ 62) ∨ r = 0 ∧ ¬ (v t 4 = 3 ∧ 60 ≤ v t 6 ∧ v t 6 ≤ 62)))) := by
  refine Ok.of mo_X8_isComparing (Nat.le_of_ble_eq_true rfl) ?_
  intro X hX hRm hxn hQ
  show wp g X F_X8_isComparing 0 0 0 [(2, t)] [] v ρ Z
  refine t_getI (y := (v t 4)) (pc := 0) hX 0 rfl rfl rfl fl_X8_52 rfl (hH.kd ht (by decide)) (rfl) ?_
  have hb0 : 0 ≤ (v t 4) ∧ (v t 4) ≤ 4 := hH.rg ht (by decide) rfl
  refine r_iconst (pc := 4) hX 2 rfl ?_
  first | refine r_icmp_ne (pc := 5) hX 3 (tgt := 30) rfl (by decide) (⟨by omega, by omega⟩) (⟨by omega, by omega⟩) (fun h5 => ?_) (fun h5 => ?_) | refine r_icmp_ne_any (pc := 5) hX 3 (tgt := 30) rfl (by decide) ?_ ?_
  · refine r_iconst (pc := 30) hX 14 rfl ?_
    exact r_zret (pc := 31) hX 15 hQ rfl rfl ⟨by omega, by omega⟩ (Nat.le_of_ble_eq_true rfl) (Nat.le_of_ble_eq_true rfl) ⟨rfl, rfl, rfl, 0, rfl, (by omega)⟩
  · refine t_getI (y := (v t 6)) (pc := 8) hX 4 rfl rfl rfl fl_X8_49 rfl (hH.kd ht (by decide)) (rfl) ?_
    have hb8 : (-2147483648) ≤ (v t 6) ∧ (v t 6) ≤ 2147483647 := hH.rg ht (by decide) rfl
    refine r_bipush (pc := 12) hX 6 rfl (by decide) ?_
    first | refine r_icmp_lt (pc := 14) hX 7 (tgt := 30) rfl (by decide) (⟨by omega, by omega⟩) (⟨by omega, by omega⟩) (fun h14 => ?_) (fun h14 => ?_) | refine r_icmp_lt_any (pc := 14) hX 7 (tgt := 30) rfl (by decide) ?_ ?_
    · refine r_iconst (pc := 30) hX 14 rfl ?_
      exact r_zret (pc := 31) hX 15 hQ rfl rfl ⟨by omega, by omega⟩ (Nat.le_of_ble_eq_true rfl) (Nat.le_of_ble_eq_true rfl) ⟨rfl, rfl, rfl, 0, rfl, (by omega)⟩
    · refine t_getI (y := (v t 6)) (pc := 17) hX 8 rfl rfl rfl fl_X8_49 rfl (hH.kd ht (by decide)) (rfl) ?_
      refine r_bipush (pc := 21) hX 10 rfl (by decide) ?_
      first | refine r_icmp_gt (pc := 23) hX 11 (tgt := 30) rfl (by decide) (⟨by omega, by omega⟩) (⟨by omega, by omega⟩) (fun h23 => ?_) (fun h23 => ?_) | refine r_icmp_gt_any (pc := 23) hX 11 (tgt := 30) rfl (by decide) ?_ ?_
      · refine r_iconst (pc := 30) hX 14 rfl ?_
        exact r_zret (pc := 31) hX 15 hQ rfl rfl ⟨by omega, by omega⟩ (Nat.le_of_ble_eq_true rfl) (Nat.le_of_ble_eq_true rfl) ⟨rfl, rfl, rfl, 0, rfl, (by omega)⟩
      · refine r_iconst (pc := 26) hX 12 rfl ?_
        refine r_goto (pc := 27) hX 13 (tgt := 31) rfl (by decide) ?_
        exact r_zret (pc := 31) hX 15 hQ rfl rfl ⟨by omega, by omega⟩ (Nat.le_of_ble_eq_true rfl) (Nat.le_of_ble_eq_true rfl) ⟨rfl, rfl, rfl, 1, rfl, (by omega)⟩
set_option maxHeartbeats 4000000 in
set_option maxRecDepth 100000 in
theorem c_X8_isNameF (g : Gp) (ω : Rw) (v ρ : Mv) (Z : Mz) (hH : HT ω v ρ Z) (t : Int) (ht : ω t = 2)  : Ok g 1 0 0 F_X8_isName [(2, t)] v ρ Z (fun o9 v' ρ' Z' => ρ = ρ' ∧ Z = Z' ∧ v = v' ∧ ∃ r : Int, o9 = some (0, r) ∧ ((r = 1 ∧ (v t 4 = 1 ∧ v t 7 = -1) ∨ r = 0 ∧ ¬ (v t 4 = 1 ∧ v t 7 = -1)))) := by
  refine Ok.of mo_X8_isName (Nat.le_of_ble_eq_true rfl) ?_
  intro X hX hRm hxn hQ
  show wp g X F_X8_isName 0 0 0 [(2, t)] [] v ρ Z
  refine t_getI (y := (v t 4)) (pc := 0) hX 0 rfl rfl rfl fl_X8_52 rfl (hH.kd ht (by decide)) (rfl) ?_
  have hb0 : 0 ≤ (v t 4) ∧ (v t 4) ≤ 4 := hH.rg ht (by decide) rfl
  refine r_iconst (pc := 4) hX 2 rfl ?_
  first | refine r_icmp_ne (pc := 5) hX 3 (tgt := 20) rfl (by decide) (⟨by omega, by omega⟩) (⟨by omega, by omega⟩) (fun h5 => ?_) (fun h5 => ?_) | refine r_icmp_ne_any (pc := 5) hX 3 (tgt := 20) rfl (by decide) ?_ ?_
  · refine r_iconst (pc := 20) hX 10 rfl ?_
    exact r_zret (pc := 21) hX 11 hQ rfl rfl ⟨by omega, by omega⟩ (Nat.le_of_ble_eq_true rfl) (Nat.le_of_ble_eq_true rfl) ⟨rfl, rfl, rfl, 0, rfl, (by omega)⟩
  · refine t_getI (y := (v t 7)) (pc := 8) hX 4 rfl rfl rfl fl_X8_42 rfl (hH.kd ht (by decide)) (rfl) ?_
    have hb8 : (-1) ≤ (v t 7) ∧ (v t 7) ≤ 21 := hH.rg ht (by decide) rfl
    refine r_iconst (pc := 12) hX 6 rfl ?_
    first | refine r_icmp_ne (pc := 13) hX 7 (tgt := 20) rfl (by decide) (⟨by omega, by omega⟩) (⟨by omega, by omega⟩) (fun h13 => ?_) (fun h13 => ?_) | refine r_icmp_ne_any (pc := 13) hX 7 (tgt := 20) rfl (by decide) ?_ ?_
    · refine r_iconst (pc := 20) hX 10 rfl ?_
      exact r_zret (pc := 21) hX 11 hQ rfl rfl ⟨by omega, by omega⟩ (Nat.le_of_ble_eq_true rfl) (Nat.le_of_ble_eq_true rfl) ⟨rfl, rfl, rfl, 0, rfl, (by omega)⟩
    · refine r_iconst (pc := 16) hX 8 rfl ?_
      refine r_goto (pc := 17) hX 9 (tgt := 21) rfl (by decide) ?_
      exact r_zret (pc := 21) hX 11 hQ rfl rfl ⟨by omega, by omega⟩ (Nat.le_of_ble_eq_true rfl) (Nat.le_of_ble_eq_true rfl) ⟨rfl, rfl, rfl, 1, rfl, (by omega)⟩
set_option maxHeartbeats 4000000 in
set_option maxRecDepth 100000 in
theorem c_X8_isNumberF (g : Gp) (ω : Rw) (v ρ : Mv) (Z : Mz) (hH : HT ω v ρ Z) (t : Int) (ht : ω t = 2)  : Ok g 1 0 0 F_X8_isNumber [(2, t)] v ρ Z (fun o9 v' ρ' Z' => ρ = ρ' ∧ Z = Z' ∧ v = v' ∧ ∃ r : Int, o9 = some (0, r) ∧ ((r = 1 ∧ v t 4 = 2 ∨ r = 0 ∧ ¬ v t 4 = 2))) := by
  refine Ok.of mo_X8_isNumber (Nat.le_of_ble_eq_true rfl) ?_
  intro X hX hRm hxn hQ
  show wp g X F_X8_isNumber 0 0 0 [(2, t)] [] v ρ Z
  refine t_getI (y := (v t 4)) (pc := 0) hX 0 rfl rfl rfl fl_X8_52 rfl (hH.kd ht (by decide)) (rfl) ?_
  have hb0 : 0 ≤ (v t 4) ∧ (v t 4) ≤ 4 := hH.rg ht (by decide) rfl
  refine r_iconst (pc := 4) hX 2 rfl ?_
  first | refine r_icmp_ne (pc := 5) hX 3 (tgt := 12) rfl (by decide) (⟨by omega, by omega⟩) (⟨by omega, by omega⟩) (fun h5 => ?_) (fun h5 => ?_) | refine r_icmp_ne_any (pc := 5) hX 3 (tgt := 12) rfl (by decide) ?_ ?_
  · refine r_iconst (pc := 12) hX 6 rfl ?_
    exact r_zret (pc := 13) hX 7 hQ rfl rfl ⟨by omega, by omega⟩ (Nat.le_of_ble_eq_true rfl) (Nat.le_of_ble_eq_true rfl) ⟨rfl, rfl, rfl, 0, rfl, (by omega)⟩
  · refine r_iconst (pc := 8) hX 4 rfl ?_
    refine r_goto (pc := 9) hX 5 (tgt := 13) rfl (by decide) ?_
    exact r_zret (pc := 13) hX 7 hQ rfl rfl ⟨by omega, by omega⟩ (Nat.le_of_ble_eq_true rfl) (Nat.le_of_ble_eq_true rfl) ⟨rfl, rfl, rfl, 1, rfl, (by omega)⟩
set_option maxHeartbeats 4000000 in
set_option maxRecDepth 100000 in
theorem c_X8_isEndF (g : Gp) (ω : Rw) (v ρ : Mv) (Z : Mz) (hH : HT ω v ρ Z) (t : Int) (ht : ω t = 2)  : Ok g 1 0 0 F_X8_isEnd [(2, t)] v ρ Z (fun o9 v' ρ' Z' => ρ = ρ' ∧ Z = Z' ∧ v = v' ∧ ∃ r : Int, o9 = some (0, r) ∧ ((r = 1 ∧ v t 4 = 0 ∨ r = 0 ∧ ¬ v t 4 = 0))) := by
  refine Ok.of mo_X8_isEnd (Nat.le_of_ble_eq_true rfl) ?_
  intro X hX hRm hxn hQ
  show wp g X F_X8_isEnd 0 0 0 [(2, t)] [] v ρ Z
  refine t_getI (y := (v t 4)) (pc := 0) hX 0 rfl rfl rfl fl_X8_52 rfl (hH.kd ht (by decide)) (rfl) ?_
  have hb0 : 0 ≤ (v t 4) ∧ (v t 4) ≤ 4 := hH.rg ht (by decide) rfl
  first | refine r_if_ne (pc := 4) hX 2 (tgt := 11) rfl (by decide) (⟨by omega, by omega⟩) (fun h4 => ?_) (fun h4 => ?_) | refine r_if_ne_any (pc := 4) hX 2 (tgt := 11) rfl (by decide) ?_ ?_
  · refine r_iconst (pc := 11) hX 5 rfl ?_
    exact r_zret (pc := 12) hX 6 hQ rfl rfl ⟨by omega, by omega⟩ (Nat.le_of_ble_eq_true rfl) (Nat.le_of_ble_eq_true rfl) ⟨rfl, rfl, rfl, 0, rfl, (by omega)⟩
  · refine r_iconst (pc := 7) hX 3 rfl ?_
    refine r_goto (pc := 8) hX 4 (tgt := 12) rfl (by decide) ?_
    exact r_zret (pc := 12) hX 6 hQ rfl rfl ⟨by omega, by omega⟩ (Nat.le_of_ble_eq_true rfl) (Nat.le_of_ble_eq_true rfl) ⟨rfl, rfl, rfl, 1, rfl, (by omega)⟩
set_option maxHeartbeats 4000000 in
set_option maxRecDepth 100000 in
theorem c_X8_refuseF (g : Gp) (ω : Rw) (v ρ : Mv) (Z : Mz) (hH : HT ω v ρ Z) (t : Int) (ht : ω t = 2) (k : Int) (hk : 0 ≤ k ∧ k ≤ 4) : Ok g 1 0 0 F_X8_refuse [(2, t), (0, k)] v ρ Z (fun o9 v' ρ' Z' => ρ = ρ' ∧ Z = Z' ∧ FrW ω [2] v v' ∧ HT ω v' ρ Z ∧ ∃ r : Int, o9 = some (0, r) ∧ (r = 0) ∧ (v' t 9 = k ∧ v' t 10 = v t 5) ∧ (∀ j, j ≠ 9 → j ≠ 10 → v' t j = v t j)) := by
  refine Ok.of mo_X8_refuse (Nat.le_of_ble_eq_true rfl) ?_
  intro X hX hRm hxn hQ
  show wp g X F_X8_refuse 0 0 0 [(2, t), (0, k)] [] v ρ Z
  refine r_aload_n (pc := 0) hX 0 rfl rfl ?_
  refine r_iload_n (pc := 1) hX 1 rfl rfl ?_
  refine r_putI (pc := 2) hX 2 rfl fl_X8_25 rfl (fun _ h => by cases h; rfl) (hH.kd ht (by decide)) (hH.g4 ht (by decide)) ?_
  have hH_2 : HT ω (up v t 9 k) ρ Z := hH.upR ht (by decide) rfl (by omega) (by omega)
  show wp g X F_X8_refuse 0 0 5 [(2, t), (0, k)] [] (up v t 9 k) ρ Z
  refine r_aload_n (pc := 5) hX 3 rfl rfl ?_
  refine t_getI (y := (v t 5)) (pc := 6) hX 4 rfl rfl rfl fl_X8_39 rfl (hH_2.kd ht (by decide)) ((up_k (by decide)).trans (rfl)) ?_
  have hb6 : 0 ≤ (v t 5) ∧ (v t 5) ≤ 1000 := hH.rg ht (by decide) rfl
  refine r_putI (pc := 10) hX 6 rfl fl_X8_28 rfl (fun _ h => by cases h; rfl) (hH_2.kd ht (by decide)) (hH_2.g4 ht (by decide)) ?_
  have hH_10 : HT ω (up (up v t 9 k) t 10 (v t 5)) ρ Z := hH_2.upR ht (by decide) rfl (by omega) (by omega)
  show wp g X F_X8_refuse 0 0 13 [(2, t), (0, k)] [] (up (up v t 9 k) t 10 (v t 5)) ρ Z
  refine r_iconst (pc := 13) hX 7 rfl ?_
  exact r_zret (pc := 14) hX 8 hQ rfl rfl ⟨by omega, by omega⟩ (Nat.le_of_ble_eq_true rfl) (Nat.le_of_ble_eq_true rfl) ⟨rfl, rfl, ((FrW.rf).up (r := t) ht (by decide)).up (r := t) ht (by decide), hH_10, 0, rfl, (by omega), (⟨by rw [up_k (by decide), up_s], by rw [up_s]⟩), (fun j a b => by rw [up_k b, up_k a])⟩
set_option maxHeartbeats 4000000 in
set_option maxRecDepth 100000 in
theorem c_X8_readRunF (g : Gp) (ω : Rw) (v ρ : Mv) (Z : Mz) (hH : HT ω v ρ Z) (t : Int) (ht : ω t = 2) (h8 : v t 8 = 0) (h6 : v t 6 = 0) (hq : v t 3 ≤ v t 1) : Ok g 2 0 0 F_X8_readRun [(2, t)] v ρ Z (fun o9 v' ρ' Z' => ρ = ρ' ∧ Z = Z' ∧ FrW ω [2] v v' ∧ HT ω v' ρ Z ∧ o9 = none ∧ (v' t 3 = fs bG (v (ρ t 0)) (v t 1) (v t 3)) ∧ (v' t 4 = rk (v (ρ t 0)) (v t 1) (v t 3)) ∧ ((v' t 4 = 1 → v' t 8 = n32 (v (ρ t 0)) (v t 3) (v' t 3 - v t 3).toNat)) ∧ ((v' t 4 = 2 → v' t 6 = n10 (v (ρ t 0)) (v t 3) (v' t 3 - v t 3).toNat)) ∧ ((∀ j, j ≠ 3 → j ≠ 4 → j ≠ 6 → j ≠ 8 → v' t j = v t j))) := by
  refine Ok.of mo_X8_readRun (Nat.le_of_ble_eq_true rfl) ?_
  intro X hX hRm hxn hQ
  show wp g X F_X8_readRun 0 0 0 [(2, t), (3, 0), (3, 0), (3, 0)] [] v ρ Z
  have hwB : ω (ρ t 0) = 3 := hH.rf ht (by decide) rfl
  have hg_t_3 : 0 ≤ v t 3 ∧ v t 3 ≤ 940 := hH.rg ht (by decide) rfl
  have hg_t_1 : 0 ≤ v t 1 ∧ v t 1 ≤ 940 := hH.rg ht (by decide) rfl
  refine r_iconst (pc := 0) hX 0 rfl ?_
  refine r_istore_n (ls' := [(2, t), (0, 0), (3, 0), (3, 0)]) (pc := 1) hX 1 rfl (by decide) rfl ?_
  refine r_iconst (pc := 2) hX 2 rfl ?_
  refine r_istore_n (ls' := [(2, t), (0, 0), (0, 0), (3, 0)]) (pc := 3) hX 3 rfl (by decide) rfl ?_
  have L4 : ∀ (n4 : Nat) (le dg : Int) (v4 : Mv) , (FrW ω [2] v v4) → (HT ω v4 ρ Z) → (0 ≤ le ∧ 0 ≤ dg ∧ le + dg = v4 t 3 - v t 3 ∧ v t 3 ≤ v4 t 3 ∧ v4 t 3 ≤ v t 1) → (le = cntL (v (ρ t 0)) (v t 3) (v4 t 3 - v t 3).toNat) → (fs bG (v (ρ t 0)) (v t 1) (v4 t 3) = fs bG (v (ρ t 0)) (v t 1) (v t 3)) → ((dg = 0 → v4 t 8 = n32 (v (ρ t 0)) (v t 3) (v4 t 3 - v t 3).toNat)) → ((le = 0 → dg ≤ 2 → v4 t 6 = n10 (v (ρ t 0)) (v t 3) (v4 t 3 - v t 3).toNat)) → ((dg = 0 → v4 t 6 = 0) ∧ (dg = 1 → 0 ≤ v4 t 6 ∧ v4 t 6 ≤ 9)) → (∀ j, j ≠ 3 → j ≠ 4 → j ≠ 6 → j ≠ 8 → v4 t j = v t j) → (940 - v4 t 3).toNat < n4 → wp g X F_X8_readRun 0 0 4 [(2, t), (0, le), (0, dg), (3, 0)] [] v4 ρ Z := by
    intro n4
    induction n4 with
    | zero => intro le dg v4 hfr4 hH4 ii ic ff nn vv vb jj hme4; exact absurd hme4 (Nat.not_lt_zero _)
    | succ n4 ih4 =>
      intro le dg v4 hfr4 hH4 ii ic ff nn vv vb jj hme4
      have eB4 : v4 (ρ t 0) = v (ρ t 0) := hfr4 (ρ t 0) (by rw [hwB]; decide)
      have e14 := jj 1 (by decide) (by decide) (by decide) (by decide)
      refine t_getI (y := (v4 t 3)) (pc := 4) hX 4 rfl rfl rfl fl_X8_22 rfl (hH4.kd ht (by decide)) (rfl) ?_
      have hb4 : 0 ≤ (v4 t 3) ∧ (v4 t 3) ≤ 940 := hH4.rg ht (by decide) rfl
      refine t_getI (y := (v4 t 1)) (pc := 8) hX 6 rfl rfl rfl fl_X8_15 rfl (hH4.kd ht (by decide)) (rfl) ?_
      have hb8 : 0 ≤ (v4 t 1) ∧ (v4 t 1) ≤ 940 := hH4.rg ht (by decide) rfl
      first | refine r_icmp_ge (pc := 12) hX 8 (tgt := 102) rfl (by decide) (⟨by omega, by omega⟩) (⟨by omega, by omega⟩) (fun h12 => ?_) (fun h12 => ?_) | refine r_icmp_ge_any (pc := 12) hX 8 (tgt := 102) rfl (by decide) ?_ ?_
      · have hre := run_end (f := v (ρ t 0)) (n := v t 1) (dg := dg) ii.2.2.2.1 ic ii.2.2.1 ff (fun z => by have z1 := z.1; have z2 := bG_iff.mp z.2; omega)
        refine r_aload_n (pc := 102) hX 56 rfl rfl ?_
        refine r_iconst (pc := 103) hX 57 rfl ?_
        refine r_putI (pc := 104) hX 58 rfl fl_X8_52 rfl (fun _ h => by cases h; rfl) (hH4.kd ht (by decide)) (hH4.g4 ht (by decide)) ?_
        have hH_104 : HT ω (up v4 t 4 4) ρ Z := hH4.upR ht (by decide) rfl (by omega) (by omega)
        show wp g X F_X8_readRun 0 0 107 [(2, t), (0, le), (0, dg), (3, 0)] [] (up v4 t 4 4) ρ Z
        refine r_iload_n (pc := 107) hX 59 rfl rfl ?_
        first | refine r_if_ne (pc := 108) hX 60 (tgt := 125) rfl (by decide) (⟨by omega, by omega⟩) (fun h108 => ?_) (fun h108 => ?_) | refine r_if_ne_any (pc := 108) hX 60 (tgt := 125) rfl (by decide) ?_ ?_
        · refine r_iload_n (pc := 125) hX 68 rfl rfl ?_
          first | refine r_if_ne (pc := 126) hX 69 (tgt := 139) rfl (by decide) (⟨by omega, by omega⟩) (fun h126 => ?_) (fun h126 => ?_) | refine r_if_ne_any (pc := 126) hX 69 (tgt := 139) rfl (by decide) ?_ ?_
          · exact r_vret (pc := 139) hX 76 hQ rfl rfl (Nat.le_of_ble_eq_true rfl) (Nat.le_of_ble_eq_true rfl) ⟨rfl, rfl, (hfr4).up (r := t) ht (by decide), hH_104, rfl, (((show (up v4 t 4 4) t 3 = (v4 t 3) from (up_k (by decide)).trans (rfl))).trans hre.1.symm), (by first | (exfalso; omega) | (rw [(show (up v4 t 4 4) t 4 = 4 from up_s _ _ _ _), hre.2]; (first | (rw [if_pos (by omega)]; done) | (rw [if_neg (by omega)]; first | (rw [if_pos (by omega)]; done) | (rw [if_neg (by omega)]; done))))), (fun z => by first | (exfalso; rw [(show (up v4 t 4 4) t 4 = 4 from up_s _ _ _ _)] at z; omega) | (rw [(show (up v4 t 4 4) t 8 = (v4 t 8) from (up_k (by decide)).trans (rfl)), (show (up v4 t 4 4) t 3 = (v4 t 3) from (up_k (by decide)).trans (rfl))]; exact nn (by omega))), (fun z => by first | (exfalso; rw [(show (up v4 t 4 4) t 4 = 4 from up_s _ _ _ _)] at z; omega) | (rw [(show (up v4 t 4 4) t 6 = (v4 t 6) from (up_k (by decide)).trans (rfl)), (show (up v4 t 4 4) t 3 = (v4 t 3) from (up_k (by decide)).trans (rfl))]; exact vv (by omega) (by omega))), (fun j a b c d => by first | (rw [up_k b, up_k b]; exact jj j a b c d) | (rw [up_k b]; exact jj j a b c d))⟩
          · refine r_iload_n (pc := 129) hX 70 rfl rfl ?_
            refine r_iconst (pc := 130) hX 71 rfl ?_
            first | refine r_icmp_gt (pc := 131) hX 72 (tgt := 139) rfl (by decide) (⟨by omega, by omega⟩) (⟨by omega, by omega⟩) (fun h131 => ?_) (fun h131 => ?_) | refine r_icmp_gt_any (pc := 131) hX 72 (tgt := 139) rfl (by decide) ?_ ?_
            · exact r_vret (pc := 139) hX 76 hQ rfl rfl (Nat.le_of_ble_eq_true rfl) (Nat.le_of_ble_eq_true rfl) ⟨rfl, rfl, (hfr4).up (r := t) ht (by decide), hH_104, rfl, (((show (up v4 t 4 4) t 3 = (v4 t 3) from (up_k (by decide)).trans (rfl))).trans hre.1.symm), (by first | (exfalso; omega) | (rw [(show (up v4 t 4 4) t 4 = 4 from up_s _ _ _ _), hre.2]; (first | (rw [if_pos (by omega)]; done) | (rw [if_neg (by omega)]; first | (rw [if_pos (by omega)]; done) | (rw [if_neg (by omega)]; done))))), (fun z => by first | (exfalso; rw [(show (up v4 t 4 4) t 4 = 4 from up_s _ _ _ _)] at z; omega) | (rw [(show (up v4 t 4 4) t 8 = (v4 t 8) from (up_k (by decide)).trans (rfl)), (show (up v4 t 4 4) t 3 = (v4 t 3) from (up_k (by decide)).trans (rfl))]; exact nn (by omega))), (fun z => by first | (exfalso; rw [(show (up v4 t 4 4) t 4 = 4 from up_s _ _ _ _)] at z; omega) | (rw [(show (up v4 t 4 4) t 6 = (v4 t 6) from (up_k (by decide)).trans (rfl)), (show (up v4 t 4 4) t 3 = (v4 t 3) from (up_k (by decide)).trans (rfl))]; exact vv (by omega) (by omega))), (fun j a b c d => by first | (rw [up_k b, up_k b]; exact jj j a b c d) | (rw [up_k b]; exact jj j a b c d))⟩
            · refine r_aload_n (pc := 134) hX 73 rfl rfl ?_
              refine r_iconst (pc := 135) hX 74 rfl ?_
              refine r_putI (pc := 136) hX 75 rfl fl_X8_52 rfl (fun _ h => by cases h; rfl) (hH_104.kd ht (by decide)) (hH_104.g4 ht (by decide)) ?_
              have hH_136 : HT ω (up (up v4 t 4 4) t 4 2) ρ Z := hH_104.upR ht (by decide) rfl (by omega) (by omega)
              show wp g X F_X8_readRun 0 0 139 [(2, t), (0, le), (0, dg), (3, 0)] [] (up (up v4 t 4 4) t 4 2) ρ Z
              exact r_vret (pc := 139) hX 76 hQ rfl rfl (Nat.le_of_ble_eq_true rfl) (Nat.le_of_ble_eq_true rfl) ⟨rfl, rfl, ((hfr4).up (r := t) ht (by decide)).up (r := t) ht (by decide), hH_136, rfl, (((show (up (up v4 t 4 4) t 4 2) t 3 = (v4 t 3) from (up_k (by decide)).trans ((up_k (by decide)).trans (rfl)))).trans hre.1.symm), (by first | (exfalso; omega) | (rw [(show (up (up v4 t 4 4) t 4 2) t 4 = 2 from up_s _ _ _ _), hre.2]; (first | (rw [if_pos (by omega)]; done) | (rw [if_neg (by omega)]; first | (rw [if_pos (by omega)]; done) | (rw [if_neg (by omega)]; done))))), (fun z => by first | (exfalso; rw [(show (up (up v4 t 4 4) t 4 2) t 4 = 2 from up_s _ _ _ _)] at z; omega) | (rw [(show (up (up v4 t 4 4) t 4 2) t 8 = (v4 t 8) from (up_k (by decide)).trans ((up_k (by decide)).trans (rfl))), (show (up (up v4 t 4 4) t 4 2) t 3 = (v4 t 3) from (up_k (by decide)).trans ((up_k (by decide)).trans (rfl)))]; exact nn (by omega))), (fun z => by first | (exfalso; rw [(show (up (up v4 t 4 4) t 4 2) t 4 = 2 from up_s _ _ _ _)] at z; omega) | (rw [(show (up (up v4 t 4 4) t 4 2) t 6 = (v4 t 6) from (up_k (by decide)).trans ((up_k (by decide)).trans (rfl))), (show (up (up v4 t 4 4) t 4 2) t 3 = (v4 t 3) from (up_k (by decide)).trans ((up_k (by decide)).trans (rfl)))]; exact vv (by omega) (by omega))), (fun j a b c d => by first | (rw [up_k b, up_k b]; exact jj j a b c d) | (rw [up_k b]; exact jj j a b c d))⟩
        · refine r_iload_n (pc := 111) hX 61 rfl rfl ?_
          refine r_bipush (pc := 112) hX 62 rfl (by decide) ?_
          first | refine r_icmp_gt (pc := 114) hX 63 (tgt := 125) rfl (by decide) (⟨by omega, by omega⟩) (⟨by omega, by omega⟩) (fun h114 => ?_) (fun h114 => ?_) | refine r_icmp_gt_any (pc := 114) hX 63 (tgt := 125) rfl (by decide) ?_ ?_
          · refine r_iload_n (pc := 125) hX 68 rfl rfl ?_
            first | refine r_if_ne (pc := 126) hX 69 (tgt := 139) rfl (by decide) (⟨by omega, by omega⟩) (fun h126 => ?_) (fun h126 => ?_) | refine r_if_ne_any (pc := 126) hX 69 (tgt := 139) rfl (by decide) ?_ ?_
            · exact r_vret (pc := 139) hX 76 hQ rfl rfl (Nat.le_of_ble_eq_true rfl) (Nat.le_of_ble_eq_true rfl) ⟨rfl, rfl, (hfr4).up (r := t) ht (by decide), hH_104, rfl, (((show (up v4 t 4 4) t 3 = (v4 t 3) from (up_k (by decide)).trans (rfl))).trans hre.1.symm), (by first | (exfalso; omega) | (rw [(show (up v4 t 4 4) t 4 = 4 from up_s _ _ _ _), hre.2]; (first | (rw [if_pos (by omega)]; done) | (rw [if_neg (by omega)]; first | (rw [if_pos (by omega)]; done) | (rw [if_neg (by omega)]; done))))), (fun z => by first | (exfalso; rw [(show (up v4 t 4 4) t 4 = 4 from up_s _ _ _ _)] at z; omega) | (rw [(show (up v4 t 4 4) t 8 = (v4 t 8) from (up_k (by decide)).trans (rfl)), (show (up v4 t 4 4) t 3 = (v4 t 3) from (up_k (by decide)).trans (rfl))]; exact nn (by omega))), (fun z => by first | (exfalso; rw [(show (up v4 t 4 4) t 4 = 4 from up_s _ _ _ _)] at z; omega) | (rw [(show (up v4 t 4 4) t 6 = (v4 t 6) from (up_k (by decide)).trans (rfl)), (show (up v4 t 4 4) t 3 = (v4 t 3) from (up_k (by decide)).trans (rfl))]; exact vv (by omega) (by omega))), (fun j a b c d => by first | (rw [up_k b, up_k b]; exact jj j a b c d) | (rw [up_k b]; exact jj j a b c d))⟩
            · refine r_iload_n (pc := 129) hX 70 rfl rfl ?_
              refine r_iconst (pc := 130) hX 71 rfl ?_
              first | refine r_icmp_gt (pc := 131) hX 72 (tgt := 139) rfl (by decide) (⟨by omega, by omega⟩) (⟨by omega, by omega⟩) (fun h131 => ?_) (fun h131 => ?_) | refine r_icmp_gt_any (pc := 131) hX 72 (tgt := 139) rfl (by decide) ?_ ?_
              · exact r_vret (pc := 139) hX 76 hQ rfl rfl (Nat.le_of_ble_eq_true rfl) (Nat.le_of_ble_eq_true rfl) ⟨rfl, rfl, (hfr4).up (r := t) ht (by decide), hH_104, rfl, (((show (up v4 t 4 4) t 3 = (v4 t 3) from (up_k (by decide)).trans (rfl))).trans hre.1.symm), (by first | (exfalso; omega) | (rw [(show (up v4 t 4 4) t 4 = 4 from up_s _ _ _ _), hre.2]; (first | (rw [if_pos (by omega)]; done) | (rw [if_neg (by omega)]; first | (rw [if_pos (by omega)]; done) | (rw [if_neg (by omega)]; done))))), (fun z => by first | (exfalso; rw [(show (up v4 t 4 4) t 4 = 4 from up_s _ _ _ _)] at z; omega) | (rw [(show (up v4 t 4 4) t 8 = (v4 t 8) from (up_k (by decide)).trans (rfl)), (show (up v4 t 4 4) t 3 = (v4 t 3) from (up_k (by decide)).trans (rfl))]; exact nn (by omega))), (fun z => by first | (exfalso; rw [(show (up v4 t 4 4) t 4 = 4 from up_s _ _ _ _)] at z; omega) | (rw [(show (up v4 t 4 4) t 6 = (v4 t 6) from (up_k (by decide)).trans (rfl)), (show (up v4 t 4 4) t 3 = (v4 t 3) from (up_k (by decide)).trans (rfl))]; exact vv (by omega) (by omega))), (fun j a b c d => by first | (rw [up_k b, up_k b]; exact jj j a b c d) | (rw [up_k b]; exact jj j a b c d))⟩
              · refine r_aload_n (pc := 134) hX 73 rfl rfl ?_
                refine r_iconst (pc := 135) hX 74 rfl ?_
                refine r_putI (pc := 136) hX 75 rfl fl_X8_52 rfl (fun _ h => by cases h; rfl) (hH_104.kd ht (by decide)) (hH_104.g4 ht (by decide)) ?_
                have hHf1_ : HT ω (up (up v4 t 4 4) t 4 2) ρ Z := hH_104.upR ht (by decide) rfl (by omega) (by omega)
                show wp g X F_X8_readRun 0 0 139 [(2, t), (0, le), (0, dg), (3, 0)] [] (up (up v4 t 4 4) t 4 2) ρ Z
                exact r_vret (pc := 139) hX 76 hQ rfl rfl (Nat.le_of_ble_eq_true rfl) (Nat.le_of_ble_eq_true rfl) ⟨rfl, rfl, ((hfr4).up (r := t) ht (by decide)).up (r := t) ht (by decide), hHf1_, rfl, (((show (up (up v4 t 4 4) t 4 2) t 3 = (v4 t 3) from (up_k (by decide)).trans ((up_k (by decide)).trans (rfl)))).trans hre.1.symm), (by first | (exfalso; omega) | (rw [(show (up (up v4 t 4 4) t 4 2) t 4 = 2 from up_s _ _ _ _), hre.2]; (first | (rw [if_pos (by omega)]; done) | (rw [if_neg (by omega)]; first | (rw [if_pos (by omega)]; done) | (rw [if_neg (by omega)]; done))))), (fun z => by first | (exfalso; rw [(show (up (up v4 t 4 4) t 4 2) t 4 = 2 from up_s _ _ _ _)] at z; omega) | (rw [(show (up (up v4 t 4 4) t 4 2) t 8 = (v4 t 8) from (up_k (by decide)).trans ((up_k (by decide)).trans (rfl))), (show (up (up v4 t 4 4) t 4 2) t 3 = (v4 t 3) from (up_k (by decide)).trans ((up_k (by decide)).trans (rfl)))]; exact nn (by omega))), (fun z => by first | (exfalso; rw [(show (up (up v4 t 4 4) t 4 2) t 4 = 2 from up_s _ _ _ _)] at z; omega) | (rw [(show (up (up v4 t 4 4) t 4 2) t 6 = (v4 t 6) from (up_k (by decide)).trans ((up_k (by decide)).trans (rfl))), (show (up (up v4 t 4 4) t 4 2) t 3 = (v4 t 3) from (up_k (by decide)).trans ((up_k (by decide)).trans (rfl)))]; exact vv (by omega) (by omega))), (fun j a b c d => by first | (rw [up_k b, up_k b]; exact jj j a b c d) | (rw [up_k b]; exact jj j a b c d))⟩
          · refine r_aload_n (pc := 117) hX 64 rfl rfl ?_
            refine r_iconst (pc := 118) hX 65 rfl ?_
            refine r_putI (pc := 119) hX 66 rfl fl_X8_52 rfl (fun _ h => by cases h; rfl) (hH_104.kd ht (by decide)) (hH_104.g4 ht (by decide)) ?_
            have hH_119 : HT ω (up (up v4 t 4 4) t 4 1) ρ Z := hH_104.upR ht (by decide) rfl (by omega) (by omega)
            show wp g X F_X8_readRun 0 0 122 [(2, t), (0, le), (0, dg), (3, 0)] [] (up (up v4 t 4 4) t 4 1) ρ Z
            refine r_goto (pc := 122) hX 67 (tgt := 139) rfl (by decide) ?_
            exact r_vret (pc := 139) hX 76 hQ rfl rfl (Nat.le_of_ble_eq_true rfl) (Nat.le_of_ble_eq_true rfl) ⟨rfl, rfl, ((hfr4).up (r := t) ht (by decide)).up (r := t) ht (by decide), hH_119, rfl, (((show (up (up v4 t 4 4) t 4 1) t 3 = (v4 t 3) from (up_k (by decide)).trans ((up_k (by decide)).trans (rfl)))).trans hre.1.symm), (by first | (exfalso; omega) | (rw [(show (up (up v4 t 4 4) t 4 1) t 4 = 1 from up_s _ _ _ _), hre.2]; (first | (rw [if_pos (by omega)]; done) | (rw [if_neg (by omega)]; first | (rw [if_pos (by omega)]; done) | (rw [if_neg (by omega)]; done))))), (fun z => by first | (exfalso; rw [(show (up (up v4 t 4 4) t 4 1) t 4 = 1 from up_s _ _ _ _)] at z; omega) | (rw [(show (up (up v4 t 4 4) t 4 1) t 8 = (v4 t 8) from (up_k (by decide)).trans ((up_k (by decide)).trans (rfl))), (show (up (up v4 t 4 4) t 4 1) t 3 = (v4 t 3) from (up_k (by decide)).trans ((up_k (by decide)).trans (rfl)))]; exact nn (by omega))), (fun z => by first | (exfalso; rw [(show (up (up v4 t 4 4) t 4 1) t 4 = 1 from up_s _ _ _ _)] at z; omega) | (rw [(show (up (up v4 t 4 4) t 4 1) t 6 = (v4 t 6) from (up_k (by decide)).trans ((up_k (by decide)).trans (rfl))), (show (up (up v4 t 4 4) t 4 1) t 3 = (v4 t 3) from (up_k (by decide)).trans ((up_k (by decide)).trans (rfl)))]; exact vv (by omega) (by omega))), (fun j a b c d => by first | (rw [up_k b, up_k b]; exact jj j a b c d) | (rw [up_k b]; exact jj j a b c d))⟩
      · refine r_aload_n (pc := 15) hX 9 rfl rfl ?_
        refine t_getI (y := (v4 t 3)) (pc := 16) hX 10 rfl rfl rfl fl_X8_22 rfl (hH4.kd ht (by decide)) (rfl) ?_
        refine r_callV (as := [(0, (v4 t 3))]) (st := []) (K := 8) (pc := 20) hX 12 rfl mo_X8_byteAt ml_X8_31 im_X8_byteAt se_X8_byteAt (c_X8_byteAtF g ω v4 ρ Z hH4 t ht ((v4 t 3)) (by omega)) rfl rfl rfl (hH4.kd ht (by decide)) (by rw [hRm]; exact ⟨by decide, by decide⟩) (by rw [hRm]; exact ⟨by decide, by decide⟩) (Nat.le_of_ble_eq_true rfl) (fun o20 v20 ρv20 Zv20 hq20 _ => ?_)
        obtain ⟨rfl, rfl, rfl, r20, rfl, hq20⟩ := hq20
        have hw20_ : ω (ρ t 0) = 3 := hH.rf ht (by decide) rfl
        try rw [show (v4 (ρ t 0)) = (v (ρ t 0)) from (hfr4.rw hw20_ (by decide)).trans (rfl)] at hq20
        show wp g X F_X8_readRun 0 0 23 [(2, t), (0, le), (0, dg), (3, 0)] [(0, r20)] v4 ρ Z
        try rw [eB4] at hq20
        try rw [e14] at hq20
        refine r_callS (as := [(0, r20)]) (st := []) (pc := 23) hX 13 rfl mo_X8_goesOn ml_X8_55 stt_X8_goesOn (c_X8_goesOnF g ω v4 ρ Z hH4 (r20) (by omega)) rfl (by rw [hRm]; exact ⟨by decide, by decide⟩) (by rw [hRm]; exact ⟨by decide, by decide⟩) (Nat.le_of_ble_eq_true rfl) (fun o23 v23 ρv23 Zv23 hq23 _ => ?_)
        obtain ⟨rfl, rfl, rfl, r23, rfl, hq23⟩ := hq23
        show wp g X F_X8_readRun 0 0 26 [(2, t), (0, le), (0, dg), (3, 0)] [(0, r23)] v4 ρ Z
        first | refine r_if_eq (pc := 26) hX 14 (tgt := 102) rfl (by decide) (⟨by omega, by omega⟩) (fun h26 => ?_) (fun h26 => ?_) | refine r_if_eq_any (pc := 26) hX 14 (tgt := 102) rfl (by decide) ?_ ?_
        · have hre := run_end (f := v (ρ t 0)) (n := v t 1) (dg := dg) ii.2.2.2.1 ic ii.2.2.1 ff (fun z => by have z1 := z.1; have z2 := bG_iff.mp z.2; omega)
          refine r_aload_n (pc := 102) hX 56 rfl rfl ?_
          refine r_iconst (pc := 103) hX 57 rfl ?_
          refine r_putI (pc := 104) hX 58 rfl fl_X8_52 rfl (fun _ h => by cases h; rfl) (hH4.kd ht (by decide)) (hH4.g4 ht (by decide)) ?_
          have hHf2_ : HT ω (up v4 t 4 4) ρ Z := hH4.upR ht (by decide) rfl (by omega) (by omega)
          show wp g X F_X8_readRun 0 0 107 [(2, t), (0, le), (0, dg), (3, 0)] [] (up v4 t 4 4) ρ Z
          refine r_iload_n (pc := 107) hX 59 rfl rfl ?_
          first | refine r_if_ne (pc := 108) hX 60 (tgt := 125) rfl (by decide) (⟨by omega, by omega⟩) (fun h108 => ?_) (fun h108 => ?_) | refine r_if_ne_any (pc := 108) hX 60 (tgt := 125) rfl (by decide) ?_ ?_
          · refine r_iload_n (pc := 125) hX 68 rfl rfl ?_
            first | refine r_if_ne (pc := 126) hX 69 (tgt := 139) rfl (by decide) (⟨by omega, by omega⟩) (fun h126 => ?_) (fun h126 => ?_) | refine r_if_ne_any (pc := 126) hX 69 (tgt := 139) rfl (by decide) ?_ ?_
            · exact r_vret (pc := 139) hX 76 hQ rfl rfl (Nat.le_of_ble_eq_true rfl) (Nat.le_of_ble_eq_true rfl) ⟨rfl, rfl, (hfr4).up (r := t) ht (by decide), hHf2_, rfl, (((show (up v4 t 4 4) t 3 = (v4 t 3) from (up_k (by decide)).trans (rfl))).trans hre.1.symm), (by first | (exfalso; omega) | (rw [(show (up v4 t 4 4) t 4 = 4 from up_s _ _ _ _), hre.2]; (first | (rw [if_pos (by omega)]; done) | (rw [if_neg (by omega)]; first | (rw [if_pos (by omega)]; done) | (rw [if_neg (by omega)]; done))))), (fun z => by first | (exfalso; rw [(show (up v4 t 4 4) t 4 = 4 from up_s _ _ _ _)] at z; omega) | (rw [(show (up v4 t 4 4) t 8 = (v4 t 8) from (up_k (by decide)).trans (rfl)), (show (up v4 t 4 4) t 3 = (v4 t 3) from (up_k (by decide)).trans (rfl))]; exact nn (by omega))), (fun z => by first | (exfalso; rw [(show (up v4 t 4 4) t 4 = 4 from up_s _ _ _ _)] at z; omega) | (rw [(show (up v4 t 4 4) t 6 = (v4 t 6) from (up_k (by decide)).trans (rfl)), (show (up v4 t 4 4) t 3 = (v4 t 3) from (up_k (by decide)).trans (rfl))]; exact vv (by omega) (by omega))), (fun j a b c d => by first | (rw [up_k b, up_k b]; exact jj j a b c d) | (rw [up_k b]; exact jj j a b c d))⟩
            · refine r_iload_n (pc := 129) hX 70 rfl rfl ?_
              refine r_iconst (pc := 130) hX 71 rfl ?_
              first | refine r_icmp_gt (pc := 131) hX 72 (tgt := 139) rfl (by decide) (⟨by omega, by omega⟩) (⟨by omega, by omega⟩) (fun h131 => ?_) (fun h131 => ?_) | refine r_icmp_gt_any (pc := 131) hX 72 (tgt := 139) rfl (by decide) ?_ ?_
              · exact r_vret (pc := 139) hX 76 hQ rfl rfl (Nat.le_of_ble_eq_true rfl) (Nat.le_of_ble_eq_true rfl) ⟨rfl, rfl, (hfr4).up (r := t) ht (by decide), hHf2_, rfl, (((show (up v4 t 4 4) t 3 = (v4 t 3) from (up_k (by decide)).trans (rfl))).trans hre.1.symm), (by first | (exfalso; omega) | (rw [(show (up v4 t 4 4) t 4 = 4 from up_s _ _ _ _), hre.2]; (first | (rw [if_pos (by omega)]; done) | (rw [if_neg (by omega)]; first | (rw [if_pos (by omega)]; done) | (rw [if_neg (by omega)]; done))))), (fun z => by first | (exfalso; rw [(show (up v4 t 4 4) t 4 = 4 from up_s _ _ _ _)] at z; omega) | (rw [(show (up v4 t 4 4) t 8 = (v4 t 8) from (up_k (by decide)).trans (rfl)), (show (up v4 t 4 4) t 3 = (v4 t 3) from (up_k (by decide)).trans (rfl))]; exact nn (by omega))), (fun z => by first | (exfalso; rw [(show (up v4 t 4 4) t 4 = 4 from up_s _ _ _ _)] at z; omega) | (rw [(show (up v4 t 4 4) t 6 = (v4 t 6) from (up_k (by decide)).trans (rfl)), (show (up v4 t 4 4) t 3 = (v4 t 3) from (up_k (by decide)).trans (rfl))]; exact vv (by omega) (by omega))), (fun j a b c d => by first | (rw [up_k b, up_k b]; exact jj j a b c d) | (rw [up_k b]; exact jj j a b c d))⟩
              · refine r_aload_n (pc := 134) hX 73 rfl rfl ?_
                refine r_iconst (pc := 135) hX 74 rfl ?_
                refine r_putI (pc := 136) hX 75 rfl fl_X8_52 rfl (fun _ h => by cases h; rfl) (hHf2_.kd ht (by decide)) (hHf2_.g4 ht (by decide)) ?_
                have hHf3_ : HT ω (up (up v4 t 4 4) t 4 2) ρ Z := hHf2_.upR ht (by decide) rfl (by omega) (by omega)
                show wp g X F_X8_readRun 0 0 139 [(2, t), (0, le), (0, dg), (3, 0)] [] (up (up v4 t 4 4) t 4 2) ρ Z
                exact r_vret (pc := 139) hX 76 hQ rfl rfl (Nat.le_of_ble_eq_true rfl) (Nat.le_of_ble_eq_true rfl) ⟨rfl, rfl, ((hfr4).up (r := t) ht (by decide)).up (r := t) ht (by decide), hHf3_, rfl, (((show (up (up v4 t 4 4) t 4 2) t 3 = (v4 t 3) from (up_k (by decide)).trans ((up_k (by decide)).trans (rfl)))).trans hre.1.symm), (by first | (exfalso; omega) | (rw [(show (up (up v4 t 4 4) t 4 2) t 4 = 2 from up_s _ _ _ _), hre.2]; (first | (rw [if_pos (by omega)]; done) | (rw [if_neg (by omega)]; first | (rw [if_pos (by omega)]; done) | (rw [if_neg (by omega)]; done))))), (fun z => by first | (exfalso; rw [(show (up (up v4 t 4 4) t 4 2) t 4 = 2 from up_s _ _ _ _)] at z; omega) | (rw [(show (up (up v4 t 4 4) t 4 2) t 8 = (v4 t 8) from (up_k (by decide)).trans ((up_k (by decide)).trans (rfl))), (show (up (up v4 t 4 4) t 4 2) t 3 = (v4 t 3) from (up_k (by decide)).trans ((up_k (by decide)).trans (rfl)))]; exact nn (by omega))), (fun z => by first | (exfalso; rw [(show (up (up v4 t 4 4) t 4 2) t 4 = 2 from up_s _ _ _ _)] at z; omega) | (rw [(show (up (up v4 t 4 4) t 4 2) t 6 = (v4 t 6) from (up_k (by decide)).trans ((up_k (by decide)).trans (rfl))), (show (up (up v4 t 4 4) t 4 2) t 3 = (v4 t 3) from (up_k (by decide)).trans ((up_k (by decide)).trans (rfl)))]; exact vv (by omega) (by omega))), (fun j a b c d => by first | (rw [up_k b, up_k b]; exact jj j a b c d) | (rw [up_k b]; exact jj j a b c d))⟩
          · refine r_iload_n (pc := 111) hX 61 rfl rfl ?_
            refine r_bipush (pc := 112) hX 62 rfl (by decide) ?_
            first | refine r_icmp_gt (pc := 114) hX 63 (tgt := 125) rfl (by decide) (⟨by omega, by omega⟩) (⟨by omega, by omega⟩) (fun h114 => ?_) (fun h114 => ?_) | refine r_icmp_gt_any (pc := 114) hX 63 (tgt := 125) rfl (by decide) ?_ ?_
            · refine r_iload_n (pc := 125) hX 68 rfl rfl ?_
              first | refine r_if_ne (pc := 126) hX 69 (tgt := 139) rfl (by decide) (⟨by omega, by omega⟩) (fun h126 => ?_) (fun h126 => ?_) | refine r_if_ne_any (pc := 126) hX 69 (tgt := 139) rfl (by decide) ?_ ?_
              · exact r_vret (pc := 139) hX 76 hQ rfl rfl (Nat.le_of_ble_eq_true rfl) (Nat.le_of_ble_eq_true rfl) ⟨rfl, rfl, (hfr4).up (r := t) ht (by decide), hHf2_, rfl, (((show (up v4 t 4 4) t 3 = (v4 t 3) from (up_k (by decide)).trans (rfl))).trans hre.1.symm), (by first | (exfalso; omega) | (rw [(show (up v4 t 4 4) t 4 = 4 from up_s _ _ _ _), hre.2]; (first | (rw [if_pos (by omega)]; done) | (rw [if_neg (by omega)]; first | (rw [if_pos (by omega)]; done) | (rw [if_neg (by omega)]; done))))), (fun z => by first | (exfalso; rw [(show (up v4 t 4 4) t 4 = 4 from up_s _ _ _ _)] at z; omega) | (rw [(show (up v4 t 4 4) t 8 = (v4 t 8) from (up_k (by decide)).trans (rfl)), (show (up v4 t 4 4) t 3 = (v4 t 3) from (up_k (by decide)).trans (rfl))]; exact nn (by omega))), (fun z => by first | (exfalso; rw [(show (up v4 t 4 4) t 4 = 4 from up_s _ _ _ _)] at z; omega) | (rw [(show (up v4 t 4 4) t 6 = (v4 t 6) from (up_k (by decide)).trans (rfl)), (show (up v4 t 4 4) t 3 = (v4 t 3) from (up_k (by decide)).trans (rfl))]; exact vv (by omega) (by omega))), (fun j a b c d => by first | (rw [up_k b, up_k b]; exact jj j a b c d) | (rw [up_k b]; exact jj j a b c d))⟩
              · refine r_iload_n (pc := 129) hX 70 rfl rfl ?_
                refine r_iconst (pc := 130) hX 71 rfl ?_
                first | refine r_icmp_gt (pc := 131) hX 72 (tgt := 139) rfl (by decide) (⟨by omega, by omega⟩) (⟨by omega, by omega⟩) (fun h131 => ?_) (fun h131 => ?_) | refine r_icmp_gt_any (pc := 131) hX 72 (tgt := 139) rfl (by decide) ?_ ?_
                · exact r_vret (pc := 139) hX 76 hQ rfl rfl (Nat.le_of_ble_eq_true rfl) (Nat.le_of_ble_eq_true rfl) ⟨rfl, rfl, (hfr4).up (r := t) ht (by decide), hHf2_, rfl, (((show (up v4 t 4 4) t 3 = (v4 t 3) from (up_k (by decide)).trans (rfl))).trans hre.1.symm), (by first | (exfalso; omega) | (rw [(show (up v4 t 4 4) t 4 = 4 from up_s _ _ _ _), hre.2]; (first | (rw [if_pos (by omega)]; done) | (rw [if_neg (by omega)]; first | (rw [if_pos (by omega)]; done) | (rw [if_neg (by omega)]; done))))), (fun z => by first | (exfalso; rw [(show (up v4 t 4 4) t 4 = 4 from up_s _ _ _ _)] at z; omega) | (rw [(show (up v4 t 4 4) t 8 = (v4 t 8) from (up_k (by decide)).trans (rfl)), (show (up v4 t 4 4) t 3 = (v4 t 3) from (up_k (by decide)).trans (rfl))]; exact nn (by omega))), (fun z => by first | (exfalso; rw [(show (up v4 t 4 4) t 4 = 4 from up_s _ _ _ _)] at z; omega) | (rw [(show (up v4 t 4 4) t 6 = (v4 t 6) from (up_k (by decide)).trans (rfl)), (show (up v4 t 4 4) t 3 = (v4 t 3) from (up_k (by decide)).trans (rfl))]; exact vv (by omega) (by omega))), (fun j a b c d => by first | (rw [up_k b, up_k b]; exact jj j a b c d) | (rw [up_k b]; exact jj j a b c d))⟩
                · refine r_aload_n (pc := 134) hX 73 rfl rfl ?_
                  refine r_iconst (pc := 135) hX 74 rfl ?_
                  refine r_putI (pc := 136) hX 75 rfl fl_X8_52 rfl (fun _ h => by cases h; rfl) (hHf2_.kd ht (by decide)) (hHf2_.g4 ht (by decide)) ?_
                  have hHf4_ : HT ω (up (up v4 t 4 4) t 4 2) ρ Z := hHf2_.upR ht (by decide) rfl (by omega) (by omega)
                  show wp g X F_X8_readRun 0 0 139 [(2, t), (0, le), (0, dg), (3, 0)] [] (up (up v4 t 4 4) t 4 2) ρ Z
                  exact r_vret (pc := 139) hX 76 hQ rfl rfl (Nat.le_of_ble_eq_true rfl) (Nat.le_of_ble_eq_true rfl) ⟨rfl, rfl, ((hfr4).up (r := t) ht (by decide)).up (r := t) ht (by decide), hHf4_, rfl, (((show (up (up v4 t 4 4) t 4 2) t 3 = (v4 t 3) from (up_k (by decide)).trans ((up_k (by decide)).trans (rfl)))).trans hre.1.symm), (by first | (exfalso; omega) | (rw [(show (up (up v4 t 4 4) t 4 2) t 4 = 2 from up_s _ _ _ _), hre.2]; (first | (rw [if_pos (by omega)]; done) | (rw [if_neg (by omega)]; first | (rw [if_pos (by omega)]; done) | (rw [if_neg (by omega)]; done))))), (fun z => by first | (exfalso; rw [(show (up (up v4 t 4 4) t 4 2) t 4 = 2 from up_s _ _ _ _)] at z; omega) | (rw [(show (up (up v4 t 4 4) t 4 2) t 8 = (v4 t 8) from (up_k (by decide)).trans ((up_k (by decide)).trans (rfl))), (show (up (up v4 t 4 4) t 4 2) t 3 = (v4 t 3) from (up_k (by decide)).trans ((up_k (by decide)).trans (rfl)))]; exact nn (by omega))), (fun z => by first | (exfalso; rw [(show (up (up v4 t 4 4) t 4 2) t 4 = 2 from up_s _ _ _ _)] at z; omega) | (rw [(show (up (up v4 t 4 4) t 4 2) t 6 = (v4 t 6) from (up_k (by decide)).trans ((up_k (by decide)).trans (rfl))), (show (up (up v4 t 4 4) t 4 2) t 3 = (v4 t 3) from (up_k (by decide)).trans ((up_k (by decide)).trans (rfl)))]; exact vv (by omega) (by omega))), (fun j a b c d => by first | (rw [up_k b, up_k b]; exact jj j a b c d) | (rw [up_k b]; exact jj j a b c d))⟩
            · refine r_aload_n (pc := 117) hX 64 rfl rfl ?_
              refine r_iconst (pc := 118) hX 65 rfl ?_
              refine r_putI (pc := 119) hX 66 rfl fl_X8_52 rfl (fun _ h => by cases h; rfl) (hHf2_.kd ht (by decide)) (hHf2_.g4 ht (by decide)) ?_
              have hHf5_ : HT ω (up (up v4 t 4 4) t 4 1) ρ Z := hHf2_.upR ht (by decide) rfl (by omega) (by omega)
              show wp g X F_X8_readRun 0 0 122 [(2, t), (0, le), (0, dg), (3, 0)] [] (up (up v4 t 4 4) t 4 1) ρ Z
              refine r_goto (pc := 122) hX 67 (tgt := 139) rfl (by decide) ?_
              exact r_vret (pc := 139) hX 76 hQ rfl rfl (Nat.le_of_ble_eq_true rfl) (Nat.le_of_ble_eq_true rfl) ⟨rfl, rfl, ((hfr4).up (r := t) ht (by decide)).up (r := t) ht (by decide), hHf5_, rfl, (((show (up (up v4 t 4 4) t 4 1) t 3 = (v4 t 3) from (up_k (by decide)).trans ((up_k (by decide)).trans (rfl)))).trans hre.1.symm), (by first | (exfalso; omega) | (rw [(show (up (up v4 t 4 4) t 4 1) t 4 = 1 from up_s _ _ _ _), hre.2]; (first | (rw [if_pos (by omega)]; done) | (rw [if_neg (by omega)]; first | (rw [if_pos (by omega)]; done) | (rw [if_neg (by omega)]; done))))), (fun z => by first | (exfalso; rw [(show (up (up v4 t 4 4) t 4 1) t 4 = 1 from up_s _ _ _ _)] at z; omega) | (rw [(show (up (up v4 t 4 4) t 4 1) t 8 = (v4 t 8) from (up_k (by decide)).trans ((up_k (by decide)).trans (rfl))), (show (up (up v4 t 4 4) t 4 1) t 3 = (v4 t 3) from (up_k (by decide)).trans ((up_k (by decide)).trans (rfl)))]; exact nn (by omega))), (fun z => by first | (exfalso; rw [(show (up (up v4 t 4 4) t 4 1) t 4 = 1 from up_s _ _ _ _)] at z; omega) | (rw [(show (up (up v4 t 4 4) t 4 1) t 6 = (v4 t 6) from (up_k (by decide)).trans ((up_k (by decide)).trans (rfl))), (show (up (up v4 t 4 4) t 4 1) t 3 = (v4 t 3) from (up_k (by decide)).trans ((up_k (by decide)).trans (rfl)))]; exact vv (by omega) (by omega))), (fun j a b c d => by first | (rw [up_k b, up_k b]; exact jj j a b c d) | (rw [up_k b]; exact jj j a b c d))⟩
        · refine r_aload_n (pc := 29) hX 15 rfl rfl ?_
          refine t_getI (y := (v4 t 3)) (pc := 30) hX 16 rfl rfl rfl fl_X8_22 rfl (hH4.kd ht (by decide)) (rfl) ?_
          refine r_callV (as := [(0, (v4 t 3))]) (st := []) (K := 8) (pc := 34) hX 18 rfl mo_X8_byteAt ml_X8_31 im_X8_byteAt se_X8_byteAt (c_X8_byteAtF g ω v4 ρ Z hH4 t ht ((v4 t 3)) (by omega)) rfl rfl rfl (hH4.kd ht (by decide)) (by rw [hRm]; exact ⟨by decide, by decide⟩) (by rw [hRm]; exact ⟨by decide, by decide⟩) (Nat.le_of_ble_eq_true rfl) (fun o34 v34 ρv34 Zv34 hq34 _ => ?_)
          obtain ⟨rfl, rfl, rfl, r34, rfl, hq34⟩ := hq34
          try rw [show (v4 (ρ t 0)) = (v (ρ t 0)) from (hfr4.rw hw20_ (by decide)).trans (rfl)] at hq34
          show wp g X F_X8_readRun 0 0 37 [(2, t), (0, le), (0, dg), (3, 0)] [(0, r34)] v4 ρ Z
          try rw [eB4] at hq34
          try rw [e14] at hq34
          refine r_istore_n (ls' := [(2, t), (0, le), (0, dg), (0, r34)]) (pc := 37) hX 19 rfl (by decide) rfl ?_
          refine r_aload_n (pc := 38) hX 20 rfl rfl ?_
          refine r_dup (pc := 39) hX 21 rfl (show (2 : Nat) ≠ 1 by decide) ?_
          refine e_getI (y := (v4 t 3)) (pc := 40) hX 22 rfl fl_X8_22 rfl (hH4.kd ht (by decide)) (rfl) ?_
          refine r_iconst (pc := 43) hX 23 rfl ?_
          refine r_iadd (pc := 44) hX 24 rfl ?_
          refine r_putI (pc := 45) hX 25 rfl fl_X8_22 rfl (fun _ h => by cases h; rfl) (hH4.kd ht (by decide)) (hH4.g4 ht (by decide)) ?_
          have hH_45 : HT ω (up v4 t 3 ((v4 t 3) + 1)) ρ Z := hH4.upR ht (by decide) rfl (by omega) (by omega)
          show wp g X F_X8_readRun 0 0 48 [(2, t), (0, le), (0, dg), (0, r34)] [] (up v4 t 3 ((v4 t 3) + 1)) ρ Z
          refine r_iload_n (pc := 48) hX 26 rfl rfl ?_
          refine r_bipush (pc := 49) hX 27 rfl (by decide) ?_
          first | refine r_icmp_lt (pc := 51) hX 28 (tgt := 80) rfl (by decide) (⟨by omega, by omega⟩) (⟨by omega, by omega⟩) (fun h51 => ?_) (fun h51 => ?_) | refine r_icmp_lt_any (pc := 51) hX 28 (tgt := 80) rfl (by decide) ?_ ?_
          · refine r_iinc (ls' := [(2, t), (0, le), (0, (dg + 1)), (0, r34)]) (pc := 80) hX 44 rfl rfl (by decide) rfl ?_
            refine r_aload_n (pc := 83) hX 45 rfl rfl ?_
            refine t_getI (y := (v4 t 6)) (pc := 84) hX 46 rfl rfl rfl fl_X8_49 rfl (hH_45.kd ht (by decide)) ((up_k (by decide)).trans (rfl)) ?_
            have hb84 : (-2147483648) ≤ (v4 t 6) ∧ (v4 t 6) ≤ 2147483647 := hH4.rg ht (by decide) rfl
            refine r_bipush (pc := 88) hX 48 rfl (by decide) ?_
            refine r_imul (pc := 90) hX 49 rfl ?_
            refine r_iload_n (pc := 91) hX 50 rfl rfl ?_
            refine r_bipush (pc := 92) hX 51 rfl (by decide) ?_
            refine r_isub (pc := 94) hX 52 rfl ?_
            refine r_iadd (pc := 95) hX 53 rfl ?_
            refine r_inrm _ (fun z95 hz95 hez95 => ?_)
            refine r_putI (pc := 96) hX 54 rfl fl_X8_49 rfl (fun _ h => by cases h; rfl) (hH_45.kd ht (by decide)) (hH_45.g4 ht (by decide)) ?_
            have hH_96 : HT ω (up (up v4 t 3 ((v4 t 3) + 1)) t 6 z95) ρ Z := hH_45.upR ht (by decide) rfl (by omega) (by omega)
            show wp g X F_X8_readRun 0 0 99 [(2, t), (0, le), (0, (dg + 1)), (0, r34)] [] (up (up v4 t 3 ((v4 t 3) + 1)) t 6 z95) ρ Z
            refine r_goto (pc := 99) hX 55 (tgt := 4) rfl (by decide) ?_
            refine r_wk (ls' := [(2, t), (0, le), (0, (dg + 1)), (3, 0)]) ⟨Or.inr rfl, Or.inr rfl, Or.inr rfl, Or.inl rfl, trivial⟩ ?_
            exact (ih4 le (dg + 1) (up (up v4 t 3 ((v4 t 3) + 1)) t 6 z95) (((hfr4).up (r := t) ht (by decide)).up (r := t) ht (by decide)) (hH_96) (by rw [(show (up (up v4 t 3 ((v4 t 3) + 1)) t 6 z95) t 3 = ((v4 t 3) + 1) from (up_k (by decide)).trans (up_s _ _ _ _))]; omega) (by rw [(show (up (up v4 t 3 ((v4 t 3) + 1)) t 6 z95) t 3 = ((v4 t 3) + 1) from (up_k (by decide)).trans (up_s _ _ _ _)), cntL_s (by omega), ← ic]; (first | rw [if_pos (bL_iff.mpr (by omega))] | (rw [if_neg (fun z => by have := bL_iff.mp z; omega)]; omega))) (by rw [(show (up (up v4 t 3 ((v4 t 3) + 1)) t 6 z95) t 3 = ((v4 t 3) + 1) from (up_k (by decide)).trans (up_s _ _ _ _)), ← fs_step (by omega) (bG_iff.mpr (by omega))]; exact ff) (fun z => by first | (exfalso; omega) | (rw [(show (up (up v4 t 3 ((v4 t 3) + 1)) t 6 z95) t 8 = (v4 t 8) from (up_k (by decide)).trans ((up_k (by decide)).trans (rfl))), (show (up (up v4 t 3 ((v4 t 3) + 1)) t 6 z95) t 3 = ((v4 t 3) + 1) from (up_k (by decide)).trans (up_s _ _ _ _)), n32_s (by omega), ← nn z]; omega)) (fun z1 z2 => by first | (exfalso; omega) | (rw [(show (up (up v4 t 3 ((v4 t 3) + 1)) t 6 z95) t 6 = z95 from up_s _ _ _ _), (show (up (up v4 t 3 ((v4 t 3) + 1)) t 6 z95) t 3 = ((v4 t 3) + 1) from (up_k (by decide)).trans (up_s _ _ _ _)), n10_s (by omega), ← vv z1 (by omega)]; have := hez95 ⟨by omega, by omega⟩; omega)) (by rw [(show (up (up v4 t 3 ((v4 t 3) + 1)) t 6 z95) t 6 = z95 from up_s _ _ _ _)]; first | omega | (have := hez95; omega)) (fun j a b c d => by first | (rw [up_k d, up_k a]; exact jj j a b c d) | (rw [up_k c, up_k a]; exact jj j a b c d)) (by rw [(show (up (up v4 t 3 ((v4 t 3) + 1)) t 6 z95) t 3 = ((v4 t 3) + 1) from (up_k (by decide)).trans (up_s _ _ _ _))]; omega))
          · refine r_iinc (ls' := [(2, t), (0, (le + 1)), (0, dg), (0, r34)]) (pc := 54) hX 29 rfl rfl (by decide) rfl ?_
            refine r_aload_n (pc := 57) hX 30 rfl rfl ?_
            refine t_getL (y := (v4 t 8)) (pc := 58) hX 31 rfl rfl rfl fl_X8_45 rfl (hH_45.kd ht (by decide)) ((up_k (by decide)).trans (rfl)) ?_
            refine r_ldc2 (y := 32) (pc := 62) hX 33 rfl kl_X8_68 (by decide) ?_
            refine r_lmul (pc := 65) hX 34 rfl ?_
            refine r_iload_n (pc := 66) hX 35 rfl rfl ?_
            refine r_bipush (pc := 67) hX 36 rfl (by decide) ?_
            refine r_isub (pc := 69) hX 37 rfl ?_
            refine r_iconst (pc := 70) hX 38 rfl ?_
            refine r_iadd (pc := 71) hX 39 rfl ?_
            refine r_i2l (pc := 72) hX 40 rfl ⟨by omega, by omega⟩ ?_
            refine r_ladd (pc := 73) hX 41 rfl ?_
            refine r_putL (pc := 74) hX 42 rfl fl_X8_45 rfl (fun _ h => by cases h; rfl) (hH_45.kd ht (by decide)) (hH_45.g4 ht (by decide)) ?_
            have hH_74 : HT ω (up (up v4 t 3 ((v4 t 3) + 1)) t 8 (((v4 t 8) * 32) + ((r34 - 97) + 1))) ρ Z := hH_45.up0 ht (by decide) rfl
            show wp g X F_X8_readRun 0 0 77 [(2, t), (0, (le + 1)), (0, dg), (0, r34)] [] (up (up v4 t 3 ((v4 t 3) + 1)) t 8 (((v4 t 8) * 32) + ((r34 - 97) + 1))) ρ Z
            refine r_goto (pc := 77) hX 43 (tgt := 99) rfl (by decide) ?_
            refine r_goto (pc := 99) hX 55 (tgt := 4) rfl (by decide) ?_
            refine r_wk (ls' := [(2, t), (0, (le + 1)), (0, dg), (3, 0)]) ⟨Or.inr rfl, Or.inr rfl, Or.inr rfl, Or.inl rfl, trivial⟩ ?_
            exact (ih4 (le + 1) dg (up (up v4 t 3 ((v4 t 3) + 1)) t 8 (((v4 t 8) * 32) + ((r34 - 97) + 1))) (((hfr4).up (r := t) ht (by decide)).up (r := t) ht (by decide)) (hH_74) (by rw [(show (up (up v4 t 3 ((v4 t 3) + 1)) t 8 (((v4 t 8) * 32) + ((r34 - 97) + 1))) t 3 = ((v4 t 3) + 1) from (up_k (by decide)).trans (up_s _ _ _ _))]; omega) (by rw [(show (up (up v4 t 3 ((v4 t 3) + 1)) t 8 (((v4 t 8) * 32) + ((r34 - 97) + 1))) t 3 = ((v4 t 3) + 1) from (up_k (by decide)).trans (up_s _ _ _ _)), cntL_s (by omega), ← ic]; (first | rw [if_pos (bL_iff.mpr (by omega))] | (rw [if_neg (fun z => by have := bL_iff.mp z; omega)]; omega))) (by rw [(show (up (up v4 t 3 ((v4 t 3) + 1)) t 8 (((v4 t 8) * 32) + ((r34 - 97) + 1))) t 3 = ((v4 t 3) + 1) from (up_k (by decide)).trans (up_s _ _ _ _)), ← fs_step (by omega) (bG_iff.mpr (by omega))]; exact ff) (fun z => by first | (exfalso; omega) | (rw [(show (up (up v4 t 3 ((v4 t 3) + 1)) t 8 (((v4 t 8) * 32) + ((r34 - 97) + 1))) t 8 = (((v4 t 8) * 32) + ((r34 - 97) + 1)) from up_s _ _ _ _), (show (up (up v4 t 3 ((v4 t 3) + 1)) t 8 (((v4 t 8) * 32) + ((r34 - 97) + 1))) t 3 = ((v4 t 3) + 1) from (up_k (by decide)).trans (up_s _ _ _ _)), n32_s (by omega), ← nn z]; omega)) (fun z1 z2 => by first | (exfalso; omega) | (rw [(show (up (up v4 t 3 ((v4 t 3) + 1)) t 8 (((v4 t 8) * 32) + ((r34 - 97) + 1))) t 6 = (v4 t 6) from (up_k (by decide)).trans ((up_k (by decide)).trans (rfl))), (show (up (up v4 t 3 ((v4 t 3) + 1)) t 8 (((v4 t 8) * 32) + ((r34 - 97) + 1))) t 3 = ((v4 t 3) + 1) from (up_k (by decide)).trans (up_s _ _ _ _)), n10_s (by omega), ← vv z1 (by omega)]; have := hez95 ⟨by omega, by omega⟩; omega)) (by rw [(show (up (up v4 t 3 ((v4 t 3) + 1)) t 8 (((v4 t 8) * 32) + ((r34 - 97) + 1))) t 6 = (v4 t 6) from (up_k (by decide)).trans ((up_k (by decide)).trans (rfl)))]; first | omega | (have := hez95; omega)) (fun j a b c d => by first | (rw [up_k d, up_k a]; exact jj j a b c d) | (rw [up_k c, up_k a]; exact jj j a b c d)) (by rw [(show (up (up v4 t 3 ((v4 t 3) + 1)) t 8 (((v4 t 8) * 32) + ((r34 - 97) + 1))) t 3 = ((v4 t 3) + 1) from (up_k (by decide)).trans (up_s _ _ _ _))]; omega))
  exact (L4 _ 0 0 v (FrW.rf) (hH) (by omega) (by rw [show (v t 3 - v t 3).toNat = 0 by omega]; rfl) (rfl) (fun _ => by rw [h8, show (v t 3 - v t 3).toNat = 0 by omega]; rfl) (fun _ _ => by rw [h6, show (v t 3 - v t 3).toNat = 0 by omega]; rfl) (by omega) (fun _ _ _ _ _ => rfl) (Nat.lt_succ_self _))
set_option maxHeartbeats 4000000 in
set_option maxRecDepth 100000 in
theorem c_X8_advanceF (g : Gp) (ω : Rw) (v ρ : Mv) (Z : Mz) (hH : HT ω v ρ Z) (t : Int) (ht : ω t = 2) (hq : v t 3 ≤ v t 1) : Ok g 6 0 0 F_X8_advance [(2, t)] v ρ Z (fun o9 v' ρ' Z' => ρ = ρ' ∧ Z = Z' ∧ FrW ω [2] v v' ∧ HT ω v' ρ Z ∧ o9 = none ∧ (v' t 3 = tp (v (ρ t 0)) (v t 1) (v t 2) (v t 3)) ∧ (v' t 4 = tk (v (ρ t 0)) (v t 1) (v t 2) (v t 3)) ∧ (v' t 5 = ta (v (ρ t 0)) (v t 1) (v t 2) (v t 3)) ∧ ((v' t 4 = 2 ∨ v' t 4 = 3 → v' t 6 = tv (v (ρ t 0)) (v t 1) (v t 3))) ∧ ((v' t 4 = 1 → v' t 8 = tn (v (ρ t 0)) (v t 1) (v t 3))) ∧ (v' t 7 = (if v' t 4 = 1 then kix (v' t 8) else -1)) ∧ (∀ j, j = 1 ∨ j = 2 ∨ j = 9 ∨ j = 10 → v' t j = v t j)) := by
  refine Ok.of mo_X8_advance (Nat.le_of_ble_eq_true rfl) ?_
  intro X hX hRm hxn hQ
  show wp g X F_X8_advance 0 0 0 [(2, t)] [] v ρ Z
  have hwB : ω (ρ t 0) = 3 := hH.rf ht (by decide) rfl
  have hg_t_3 : 0 ≤ v t 3 ∧ v t 3 ≤ 940 := hH.rg ht (by decide) rfl
  have hg_t_1 : 0 ≤ v t 1 ∧ v t 1 ≤ 940 := hH.rg ht (by decide) rfl
  have hg_t_2 : 0 ≤ v t 2 ∧ v t 2 ≤ 1000 := hH.rg ht (by decide) rfl
  have L0 : ∀ (n0 : Nat) (v0 : Mv) , (FrW ω [2] v v0) → (HT ω v0 ρ Z) → (v t 3 ≤ v0 t 3 ∧ v0 t 3 ≤ v t 1) → (fs bB (v (ρ t 0)) (v t 1) (v0 t 3) = tq (v (ρ t 0)) (v t 1) (v t 3)) → (∀ j, j ≠ 3 → v0 t j = v t j) → (940 - v0 t 3).toNat < n0 → wp g X F_X8_advance 0 0 0 [(2, t)] [] v0 ρ Z := by
    intro n0
    induction n0 with
    | zero => intro v0 hfr0 hH0 ii ff jj hme0; exact absurd hme0 (Nat.not_lt_zero _)
    | succ n0 ih0 =>
      intro v0 hfr0 hH0 ii ff jj hme0
      have eB0 : v0 (ρ t 0) = v (ρ t 0) := hfr0 (ρ t 0) (by rw [hwB]; decide)
      have e10 := jj 1 (by decide)
      refine t_getI (y := (v0 t 3)) (pc := 0) hX 0 rfl rfl rfl fl_X8_22 rfl (hH0.kd ht (by decide)) (rfl) ?_
      have hb0 : 0 ≤ (v0 t 3) ∧ (v0 t 3) ≤ 940 := hH0.rg ht (by decide) rfl
      refine t_getI (y := (v0 t 1)) (pc := 4) hX 2 rfl rfl rfl fl_X8_15 rfl (hH0.kd ht (by decide)) (rfl) ?_
      have hb4 : 0 ≤ (v0 t 1) ∧ (v0 t 1) ≤ 940 := hH0.rg ht (by decide) rfl
      have L38 : (tq (v (ρ t 0)) (v t 1) (v t 3) = v0 t 3) → wp g X F_X8_advance 0 0 38 [(2, t)] [] v0 ρ Z := by
        intro hqe
        have e20 := jj 2 (by decide)
        refine r_aload_n (pc := 38) hX 18 rfl rfl ?_
        refine t_getI (y := (v0 t 3)) (pc := 39) hX 19 rfl rfl rfl fl_X8_22 rfl (hH0.kd ht (by decide)) (rfl) ?_
        refine r_putI (pc := 43) hX 21 rfl fl_X8_39 rfl (fun _ h => by cases h; rfl) (hH0.kd ht (by decide)) (hH0.g4 ht (by decide)) ?_
        have hH_43 : HT ω (up v0 t 5 (v0 t 3)) ρ Z := hH0.upR ht (by decide) rfl (by omega) (by omega)
        show wp g X F_X8_advance 0 0 46 [(2, t)] [] (up v0 t 5 (v0 t 3)) ρ Z
        refine r_aload_n (pc := 46) hX 22 rfl rfl ?_
        refine r_iconst (pc := 47) hX 23 rfl ?_
        refine r_putI (pc := 48) hX 24 rfl fl_X8_42 rfl (fun _ h => by cases h; rfl) (hH_43.kd ht (by decide)) (hH_43.g4 ht (by decide)) ?_
        have hH_48 : HT ω (up (up v0 t 5 (v0 t 3)) t 7 (-1)) ρ Z := hH_43.upR ht (by decide) rfl (by omega) (by omega)
        show wp g X F_X8_advance 0 0 51 [(2, t)] [] (up (up v0 t 5 (v0 t 3)) t 7 (-1)) ρ Z
        refine r_aload_n (pc := 51) hX 25 rfl rfl ?_
        refine r_lconst (pc := 52) hX 26 rfl ?_
        show wp g X F_X8_advance 0 0 53 [(2, t)] [(1, 0), (2, t)] (up (up v0 t 5 (v0 t 3)) t 7 (-1)) ρ Z
        refine r_putL (pc := 53) hX 27 rfl fl_X8_45 rfl (fun _ h => by cases h; rfl) (hH_48.kd ht (by decide)) (hH_48.g4 ht (by decide)) ?_
        have hH_53 : HT ω (up (up (up v0 t 5 (v0 t 3)) t 7 (-1)) t 8 0) ρ Z := hH_48.up0 ht (by decide) rfl
        show wp g X F_X8_advance 0 0 56 [(2, t)] [] (up (up (up v0 t 5 (v0 t 3)) t 7 (-1)) t 8 0) ρ Z
        refine r_aload_n (pc := 56) hX 28 rfl rfl ?_
        refine r_iconst (pc := 57) hX 29 rfl ?_
        refine r_putI (pc := 58) hX 30 rfl fl_X8_49 rfl (fun _ h => by cases h; rfl) (hH_53.kd ht (by decide)) (hH_53.g4 ht (by decide)) ?_
        have hH_58 : HT ω (up (up (up (up v0 t 5 (v0 t 3)) t 7 (-1)) t 8 0) t 6 0) ρ Z := hH_53.upR ht (by decide) rfl (by omega) (by omega)
        show wp g X F_X8_advance 0 0 61 [(2, t)] [] (up (up (up (up v0 t 5 (v0 t 3)) t 7 (-1)) t 8 0) t 6 0) ρ Z
        refine t_getI (y := (v0 t 1)) (pc := 61) hX 31 rfl rfl rfl fl_X8_15 rfl (hH_58.kd ht (by decide)) ((up_k (by decide)).trans ((up_k (by decide)).trans ((up_k (by decide)).trans ((up_k (by decide)).trans (rfl))))) ?_
        refine t_getI (y := (v0 t 2)) (pc := 65) hX 33 rfl rfl rfl fl_X8_19 rfl (hH_58.kd ht (by decide)) ((up_k (by decide)).trans ((up_k (by decide)).trans ((up_k (by decide)).trans ((up_k (by decide)).trans (rfl))))) ?_
        have hb65 : 0 ≤ (v0 t 2) ∧ (v0 t 2) ≤ 1000 := hH0.rg ht (by decide) rfl
        have L99 : (¬ (v t 2 < v t 1 ∧ v t 2 ≤ v0 t 3)) → wp g X F_X8_advance 0 0 99 [(2, t)] [] (up (up (up (up v0 t 5 (v0 t 3)) t 7 (-1)) t 8 0) t 6 0) ρ Z := by
          intro hlm
          refine t_getI (y := (v0 t 3)) (pc := 99) hX 49 rfl rfl rfl fl_X8_22 rfl (hH_58.kd ht (by decide)) ((up_k (by decide)).trans ((up_k (by decide)).trans ((up_k (by decide)).trans ((up_k (by decide)).trans (rfl))))) ?_
          refine t_getI (y := (v0 t 1)) (pc := 103) hX 51 rfl rfl rfl fl_X8_15 rfl (hH_58.kd ht (by decide)) ((up_k (by decide)).trans ((up_k (by decide)).trans ((up_k (by decide)).trans ((up_k (by decide)).trans (rfl))))) ?_
          first | refine r_icmp_lt (pc := 107) hX 53 (tgt := 118) rfl (by decide) (⟨by omega, by omega⟩) (⟨by omega, by omega⟩) (fun h107 => ?_) (fun h107 => ?_) | refine r_icmp_lt_any (pc := 107) hX 53 (tgt := 118) rfl (by decide) ?_ ?_
          · refine r_aload_n (pc := 118) hX 58 rfl rfl ?_
            refine t_getI (y := (v0 t 3)) (pc := 119) hX 59 rfl rfl rfl fl_X8_22 rfl (hH_58.kd ht (by decide)) ((up_k (by decide)).trans ((up_k (by decide)).trans ((up_k (by decide)).trans ((up_k (by decide)).trans (rfl))))) ?_
            refine r_callV (as := [(0, (v0 t 3))]) (st := []) (K := 8) (pc := 123) hX 61 rfl mo_X8_byteAt ml_X8_31 im_X8_byteAt se_X8_byteAt (c_X8_byteAtF g ω (up (up (up (up v0 t 5 (v0 t 3)) t 7 (-1)) t 8 0) t 6 0) ρ Z hH_58 t ht ((v0 t 3)) (by omega)) rfl rfl rfl (hH_58.kd ht (by decide)) (by rw [hRm]; exact ⟨by decide, by decide⟩) (by rw [hRm]; exact ⟨by decide, by decide⟩) (Nat.le_of_ble_eq_true rfl) (fun o123 v123 ρv123 Zv123 hq123 _ => ?_)
            obtain ⟨rfl, rfl, rfl, r123, rfl, hq123⟩ := hq123
            have hw123_ : ω (ρ t 0) = 3 := hH.rf ht (by decide) rfl
            try rw [show ((up (up (up (up v0 t 5 (v0 t 3)) t 7 (-1)) t 8 0) t 6 0) t 1) = (v0 t 1) from (up_k (by decide)).trans ((up_k (by decide)).trans ((up_k (by decide)).trans ((up_k (by decide)).trans (rfl))))] at hq123
            try rw [show ((up (up (up (up v0 t 5 (v0 t 3)) t 7 (-1)) t 8 0) t 6 0) (ρ t 0)) = (v (ρ t 0)) from (up_f (rne hw123_ ht (by decide))).trans ((up_f (rne hw123_ ht (by decide))).trans ((up_f (rne hw123_ ht (by decide))).trans ((up_f (rne hw123_ ht (by decide))).trans ((hfr0.rw hw123_ (by decide)).trans (rfl)))))] at hq123
            show wp g X F_X8_advance 0 0 126 [(2, t)] [(0, r123)] (up (up (up (up v0 t 5 (v0 t 3)) t 7 (-1)) t 8 0) t 6 0) ρ Z
            try rw [eB0] at hq123
            try rw [e10] at hq123
            refine r_callS (as := [(0, r123)]) (st := []) (pc := 126) hX 62 rfl mo_X8_goesOn ml_X8_55 stt_X8_goesOn (c_X8_goesOnF g ω (up (up (up (up v0 t 5 (v0 t 3)) t 7 (-1)) t 8 0) t 6 0) ρ Z hH_58 (r123) (by omega)) rfl (by rw [hRm]; exact ⟨by decide, by decide⟩) (by rw [hRm]; exact ⟨by decide, by decide⟩) (Nat.le_of_ble_eq_true rfl) (fun o126 v126 ρv126 Zv126 hq126 _ => ?_)
            obtain ⟨rfl, rfl, rfl, r126, rfl, hq126⟩ := hq126
            show wp g X F_X8_advance 0 0 129 [(2, t)] [(0, r126)] (up (up (up (up v0 t 5 (v0 t 3)) t 7 (-1)) t 8 0) t 6 0) ρ Z
            first | refine r_if_eq (pc := 129) hX 63 (tgt := 162) rfl (by decide) (⟨by omega, by omega⟩) (fun h129 => ?_) (fun h129 => ?_) | refine r_if_eq_any (pc := 129) hX 63 (tgt := 162) rfl (by decide) ?_ ?_
            · obtain ⟨hTk, hTa, hTp, hTv⟩ := tk_sg (f := v (ρ t 0)) (n := v t 1) (m := v t 2) (p := v t 3) (by rw [hqe]; omega) (by rw [hqe]; omega) (by rw [hqe]; exact fun z => by have := bG_iff.mp z; omega)
              rw [hqe] at hTk hTa hTp hTv
              refine r_aload_n (pc := 162) hX 78 rfl rfl ?_
              refine r_aload_n (pc := 163) hX 79 rfl rfl ?_
              refine t_getI (y := (v0 t 3)) (pc := 164) hX 80 rfl rfl rfl fl_X8_22 rfl (hH_58.kd ht (by decide)) ((up_k (by decide)).trans ((up_k (by decide)).trans ((up_k (by decide)).trans ((up_k (by decide)).trans (rfl))))) ?_
              refine r_callV (as := [(0, (v0 t 3))]) (st := [(2, t)]) (K := 8) (pc := 168) hX 82 rfl mo_X8_byteAt ml_X8_31 im_X8_byteAt se_X8_byteAt (c_X8_byteAtF g ω (up (up (up (up v0 t 5 (v0 t 3)) t 7 (-1)) t 8 0) t 6 0) ρ Z hH_58 t ht ((v0 t 3)) (by omega)) rfl rfl rfl (hH_58.kd ht (by decide)) (by rw [hRm]; exact ⟨by decide, by decide⟩) (by rw [hRm]; exact ⟨by decide, by decide⟩) (Nat.le_of_ble_eq_true rfl) (fun o168 v168 ρv168 Zv168 hq168 _ => ?_)
              obtain ⟨rfl, rfl, rfl, r168, rfl, hq168⟩ := hq168
              try rw [show ((up (up (up (up v0 t 5 (v0 t 3)) t 7 (-1)) t 8 0) t 6 0) t 1) = (v0 t 1) from (up_k (by decide)).trans ((up_k (by decide)).trans ((up_k (by decide)).trans ((up_k (by decide)).trans (rfl))))] at hq168
              try rw [show ((up (up (up (up v0 t 5 (v0 t 3)) t 7 (-1)) t 8 0) t 6 0) (ρ t 0)) = (v (ρ t 0)) from (up_f (rne hw123_ ht (by decide))).trans ((up_f (rne hw123_ ht (by decide))).trans ((up_f (rne hw123_ ht (by decide))).trans ((up_f (rne hw123_ ht (by decide))).trans ((hfr0.rw hw123_ (by decide)).trans (rfl)))))] at hq168
              show wp g X F_X8_advance 0 0 171 [(2, t)] [(0, r168), (2, t)] (up (up (up (up v0 t 5 (v0 t 3)) t 7 (-1)) t 8 0) t 6 0) ρ Z
              try rw [eB0] at hq168
              try rw [e10] at hq168
              refine r_putI (pc := 171) hX 83 rfl fl_X8_49 rfl (fun _ h => by cases h; rfl) (hH_58.kd ht (by decide)) (hH_58.g4 ht (by decide)) ?_
              have hH_171 : HT ω (up (up (up (up (up v0 t 5 (v0 t 3)) t 7 (-1)) t 8 0) t 6 0) t 6 r168) ρ Z := hH_58.upR ht (by decide) rfl (by omega) (by omega)
              show wp g X F_X8_advance 0 0 174 [(2, t)] [] (up (up (up (up (up v0 t 5 (v0 t 3)) t 7 (-1)) t 8 0) t 6 0) t 6 r168) ρ Z
              refine r_aload_n (pc := 174) hX 84 rfl rfl ?_
              refine t_getI (y := r168) (pc := 175) hX 85 rfl rfl rfl fl_X8_49 rfl (hH_171.kd ht (by decide)) (up_s _ _ _ _) ?_
              refine r_callS (as := [(0, r168)]) (st := [(2, t)]) (pc := 179) hX 87 rfl mo_X8_isMarkSign ml_X8_65 stt_X8_isMarkSign (c_X8_isMarkSignF g ω (up (up (up (up (up v0 t 5 (v0 t 3)) t 7 (-1)) t 8 0) t 6 0) t 6 r168) ρ Z hH_171 (r168) (by omega)) rfl (by rw [hRm]; exact ⟨by decide, by decide⟩) (by rw [hRm]; exact ⟨by decide, by decide⟩) (Nat.le_of_ble_eq_true rfl) (fun o179 v179 ρv179 Zv179 hq179 _ => ?_)
              obtain ⟨rfl, rfl, rfl, r179, rfl, hq179⟩ := hq179
              show wp g X F_X8_advance 0 0 182 [(2, t)] [(0, r179), (2, t)] (up (up (up (up (up v0 t 5 (v0 t 3)) t 7 (-1)) t 8 0) t 6 0) t 6 r168) ρ Z
              first | refine r_if_eq (pc := 182) hX 88 (tgt := 189) rfl (by decide) (⟨by omega, by omega⟩) (fun h182 => ?_) (fun h182 => ?_) | refine r_if_eq_any (pc := 182) hX 88 (tgt := 189) rfl (by decide) ?_ ?_
              · rw [if_neg (fun z => by have := bM_iff.mp z; omega)] at hTk
                refine r_iconst (pc := 189) hX 91 rfl ?_
                refine r_putI (pc := 190) hX 92 rfl fl_X8_52 rfl (fun _ h => by cases h; rfl) (hH_171.kd ht (by decide)) (hH_171.g4 ht (by decide)) ?_
                have hH_190 : HT ω (up (up (up (up (up (up v0 t 5 (v0 t 3)) t 7 (-1)) t 8 0) t 6 0) t 6 r168) t 4 4) ρ Z := hH_171.upR ht (by decide) rfl (by omega) (by omega)
                show wp g X F_X8_advance 0 0 193 [(2, t)] [] (up (up (up (up (up (up v0 t 5 (v0 t 3)) t 7 (-1)) t 8 0) t 6 0) t 6 r168) t 4 4) ρ Z
                refine r_aload_n (pc := 193) hX 93 rfl rfl ?_
                refine r_dup (pc := 194) hX 94 rfl (show (2 : Nat) ≠ 1 by decide) ?_
                refine e_getI (y := (v0 t 3)) (pc := 195) hX 95 rfl fl_X8_22 rfl (hH_190.kd ht (by decide)) ((up_k (by decide)).trans ((up_k (by decide)).trans ((up_k (by decide)).trans ((up_k (by decide)).trans ((up_k (by decide)).trans ((up_k (by decide)).trans (rfl))))))) ?_
                refine r_iconst (pc := 198) hX 96 rfl ?_
                refine r_iadd (pc := 199) hX 97 rfl ?_
                refine r_putI (pc := 200) hX 98 rfl fl_X8_22 rfl (fun _ h => by cases h; rfl) (hH_190.kd ht (by decide)) (hH_190.g4 ht (by decide)) ?_
                have hH_200 : HT ω (up (up (up (up (up (up (up v0 t 5 (v0 t 3)) t 7 (-1)) t 8 0) t 6 0) t 6 r168) t 4 4) t 3 ((v0 t 3) + 1)) ρ Z := hH_190.upR ht (by decide) rfl (by omega) (by omega)
                show wp g X F_X8_advance 0 0 203 [(2, t)] [] (up (up (up (up (up (up (up v0 t 5 (v0 t 3)) t 7 (-1)) t 8 0) t 6 0) t 6 r168) t 4 4) t 3 ((v0 t 3) + 1)) ρ Z
                exact r_vret (pc := 203) hX 99 hQ rfl rfl (Nat.le_of_ble_eq_true rfl) (Nat.le_of_ble_eq_true rfl) ⟨rfl, rfl, (((((((hfr0).up (r := t) ht (by decide)).up (r := t) ht (by decide)).up (r := t) ht (by decide)).up (r := t) ht (by decide)).up (r := t) ht (by decide)).up (r := t) ht (by decide)).up (r := t) ht (by decide), hH_200, rfl, (by rw [(show (up (up (up (up (up (up (up v0 t 5 (v0 t 3)) t 7 (-1)) t 8 0) t 6 0) t 6 r168) t 4 4) t 3 ((v0 t 3) + 1)) t 3 = ((v0 t 3) + 1) from up_s _ _ _ _), hTp]), (by rw [(show (up (up (up (up (up (up (up v0 t 5 (v0 t 3)) t 7 (-1)) t 8 0) t 6 0) t 6 r168) t 4 4) t 3 ((v0 t 3) + 1)) t 4 = 4 from (up_k (by decide)).trans (up_s _ _ _ _)), hTk]), (by first | (rw [(show (up (up (up (up (up (up (up v0 t 5 (v0 t 3)) t 7 (-1)) t 8 0) t 6 0) t 6 r168) t 4 4) t 3 ((v0 t 3) + 1)) t 5 = (v0 t 3) from (up_k (by decide)).trans ((up_k (by decide)).trans ((up_k (by decide)).trans ((up_k (by decide)).trans ((up_k (by decide)).trans ((up_k (by decide)).trans (up_s _ _ _ _))))))), hTa]; done) | (rw [(show (up (up (up (up (up (up (up v0 t 5 (v0 t 3)) t 7 (-1)) t 8 0) t 6 0) t 6 r168) t 4 4) t 3 ((v0 t 3) + 1)) t 5 = (v0 t 3) from (up_k (by decide)).trans ((up_k (by decide)).trans ((up_k (by decide)).trans ((up_k (by decide)).trans ((up_k (by decide)).trans ((up_k (by decide)).trans (up_s _ _ _ _))))))), e5, hTa]; done)), (fun z => by first | (exfalso; rw [(show (up (up (up (up (up (up (up v0 t 5 (v0 t 3)) t 7 (-1)) t 8 0) t 6 0) t 6 r168) t 4 4) t 3 ((v0 t 3) + 1)) t 4 = 4 from (up_k (by decide)).trans (up_s _ _ _ _))] at z; omega) | (rw [(show (up (up (up (up (up (up (up v0 t 5 (v0 t 3)) t 7 (-1)) t 8 0) t 6 0) t 6 r168) t 4 4) t 3 ((v0 t 3) + 1)) t 6 = r168 from (up_k (by decide)).trans ((up_k (by decide)).trans (up_s _ _ _ _))), hTv]; omega) | (rw [(show (up (up (up (up (up (up (up v0 t 5 (v0 t 3)) t 7 (-1)) t 8 0) t 6 0) t 6 r168) t 4 4) t 3 ((v0 t 3) + 1)) t 4 = 4 from (up_k (by decide)).trans (up_s _ _ _ _))] at z; rw [(show (up (up (up (up (up (up (up v0 t 5 (v0 t 3)) t 7 (-1)) t 8 0) t 6 0) t 6 r168) t 4 4) t 3 ((v0 t 3) + 1)) t 6 = r168 from (up_k (by decide)).trans ((up_k (by decide)).trans (up_s _ _ _ _))), hTv]; exact hq133.2.2.2.1 (by omega))), (fun z => by first | (exfalso; rw [(show (up (up (up (up (up (up (up v0 t 5 (v0 t 3)) t 7 (-1)) t 8 0) t 6 0) t 6 r168) t 4 4) t 3 ((v0 t 3) + 1)) t 4 = 4 from (up_k (by decide)).trans (up_s _ _ _ _))] at z; omega) | (rw [(show (up (up (up (up (up (up (up v0 t 5 (v0 t 3)) t 7 (-1)) t 8 0) t 6 0) t 6 r168) t 4 4) t 3 ((v0 t 3) + 1)) t 8 = 0 from (up_k (by decide)).trans ((up_k (by decide)).trans ((up_k (by decide)).trans ((up_k (by decide)).trans (up_s _ _ _ _))))), htn]; exact hq133.2.2.1 (by omega))), (by rw [(show (up (up (up (up (up (up (up v0 t 5 (v0 t 3)) t 7 (-1)) t 8 0) t 6 0) t 6 r168) t 4 4) t 3 ((v0 t 3) + 1)) t 7 = (-1) from (up_k (by decide)).trans ((up_k (by decide)).trans ((up_k (by decide)).trans ((up_k (by decide)).trans ((up_k (by decide)).trans (up_s _ _ _ _)))))), (show (up (up (up (up (up (up (up v0 t 5 (v0 t 3)) t 7 (-1)) t 8 0) t 6 0) t 6 r168) t 4 4) t 3 ((v0 t 3) + 1)) t 4 = 4 from (up_k (by decide)).trans (up_s _ _ _ _))]; first | (rw [if_neg (by omega)]; done) | (rw [(show (up (up (up (up (up (up (up v0 t 5 (v0 t 3)) t 7 (-1)) t 8 0) t 6 0) t 6 r168) t 4 4) t 3 ((v0 t 3) + 1)) t 8 = 0 from (up_k (by decide)).trans ((up_k (by decide)).trans ((up_k (by decide)).trans ((up_k (by decide)).trans (up_s _ _ _ _))))), if_pos (by omega)]; exact hq149.2)), (fun j a => by first | ((repeat rw [up_k (by omega)]); exact jj j (by omega)) | (rw [up_k (by omega), hq133.2.2.2.2 j (by omega) (by omega) (by omega) (by omega)]; (repeat rw [up_k (by omega)]); exact jj j (by omega)))⟩
              · rw [if_pos (bM_iff.mpr (by omega))] at hTk
                refine r_iconst (pc := 185) hX 89 rfl ?_
                refine r_goto (pc := 186) hX 90 (tgt := 190) rfl (by decide) ?_
                refine r_putI (pc := 190) hX 92 rfl fl_X8_52 rfl (fun _ h => by cases h; rfl) (hH_171.kd ht (by decide)) (hH_171.g4 ht (by decide)) ?_
                have hHf1_ : HT ω (up (up (up (up (up (up v0 t 5 (v0 t 3)) t 7 (-1)) t 8 0) t 6 0) t 6 r168) t 4 3) ρ Z := hH_171.upR ht (by decide) rfl (by omega) (by omega)
                show wp g X F_X8_advance 0 0 193 [(2, t)] [] (up (up (up (up (up (up v0 t 5 (v0 t 3)) t 7 (-1)) t 8 0) t 6 0) t 6 r168) t 4 3) ρ Z
                refine r_aload_n (pc := 193) hX 93 rfl rfl ?_
                refine r_dup (pc := 194) hX 94 rfl (show (2 : Nat) ≠ 1 by decide) ?_
                refine e_getI (y := (v0 t 3)) (pc := 195) hX 95 rfl fl_X8_22 rfl (hHf1_.kd ht (by decide)) ((up_k (by decide)).trans ((up_k (by decide)).trans ((up_k (by decide)).trans ((up_k (by decide)).trans ((up_k (by decide)).trans ((up_k (by decide)).trans (rfl))))))) ?_
                refine r_iconst (pc := 198) hX 96 rfl ?_
                refine r_iadd (pc := 199) hX 97 rfl ?_
                refine r_putI (pc := 200) hX 98 rfl fl_X8_22 rfl (fun _ h => by cases h; rfl) (hHf1_.kd ht (by decide)) (hHf1_.g4 ht (by decide)) ?_
                have hHf2_ : HT ω (up (up (up (up (up (up (up v0 t 5 (v0 t 3)) t 7 (-1)) t 8 0) t 6 0) t 6 r168) t 4 3) t 3 ((v0 t 3) + 1)) ρ Z := hHf1_.upR ht (by decide) rfl (by omega) (by omega)
                show wp g X F_X8_advance 0 0 203 [(2, t)] [] (up (up (up (up (up (up (up v0 t 5 (v0 t 3)) t 7 (-1)) t 8 0) t 6 0) t 6 r168) t 4 3) t 3 ((v0 t 3) + 1)) ρ Z
                exact r_vret (pc := 203) hX 99 hQ rfl rfl (Nat.le_of_ble_eq_true rfl) (Nat.le_of_ble_eq_true rfl) ⟨rfl, rfl, (((((((hfr0).up (r := t) ht (by decide)).up (r := t) ht (by decide)).up (r := t) ht (by decide)).up (r := t) ht (by decide)).up (r := t) ht (by decide)).up (r := t) ht (by decide)).up (r := t) ht (by decide), hHf2_, rfl, (by rw [(show (up (up (up (up (up (up (up v0 t 5 (v0 t 3)) t 7 (-1)) t 8 0) t 6 0) t 6 r168) t 4 3) t 3 ((v0 t 3) + 1)) t 3 = ((v0 t 3) + 1) from up_s _ _ _ _), hTp]), (by rw [(show (up (up (up (up (up (up (up v0 t 5 (v0 t 3)) t 7 (-1)) t 8 0) t 6 0) t 6 r168) t 4 3) t 3 ((v0 t 3) + 1)) t 4 = 3 from (up_k (by decide)).trans (up_s _ _ _ _)), hTk]), (by first | (rw [(show (up (up (up (up (up (up (up v0 t 5 (v0 t 3)) t 7 (-1)) t 8 0) t 6 0) t 6 r168) t 4 3) t 3 ((v0 t 3) + 1)) t 5 = (v0 t 3) from (up_k (by decide)).trans ((up_k (by decide)).trans ((up_k (by decide)).trans ((up_k (by decide)).trans ((up_k (by decide)).trans ((up_k (by decide)).trans (up_s _ _ _ _))))))), hTa]; done) | (rw [(show (up (up (up (up (up (up (up v0 t 5 (v0 t 3)) t 7 (-1)) t 8 0) t 6 0) t 6 r168) t 4 3) t 3 ((v0 t 3) + 1)) t 5 = (v0 t 3) from (up_k (by decide)).trans ((up_k (by decide)).trans ((up_k (by decide)).trans ((up_k (by decide)).trans ((up_k (by decide)).trans ((up_k (by decide)).trans (up_s _ _ _ _))))))), e5, hTa]; done)), (fun z => by first | (exfalso; rw [(show (up (up (up (up (up (up (up v0 t 5 (v0 t 3)) t 7 (-1)) t 8 0) t 6 0) t 6 r168) t 4 3) t 3 ((v0 t 3) + 1)) t 4 = 3 from (up_k (by decide)).trans (up_s _ _ _ _))] at z; omega) | (rw [(show (up (up (up (up (up (up (up v0 t 5 (v0 t 3)) t 7 (-1)) t 8 0) t 6 0) t 6 r168) t 4 3) t 3 ((v0 t 3) + 1)) t 6 = r168 from (up_k (by decide)).trans ((up_k (by decide)).trans (up_s _ _ _ _))), hTv]; omega) | (rw [(show (up (up (up (up (up (up (up v0 t 5 (v0 t 3)) t 7 (-1)) t 8 0) t 6 0) t 6 r168) t 4 3) t 3 ((v0 t 3) + 1)) t 4 = 3 from (up_k (by decide)).trans (up_s _ _ _ _))] at z; rw [(show (up (up (up (up (up (up (up v0 t 5 (v0 t 3)) t 7 (-1)) t 8 0) t 6 0) t 6 r168) t 4 3) t 3 ((v0 t 3) + 1)) t 6 = r168 from (up_k (by decide)).trans ((up_k (by decide)).trans (up_s _ _ _ _))), hTv]; exact hq133.2.2.2.1 (by omega))), (fun z => by first | (exfalso; rw [(show (up (up (up (up (up (up (up v0 t 5 (v0 t 3)) t 7 (-1)) t 8 0) t 6 0) t 6 r168) t 4 3) t 3 ((v0 t 3) + 1)) t 4 = 3 from (up_k (by decide)).trans (up_s _ _ _ _))] at z; omega) | (rw [(show (up (up (up (up (up (up (up v0 t 5 (v0 t 3)) t 7 (-1)) t 8 0) t 6 0) t 6 r168) t 4 3) t 3 ((v0 t 3) + 1)) t 8 = 0 from (up_k (by decide)).trans ((up_k (by decide)).trans ((up_k (by decide)).trans ((up_k (by decide)).trans (up_s _ _ _ _))))), htn]; exact hq133.2.2.1 (by omega))), (by rw [(show (up (up (up (up (up (up (up v0 t 5 (v0 t 3)) t 7 (-1)) t 8 0) t 6 0) t 6 r168) t 4 3) t 3 ((v0 t 3) + 1)) t 7 = (-1) from (up_k (by decide)).trans ((up_k (by decide)).trans ((up_k (by decide)).trans ((up_k (by decide)).trans ((up_k (by decide)).trans (up_s _ _ _ _)))))), (show (up (up (up (up (up (up (up v0 t 5 (v0 t 3)) t 7 (-1)) t 8 0) t 6 0) t 6 r168) t 4 3) t 3 ((v0 t 3) + 1)) t 4 = 3 from (up_k (by decide)).trans (up_s _ _ _ _))]; first | (rw [if_neg (by omega)]; done) | (rw [(show (up (up (up (up (up (up (up v0 t 5 (v0 t 3)) t 7 (-1)) t 8 0) t 6 0) t 6 r168) t 4 3) t 3 ((v0 t 3) + 1)) t 8 = 0 from (up_k (by decide)).trans ((up_k (by decide)).trans ((up_k (by decide)).trans ((up_k (by decide)).trans (up_s _ _ _ _))))), if_pos (by omega)]; exact hq149.2)), (fun j a => by first | ((repeat rw [up_k (by omega)]); exact jj j (by omega)) | (rw [up_k (by omega), hq133.2.2.2.2 j (by omega) (by omega) (by omega) (by omega)]; (repeat rw [up_k (by omega)]); exact jj j (by omega)))⟩
            · obtain ⟨hTk, hTa, hTp, hTv⟩ := tk_run (f := v (ρ t 0)) (n := v t 1) (m := v t 2) (p := v t 3) (by rw [hqe]; omega) (by rw [hqe]; omega) (by rw [hqe]; exact bG_iff.mpr (by omega))
              rw [hqe] at hTk hTa hTv
              refine r_aload_n (pc := 132) hX 64 rfl rfl ?_
              refine r_callV (as := []) (st := []) (K := 8) (pc := 133) hX 65 rfl mo_X8_readRun ml_X8_58 im_X8_readRun se_X8_readRun (c_X8_readRunF g ω (up (up (up (up v0 t 5 (v0 t 3)) t 7 (-1)) t 8 0) t 6 0) ρ Z hH_58 t ht ((show (up (up (up (up v0 t 5 (v0 t 3)) t 7 (-1)) t 8 0) t 6 0) t 8 = 0 from (up_k (by decide)).trans (up_s _ _ _ _))) ((show (up (up (up (up v0 t 5 (v0 t 3)) t 7 (-1)) t 8 0) t 6 0) t 6 = 0 from up_s _ _ _ _)) (by rw [(show (up (up (up (up v0 t 5 (v0 t 3)) t 7 (-1)) t 8 0) t 6 0) t 3 = (v0 t 3) from (up_k (by decide)).trans ((up_k (by decide)).trans ((up_k (by decide)).trans ((up_k (by decide)).trans (rfl))))), (show (up (up (up (up v0 t 5 (v0 t 3)) t 7 (-1)) t 8 0) t 6 0) t 1 = (v0 t 1) from (up_k (by decide)).trans ((up_k (by decide)).trans ((up_k (by decide)).trans ((up_k (by decide)).trans (rfl)))))]; omega)) rfl rfl rfl (hH_58.kd ht (by decide)) (by rw [hRm]; exact ⟨by decide, by decide⟩) (by rw [hRm]; exact ⟨by decide, by decide⟩) (Nat.le_of_ble_eq_true rfl) (fun o133 v133 ρv133 Zv133 hq133 _ => ?_)
              obtain ⟨rfl, rfl, hfr133, hH133, rfl, hq133⟩ := hq133
              try rw [show ((up (up (up (up v0 t 5 (v0 t 3)) t 7 (-1)) t 8 0) t 6 0) t 1) = (v0 t 1) from (up_k (by decide)).trans ((up_k (by decide)).trans ((up_k (by decide)).trans ((up_k (by decide)).trans (rfl))))] at hq133
              try rw [show ((up (up (up (up v0 t 5 (v0 t 3)) t 7 (-1)) t 8 0) t 6 0) t 3) = (v0 t 3) from (up_k (by decide)).trans ((up_k (by decide)).trans ((up_k (by decide)).trans ((up_k (by decide)).trans (rfl))))] at hq133
              try rw [show ((up (up (up (up v0 t 5 (v0 t 3)) t 7 (-1)) t 8 0) t 6 0) (ρ t 0)) = (v (ρ t 0)) from (up_f (rne hw123_ ht (by decide))).trans ((up_f (rne hw123_ ht (by decide))).trans ((up_f (rne hw123_ ht (by decide))).trans ((up_f (rne hw123_ ht (by decide))).trans ((hfr0.rw hw123_ (by decide)).trans (rfl)))))] at hq133
              show wp g X F_X8_advance 0 0 136 [(2, t)] [] v133 ρ Z
              rw [e10] at hq133
              have hte : te (v (ρ t 0)) (v t 1) (v t 3) = v133 t 3 := by
                unfold te
                rw [hqe]
                exact hq133.1.symm
              rw [hte] at hTp hTv
              rw [← hq133.2.1] at hTk
              have hr3 : v133 t 4 ≠ 3 := by
                rw [hq133.2.1]
                exact rk_3
              have e5 : v133 t 5 = v0 t 3 := by
                rw [hq133.2.2.2.2 5 (by decide) (by decide) (by decide) (by decide), up_k (by decide), up_k (by decide), up_k (by decide), up_s]
              have htn : tn (v (ρ t 0)) (v t 1) (v t 3) = n32 (v (ρ t 0)) (v0 t 3) (v133 t 3 - v0 t 3).toNat := by
                unfold tn
                rw [hte, hqe]
              refine r_aload_n (pc := 136) hX 66 rfl rfl ?_
              refine t_getI (y := (v133 t 4)) (pc := 137) hX 67 rfl rfl rfl fl_X8_52 rfl (hH133.kd ht (by decide)) (rfl) ?_
              have hb137 : 0 ≤ (v133 t 4) ∧ (v133 t 4) ≤ 4 := hH133.rg ht (by decide) rfl
              refine r_iconst (pc := 141) hX 69 rfl ?_
              first | refine r_icmp_ne (pc := 142) hX 70 (tgt := 155) rfl (by decide) (⟨by omega, by omega⟩) (⟨by omega, by omega⟩) (fun h142 => ?_) (fun h142 => ?_) | refine r_icmp_ne_any (pc := 142) hX 70 (tgt := 155) rfl (by decide) ?_ ?_
              · refine r_iconst (pc := 155) hX 75 rfl ?_
                refine r_putI (pc := 156) hX 76 rfl fl_X8_42 rfl (fun _ h => by cases h; rfl) (hH133.kd ht (by decide)) (hH133.g4 ht (by decide)) ?_
                have hH_156 : HT ω (up v133 t 7 (-1)) ρ Z := hH133.upR ht (by decide) rfl (by omega) (by omega)
                show wp g X F_X8_advance 0 0 159 [(2, t)] [] (up v133 t 7 (-1)) ρ Z
                refine r_goto (pc := 159) hX 77 (tgt := 203) rfl (by decide) ?_
                exact r_vret (pc := 203) hX 99 hQ rfl rfl (Nat.le_of_ble_eq_true rfl) (Nat.le_of_ble_eq_true rfl) ⟨rfl, rfl, ((((((hfr0).up (r := t) ht (by decide)).up (r := t) ht (by decide)).up (r := t) ht (by decide)).up (r := t) ht (by decide)).tr hfr133 (by decide)).up (r := t) ht (by decide), hH_156, rfl, (by rw [(show (up v133 t 7 (-1)) t 3 = (v133 t 3) from (up_k (by decide)).trans (rfl)), hTp]), (by rw [(show (up v133 t 7 (-1)) t 4 = (v133 t 4) from (up_k (by decide)).trans (rfl)), hTk]), (by first | (rw [(show (up v133 t 7 (-1)) t 5 = (v133 t 5) from (up_k (by decide)).trans (rfl)), hTa]; done) | (rw [(show (up v133 t 7 (-1)) t 5 = (v133 t 5) from (up_k (by decide)).trans (rfl)), e5, hTa]; done)), (fun z => by first | (exfalso; rw [(show (up v133 t 7 (-1)) t 4 = (v133 t 4) from (up_k (by decide)).trans (rfl))] at z; omega) | (rw [(show (up v133 t 7 (-1)) t 6 = (v133 t 6) from (up_k (by decide)).trans (rfl)), hTv]; omega) | (rw [(show (up v133 t 7 (-1)) t 4 = (v133 t 4) from (up_k (by decide)).trans (rfl))] at z; rw [(show (up v133 t 7 (-1)) t 6 = (v133 t 6) from (up_k (by decide)).trans (rfl)), hTv]; exact hq133.2.2.2.1 (by omega))), (fun z => by first | (exfalso; rw [(show (up v133 t 7 (-1)) t 4 = (v133 t 4) from (up_k (by decide)).trans (rfl))] at z; omega) | (rw [(show (up v133 t 7 (-1)) t 8 = (v133 t 8) from (up_k (by decide)).trans (rfl)), htn]; exact hq133.2.2.1 (by omega))), (by rw [(show (up v133 t 7 (-1)) t 7 = (-1) from up_s _ _ _ _), (show (up v133 t 7 (-1)) t 4 = (v133 t 4) from (up_k (by decide)).trans (rfl))]; first | (rw [if_neg (by omega)]; done) | (rw [(show (up v133 t 7 (-1)) t 8 = (v133 t 8) from (up_k (by decide)).trans (rfl)), if_pos (by omega)]; exact hq149.2)), (fun j a => by first | ((repeat rw [up_k (by omega)]); exact jj j (by omega)) | (rw [up_k (by omega), hq133.2.2.2.2 j (by omega) (by omega) (by omega) (by omega)]; (repeat rw [up_k (by omega)]); exact jj j (by omega)))⟩
              · have hnm := rk_name (f := v (ρ t 0)) (n := v t 1) (q := v0 t 3) (by omega) (hq133.2.1.symm.trans (by omega))
                rw [← hq133.1, ← hq133.2.2.1 (by omega)] at hnm
                refine t_getL (y := (v133 t 8)) (pc := 145) hX 71 rfl rfl rfl fl_X8_45 rfl (hH133.kd ht (by decide)) (rfl) ?_
                refine r_callS (as := [(1, (v133 t 8))]) (st := [(2, t)]) (pc := 149) hX 73 rfl mo_X8_keyOf ml_X8_61 stt_X8_keyOf (c_X8_keyOfF g ω v133 ρ Z hH133 ((v133 t 8)) (⟨by omega, by omega⟩)) rfl (by rw [hRm]; exact ⟨by decide, by decide⟩) (by rw [hRm]; exact ⟨by decide, by decide⟩) (Nat.le_of_ble_eq_true rfl) (fun o149 v149 ρv149 Zv149 hq149 _ => ?_)
                obtain ⟨rfl, rfl, rfl, r149, rfl, hq149⟩ := hq149
                show wp g X F_X8_advance 0 0 152 [(2, t)] [(0, r149), (2, t)] v133 ρ Z
                refine r_goto (pc := 152) hX 74 (tgt := 156) rfl (by decide) ?_
                refine r_putI (pc := 156) hX 76 rfl fl_X8_42 rfl (fun _ h => by cases h; rfl) (hH133.kd ht (by decide)) (hH133.g4 ht (by decide)) ?_
                have hHf3_ : HT ω (up v133 t 7 r149) ρ Z := hH133.upR ht (by decide) rfl (by omega) (by omega)
                show wp g X F_X8_advance 0 0 159 [(2, t)] [] (up v133 t 7 r149) ρ Z
                refine r_goto (pc := 159) hX 77 (tgt := 203) rfl (by decide) ?_
                exact r_vret (pc := 203) hX 99 hQ rfl rfl (Nat.le_of_ble_eq_true rfl) (Nat.le_of_ble_eq_true rfl) ⟨rfl, rfl, ((((((hfr0).up (r := t) ht (by decide)).up (r := t) ht (by decide)).up (r := t) ht (by decide)).up (r := t) ht (by decide)).tr hfr133 (by decide)).up (r := t) ht (by decide), hHf3_, rfl, (by rw [(show (up v133 t 7 r149) t 3 = (v133 t 3) from (up_k (by decide)).trans (rfl)), hTp]), (by rw [(show (up v133 t 7 r149) t 4 = (v133 t 4) from (up_k (by decide)).trans (rfl)), hTk]), (by first | (rw [(show (up v133 t 7 r149) t 5 = (v133 t 5) from (up_k (by decide)).trans (rfl)), hTa]; done) | (rw [(show (up v133 t 7 r149) t 5 = (v133 t 5) from (up_k (by decide)).trans (rfl)), e5, hTa]; done)), (fun z => by first | (exfalso; rw [(show (up v133 t 7 r149) t 4 = (v133 t 4) from (up_k (by decide)).trans (rfl))] at z; omega) | (rw [(show (up v133 t 7 r149) t 6 = (v133 t 6) from (up_k (by decide)).trans (rfl)), hTv]; omega) | (rw [(show (up v133 t 7 r149) t 4 = (v133 t 4) from (up_k (by decide)).trans (rfl))] at z; rw [(show (up v133 t 7 r149) t 6 = (v133 t 6) from (up_k (by decide)).trans (rfl)), hTv]; exact hq133.2.2.2.1 (by omega))), (fun z => by first | (exfalso; rw [(show (up v133 t 7 r149) t 4 = (v133 t 4) from (up_k (by decide)).trans (rfl))] at z; omega) | (rw [(show (up v133 t 7 r149) t 8 = (v133 t 8) from (up_k (by decide)).trans (rfl)), htn]; exact hq133.2.2.1 (by omega))), (by rw [(show (up v133 t 7 r149) t 7 = r149 from up_s _ _ _ _), (show (up v133 t 7 r149) t 4 = (v133 t 4) from (up_k (by decide)).trans (rfl))]; first | (rw [if_neg (by omega)]; done) | (rw [(show (up v133 t 7 r149) t 8 = (v133 t 8) from (up_k (by decide)).trans (rfl)), if_pos (by omega)]; exact hq149.2)), (fun j a => by first | ((repeat rw [up_k (by omega)]); exact jj j (by omega)) | (rw [up_k (by omega), hq133.2.2.2.2 j (by omega) (by omega) (by omega) (by omega)]; (repeat rw [up_k (by omega)]); exact jj j (by omega)))⟩
          · obtain ⟨hTk, hTa, hTp⟩ := tk_end (f := v (ρ t 0)) (n := v t 1) (m := v t 2) (p := v t 3) (by rw [hqe]; omega) (by rw [hqe]; omega)
            rw [hqe] at hTa hTp
            refine r_aload_n (pc := 110) hX 54 rfl rfl ?_
            refine r_iconst (pc := 111) hX 55 rfl ?_
            refine r_putI (pc := 112) hX 56 rfl fl_X8_52 rfl (fun _ h => by cases h; rfl) (hH_58.kd ht (by decide)) (hH_58.g4 ht (by decide)) ?_
            have hH_112 : HT ω (up (up (up (up (up v0 t 5 (v0 t 3)) t 7 (-1)) t 8 0) t 6 0) t 4 0) ρ Z := hH_58.upR ht (by decide) rfl (by omega) (by omega)
            show wp g X F_X8_advance 0 0 115 [(2, t)] [] (up (up (up (up (up v0 t 5 (v0 t 3)) t 7 (-1)) t 8 0) t 6 0) t 4 0) ρ Z
            refine r_goto (pc := 115) hX 57 (tgt := 203) rfl (by decide) ?_
            exact r_vret (pc := 203) hX 99 hQ rfl rfl (Nat.le_of_ble_eq_true rfl) (Nat.le_of_ble_eq_true rfl) ⟨rfl, rfl, (((((hfr0).up (r := t) ht (by decide)).up (r := t) ht (by decide)).up (r := t) ht (by decide)).up (r := t) ht (by decide)).up (r := t) ht (by decide), hH_112, rfl, (by rw [(show (up (up (up (up (up v0 t 5 (v0 t 3)) t 7 (-1)) t 8 0) t 6 0) t 4 0) t 3 = (v0 t 3) from (up_k (by decide)).trans ((up_k (by decide)).trans ((up_k (by decide)).trans ((up_k (by decide)).trans ((up_k (by decide)).trans (rfl)))))), hTp]), (by rw [(show (up (up (up (up (up v0 t 5 (v0 t 3)) t 7 (-1)) t 8 0) t 6 0) t 4 0) t 4 = 0 from up_s _ _ _ _), hTk]), (by first | (rw [(show (up (up (up (up (up v0 t 5 (v0 t 3)) t 7 (-1)) t 8 0) t 6 0) t 4 0) t 5 = (v0 t 3) from (up_k (by decide)).trans ((up_k (by decide)).trans ((up_k (by decide)).trans ((up_k (by decide)).trans (up_s _ _ _ _))))), hTa]; done) | (rw [(show (up (up (up (up (up v0 t 5 (v0 t 3)) t 7 (-1)) t 8 0) t 6 0) t 4 0) t 5 = (v0 t 3) from (up_k (by decide)).trans ((up_k (by decide)).trans ((up_k (by decide)).trans ((up_k (by decide)).trans (up_s _ _ _ _))))), e5, hTa]; done)), (fun z => by first | (exfalso; rw [(show (up (up (up (up (up v0 t 5 (v0 t 3)) t 7 (-1)) t 8 0) t 6 0) t 4 0) t 4 = 0 from up_s _ _ _ _)] at z; omega) | (rw [(show (up (up (up (up (up v0 t 5 (v0 t 3)) t 7 (-1)) t 8 0) t 6 0) t 4 0) t 6 = 0 from (up_k (by decide)).trans (up_s _ _ _ _)), hTv]; omega) | (rw [(show (up (up (up (up (up v0 t 5 (v0 t 3)) t 7 (-1)) t 8 0) t 6 0) t 4 0) t 4 = 0 from up_s _ _ _ _)] at z; rw [(show (up (up (up (up (up v0 t 5 (v0 t 3)) t 7 (-1)) t 8 0) t 6 0) t 4 0) t 6 = 0 from (up_k (by decide)).trans (up_s _ _ _ _)), hTv]; exact hq133.2.2.2.1 (by omega))), (fun z => by first | (exfalso; rw [(show (up (up (up (up (up v0 t 5 (v0 t 3)) t 7 (-1)) t 8 0) t 6 0) t 4 0) t 4 = 0 from up_s _ _ _ _)] at z; omega) | (rw [(show (up (up (up (up (up v0 t 5 (v0 t 3)) t 7 (-1)) t 8 0) t 6 0) t 4 0) t 8 = 0 from (up_k (by decide)).trans ((up_k (by decide)).trans (up_s _ _ _ _))), htn]; exact hq133.2.2.1 (by omega))), (by rw [(show (up (up (up (up (up v0 t 5 (v0 t 3)) t 7 (-1)) t 8 0) t 6 0) t 4 0) t 7 = (-1) from (up_k (by decide)).trans ((up_k (by decide)).trans ((up_k (by decide)).trans (up_s _ _ _ _)))), (show (up (up (up (up (up v0 t 5 (v0 t 3)) t 7 (-1)) t 8 0) t 6 0) t 4 0) t 4 = 0 from up_s _ _ _ _)]; first | (rw [if_neg (by omega)]; done) | (rw [(show (up (up (up (up (up v0 t 5 (v0 t 3)) t 7 (-1)) t 8 0) t 6 0) t 4 0) t 8 = 0 from (up_k (by decide)).trans ((up_k (by decide)).trans (up_s _ _ _ _))), if_pos (by omega)]; exact hq149.2)), (fun j a => by first | ((repeat rw [up_k (by omega)]); exact jj j (by omega)) | (rw [up_k (by omega), hq133.2.2.2.2 j (by omega) (by omega) (by omega) (by omega)]; (repeat rw [up_k (by omega)]); exact jj j (by omega)))⟩
        first | refine r_icmp_le (pc := 69) hX 35 (tgt := 99) rfl (by decide) (⟨by omega, by omega⟩) (⟨by omega, by omega⟩) (fun h69 => ?_) (fun h69 => ?_) | refine r_icmp_le_any (pc := 69) hX 35 (tgt := 99) rfl (by decide) ?_ ?_
        · exact (L99  (by omega) )
        · refine t_getI (y := (v0 t 3)) (pc := 72) hX 36 rfl rfl rfl fl_X8_22 rfl (hH_58.kd ht (by decide)) ((up_k (by decide)).trans ((up_k (by decide)).trans ((up_k (by decide)).trans ((up_k (by decide)).trans (rfl))))) ?_
          refine t_getI (y := (v0 t 2)) (pc := 76) hX 38 rfl rfl rfl fl_X8_19 rfl (hH_58.kd ht (by decide)) ((up_k (by decide)).trans ((up_k (by decide)).trans ((up_k (by decide)).trans ((up_k (by decide)).trans (rfl))))) ?_
          first | refine r_icmp_lt (pc := 80) hX 40 (tgt := 99) rfl (by decide) (⟨by omega, by omega⟩) (⟨by omega, by omega⟩) (fun h80 => ?_) (fun h80 => ?_) | refine r_icmp_lt_any (pc := 80) hX 40 (tgt := 99) rfl (by decide) ?_ ?_
          · exact (L99  (by omega) )
          · obtain ⟨hTk, hTa, hTp⟩ := tk_lim (f := v (ρ t 0)) (n := v t 1) (m := v t 2) (p := v t 3) (by rw [hqe]; omega)
            rw [hqe] at hTp
            replace hTa := hTa.trans e20.symm
            refine r_aload_n (pc := 83) hX 41 rfl rfl ?_
            refine t_getI (y := (v0 t 2)) (pc := 84) hX 42 rfl rfl rfl fl_X8_19 rfl (hH_58.kd ht (by decide)) ((up_k (by decide)).trans ((up_k (by decide)).trans ((up_k (by decide)).trans ((up_k (by decide)).trans (rfl))))) ?_
            refine r_putI (pc := 88) hX 44 rfl fl_X8_39 rfl (fun _ h => by cases h; rfl) (hH_58.kd ht (by decide)) (hH_58.g4 ht (by decide)) ?_
            have hH_88 : HT ω (up (up (up (up (up v0 t 5 (v0 t 3)) t 7 (-1)) t 8 0) t 6 0) t 5 (v0 t 2)) ρ Z := hH_58.upR ht (by decide) rfl (by omega) (by omega)
            show wp g X F_X8_advance 0 0 91 [(2, t)] [] (up (up (up (up (up v0 t 5 (v0 t 3)) t 7 (-1)) t 8 0) t 6 0) t 5 (v0 t 2)) ρ Z
            refine r_aload_n (pc := 91) hX 45 rfl rfl ?_
            refine r_iconst (pc := 92) hX 46 rfl ?_
            refine r_putI (pc := 93) hX 47 rfl fl_X8_52 rfl (fun _ h => by cases h; rfl) (hH_88.kd ht (by decide)) (hH_88.g4 ht (by decide)) ?_
            have hH_93 : HT ω (up (up (up (up (up (up v0 t 5 (v0 t 3)) t 7 (-1)) t 8 0) t 6 0) t 5 (v0 t 2)) t 4 4) ρ Z := hH_88.upR ht (by decide) rfl (by omega) (by omega)
            show wp g X F_X8_advance 0 0 96 [(2, t)] [] (up (up (up (up (up (up v0 t 5 (v0 t 3)) t 7 (-1)) t 8 0) t 6 0) t 5 (v0 t 2)) t 4 4) ρ Z
            refine r_goto (pc := 96) hX 48 (tgt := 203) rfl (by decide) ?_
            exact r_vret (pc := 203) hX 99 hQ rfl rfl (Nat.le_of_ble_eq_true rfl) (Nat.le_of_ble_eq_true rfl) ⟨rfl, rfl, ((((((hfr0).up (r := t) ht (by decide)).up (r := t) ht (by decide)).up (r := t) ht (by decide)).up (r := t) ht (by decide)).up (r := t) ht (by decide)).up (r := t) ht (by decide), hH_93, rfl, (by rw [(show (up (up (up (up (up (up v0 t 5 (v0 t 3)) t 7 (-1)) t 8 0) t 6 0) t 5 (v0 t 2)) t 4 4) t 3 = (v0 t 3) from (up_k (by decide)).trans ((up_k (by decide)).trans ((up_k (by decide)).trans ((up_k (by decide)).trans ((up_k (by decide)).trans ((up_k (by decide)).trans (rfl))))))), hTp]), (by rw [(show (up (up (up (up (up (up v0 t 5 (v0 t 3)) t 7 (-1)) t 8 0) t 6 0) t 5 (v0 t 2)) t 4 4) t 4 = 4 from up_s _ _ _ _), hTk]), (by first | (rw [(show (up (up (up (up (up (up v0 t 5 (v0 t 3)) t 7 (-1)) t 8 0) t 6 0) t 5 (v0 t 2)) t 4 4) t 5 = (v0 t 2) from (up_k (by decide)).trans (up_s _ _ _ _)), hTa]; done) | (rw [(show (up (up (up (up (up (up v0 t 5 (v0 t 3)) t 7 (-1)) t 8 0) t 6 0) t 5 (v0 t 2)) t 4 4) t 5 = (v0 t 2) from (up_k (by decide)).trans (up_s _ _ _ _)), e5, hTa]; done)), (fun z => by first | (exfalso; rw [(show (up (up (up (up (up (up v0 t 5 (v0 t 3)) t 7 (-1)) t 8 0) t 6 0) t 5 (v0 t 2)) t 4 4) t 4 = 4 from up_s _ _ _ _)] at z; omega) | (rw [(show (up (up (up (up (up (up v0 t 5 (v0 t 3)) t 7 (-1)) t 8 0) t 6 0) t 5 (v0 t 2)) t 4 4) t 6 = 0 from (up_k (by decide)).trans ((up_k (by decide)).trans (up_s _ _ _ _))), hTv]; omega) | (rw [(show (up (up (up (up (up (up v0 t 5 (v0 t 3)) t 7 (-1)) t 8 0) t 6 0) t 5 (v0 t 2)) t 4 4) t 4 = 4 from up_s _ _ _ _)] at z; rw [(show (up (up (up (up (up (up v0 t 5 (v0 t 3)) t 7 (-1)) t 8 0) t 6 0) t 5 (v0 t 2)) t 4 4) t 6 = 0 from (up_k (by decide)).trans ((up_k (by decide)).trans (up_s _ _ _ _))), hTv]; exact hq133.2.2.2.1 (by omega))), (fun z => by first | (exfalso; rw [(show (up (up (up (up (up (up v0 t 5 (v0 t 3)) t 7 (-1)) t 8 0) t 6 0) t 5 (v0 t 2)) t 4 4) t 4 = 4 from up_s _ _ _ _)] at z; omega) | (rw [(show (up (up (up (up (up (up v0 t 5 (v0 t 3)) t 7 (-1)) t 8 0) t 6 0) t 5 (v0 t 2)) t 4 4) t 8 = 0 from (up_k (by decide)).trans ((up_k (by decide)).trans ((up_k (by decide)).trans (up_s _ _ _ _)))), htn]; exact hq133.2.2.1 (by omega))), (by rw [(show (up (up (up (up (up (up v0 t 5 (v0 t 3)) t 7 (-1)) t 8 0) t 6 0) t 5 (v0 t 2)) t 4 4) t 7 = (-1) from (up_k (by decide)).trans ((up_k (by decide)).trans ((up_k (by decide)).trans ((up_k (by decide)).trans (up_s _ _ _ _))))), (show (up (up (up (up (up (up v0 t 5 (v0 t 3)) t 7 (-1)) t 8 0) t 6 0) t 5 (v0 t 2)) t 4 4) t 4 = 4 from up_s _ _ _ _)]; first | (rw [if_neg (by omega)]; done) | (rw [(show (up (up (up (up (up (up v0 t 5 (v0 t 3)) t 7 (-1)) t 8 0) t 6 0) t 5 (v0 t 2)) t 4 4) t 8 = 0 from (up_k (by decide)).trans ((up_k (by decide)).trans ((up_k (by decide)).trans (up_s _ _ _ _)))), if_pos (by omega)]; exact hq149.2)), (fun j a => by first | ((repeat rw [up_k (by omega)]); exact jj j (by omega)) | (rw [up_k (by omega), hq133.2.2.2.2 j (by omega) (by omega) (by omega) (by omega)]; (repeat rw [up_k (by omega)]); exact jj j (by omega)))⟩
      first | refine r_icmp_ge (pc := 8) hX 4 (tgt := 38) rfl (by decide) (⟨by omega, by omega⟩) (⟨by omega, by omega⟩) (fun h8 => ?_) (fun h8 => ?_) | refine r_icmp_ge_any (pc := 8) hX 4 (tgt := 38) rfl (by decide) ?_ ?_
      · exact (L38  (by rw [← ff]; exact fs_stop (fun z => by have z1 := z.1; have z2 := bB_iff.mp z.2; omega)) )
      · refine r_aload_n (pc := 11) hX 5 rfl rfl ?_
        refine t_getI (y := (v0 t 3)) (pc := 12) hX 6 rfl rfl rfl fl_X8_22 rfl (hH0.kd ht (by decide)) (rfl) ?_
        refine r_callV (as := [(0, (v0 t 3))]) (st := []) (K := 8) (pc := 16) hX 8 rfl mo_X8_byteAt ml_X8_31 im_X8_byteAt se_X8_byteAt (c_X8_byteAtF g ω v0 ρ Z hH0 t ht ((v0 t 3)) (by omega)) rfl rfl rfl (hH0.kd ht (by decide)) (by rw [hRm]; exact ⟨by decide, by decide⟩) (by rw [hRm]; exact ⟨by decide, by decide⟩) (Nat.le_of_ble_eq_true rfl) (fun o16 v16 ρv16 Zv16 hq16 _ => ?_)
        obtain ⟨rfl, rfl, rfl, r16, rfl, hq16⟩ := hq16
        have hw16_ : ω (ρ t 0) = 3 := hH.rf ht (by decide) rfl
        try rw [show (v0 (ρ t 0)) = (v (ρ t 0)) from (hfr0.rw hw16_ (by decide)).trans (rfl)] at hq16
        show wp g X F_X8_advance 0 0 19 [(2, t)] [(0, r16)] v0 ρ Z
        try rw [eB0] at hq16
        try rw [e10] at hq16
        refine r_callS (as := [(0, r16)]) (st := []) (pc := 19) hX 9 rfl mo_X8_isBlank ml_X8_35 stt_X8_isBlank (c_X8_isBlankF g ω v0 ρ Z hH0 (r16) (by omega)) rfl (by rw [hRm]; exact ⟨by decide, by decide⟩) (by rw [hRm]; exact ⟨by decide, by decide⟩) (Nat.le_of_ble_eq_true rfl) (fun o19 v19 ρv19 Zv19 hq19 _ => ?_)
        obtain ⟨rfl, rfl, rfl, r19, rfl, hq19⟩ := hq19
        show wp g X F_X8_advance 0 0 22 [(2, t)] [(0, r19)] v0 ρ Z
        first | refine r_if_eq (pc := 22) hX 10 (tgt := 38) rfl (by decide) (⟨by omega, by omega⟩) (fun h22 => ?_) (fun h22 => ?_) | refine r_if_eq_any (pc := 22) hX 10 (tgt := 38) rfl (by decide) ?_ ?_
        · exact (L38  (by rw [← ff]; exact fs_stop (fun z => by have z1 := z.1; have z2 := bB_iff.mp z.2; omega)) )
        · refine r_aload_n (pc := 25) hX 11 rfl rfl ?_
          refine r_dup (pc := 26) hX 12 rfl (show (2 : Nat) ≠ 1 by decide) ?_
          refine e_getI (y := (v0 t 3)) (pc := 27) hX 13 rfl fl_X8_22 rfl (hH0.kd ht (by decide)) (rfl) ?_
          refine r_iconst (pc := 30) hX 14 rfl ?_
          refine r_iadd (pc := 31) hX 15 rfl ?_
          refine r_putI (pc := 32) hX 16 rfl fl_X8_22 rfl (fun _ h => by cases h; rfl) (hH0.kd ht (by decide)) (hH0.g4 ht (by decide)) ?_
          have hH_32 : HT ω (up v0 t 3 ((v0 t 3) + 1)) ρ Z := hH0.upR ht (by decide) rfl (by omega) (by omega)
          show wp g X F_X8_advance 0 0 35 [(2, t)] [] (up v0 t 3 ((v0 t 3) + 1)) ρ Z
          refine r_goto (pc := 35) hX 17 (tgt := 0) rfl (by decide) ?_
          exact (ih0  (up v0 t 3 ((v0 t 3) + 1)) ((hfr0).up (r := t) ht (by decide)) (hH_32) (by rw [(show (up v0 t 3 ((v0 t 3) + 1)) t 3 = ((v0 t 3) + 1) from up_s _ _ _ _)]; omega) (by rw [(show (up v0 t 3 ((v0 t 3) + 1)) t 3 = ((v0 t 3) + 1) from up_s _ _ _ _), ← fs_step (by omega) (bB_iff.mpr (by omega))]; exact ff) (fun j a => by rw [up_k a]; exact jj j a) (by rw [(show (up v0 t 3 ((v0 t 3) + 1)) t 3 = ((v0 t 3) + 1) from up_s _ _ _ _)]; omega))
  exact (L0 _  v (FrW.rf) (hH) (by omega) (rfl) (fun _ _ => rfl) (Nat.lt_succ_self _))
