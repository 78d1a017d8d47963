set_option maxHeartbeats 4000000 in
set_option maxRecDepth 100000 in
theorem c_X8_hasRoom (g : Gp) (ω : Rw) (v ρ : Mv) (Z : Mz) (hH : HT ω v ρ Z) (t : Int) (ht : ω t = 2) (m : Int) (hm : 0 ≤ m ∧ m ≤ 100) : Ok g 1 0 0 F_X8_hasRoom [(2, t), (0, m)] v ρ Z (fun o9 v' ρ' Z' => ρ = ρ' ∧ Z = Z' ∧ v = v' ∧ ∃ r : Int, o9 = some (0, r) ∧ (0 ≤ r ∧ r ≤ 1 ∧ (r = 1 → v t 1 + m ≤ 940) ∧ (r = 0 → 940 < v t 1 + m))) := by
  refine Ok.of mo_X8_hasRoom (Nat.le_of_ble_eq_true rfl) ?_
  intro X hX hRm hxn hQ
  show wp g X F_X8_hasRoom 0 0 0 [(2, t), (0, m)] [] v ρ Z
  refine t_getI (y := (v t 1)) (pc := 0) hX 0 rfl rfl rfl fl_X8_15 rfl (hH.kd ht (by decide)) (rfl) ?_
  have hb0 : 0 ≤ (v t 1) ∧ (v t 1) ≤ 940 := hH.rg ht (by decide) rfl
  refine r_iload_n (pc := 4) hX 2 rfl rfl ?_
  refine r_iadd (pc := 5) hX 3 rfl ?_
  refine r_sipush (pc := 6) hX 4 rfl (by decide) ?_
  first | refine r_icmp_gt (pc := 9) hX 5 (tgt := 16) rfl (by decide) (⟨by omega, by omega⟩) (⟨by omega, by omega⟩) (fun h9 => ?_) (fun h9 => ?_) | refine r_icmp_gt_any (pc := 9) hX 5 (tgt := 16) rfl (by decide) ?_ ?_
  · refine r_iconst (pc := 16) hX 8 rfl ?_
    exact r_zret (pc := 17) hX 9 hQ rfl rfl ⟨by omega, by omega⟩ (Nat.le_refl 0) (Nat.le_refl 0) ⟨rfl, rfl, rfl, 0, rfl, (by omega)⟩
  · refine r_iconst (pc := 12) hX 6 rfl ?_
    refine r_goto (pc := 13) hX 7 (tgt := 17) rfl (by decide) ?_
    exact r_zret (pc := 17) hX 9 hQ rfl rfl ⟨by omega, by omega⟩ (Nat.le_refl 0) (Nat.le_refl 0) ⟨rfl, rfl, rfl, 1, rfl, (by omega)⟩
set_option maxHeartbeats 4000000 in
set_option maxRecDepth 100000 in
theorem c_X8_append (g : Gp) (ω : Rw) (v ρ : Mv) (Z : Mz) (hH : HT ω v ρ Z) (t : Int) (ht : ω t = 2) (x : Int)  : Ok g 1 0 0 F_X8_append [(2, t), (0, x)] v ρ Z (fun o9 v' ρ' Z' => ρ = ρ' ∧ Z = Z' ∧ FrW ω [2, 3] v v' ∧ HT ω v' ρ Z ∧ o9 = none ∧ ((v t 1 ≤ 936 → v' t 1 = v t 1 + 4))) := by
  refine Ok.of mo_X8_append (Nat.le_of_ble_eq_true rfl) ?_
  intro X hX hRm hxn hQ
  show wp g X F_X8_append 0 0 0 [(2, t), (0, x), (3, 0)] [] v ρ Z
  refine r_bipush (pc := 0) hX 0 rfl (by decide) ?_
  refine r_istore_n (ls' := [(2, t), (0, x), (0, 24)]) (pc := 2) hX 1 rfl (by decide) rfl ?_
  have L3 : ∀ (n3 : Nat) (s : Int) (v3 : Mv) , (FrW ω [2, 3] v v3) → (HT ω v3 ρ Z) → (-8 ≤ s ∧ s ≤ 24) → (v t 1 ≤ 936 → 8 * (v3 t 1 - v t 1) = 24 - s) → (s + 8).toNat < n3 → wp g X F_X8_append 0 0 3 [(2, t), (0, x), (0, s)] [] v3 ρ Z := by
    intro n3
    induction n3 with
    | zero => intro s v3 hfr3 hH3 is il hme3; exact absurd hme3 (Nat.not_lt_zero _)
    | succ n3 ih3 =>
      intro s v3 hfr3 hH3 is il hme3
      refine r_iload_n (pc := 3) hX 2 rfl rfl ?_
      first | refine r_if_lt (pc := 4) hX 3 (tgt := 46) rfl (by decide) (⟨by omega, by omega⟩) (fun h4 => ?_) (fun h4 => ?_) | refine r_if_lt_any (pc := 4) hX 3 (tgt := 46) rfl (by decide) ?_ ?_
      · exact r_vret (pc := 46) hX 25 hQ rfl rfl (Nat.le_refl 0) (Nat.le_refl 0) ⟨rfl, rfl, hfr3, hH3, rfl, (fun z => by have := il z; omega)⟩
      · refine t_getI (y := (v3 t 1)) (pc := 7) hX 4 rfl rfl rfl fl_X8_15 rfl (hH3.kd ht (by decide)) (rfl) ?_
        have hb7 : 0 ≤ (v3 t 1) ∧ (v3 t 1) ≤ 940 := hH3.rg ht (by decide) rfl
        refine r_sipush (pc := 11) hX 6 rfl (by decide) ?_
        first | refine r_icmp_ge (pc := 14) hX 7 (tgt := 46) rfl (by decide) (⟨by omega, by omega⟩) (⟨by omega, by omega⟩) (fun h14 => ?_) (fun h14 => ?_) | refine r_icmp_ge_any (pc := 14) hX 7 (tgt := 46) rfl (by decide) ?_ ?_
        · exact r_vret (pc := 46) hX 25 hQ rfl rfl (Nat.le_refl 0) (Nat.le_refl 0) ⟨rfl, rfl, hfr3, hH3, rfl, (fun z => by have := il z; omega)⟩
        · refine t_getR (q := (ρ t 0)) (pc := 17) hX 8 rfl rfl rfl fl_X8_11 rfl (hH3.kd ht (by decide)) (rfl) ?_
          have hw17_ : ω (ρ t 0) = 3 := hH.rf ht (by decide) rfl
          refine t_getI (y := (v3 t 1)) (pc := 21) hX 10 rfl rfl rfl fl_X8_15 rfl (hH3.kd ht (by decide)) (rfl) ?_
          refine r_iload_n (pc := 25) hX 12 rfl rfl ?_
          refine r_iload_n (pc := 26) hX 13 rfl rfl ?_
          refine r_ishr_any (pc := 27) hX 14 rfl (fun z27 hz27 => ?_)
          refine r_i2b_any (pc := 28) hX 15 rfl (fun z28 hz28a hz28b => ?_)
          refine e_bast (n := 940) (pc := 29) hX 16 rfl (hH3.kd hw17_ (by decide)) (hH3.ln hw17_ (by decide)) (hH3.g4 hw17_ (by decide)) (by omega) (by omega) ⟨by omega, by omega⟩ ?_
          have hH_29 : HT ω (up v3 (ρ t 0) (v3 t 1) z28) ρ Z := hH3.up0 hw17_ (by decide) rfl
          refine r_aload_n (pc := 30) hX 17 rfl rfl ?_
          refine r_dup (pc := 31) hX 18 rfl (show (2 : Nat) ≠ 1 by decide) ?_
          refine e_getI (y := (v3 t 1)) (pc := 32) hX 19 rfl fl_X8_15 rfl (hH_29.kd ht (by decide)) ((up_r (rne ht hw17_ (by decide))).trans (rfl)) ?_
          refine r_iconst (pc := 35) hX 20 rfl ?_
          refine r_iadd (pc := 36) hX 21 rfl ?_
          refine r_putI (pc := 37) hX 22 rfl fl_X8_15 rfl (fun _ h => by cases h; rfl) (hH_29.kd ht (by decide)) (hH_29.g4 ht (by decide)) ?_
          have hH_37 : HT ω (up (up v3 (ρ t 0) (v3 t 1) z28) t 1 ((v3 t 1) + 1)) ρ Z := hH_29.upR ht (by decide) rfl (by omega) (by omega)
          show wp g X F_X8_append 0 0 40 [(2, t), (0, x), (0, s)] [] (up (up v3 (ρ t 0) (v3 t 1) z28) t 1 ((v3 t 1) + 1)) ρ Z
          refine r_iinc (ls' := [(2, t), (0, x), (0, (s + (-8)))]) (pc := 40) hX 23 rfl rfl (by decide) rfl ?_
          refine r_goto (pc := 43) hX 24 (tgt := 3) rfl (by decide) ?_
          exact (ih3 (s + (-8)) (up (up v3 (ρ t 0) (v3 t 1) z28) t 1 ((v3 t 1) + 1)) (((hfr3).up (r := (ρ t 0)) hw17_ (by decide)).up (r := t) ht (by decide)) (hH_37) (by omega) (fun z => by rw [(show (up (up v3 (ρ t 0) (v3 t 1) z28) t 1 ((v3 t 1) + 1)) t 1 = ((v3 t 1) + 1) from up_s _ _ _ _)]; have := il z; omega) (by omega))
  exact (L3 _ 24 v (FrW.rf) (hH) (by omega) (fun _ => by omega) (Nat.lt_succ_self _))
set_option maxHeartbeats 4000000 in
set_option maxRecDepth 100000 in
theorem c_X8_byteAt (g : Gp) (ω : Rw) (v ρ : Mv) (Z : Mz) (hH : HT ω v ρ Z) (t : Int) (ht : ω t = 2) (i : Int) (hir : inR i) : Ok g 1 0 0 F_X8_byteAt [(2, t), (0, i)] v ρ Z (fun o9 v' ρ' Z' => ρ = ρ' ∧ Z = Z' ∧ v = v' ∧ ∃ r : Int, o9 = some (0, r) ∧ (-1 ≤ r ∧ r ≤ 255)) := by
  refine Ok.of mo_X8_byteAt (Nat.le_of_ble_eq_true rfl) ?_
  intro X hX hRm hxn hQ
  show wp g X F_X8_byteAt 0 0 0 [(2, t), (0, i)] [] v ρ Z
  refine r_iload_n (pc := 0) hX 0 rfl rfl ?_
  first | refine r_if_lt (pc := 1) hX 1 (tgt := 32) rfl (by decide) (⟨by omega, by omega⟩) (fun h1 => ?_) (fun h1 => ?_) | refine r_if_lt_any (pc := 1) hX 1 (tgt := 32) rfl (by decide) ?_ ?_
  · refine r_iconst (pc := 32) hX 16 rfl ?_
    exact r_iret (pc := 33) hX 17 hQ rfl rfl (Nat.le_refl 0) (Nat.le_refl 0) ⟨rfl, rfl, rfl, (-1), rfl, (by omega)⟩
  · refine r_iload_n (pc := 4) hX 2 rfl rfl ?_
    refine t_getI (y := (v t 1)) (pc := 5) hX 3 rfl rfl rfl fl_X8_15 rfl (hH.kd ht (by decide)) (rfl) ?_
    have hb5 : 0 ≤ (v t 1) ∧ (v t 1) ≤ 940 := hH.rg ht (by decide) rfl
    first | refine r_icmp_ge (pc := 9) hX 5 (tgt := 32) rfl (by decide) (⟨by omega, by omega⟩) (⟨by omega, by omega⟩) (fun h9 => ?_) (fun h9 => ?_) | refine r_icmp_ge_any (pc := 9) hX 5 (tgt := 32) rfl (by decide) ?_ ?_
    · refine r_iconst (pc := 32) hX 16 rfl ?_
      exact r_iret (pc := 33) hX 17 hQ rfl rfl (Nat.le_refl 0) (Nat.le_refl 0) ⟨rfl, rfl, rfl, (-1), rfl, (by omega)⟩
    · refine r_iload_n (pc := 12) hX 6 rfl rfl ?_
      refine r_sipush (pc := 13) hX 7 rfl (by decide) ?_
      first | refine r_icmp_ge (pc := 16) hX 8 (tgt := 32) rfl (by decide) (⟨by omega, by omega⟩) (⟨by omega, by omega⟩) (fun h16 => ?_) (fun h16 => ?_) | refine r_icmp_ge_any (pc := 16) hX 8 (tgt := 32) rfl (by decide) ?_ ?_
      · refine r_iconst (pc := 32) hX 16 rfl ?_
        exact r_iret (pc := 33) hX 17 hQ rfl rfl (Nat.le_refl 0) (Nat.le_refl 0) ⟨rfl, rfl, rfl, (-1), rfl, (by omega)⟩
      · refine t_getR (q := (ρ t 0)) (pc := 19) hX 9 rfl rfl rfl fl_X8_11 rfl (hH.kd ht (by decide)) (rfl) ?_
        have hw19_ : ω (ρ t 0) = 3 := hH.rf ht (by decide) rfl
        refine r_iload_n (pc := 23) hX 11 rfl rfl ?_
        refine e_bald (y := (v (ρ t 0) i)) (n := 940) (pc := 24) hX 12 rfl (hH.kd hw19_ (by decide)) (hH.ln hw19_ (by decide)) (by omega) (by omega) (rfl) (fun hb24a hb24b => ?_)
        refine r_sipush (pc := 25) hX 13 rfl (by decide) ?_
        refine r_iandm (pc := 28) hX 14 8 rfl (by decide) (by decide) (m := 256) (by decide) ?_
        refine r_goto (pc := 29) hX 15 (tgt := 33) rfl (by decide) ?_
        exact r_iret (pc := 33) hX 17 hQ rfl rfl (Nat.le_refl 0) (Nat.le_refl 0) ⟨rfl, rfl, rfl, ((v (ρ t 0) i) % 256), rfl, (by omega)⟩
set_option maxHeartbeats 4000000 in
set_option maxRecDepth 100000 in
theorem c_X8_open (g : Gp) (ω : Rw) (v ρ : Mv) (Z : Mz) (hH : HT ω v ρ Z) (t : Int) (ht : ω t = 2) (m : Int) (hm : 0 ≤ m ∧ m ≤ 1000) : Ok g 1 0 0 F_X8_open [(2, t), (0, m)] v ρ Z (fun o9 v' ρ' Z' => ρ = ρ' ∧ Z = Z' ∧ FrW ω [2] v v' ∧ HT ω v' ρ Z ∧ o9 = none ∧ (v' t 1 = v t 1)) := by
  refine Ok.of mo_X8_open (Nat.le_of_ble_eq_true rfl) ?_
  intro X hX hRm hxn hQ
  show wp g X F_X8_open 0 0 0 [(2, t), (0, m)] [] v ρ Z
  refine r_aload_n (pc := 0) hX 0 rfl rfl ?_
  refine r_iload_n (pc := 1) hX 1 rfl rfl ?_
  refine r_putI (pc := 2) hX 2 rfl fl_X8_19 rfl (fun _ h => by cases h; rfl) (hH.kd ht (by decide)) (hH.g4 ht (by decide)) ?_
  have hH_2 : HT ω (up v t 2 m) ρ Z := hH.upR ht (by decide) rfl (by omega) (by omega)
  show wp g X F_X8_open 0 0 5 [(2, t), (0, m)] [] (up v t 2 m) ρ Z
  refine r_aload_n (pc := 5) hX 3 rfl rfl ?_
  refine r_iconst (pc := 6) hX 4 rfl ?_
  refine r_putI (pc := 7) hX 5 rfl fl_X8_22 rfl (fun _ h => by cases h; rfl) (hH_2.kd ht (by decide)) (hH_2.g4 ht (by decide)) ?_
  have hH_7 : HT ω (up (up v t 2 m) t 3 0) ρ Z := hH_2.upR ht (by decide) rfl (by omega) (by omega)
  show wp g X F_X8_open 0 0 10 [(2, t), (0, m)] [] (up (up v t 2 m) t 3 0) ρ Z
  refine r_aload_n (pc := 10) hX 6 rfl rfl ?_
  refine r_iconst (pc := 11) hX 7 rfl ?_
  refine r_putI (pc := 12) hX 8 rfl fl_X8_25 rfl (fun _ h => by cases h; rfl) (hH_7.kd ht (by decide)) (hH_7.g4 ht (by decide)) ?_
  have hH_12 : HT ω (up (up (up v t 2 m) t 3 0) t 9 0) ρ Z := hH_7.upR ht (by decide) rfl (by omega) (by omega)
  show wp g X F_X8_open 0 0 15 [(2, t), (0, m)] [] (up (up (up v t 2 m) t 3 0) t 9 0) ρ Z
  refine r_aload_n (pc := 15) hX 9 rfl rfl ?_
  refine r_iconst (pc := 16) hX 10 rfl ?_
  refine r_putI (pc := 17) hX 11 rfl fl_X8_28 rfl (fun _ h => by cases h; rfl) (hH_12.kd ht (by decide)) (hH_12.g4 ht (by decide)) ?_
  have hH_17 : HT ω (up (up (up (up v t 2 m) t 3 0) t 9 0) t 10 0) ρ Z := hH_12.upR ht (by decide) rfl (by omega) (by omega)
  show wp g X F_X8_open 0 0 20 [(2, t), (0, m)] [] (up (up (up (up v t 2 m) t 3 0) t 9 0) t 10 0) ρ Z
  exact r_vret (pc := 20) hX 12 hQ rfl rfl (Nat.le_refl 0) (Nat.le_refl 0) ⟨rfl, rfl, ((((FrW.rf).up (r := t) ht (by decide)).up (r := t) ht (by decide)).up (r := t) ht (by decide)).up (r := t) ht (by decide), hH_17, rfl, (((up_k (by decide)).trans ((up_k (by decide)).trans ((up_k (by decide)).trans ((up_k (by decide)).trans (rfl))))).trans (by omega))⟩
set_option maxHeartbeats 4000000 in
set_option maxRecDepth 100000 in
theorem c_X8_isBlank (g : Gp) (ω : Rw) (v ρ : Mv) (Z : Mz) (hH : HT ω v ρ Z) (c : Int) (hcr : inR c) : Ok g 1 0 0 F_X8_isBlank [(0, c)] v ρ Z (fun o9 v' ρ' Z' => ρ = ρ' ∧ Z = Z' ∧ v = v' ∧ ∃ r : Int, o9 = some (0, r) ∧ (0 ≤ r ∧ r ≤ 1)) := by
  refine Ok.of mo_X8_isBlank (Nat.le_of_ble_eq_true rfl) ?_
  intro X hX hRm hxn hQ
  show wp g X F_X8_isBlank 0 0 0 [(0, c)] [] v ρ Z
  refine r_iload_n (pc := 0) hX 0 rfl rfl ?_
  refine r_bipush (pc := 1) hX 1 rfl (by decide) ?_
  first | refine r_icmp_eq (pc := 3) hX 2 (tgt := 12) rfl (by decide) (⟨by omega, by omega⟩) (⟨by omega, by omega⟩) (fun h3 => ?_) (fun h3 => ?_) | refine r_icmp_eq_any (pc := 3) hX 2 (tgt := 12) rfl (by decide) ?_ ?_
  · refine r_iconst (pc := 12) hX 6 rfl ?_
    refine r_goto (pc := 13) hX 7 (tgt := 17) rfl (by decide) ?_
    exact r_zret (pc := 17) hX 9 hQ rfl rfl ⟨by omega, by omega⟩ (Nat.le_refl 0) (Nat.le_refl 0) ⟨rfl, rfl, rfl, 1, rfl, (by omega)⟩
  · refine r_iload_n (pc := 6) hX 3 rfl rfl ?_
    refine r_bipush (pc := 7) hX 4 rfl (by decide) ?_
    first | refine r_icmp_ne (pc := 9) hX 5 (tgt := 16) rfl (by decide) (⟨by omega, by omega⟩) (⟨by omega, by omega⟩) (fun h9 => ?_) (fun h9 => ?_) | refine r_icmp_ne_any (pc := 9) hX 5 (tgt := 16) rfl (by decide) ?_ ?_
    · refine r_iconst (pc := 16) hX 8 rfl ?_
      exact r_zret (pc := 17) hX 9 hQ rfl rfl ⟨by omega, by omega⟩ (Nat.le_refl 0) (Nat.le_refl 0) ⟨rfl, rfl, rfl, 0, rfl, (by omega)⟩
    · refine r_iconst (pc := 12) hX 6 rfl ?_
      refine r_goto (pc := 13) hX 7 (tgt := 17) rfl (by decide) ?_
      exact r_zret (pc := 17) hX 9 hQ rfl rfl ⟨by omega, by omega⟩ (Nat.le_refl 0) (Nat.le_refl 0) ⟨rfl, rfl, rfl, 1, rfl, (by omega)⟩
set_option maxHeartbeats 4000000 in
set_option maxRecDepth 100000 in
theorem c_X8_goesOn (g : Gp) (ω : Rw) (v ρ : Mv) (Z : Mz) (hH : HT ω v ρ Z) (c : Int) (hcr : inR c) : Ok g 1 0 0 F_X8_goesOn [(0, c)] v ρ Z (fun o9 v' ρ' Z' => ρ = ρ' ∧ Z = Z' ∧ v = v' ∧ ∃ r : Int, o9 = some (0, r) ∧ (0 ≤ r ∧ r ≤ 1)) := by
  refine Ok.of mo_X8_goesOn (Nat.le_of_ble_eq_true rfl) ?_
  intro X hX hRm hxn hQ
  show wp g X F_X8_goesOn 0 0 0 [(0, c)] [] v ρ Z
  refine r_iload_n (pc := 0) hX 0 rfl rfl ?_
  refine r_bipush (pc := 1) hX 1 rfl (by decide) ?_
  first | refine r_icmp_lt (pc := 3) hX 2 (tgt := 12) rfl (by decide) (⟨by omega, by omega⟩) (⟨by omega, by omega⟩) (fun h3 => ?_) (fun h3 => ?_) | refine r_icmp_lt_any (pc := 3) hX 2 (tgt := 12) rfl (by decide) ?_ ?_
  · refine r_iload_n (pc := 12) hX 6 rfl rfl ?_
    refine r_bipush (pc := 13) hX 7 rfl (by decide) ?_
    first | refine r_icmp_lt (pc := 15) hX 8 (tgt := 28) rfl (by decide) (⟨by omega, by omega⟩) (⟨by omega, by omega⟩) (fun h15 => ?_) (fun h15 => ?_) | refine r_icmp_lt_any (pc := 15) hX 8 (tgt := 28) rfl (by decide) ?_ ?_
    · refine r_iconst (pc := 28) hX 14 rfl ?_
      exact r_zret (pc := 29) hX 15 hQ rfl rfl ⟨by omega, by omega⟩ (Nat.le_refl 0) (Nat.le_refl 0) ⟨rfl, rfl, rfl, 0, rfl, (by omega)⟩
    · refine r_iload_n (pc := 18) hX 9 rfl rfl ?_
      refine r_bipush (pc := 19) hX 10 rfl (by decide) ?_
      first | refine r_icmp_gt (pc := 21) hX 11 (tgt := 28) rfl (by decide) (⟨by omega, by omega⟩) (⟨by omega, by omega⟩) (fun h21 => ?_) (fun h21 => ?_) | refine r_icmp_gt_any (pc := 21) hX 11 (tgt := 28) rfl (by decide) ?_ ?_
      · refine r_iconst (pc := 28) hX 14 rfl ?_
        exact r_zret (pc := 29) hX 15 hQ rfl rfl ⟨by omega, by omega⟩ (Nat.le_refl 0) (Nat.le_refl 0) ⟨rfl, rfl, rfl, 0, rfl, (by omega)⟩
      · refine r_iconst (pc := 24) hX 12 rfl ?_
        refine r_goto (pc := 25) hX 13 (tgt := 29) rfl (by decide) ?_
        exact r_zret (pc := 29) hX 15 hQ rfl rfl ⟨by omega, by omega⟩ (Nat.le_refl 0) (Nat.le_refl 0) ⟨rfl, rfl, rfl, 1, rfl, (by omega)⟩
  · refine r_iload_n (pc := 6) hX 3 rfl rfl ?_
    refine r_bipush (pc := 7) hX 4 rfl (by decide) ?_
    first | refine r_icmp_le (pc := 9) hX 5 (tgt := 24) rfl (by decide) (⟨by omega, by omega⟩) (⟨by omega, by omega⟩) (fun h9 => ?_) (fun h9 => ?_) | refine r_icmp_le_any (pc := 9) hX 5 (tgt := 24) rfl (by decide) ?_ ?_
    · refine r_iconst (pc := 24) hX 12 rfl ?_
      refine r_goto (pc := 25) hX 13 (tgt := 29) rfl (by decide) ?_
      exact r_zret (pc := 29) hX 15 hQ rfl rfl ⟨by omega, by omega⟩ (Nat.le_refl 0) (Nat.le_refl 0) ⟨rfl, rfl, rfl, 1, rfl, (by omega)⟩
    · refine r_iload_n (pc := 12) hX 6 rfl rfl ?_
      refine r_bipush (pc := 13) hX 7 rfl (by decide) ?_
      first | refine r_icmp_lt (pc := 15) hX 8 (tgt := 28) rfl (by decide) (⟨by omega, by omega⟩) (⟨by omega, by omega⟩) (fun h15 => ?_) (fun h15 => ?_) | refine r_icmp_lt_any (pc := 15) hX 8 (tgt := 28) rfl (by decide) ?_ ?_
      · refine r_iconst (pc := 28) hX 14 rfl ?_
        exact r_zret (pc := 29) hX 15 hQ rfl rfl ⟨by omega, by omega⟩ (Nat.le_refl 0) (Nat.le_refl 0) ⟨rfl, rfl, rfl, 0, rfl, (by omega)⟩
      · refine r_iload_n (pc := 18) hX 9 rfl rfl ?_
        refine r_bipush (pc := 19) hX 10 rfl (by decide) ?_
        first | refine r_icmp_gt (pc := 21) hX 11 (tgt := 28) rfl (by decide) (⟨by omega, by omega⟩) (⟨by omega, by omega⟩) (fun h21 => ?_) (fun h21 => ?_) | refine r_icmp_gt_any (pc := 21) hX 11 (tgt := 28) rfl (by decide) ?_ ?_
        · refine r_iconst (pc := 28) hX 14 rfl ?_
          exact r_zret (pc := 29) hX 15 hQ rfl rfl ⟨by omega, by omega⟩ (Nat.le_refl 0) (Nat.le_refl 0) ⟨rfl, rfl, rfl, 0, rfl, (by omega)⟩
        · refine r_iconst (pc := 24) hX 12 rfl ?_
          refine r_goto (pc := 25) hX 13 (tgt := 29) rfl (by decide) ?_
          exact r_zret (pc := 29) hX 15 hQ rfl rfl ⟨by omega, by omega⟩ (Nat.le_refl 0) (Nat.le_refl 0) ⟨rfl, rfl, rfl, 1, rfl, (by omega)⟩
set_option maxHeartbeats 4000000 in
set_option maxRecDepth 100000 in
theorem c_X8_isMarkSign (g : Gp) (ω : Rw) (v ρ : Mv) (Z : Mz) (hH : HT ω v ρ Z) (c : Int) (hcr : inR c) : Ok g 1 0 0 F_X8_isMarkSign [(0, c)] v ρ Z (fun o9 v' ρ' Z' => ρ = ρ' ∧ Z = Z' ∧ v = v' ∧ ∃ r : Int, o9 = some (0, r) ∧ (0 ≤ r ∧ r ≤ 1)) := by
  refine Ok.of mo_X8_isMarkSign (Nat.le_of_ble_eq_true rfl) ?_
  intro X hX hRm hxn hQ
  show wp g X F_X8_isMarkSign 0 0 0 [(0, c)] [] v ρ Z
  refine r_iload_n (pc := 0) hX 0 rfl rfl ?_
  refine r_bipush (pc := 1) hX 1 rfl (by decide) ?_
  first | refine r_icmp_eq (pc := 3) hX 2 (tgt := 30) rfl (by decide) (⟨by omega, by omega⟩) (⟨by omega, by omega⟩) (fun h3 => ?_) (fun h3 => ?_) | refine r_icmp_eq_any (pc := 3) hX 2 (tgt := 30) rfl (by decide) ?_ ?_
  · refine r_iconst (pc := 30) hX 15 rfl ?_
    refine r_goto (pc := 31) hX 16 (tgt := 35) rfl (by decide) ?_
    exact r_zret (pc := 35) hX 18 hQ rfl rfl ⟨by omega, by omega⟩ (Nat.le_refl 0) (Nat.le_refl 0) ⟨rfl, rfl, rfl, 1, rfl, (by omega)⟩
  · refine r_iload_n (pc := 6) hX 3 rfl rfl ?_
    refine r_bipush (pc := 7) hX 4 rfl (by decide) ?_
    first | refine r_icmp_lt (pc := 9) hX 5 (tgt := 18) rfl (by decide) (⟨by omega, by omega⟩) (⟨by omega, by omega⟩) (fun h9 => ?_) (fun h9 => ?_) | refine r_icmp_lt_any (pc := 9) hX 5 (tgt := 18) rfl (by decide) ?_ ?_
    · refine r_iload_n (pc := 18) hX 9 rfl rfl ?_
      refine r_bipush (pc := 19) hX 10 rfl (by decide) ?_
      first | refine r_icmp_eq (pc := 21) hX 11 (tgt := 30) rfl (by decide) (⟨by omega, by omega⟩) (⟨by omega, by omega⟩) (fun h21 => ?_) (fun h21 => ?_) | refine r_icmp_eq_any (pc := 21) hX 11 (tgt := 30) rfl (by decide) ?_ ?_
      · refine r_iconst (pc := 30) hX 15 rfl ?_
        refine r_goto (pc := 31) hX 16 (tgt := 35) rfl (by decide) ?_
        exact r_zret (pc := 35) hX 18 hQ rfl rfl ⟨by omega, by omega⟩ (Nat.le_refl 0) (Nat.le_refl 0) ⟨rfl, rfl, rfl, 1, rfl, (by omega)⟩
      · refine r_iload_n (pc := 24) hX 12 rfl rfl ?_
        refine r_bipush (pc := 25) hX 13 rfl (by decide) ?_
        first | refine r_icmp_ne (pc := 27) hX 14 (tgt := 34) rfl (by decide) (⟨by omega, by omega⟩) (⟨by omega, by omega⟩) (fun h27 => ?_) (fun h27 => ?_) | refine r_icmp_ne_any (pc := 27) hX 14 (tgt := 34) rfl (by decide) ?_ ?_
        · refine r_iconst (pc := 34) hX 17 rfl ?_
          exact r_zret (pc := 35) hX 18 hQ rfl rfl ⟨by omega, by omega⟩ (Nat.le_refl 0) (Nat.le_refl 0) ⟨rfl, rfl, rfl, 0, rfl, (by omega)⟩
        · refine r_iconst (pc := 30) hX 15 rfl ?_
          refine r_goto (pc := 31) hX 16 (tgt := 35) rfl (by decide) ?_
          exact r_zret (pc := 35) hX 18 hQ rfl rfl ⟨by omega, by omega⟩ (Nat.le_refl 0) (Nat.le_refl 0) ⟨rfl, rfl, rfl, 1, rfl, (by omega)⟩
    · refine r_iload_n (pc := 12) hX 6 rfl rfl ?_
      refine r_bipush (pc := 13) hX 7 rfl (by decide) ?_
      first | refine r_icmp_le (pc := 15) hX 8 (tgt := 30) rfl (by decide) (⟨by omega, by omega⟩) (⟨by omega, by omega⟩) (fun h15 => ?_) (fun h15 => ?_) | refine r_icmp_le_any (pc := 15) hX 8 (tgt := 30) rfl (by decide) ?_ ?_
      · refine r_iconst (pc := 30) hX 15 rfl ?_
        refine r_goto (pc := 31) hX 16 (tgt := 35) rfl (by decide) ?_
        exact r_zret (pc := 35) hX 18 hQ rfl rfl ⟨by omega, by omega⟩ (Nat.le_refl 0) (Nat.le_refl 0) ⟨rfl, rfl, rfl, 1, rfl, (by omega)⟩
      · refine r_iload_n (pc := 18) hX 9 rfl rfl ?_
        refine r_bipush (pc := 19) hX 10 rfl (by decide) ?_
        first | refine r_icmp_eq (pc := 21) hX 11 (tgt := 30) rfl (by decide) (⟨by omega, by omega⟩) (⟨by omega, by omega⟩) (fun h21 => ?_) (fun h21 => ?_) | refine r_icmp_eq_any (pc := 21) hX 11 (tgt := 30) rfl (by decide) ?_ ?_
        · refine r_iconst (pc := 30) hX 15 rfl ?_
          refine r_goto (pc := 31) hX 16 (tgt := 35) rfl (by decide) ?_
          exact r_zret (pc := 35) hX 18 hQ rfl rfl ⟨by omega, by omega⟩ (Nat.le_refl 0) (Nat.le_refl 0) ⟨rfl, rfl, rfl, 1, rfl, (by omega)⟩
        · refine r_iload_n (pc := 24) hX 12 rfl rfl ?_
          refine r_bipush (pc := 25) hX 13 rfl (by decide) ?_
          first | refine r_icmp_ne (pc := 27) hX 14 (tgt := 34) rfl (by decide) (⟨by omega, by omega⟩) (⟨by omega, by omega⟩) (fun h27 => ?_) (fun h27 => ?_) | refine r_icmp_ne_any (pc := 27) hX 14 (tgt := 34) rfl (by decide) ?_ ?_
          · refine r_iconst (pc := 34) hX 17 rfl ?_
            exact r_zret (pc := 35) hX 18 hQ rfl rfl ⟨by omega, by omega⟩ (Nat.le_refl 0) (Nat.le_refl 0) ⟨rfl, rfl, rfl, 0, rfl, (by omega)⟩
          · refine r_iconst (pc := 30) hX 15 rfl ?_
            refine r_goto (pc := 31) hX 16 (tgt := 35) rfl (by decide) ?_
            exact r_zret (pc := 35) hX 18 hQ rfl rfl ⟨by omega, by omega⟩ (Nat.le_refl 0) (Nat.le_refl 0) ⟨rfl, rfl, rfl, 1, rfl, (by omega)⟩
set_option maxHeartbeats 4000000 in
set_option maxRecDepth 100000 in
theorem c_X8_isMark (g : Gp) (ω : Rw) (v ρ : Mv) (Z : Mz) (hH : HT ω v ρ Z) (t : Int) (ht : ω t = 2) (c : Int) (hcr : inR c) : Ok g 1 0 0 F_X8_isMark [(2, t), (0, c)] v ρ Z (fun o9 v' ρ' Z' => ρ = ρ' ∧ Z = Z' ∧ v = v' ∧ ∃ r : Int, o9 = some (0, r) ∧ (0 ≤ r ∧ r ≤ 1)) := by
  refine Ok.of mo_X8_isMark (Nat.le_of_ble_eq_true rfl) ?_
  intro X hX hRm hxn hQ
  show wp g X F_X8_isMark 0 0 0 [(2, t), (0, c)] [] v ρ Z
  refine t_getI (y := (v t 4)) (pc := 0) hX 0 rfl rfl rfl fl_X8_52 rfl (hH.kd ht (by decide)) (rfl) ?_
  have hb0 : 0 ≤ (v t 4) ∧ (v t 4) ≤ 4 := hH.rg ht (by decide) rfl
  refine r_iconst (pc := 4) hX 2 rfl ?_
  first | refine r_icmp_ne (pc := 5) hX 3 (tgt := 20) rfl (by decide) (⟨by omega, by omega⟩) (⟨by omega, by omega⟩) (fun h5 => ?_) (fun h5 => ?_) | refine r_icmp_ne_any (pc := 5) hX 3 (tgt := 20) rfl (by decide) ?_ ?_
  · refine r_iconst (pc := 20) hX 10 rfl ?_
    exact r_zret (pc := 21) hX 11 hQ rfl rfl ⟨by omega, by omega⟩ (Nat.le_refl 0) (Nat.le_refl 0) ⟨rfl, rfl, rfl, 0, rfl, (by omega)⟩
  · refine t_getI (y := (v t 6)) (pc := 8) hX 4 rfl rfl rfl fl_X8_49 rfl (hH.kd ht (by decide)) (rfl) ?_
    have hb8 : (-2147483648) ≤ (v t 6) ∧ (v t 6) ≤ 2147483647 := hH.rg ht (by decide) rfl
    refine r_iload_n (pc := 12) hX 6 rfl rfl ?_
    first | refine r_icmp_ne (pc := 13) hX 7 (tgt := 20) rfl (by decide) (⟨by omega, by omega⟩) (⟨by omega, by omega⟩) (fun h13 => ?_) (fun h13 => ?_) | refine r_icmp_ne_any (pc := 13) hX 7 (tgt := 20) rfl (by decide) ?_ ?_
    · refine r_iconst (pc := 20) hX 10 rfl ?_
      exact r_zret (pc := 21) hX 11 hQ rfl rfl ⟨by omega, by omega⟩ (Nat.le_refl 0) (Nat.le_refl 0) ⟨rfl, rfl, rfl, 0, rfl, (by omega)⟩
    · refine r_iconst (pc := 16) hX 8 rfl ?_
      refine r_goto (pc := 17) hX 9 (tgt := 21) rfl (by decide) ?_
      exact r_zret (pc := 21) hX 11 hQ rfl rfl ⟨by omega, by omega⟩ (Nat.le_refl 0) (Nat.le_refl 0) ⟨rfl, rfl, rfl, 1, rfl, (by omega)⟩
set_option maxHeartbeats 4000000 in
set_option maxRecDepth 100000 in
theorem c_X8_isComparing (g : Gp) (ω : Rw) (v ρ : Mv) (Z : Mz) (hH : HT ω v ρ Z) (t : Int) (ht : ω t = 2)  : Ok g 1 0 0 F_X8_isComparing [(2, t)] v ρ Z (fun o9 v' ρ' Z' => ρ = ρ' ∧ Z = Z' ∧ v = v' ∧ ∃ r : Int, o9 = some (0, r) ∧ (0 ≤ r ∧ r ≤ 1)) := by
  refine Ok.of mo_X8_isComparing (Nat.le_of_ble_eq_true rfl) ?_
  intro X hX hRm hxn hQ
  show wp g X F_X8_isComparing 0 0 0 [(2, t)] [] v ρ Z
  refine t_getI (y := (v t 4)) (pc := 0) hX 0 rfl rfl rfl fl_X8_52 rfl (hH.kd ht (by decide)) (rfl) ?_
  have hb0 : 0 ≤ (v t 4) ∧ (v t 4) ≤ 4 := hH.rg ht (by decide) rfl
  refine r_iconst (pc := 4) hX 2 rfl ?_
  first | refine r_icmp_ne (pc := 5) hX 3 (tgt := 30) rfl (by decide) (⟨by omega, by omega⟩) (⟨by omega, by omega⟩) (fun h5 => ?_) (fun h5 => ?_) | refine r_icmp_ne_any (pc := 5) hX 3 (tgt := 30) rfl (by decide) ?_ ?_
  · refine r_iconst (pc := 30) hX 14 rfl ?_
    exact r_zret (pc := 31) hX 15 hQ rfl rfl ⟨by omega, by omega⟩ (Nat.le_refl 0) (Nat.le_refl 0) ⟨rfl, rfl, rfl, 0, rfl, (by omega)⟩
  · refine t_getI (y := (v t 6)) (pc := 8) hX 4 rfl rfl rfl fl_X8_49 rfl (hH.kd ht (by decide)) (rfl) ?_
    have hb8 : (-2147483648) ≤ (v t 6) ∧ (v t 6) ≤ 2147483647 := hH.rg ht (by decide) rfl
    refine r_bipush (pc := 12) hX 6 rfl (by decide) ?_
    first | refine r_icmp_lt (pc := 14) hX 7 (tgt := 30) rfl (by decide) (⟨by omega, by omega⟩) (⟨by omega, by omega⟩) (fun h14 => ?_) (fun h14 => ?_) | refine r_icmp_lt_any (pc := 14) hX 7 (tgt := 30) rfl (by decide) ?_ ?_
    · refine r_iconst (pc := 30) hX 14 rfl ?_
      exact r_zret (pc := 31) hX 15 hQ rfl rfl ⟨by omega, by omega⟩ (Nat.le_refl 0) (Nat.le_refl 0) ⟨rfl, rfl, rfl, 0, rfl, (by omega)⟩
    · refine t_getI (y := (v t 6)) (pc := 17) hX 8 rfl rfl rfl fl_X8_49 rfl (hH.kd ht (by decide)) (rfl) ?_
      refine r_bipush (pc := 21) hX 10 rfl (by decide) ?_
      first | refine r_icmp_gt (pc := 23) hX 11 (tgt := 30) rfl (by decide) (⟨by omega, by omega⟩) (⟨by omega, by omega⟩) (fun h23 => ?_) (fun h23 => ?_) | refine r_icmp_gt_any (pc := 23) hX 11 (tgt := 30) rfl (by decide) ?_ ?_
      · refine r_iconst (pc := 30) hX 14 rfl ?_
        exact r_zret (pc := 31) hX 15 hQ rfl rfl ⟨by omega, by omega⟩ (Nat.le_refl 0) (Nat.le_refl 0) ⟨rfl, rfl, rfl, 0, rfl, (by omega)⟩
      · refine r_iconst (pc := 26) hX 12 rfl ?_
        refine r_goto (pc := 27) hX 13 (tgt := 31) rfl (by decide) ?_
        exact r_zret (pc := 31) hX 15 hQ rfl rfl ⟨by omega, by omega⟩ (Nat.le_refl 0) (Nat.le_refl 0) ⟨rfl, rfl, rfl, 1, rfl, (by omega)⟩
set_option maxHeartbeats 4000000 in
set_option maxRecDepth 100000 in
theorem c_X8_isName (g : Gp) (ω : Rw) (v ρ : Mv) (Z : Mz) (hH : HT ω v ρ Z) (t : Int) (ht : ω t = 2)  : Ok g 1 0 0 F_X8_isName [(2, t)] v ρ Z (fun o9 v' ρ' Z' => ρ = ρ' ∧ Z = Z' ∧ v = v' ∧ ∃ r : Int, o9 = some (0, r) ∧ (0 ≤ r ∧ r ≤ 1)) := by
  refine Ok.of mo_X8_isName (Nat.le_of_ble_eq_true rfl) ?_
  intro X hX hRm hxn hQ
  show wp g X F_X8_isName 0 0 0 [(2, t)] [] v ρ Z
  refine t_getI (y := (v t 4)) (pc := 0) hX 0 rfl rfl rfl fl_X8_52 rfl (hH.kd ht (by decide)) (rfl) ?_
  have hb0 : 0 ≤ (v t 4) ∧ (v t 4) ≤ 4 := hH.rg ht (by decide) rfl
  refine r_iconst (pc := 4) hX 2 rfl ?_
  first | refine r_icmp_ne (pc := 5) hX 3 (tgt := 20) rfl (by decide) (⟨by omega, by omega⟩) (⟨by omega, by omega⟩) (fun h5 => ?_) (fun h5 => ?_) | refine r_icmp_ne_any (pc := 5) hX 3 (tgt := 20) rfl (by decide) ?_ ?_
  · refine r_iconst (pc := 20) hX 10 rfl ?_
    exact r_zret (pc := 21) hX 11 hQ rfl rfl ⟨by omega, by omega⟩ (Nat.le_refl 0) (Nat.le_refl 0) ⟨rfl, rfl, rfl, 0, rfl, (by omega)⟩
  · refine t_getI (y := (v t 7)) (pc := 8) hX 4 rfl rfl rfl fl_X8_42 rfl (hH.kd ht (by decide)) (rfl) ?_
    have hb8 : (-1) ≤ (v t 7) ∧ (v t 7) ≤ 21 := hH.rg ht (by decide) rfl
    refine r_iconst (pc := 12) hX 6 rfl ?_
    first | refine r_icmp_ne (pc := 13) hX 7 (tgt := 20) rfl (by decide) (⟨by omega, by omega⟩) (⟨by omega, by omega⟩) (fun h13 => ?_) (fun h13 => ?_) | refine r_icmp_ne_any (pc := 13) hX 7 (tgt := 20) rfl (by decide) ?_ ?_
    · refine r_iconst (pc := 20) hX 10 rfl ?_
      exact r_zret (pc := 21) hX 11 hQ rfl rfl ⟨by omega, by omega⟩ (Nat.le_refl 0) (Nat.le_refl 0) ⟨rfl, rfl, rfl, 0, rfl, (by omega)⟩
    · refine r_iconst (pc := 16) hX 8 rfl ?_
      refine r_goto (pc := 17) hX 9 (tgt := 21) rfl (by decide) ?_
      exact r_zret (pc := 21) hX 11 hQ rfl rfl ⟨by omega, by omega⟩ (Nat.le_refl 0) (Nat.le_refl 0) ⟨rfl, rfl, rfl, 1, rfl, (by omega)⟩
set_option maxHeartbeats 4000000 in
set_option maxRecDepth 100000 in
theorem c_X8_isNumber (g : Gp) (ω : Rw) (v ρ : Mv) (Z : Mz) (hH : HT ω v ρ Z) (t : Int) (ht : ω t = 2)  : Ok g 1 0 0 F_X8_isNumber [(2, t)] v ρ Z (fun o9 v' ρ' Z' => ρ = ρ' ∧ Z = Z' ∧ v = v' ∧ ∃ r : Int, o9 = some (0, r) ∧ (0 ≤ r ∧ r ≤ 1)) := by
  refine Ok.of mo_X8_isNumber (Nat.le_of_ble_eq_true rfl) ?_
  intro X hX hRm hxn hQ
  show wp g X F_X8_isNumber 0 0 0 [(2, t)] [] v ρ Z
  refine t_getI (y := (v t 4)) (pc := 0) hX 0 rfl rfl rfl fl_X8_52 rfl (hH.kd ht (by decide)) (rfl) ?_
  have hb0 : 0 ≤ (v t 4) ∧ (v t 4) ≤ 4 := hH.rg ht (by decide) rfl
  refine r_iconst (pc := 4) hX 2 rfl ?_
  first | refine r_icmp_ne (pc := 5) hX 3 (tgt := 12) rfl (by decide) (⟨by omega, by omega⟩) (⟨by omega, by omega⟩) (fun h5 => ?_) (fun h5 => ?_) | refine r_icmp_ne_any (pc := 5) hX 3 (tgt := 12) rfl (by decide) ?_ ?_
  · refine r_iconst (pc := 12) hX 6 rfl ?_
    exact r_zret (pc := 13) hX 7 hQ rfl rfl ⟨by omega, by omega⟩ (Nat.le_refl 0) (Nat.le_refl 0) ⟨rfl, rfl, rfl, 0, rfl, (by omega)⟩
  · refine r_iconst (pc := 8) hX 4 rfl ?_
    refine r_goto (pc := 9) hX 5 (tgt := 13) rfl (by decide) ?_
    exact r_zret (pc := 13) hX 7 hQ rfl rfl ⟨by omega, by omega⟩ (Nat.le_refl 0) (Nat.le_refl 0) ⟨rfl, rfl, rfl, 1, rfl, (by omega)⟩
set_option maxHeartbeats 4000000 in
set_option maxRecDepth 100000 in
theorem c_X8_isEnd (g : Gp) (ω : Rw) (v ρ : Mv) (Z : Mz) (hH : HT ω v ρ Z) (t : Int) (ht : ω t = 2)  : Ok g 1 0 0 F_X8_isEnd [(2, t)] v ρ Z (fun o9 v' ρ' Z' => ρ = ρ' ∧ Z = Z' ∧ v = v' ∧ ∃ r : Int, o9 = some (0, r) ∧ (0 ≤ r ∧ r ≤ 1)) := by
  refine Ok.of mo_X8_isEnd (Nat.le_of_ble_eq_true rfl) ?_
  intro X hX hRm hxn hQ
  show wp g X F_X8_isEnd 0 0 0 [(2, t)] [] v ρ Z
  refine t_getI (y := (v t 4)) (pc := 0) hX 0 rfl rfl rfl fl_X8_52 rfl (hH.kd ht (by decide)) (rfl) ?_
  have hb0 : 0 ≤ (v t 4) ∧ (v t 4) ≤ 4 := hH.rg ht (by decide) rfl
  first | refine r_if_ne (pc := 4) hX 2 (tgt := 11) rfl (by decide) (⟨by omega, by omega⟩) (fun h4 => ?_) (fun h4 => ?_) | refine r_if_ne_any (pc := 4) hX 2 (tgt := 11) rfl (by decide) ?_ ?_
  · refine r_iconst (pc := 11) hX 5 rfl ?_
    exact r_zret (pc := 12) hX 6 hQ rfl rfl ⟨by omega, by omega⟩ (Nat.le_refl 0) (Nat.le_refl 0) ⟨rfl, rfl, rfl, 0, rfl, (by omega)⟩
  · refine r_iconst (pc := 7) hX 3 rfl ?_
    refine r_goto (pc := 8) hX 4 (tgt := 12) rfl (by decide) ?_
    exact r_zret (pc := 12) hX 6 hQ rfl rfl ⟨by omega, by omega⟩ (Nat.le_refl 0) (Nat.le_refl 0) ⟨rfl, rfl, rfl, 1, rfl, (by omega)⟩
set_option maxHeartbeats 4000000 in
set_option maxRecDepth 100000 in
theorem c_X8_refuse (g : Gp) (ω : Rw) (v ρ : Mv) (Z : Mz) (hH : HT ω v ρ Z) (t : Int) (ht : ω t = 2) (k : Int) (hk : 0 ≤ k ∧ k ≤ 4) : Ok g 1 0 0 F_X8_refuse [(2, t), (0, k)] v ρ Z (fun o9 v' ρ' Z' => ρ = ρ' ∧ Z = Z' ∧ FrW ω [2] v v' ∧ HT ω v' ρ Z ∧ ∃ r : Int, o9 = some (0, r) ∧ (r = 0) ∧ (v' t 1 = v t 1)) := by
  refine Ok.of mo_X8_refuse (Nat.le_of_ble_eq_true rfl) ?_
  intro X hX hRm hxn hQ
  show wp g X F_X8_refuse 0 0 0 [(2, t), (0, k)] [] v ρ Z
  refine r_aload_n (pc := 0) hX 0 rfl rfl ?_
  refine r_iload_n (pc := 1) hX 1 rfl rfl ?_
  refine r_putI (pc := 2) hX 2 rfl fl_X8_25 rfl (fun _ h => by cases h; rfl) (hH.kd ht (by decide)) (hH.g4 ht (by decide)) ?_
  have hH_2 : HT ω (up v t 9 k) ρ Z := hH.upR ht (by decide) rfl (by omega) (by omega)
  show wp g X F_X8_refuse 0 0 5 [(2, t), (0, k)] [] (up v t 9 k) ρ Z
  refine r_aload_n (pc := 5) hX 3 rfl rfl ?_
  refine t_getI (y := (v t 5)) (pc := 6) hX 4 rfl rfl rfl fl_X8_39 rfl (hH_2.kd ht (by decide)) ((up_k (by decide)).trans (rfl)) ?_
  have hb6 : 0 ≤ (v t 5) ∧ (v t 5) ≤ 1000 := hH.rg ht (by decide) rfl
  refine r_putI (pc := 10) hX 6 rfl fl_X8_28 rfl (fun _ h => by cases h; rfl) (hH_2.kd ht (by decide)) (hH_2.g4 ht (by decide)) ?_
  have hH_10 : HT ω (up (up v t 9 k) t 10 (v t 5)) ρ Z := hH_2.upR ht (by decide) rfl (by omega) (by omega)
  show wp g X F_X8_refuse 0 0 13 [(2, t), (0, k)] [] (up (up v t 9 k) t 10 (v t 5)) ρ Z
  refine r_iconst (pc := 13) hX 7 rfl ?_
  exact r_zret (pc := 14) hX 8 hQ rfl rfl ⟨by omega, by omega⟩ (Nat.le_refl 0) (Nat.le_refl 0) ⟨rfl, rfl, ((FrW.rf).up (r := t) ht (by decide)).up (r := t) ht (by decide), hH_10, 0, rfl, (by omega), (((up_k (by decide)).trans ((up_k (by decide)).trans (rfl))).trans (by omega))⟩
set_option maxHeartbeats 4000000 in
set_option maxRecDepth 100000 in
theorem c_X8_readRun (g : Gp) (ω : Rw) (v ρ : Mv) (Z : Mz) (hH : HT ω v ρ Z) (t : Int) (ht : ω t = 2)  : Ok g 2 0 0 F_X8_readRun [(2, t)] v ρ Z (fun o9 v' ρ' Z' => ρ = ρ' ∧ Z = Z' ∧ FrW ω [2] v v' ∧ HT ω v' ρ Z ∧ o9 = none ∧ (v' t 1 = v t 1)) := by
  refine Ok.of mo_X8_readRun (Nat.le_of_ble_eq_true rfl) ?_
  intro X hX hRm hxn hQ
  show wp g X F_X8_readRun 0 0 0 [(2, t), (3, 0), (3, 0), (3, 0)] [] v ρ Z
  have hg_t_3 : 0 ≤ v t 3 ∧ v t 3 ≤ 940 := hH.rg ht (by decide) rfl
  refine r_iconst (pc := 0) hX 0 rfl ?_
  refine r_istore_n (ls' := [(2, t), (0, 0), (3, 0), (3, 0)]) (pc := 1) hX 1 rfl (by decide) rfl ?_
  refine r_iconst (pc := 2) hX 2 rfl ?_
  refine r_istore_n (ls' := [(2, t), (0, 0), (0, 0), (3, 0)]) (pc := 3) hX 3 rfl (by decide) rfl ?_
  have L4 : ∀ (n4 : Nat) (le dg : Int) (v4 : Mv) , (FrW ω [2] v v4) → (HT ω v4 ρ Z) → (0 ≤ le ∧ 0 ≤ dg ∧ le + dg ≤ 2000 + v4 t 3) → (v4 t 1 = v t 1) → (940 - v4 t 3).toNat < n4 → wp g X F_X8_readRun 0 0 4 [(2, t), (0, le), (0, dg), (3, 0)] [] v4 ρ Z := by
    intro n4
    induction n4 with
    | zero => intro le dg v4 hfr4 hH4 ii e1 hme4; exact absurd hme4 (Nat.not_lt_zero _)
    | succ n4 ih4 =>
      intro le dg v4 hfr4 hH4 ii e1 hme4
      refine t_getI (y := (v4 t 3)) (pc := 4) hX 4 rfl rfl rfl fl_X8_22 rfl (hH4.kd ht (by decide)) (rfl) ?_
      have hb4 : 0 ≤ (v4 t 3) ∧ (v4 t 3) ≤ 940 := hH4.rg ht (by decide) rfl
      refine t_getI (y := (v4 t 1)) (pc := 8) hX 6 rfl rfl rfl fl_X8_15 rfl (hH4.kd ht (by decide)) (rfl) ?_
      have hb8 : 0 ≤ (v4 t 1) ∧ (v4 t 1) ≤ 940 := hH4.rg ht (by decide) rfl
      have L102 : wp g X F_X8_readRun 0 0 102 [(2, t), (0, le), (0, dg), (3, 0)] [] v4 ρ Z := by
        refine r_aload_n (pc := 102) hX 56 rfl rfl ?_
        refine r_iconst (pc := 103) hX 57 rfl ?_
        refine r_putI (pc := 104) hX 58 rfl fl_X8_52 rfl (fun _ h => by cases h; rfl) (hH4.kd ht (by decide)) (hH4.g4 ht (by decide)) ?_
        have hH_104 : HT ω (up v4 t 4 4) ρ Z := hH4.upR ht (by decide) rfl (by omega) (by omega)
        show wp g X F_X8_readRun 0 0 107 [(2, t), (0, le), (0, dg), (3, 0)] [] (up v4 t 4 4) ρ Z
        refine r_iload_n (pc := 107) hX 59 rfl rfl ?_
        have L139 : ∀ (v139 : Mv) , (FrW ω [2] v v139) → (HT ω v139 ρ Z) → (v139 t 1 = v t 1) → wp g X F_X8_readRun 0 0 139 [(2, t), (0, le), (0, dg), (3, 0)] [] v139 ρ Z := by
          intro v139 hfr139 hH139 e1
          exact r_vret (pc := 139) hX 76 hQ rfl rfl (Nat.le_refl 0) (Nat.le_refl 0) ⟨rfl, rfl, hfr139, hH139, rfl, ((rfl).trans (by omega))⟩
        have L125 : wp g X F_X8_readRun 0 0 125 [(2, t), (0, le), (0, dg), (3, 0)] [] (up v4 t 4 4) ρ Z := by
          refine r_iload_n (pc := 125) hX 68 rfl rfl ?_
          first | refine r_if_ne (pc := 126) hX 69 (tgt := 139) rfl (by decide) (⟨by omega, by omega⟩) (fun h126 => ?_) (fun h126 => ?_) | refine r_if_ne_any (pc := 126) hX 69 (tgt := 139) rfl (by decide) ?_ ?_
          · exact (L139  (up v4 t 4 4) ((hfr4).up (r := t) ht (by decide)) (hH_104) (((up_k (by decide)).trans (rfl)).trans (by omega)) )
          · refine r_iload_n (pc := 129) hX 70 rfl rfl ?_
            refine r_iconst (pc := 130) hX 71 rfl ?_
            first | refine r_icmp_gt (pc := 131) hX 72 (tgt := 139) rfl (by decide) (⟨by omega, by omega⟩) (⟨by omega, by omega⟩) (fun h131 => ?_) (fun h131 => ?_) | refine r_icmp_gt_any (pc := 131) hX 72 (tgt := 139) rfl (by decide) ?_ ?_
            · exact (L139  (up v4 t 4 4) ((hfr4).up (r := t) ht (by decide)) (hH_104) (((up_k (by decide)).trans (rfl)).trans (by omega)) )
            · refine r_aload_n (pc := 134) hX 73 rfl rfl ?_
              refine r_iconst (pc := 135) hX 74 rfl ?_
              refine r_putI (pc := 136) hX 75 rfl fl_X8_52 rfl (fun _ h => by cases h; rfl) (hH_104.kd ht (by decide)) (hH_104.g4 ht (by decide)) ?_
              have hH_136 : HT ω (up (up v4 t 4 4) t 4 2) ρ Z := hH_104.upR ht (by decide) rfl (by omega) (by omega)
              show wp g X F_X8_readRun 0 0 139 [(2, t), (0, le), (0, dg), (3, 0)] [] (up (up v4 t 4 4) t 4 2) ρ Z
              exact (L139  (up (up v4 t 4 4) t 4 2) (((hfr4).up (r := t) ht (by decide)).up (r := t) ht (by decide)) (hH_136) (((up_k (by decide)).trans ((up_k (by decide)).trans (rfl))).trans (by omega)) )
        first | refine r_if_ne (pc := 108) hX 60 (tgt := 125) rfl (by decide) (⟨by omega, by omega⟩) (fun h108 => ?_) (fun h108 => ?_) | refine r_if_ne_any (pc := 108) hX 60 (tgt := 125) rfl (by decide) ?_ ?_
        · exact (L125   )
        · refine r_iload_n (pc := 111) hX 61 rfl rfl ?_
          refine r_bipush (pc := 112) hX 62 rfl (by decide) ?_
          first | refine r_icmp_gt (pc := 114) hX 63 (tgt := 125) rfl (by decide) (⟨by omega, by omega⟩) (⟨by omega, by omega⟩) (fun h114 => ?_) (fun h114 => ?_) | refine r_icmp_gt_any (pc := 114) hX 63 (tgt := 125) rfl (by decide) ?_ ?_
          · exact (L125   )
          · refine r_aload_n (pc := 117) hX 64 rfl rfl ?_
            refine r_iconst (pc := 118) hX 65 rfl ?_
            refine r_putI (pc := 119) hX 66 rfl fl_X8_52 rfl (fun _ h => by cases h; rfl) (hH_104.kd ht (by decide)) (hH_104.g4 ht (by decide)) ?_
            have hH_119 : HT ω (up (up v4 t 4 4) t 4 1) ρ Z := hH_104.upR ht (by decide) rfl (by omega) (by omega)
            show wp g X F_X8_readRun 0 0 122 [(2, t), (0, le), (0, dg), (3, 0)] [] (up (up v4 t 4 4) t 4 1) ρ Z
            refine r_goto (pc := 122) hX 67 (tgt := 139) rfl (by decide) ?_
            exact (L139  (up (up v4 t 4 4) t 4 1) (((hfr4).up (r := t) ht (by decide)).up (r := t) ht (by decide)) (hH_119) (((up_k (by decide)).trans ((up_k (by decide)).trans (rfl))).trans (by omega)) )
      first | refine r_icmp_ge (pc := 12) hX 8 (tgt := 102) rfl (by decide) (⟨by omega, by omega⟩) (⟨by omega, by omega⟩) (fun h12 => ?_) (fun h12 => ?_) | refine r_icmp_ge_any (pc := 12) hX 8 (tgt := 102) rfl (by decide) ?_ ?_
      · exact (L102   )
      · refine r_aload_n (pc := 15) hX 9 rfl rfl ?_
        refine t_getI (y := (v4 t 3)) (pc := 16) hX 10 rfl rfl rfl fl_X8_22 rfl (hH4.kd ht (by decide)) (rfl) ?_
        refine r_callV (as := [(0, (v4 t 3))]) (st := []) (K := 8) (pc := 20) hX 12 rfl mo_X8_byteAt ml_X8_31 im_X8_byteAt se_X8_byteAt (c_X8_byteAt g ω v4 ρ Z hH4 t ht ((v4 t 3)) (by omega)) rfl rfl rfl (hH4.kd ht (by decide)) (by rw [hRm]; exact ⟨by decide, by decide⟩) (by rw [hRm]; exact ⟨by decide, by decide⟩) (Nat.le_of_ble_eq_true rfl) (fun o20 v20 ρv20 Zv20 hq20 _ => ?_)
        obtain ⟨rfl, rfl, rfl, r20, rfl, hq20⟩ := hq20
        show wp g X F_X8_readRun 0 0 23 [(2, t), (0, le), (0, dg), (3, 0)] [(0, r20)] v4 ρ Z
        refine r_callS (as := [(0, r20)]) (st := []) (pc := 23) hX 13 rfl mo_X8_goesOn ml_X8_55 stt_X8_goesOn (c_X8_goesOn g ω v4 ρ Z hH4 (r20) (by omega)) rfl (by rw [hRm]; exact ⟨by decide, by decide⟩) (by rw [hRm]; exact ⟨by decide, by decide⟩) (Nat.le_of_ble_eq_true rfl) (fun o23 v23 ρv23 Zv23 hq23 _ => ?_)
        obtain ⟨rfl, rfl, rfl, r23, rfl, hq23⟩ := hq23
        show wp g X F_X8_readRun 0 0 26 [(2, t), (0, le), (0, dg), (3, 0)] [(0, r23)] v4 ρ Z
        first | refine r_if_eq (pc := 26) hX 14 (tgt := 102) rfl (by decide) (⟨by omega, by omega⟩) (fun h26 => ?_) (fun h26 => ?_) | refine r_if_eq_any (pc := 26) hX 14 (tgt := 102) rfl (by decide) ?_ ?_
        · exact (L102   )
        · refine r_aload_n (pc := 29) hX 15 rfl rfl ?_
          refine t_getI (y := (v4 t 3)) (pc := 30) hX 16 rfl rfl rfl fl_X8_22 rfl (hH4.kd ht (by decide)) (rfl) ?_
          refine r_callV (as := [(0, (v4 t 3))]) (st := []) (K := 8) (pc := 34) hX 18 rfl mo_X8_byteAt ml_X8_31 im_X8_byteAt se_X8_byteAt (c_X8_byteAt g ω v4 ρ Z hH4 t ht ((v4 t 3)) (by omega)) rfl rfl rfl (hH4.kd ht (by decide)) (by rw [hRm]; exact ⟨by decide, by decide⟩) (by rw [hRm]; exact ⟨by decide, by decide⟩) (Nat.le_of_ble_eq_true rfl) (fun o34 v34 ρv34 Zv34 hq34 _ => ?_)
          obtain ⟨rfl, rfl, rfl, r34, rfl, hq34⟩ := hq34
          show wp g X F_X8_readRun 0 0 37 [(2, t), (0, le), (0, dg), (3, 0)] [(0, r34)] v4 ρ Z
          refine r_istore_n (ls' := [(2, t), (0, le), (0, dg), (0, r34)]) (pc := 37) hX 19 rfl (by decide) rfl ?_
          refine r_aload_n (pc := 38) hX 20 rfl rfl ?_
          refine r_dup (pc := 39) hX 21 rfl (show (2 : Nat) ≠ 1 by decide) ?_
          refine e_getI (y := (v4 t 3)) (pc := 40) hX 22 rfl fl_X8_22 rfl (hH4.kd ht (by decide)) (rfl) ?_
          refine r_iconst (pc := 43) hX 23 rfl ?_
          refine r_iadd (pc := 44) hX 24 rfl ?_
          refine r_putI (pc := 45) hX 25 rfl fl_X8_22 rfl (fun _ h => by cases h; rfl) (hH4.kd ht (by decide)) (hH4.g4 ht (by decide)) ?_
          have hH_45 : HT ω (up v4 t 3 ((v4 t 3) + 1)) ρ Z := hH4.upR ht (by decide) rfl (by omega) (by omega)
          show wp g X F_X8_readRun 0 0 48 [(2, t), (0, le), (0, dg), (0, r34)] [] (up v4 t 3 ((v4 t 3) + 1)) ρ Z
          refine r_iload_n (pc := 48) hX 26 rfl rfl ?_
          refine r_bipush (pc := 49) hX 27 rfl (by decide) ?_
          have L99 : ∀ (le2 dg2 : Int) (v99 : Mv) , (FrW ω [2] v v99) → (HT ω v99 ρ Z) → (v99 t 3 = v4 t 3 + 1) → (0 ≤ le2 ∧ 0 ≤ dg2 ∧ le2 + dg2 ≤ 2001 + v4 t 3) → (v99 t 1 = v t 1) → wp g X F_X8_readRun 0 0 99 [(2, t), (0, le2), (0, dg2), (3, 0)] [] v99 ρ Z := by
            intro le2 dg2 v99 hfr99 hH99 ia i2 e1
            refine r_goto (pc := 99) hX 55 (tgt := 4) rfl (by decide) ?_
            exact (ih4 le2 dg2 v99 (hfr99) (hH99) (by omega) ((rfl).trans (by omega)) (by omega))
          first | refine r_icmp_lt (pc := 51) hX 28 (tgt := 80) rfl (by decide) (⟨by omega, by omega⟩) (⟨by omega, by omega⟩) (fun h51 => ?_) (fun h51 => ?_) | refine r_icmp_lt_any (pc := 51) hX 28 (tgt := 80) rfl (by decide) ?_ ?_
          · refine r_iinc (ls' := [(2, t), (0, le), (0, (dg + 1)), (0, r34)]) (pc := 80) hX 44 rfl rfl (by decide) rfl ?_
            refine r_aload_n (pc := 83) hX 45 rfl rfl ?_
            refine t_getI (y := (v4 t 6)) (pc := 84) hX 46 rfl rfl rfl fl_X8_49 rfl (hH_45.kd ht (by decide)) ((up_k (by decide)).trans (rfl)) ?_
            have hb84 : (-2147483648) ≤ (v4 t 6) ∧ (v4 t 6) ≤ 2147483647 := hH4.rg ht (by decide) rfl
            refine r_bipush (pc := 88) hX 48 rfl (by decide) ?_
            refine r_imul (pc := 90) hX 49 rfl ?_
            refine r_iload_n (pc := 91) hX 50 rfl rfl ?_
            refine r_bipush (pc := 92) hX 51 rfl (by decide) ?_
            refine r_isub (pc := 94) hX 52 rfl ?_
            refine r_iadd (pc := 95) hX 53 rfl ?_
            refine r_iany _ (fun z95 hz95 => ?_)
            refine r_putI (pc := 96) hX 54 rfl fl_X8_49 rfl (fun _ h => by cases h; rfl) (hH_45.kd ht (by decide)) (hH_45.g4 ht (by decide)) ?_
            have hH_96 : HT ω (up (up v4 t 3 ((v4 t 3) + 1)) t 6 z95) ρ Z := hH_45.upR ht (by decide) rfl (by omega) (by omega)
            show wp g X F_X8_readRun 0 0 99 [(2, t), (0, le), (0, (dg + 1)), (0, r34)] [] (up (up v4 t 3 ((v4 t 3) + 1)) t 6 z95) ρ Z
            refine r_wk (ls' := [(2, t), (0, le), (0, (dg + 1)), (3, 0)]) ⟨Or.inr rfl, Or.inr rfl, Or.inr rfl, Or.inl rfl, trivial⟩ ?_
            exact (L99 le (dg + 1) (up (up v4 t 3 ((v4 t 3) + 1)) t 6 z95) (((hfr4).up (r := t) ht (by decide)).up (r := t) ht (by decide)) (hH_96) (((up_k (by decide)).trans (up_s _ _ _ _)).trans (by omega)) (by omega) (((up_k (by decide)).trans ((up_k (by decide)).trans (rfl))).trans (by omega)) )
          · refine r_iinc (ls' := [(2, t), (0, (le + 1)), (0, dg), (0, r34)]) (pc := 54) hX 29 rfl rfl (by decide) rfl ?_
            refine r_aload_n (pc := 57) hX 30 rfl rfl ?_
            refine t_getL (y := (v4 t 8)) (pc := 58) hX 31 rfl rfl rfl fl_X8_45 rfl (hH_45.kd ht (by decide)) ((up_k (by decide)).trans (rfl)) ?_
            refine r_ldc2 (y := 32) (pc := 62) hX 33 rfl kl_X8_68 (by decide) ?_
            refine r_lmul (pc := 65) hX 34 rfl ?_
            refine r_iload_n (pc := 66) hX 35 rfl rfl ?_
            refine r_bipush (pc := 67) hX 36 rfl (by decide) ?_
            refine r_isub (pc := 69) hX 37 rfl ?_
            refine r_iconst (pc := 70) hX 38 rfl ?_
            refine r_iadd (pc := 71) hX 39 rfl ?_
            refine r_i2l (pc := 72) hX 40 rfl ⟨by omega, by omega⟩ ?_
            refine r_ladd (pc := 73) hX 41 rfl ?_
            refine r_putL (pc := 74) hX 42 rfl fl_X8_45 rfl (fun _ h => by cases h; rfl) (hH_45.kd ht (by decide)) (hH_45.g4 ht (by decide)) ?_
            have hH_74 : HT ω (up (up v4 t 3 ((v4 t 3) + 1)) t 8 (((v4 t 8) * 32) + ((r34 - 97) + 1))) ρ Z := hH_45.up0 ht (by decide) rfl
            show wp g X F_X8_readRun 0 0 77 [(2, t), (0, (le + 1)), (0, dg), (0, r34)] [] (up (up v4 t 3 ((v4 t 3) + 1)) t 8 (((v4 t 8) * 32) + ((r34 - 97) + 1))) ρ Z
            refine r_goto (pc := 77) hX 43 (tgt := 99) rfl (by decide) ?_
            refine r_wk (ls' := [(2, t), (0, (le + 1)), (0, dg), (3, 0)]) ⟨Or.inr rfl, Or.inr rfl, Or.inr rfl, Or.inl rfl, trivial⟩ ?_
            exact (L99 (le + 1) dg (up (up v4 t 3 ((v4 t 3) + 1)) t 8 (((v4 t 8) * 32) + ((r34 - 97) + 1))) (((hfr4).up (r := t) ht (by decide)).up (r := t) ht (by decide)) (hH_74) (((up_k (by decide)).trans (up_s _ _ _ _)).trans (by omega)) (by omega) (((up_k (by decide)).trans ((up_k (by decide)).trans (rfl))).trans (by omega)) )
  exact (L4 _ 0 0 v (FrW.rf) (hH) (by omega) ((rfl).trans (by omega)) (Nat.lt_succ_self _))
set_option maxHeartbeats 4000000 in
set_option maxRecDepth 100000 in
theorem c_X8_advance (g : Gp) (ω : Rw) (v ρ : Mv) (Z : Mz) (hH : HT ω v ρ Z) (t : Int) (ht : ω t = 2)  : Ok g 6 0 0 F_X8_advance [(2, t)] v ρ Z (fun o9 v' ρ' Z' => ρ = ρ' ∧ Z = Z' ∧ FrW ω [2] v v' ∧ HT ω v' ρ Z ∧ o9 = none ∧ (v' t 1 = v t 1)) := by
  refine Ok.of mo_X8_advance (Nat.le_of_ble_eq_true rfl) ?_
  intro X hX hRm hxn hQ
  show wp g X F_X8_advance 0 0 0 [(2, t)] [] v ρ Z
  have L0 : ∀ (n0 : Nat) (v0 : Mv) , (FrW ω [2] v v0) → (HT ω v0 ρ Z) → (v0 t 1 = v t 1) → (940 - v0 t 3).toNat < n0 → wp g X F_X8_advance 0 0 0 [(2, t)] [] v0 ρ Z := by
    intro n0
    induction n0 with
    | zero => intro v0 hfr0 hH0 e1 hme0; exact absurd hme0 (Nat.not_lt_zero _)
    | succ n0 ih0 =>
      intro v0 hfr0 hH0 e1 hme0
      refine t_getI (y := (v0 t 3)) (pc := 0) hX 0 rfl rfl rfl fl_X8_22 rfl (hH0.kd ht (by decide)) (rfl) ?_
      have hb0 : 0 ≤ (v0 t 3) ∧ (v0 t 3) ≤ 940 := hH0.rg ht (by decide) rfl
      refine t_getI (y := (v0 t 1)) (pc := 4) hX 2 rfl rfl rfl fl_X8_15 rfl (hH0.kd ht (by decide)) (rfl) ?_
      have hb4 : 0 ≤ (v0 t 1) ∧ (v0 t 1) ≤ 940 := hH0.rg ht (by decide) rfl
      have L38 : wp g X F_X8_advance 0 0 38 [(2, t)] [] v0 ρ Z := by
        refine r_aload_n (pc := 38) hX 18 rfl rfl ?_
        refine t_getI (y := (v0 t 3)) (pc := 39) hX 19 rfl rfl rfl fl_X8_22 rfl (hH0.kd ht (by decide)) (rfl) ?_
        refine r_putI (pc := 43) hX 21 rfl fl_X8_39 rfl (fun _ h => by cases h; rfl) (hH0.kd ht (by decide)) (hH0.g4 ht (by decide)) ?_
        have hH_43 : HT ω (up v0 t 5 (v0 t 3)) ρ Z := hH0.upR ht (by decide) rfl (by omega) (by omega)
        show wp g X F_X8_advance 0 0 46 [(2, t)] [] (up v0 t 5 (v0 t 3)) ρ Z
        refine r_aload_n (pc := 46) hX 22 rfl rfl ?_
        refine r_iconst (pc := 47) hX 23 rfl ?_
        refine r_putI (pc := 48) hX 24 rfl fl_X8_42 rfl (fun _ h => by cases h; rfl) (hH_43.kd ht (by decide)) (hH_43.g4 ht (by decide)) ?_
        have hH_48 : HT ω (up (up v0 t 5 (v0 t 3)) t 7 (-1)) ρ Z := hH_43.upR ht (by decide) rfl (by omega) (by omega)
        show wp g X F_X8_advance 0 0 51 [(2, t)] [] (up (up v0 t 5 (v0 t 3)) t 7 (-1)) ρ Z
        refine r_aload_n (pc := 51) hX 25 rfl rfl ?_
        refine r_lconst (pc := 52) hX 26 rfl ?_
        show wp g X F_X8_advance 0 0 53 [(2, t)] [(1, 0), (2, t)] (up (up v0 t 5 (v0 t 3)) t 7 (-1)) ρ Z
        refine r_putL (pc := 53) hX 27 rfl fl_X8_45 rfl (fun _ h => by cases h; rfl) (hH_48.kd ht (by decide)) (hH_48.g4 ht (by decide)) ?_
        have hH_53 : HT ω (up (up (up v0 t 5 (v0 t 3)) t 7 (-1)) t 8 0) ρ Z := hH_48.up0 ht (by decide) rfl
        show wp g X F_X8_advance 0 0 56 [(2, t)] [] (up (up (up v0 t 5 (v0 t 3)) t 7 (-1)) t 8 0) ρ Z
        refine r_aload_n (pc := 56) hX 28 rfl rfl ?_
        refine r_iconst (pc := 57) hX 29 rfl ?_
        refine r_putI (pc := 58) hX 30 rfl fl_X8_49 rfl (fun _ h => by cases h; rfl) (hH_53.kd ht (by decide)) (hH_53.g4 ht (by decide)) ?_
        have hH_58 : HT ω (up (up (up (up v0 t 5 (v0 t 3)) t 7 (-1)) t 8 0) t 6 0) ρ Z := hH_53.upR ht (by decide) rfl (by omega) (by omega)
        show wp g X F_X8_advance 0 0 61 [(2, t)] [] (up (up (up (up v0 t 5 (v0 t 3)) t 7 (-1)) t 8 0) t 6 0) ρ Z
        refine t_getI (y := (v0 t 1)) (pc := 61) hX 31 rfl rfl rfl fl_X8_15 rfl (hH_58.kd ht (by decide)) ((up_k (by decide)).trans ((up_k (by decide)).trans ((up_k (by decide)).trans ((up_k (by decide)).trans (rfl))))) ?_
        refine t_getI (y := (v0 t 2)) (pc := 65) hX 33 rfl rfl rfl fl_X8_19 rfl (hH_58.kd ht (by decide)) ((up_k (by decide)).trans ((up_k (by decide)).trans ((up_k (by decide)).trans ((up_k (by decide)).trans (rfl))))) ?_
        have hb65 : 0 ≤ (v0 t 2) ∧ (v0 t 2) ≤ 1000 := hH0.rg ht (by decide) rfl
        have L203 : ∀ (v203 : Mv) , (FrW ω [2] v v203) → (HT ω v203 ρ Z) → (v203 t 1 = v t 1) → wp g X F_X8_advance 0 0 203 [(2, t)] [] v203 ρ Z := by
          intro v203 hfr203 hH203 e1
          exact r_vret (pc := 203) hX 99 hQ rfl rfl (Nat.le_refl 0) (Nat.le_refl 0) ⟨rfl, rfl, hfr203, hH203, rfl, ((rfl).trans (by omega))⟩
        have L99 : wp g X F_X8_advance 0 0 99 [(2, t)] [] (up (up (up (up v0 t 5 (v0 t 3)) t 7 (-1)) t 8 0) t 6 0) ρ Z := by
          refine t_getI (y := (v0 t 3)) (pc := 99) hX 49 rfl rfl rfl fl_X8_22 rfl (hH_58.kd ht (by decide)) ((up_k (by decide)).trans ((up_k (by decide)).trans ((up_k (by decide)).trans ((up_k (by decide)).trans (rfl))))) ?_
          refine t_getI (y := (v0 t 1)) (pc := 103) hX 51 rfl rfl rfl fl_X8_15 rfl (hH_58.kd ht (by decide)) ((up_k (by decide)).trans ((up_k (by decide)).trans ((up_k (by decide)).trans ((up_k (by decide)).trans (rfl))))) ?_
          first | refine r_icmp_lt (pc := 107) hX 53 (tgt := 118) rfl (by decide) (⟨by omega, by omega⟩) (⟨by omega, by omega⟩) (fun h107 => ?_) (fun h107 => ?_) | refine r_icmp_lt_any (pc := 107) hX 53 (tgt := 118) rfl (by decide) ?_ ?_
          · refine r_aload_n (pc := 118) hX 58 rfl rfl ?_
            refine t_getI (y := (v0 t 3)) (pc := 119) hX 59 rfl rfl rfl fl_X8_22 rfl (hH_58.kd ht (by decide)) ((up_k (by decide)).trans ((up_k (by decide)).trans ((up_k (by decide)).trans ((up_k (by decide)).trans (rfl))))) ?_
            refine r_callV (as := [(0, (v0 t 3))]) (st := []) (K := 8) (pc := 123) hX 61 rfl mo_X8_byteAt ml_X8_31 im_X8_byteAt se_X8_byteAt (c_X8_byteAt g ω (up (up (up (up v0 t 5 (v0 t 3)) t 7 (-1)) t 8 0) t 6 0) ρ Z hH_58 t ht ((v0 t 3)) (by omega)) rfl rfl rfl (hH_58.kd ht (by decide)) (by rw [hRm]; exact ⟨by decide, by decide⟩) (by rw [hRm]; exact ⟨by decide, by decide⟩) (Nat.le_of_ble_eq_true rfl) (fun o123 v123 ρv123 Zv123 hq123 _ => ?_)
            obtain ⟨rfl, rfl, rfl, r123, rfl, hq123⟩ := hq123
            show wp g X F_X8_advance 0 0 126 [(2, t)] [(0, r123)] (up (up (up (up v0 t 5 (v0 t 3)) t 7 (-1)) t 8 0) t 6 0) ρ Z
            refine r_callS (as := [(0, r123)]) (st := []) (pc := 126) hX 62 rfl mo_X8_goesOn ml_X8_55 stt_X8_goesOn (c_X8_goesOn g ω (up (up (up (up v0 t 5 (v0 t 3)) t 7 (-1)) t 8 0) t 6 0) ρ Z hH_58 (r123) (by omega)) rfl (by rw [hRm]; exact ⟨by decide, by decide⟩) (by rw [hRm]; exact ⟨by decide, by decide⟩) (Nat.le_of_ble_eq_true rfl) (fun o126 v126 ρv126 Zv126 hq126 _ => ?_)
            obtain ⟨rfl, rfl, rfl, r126, rfl, hq126⟩ := hq126
            show wp g X F_X8_advance 0 0 129 [(2, t)] [(0, r126)] (up (up (up (up v0 t 5 (v0 t 3)) t 7 (-1)) t 8 0) t 6 0) ρ Z
            first | refine r_if_eq (pc := 129) hX 63 (tgt := 162) rfl (by decide) (⟨by omega, by omega⟩) (fun h129 => ?_) (fun h129 => ?_) | refine r_if_eq_any (pc := 129) hX 63 (tgt := 162) rfl (by decide) ?_ ?_
            · refine r_aload_n (pc := 162) hX 78 rfl rfl ?_
              refine r_aload_n (pc := 163) hX 79 rfl rfl ?_
              refine t_getI (y := (v0 t 3)) (pc := 164) hX 80 rfl rfl rfl fl_X8_22 rfl (hH_58.kd ht (by decide)) ((up_k (by decide)).trans ((up_k (by decide)).trans ((up_k (by decide)).trans ((up_k (by decide)).trans (rfl))))) ?_
              refine r_callV (as := [(0, (v0 t 3))]) (st := [(2, t)]) (K := 8) (pc := 168) hX 82 rfl mo_X8_byteAt ml_X8_31 im_X8_byteAt se_X8_byteAt (c_X8_byteAt g ω (up (up (up (up v0 t 5 (v0 t 3)) t 7 (-1)) t 8 0) t 6 0) ρ Z hH_58 t ht ((v0 t 3)) (by omega)) rfl rfl rfl (hH_58.kd ht (by decide)) (by rw [hRm]; exact ⟨by decide, by decide⟩) (by rw [hRm]; exact ⟨by decide, by decide⟩) (Nat.le_of_ble_eq_true rfl) (fun o168 v168 ρv168 Zv168 hq168 _ => ?_)
              obtain ⟨rfl, rfl, rfl, r168, rfl, hq168⟩ := hq168
              show wp g X F_X8_advance 0 0 171 [(2, t)] [(0, r168), (2, t)] (up (up (up (up v0 t 5 (v0 t 3)) t 7 (-1)) t 8 0) t 6 0) ρ Z
              refine r_putI (pc := 171) hX 83 rfl fl_X8_49 rfl (fun _ h => by cases h; rfl) (hH_58.kd ht (by decide)) (hH_58.g4 ht (by decide)) ?_
              have hH_171 : HT ω (up (up (up (up (up v0 t 5 (v0 t 3)) t 7 (-1)) t 8 0) t 6 0) t 6 r168) ρ Z := hH_58.upR ht (by decide) rfl (by omega) (by omega)
              show wp g X F_X8_advance 0 0 174 [(2, t)] [] (up (up (up (up (up v0 t 5 (v0 t 3)) t 7 (-1)) t 8 0) t 6 0) t 6 r168) ρ Z
              refine r_aload_n (pc := 174) hX 84 rfl rfl ?_
              refine t_getI (y := r168) (pc := 175) hX 85 rfl rfl rfl fl_X8_49 rfl (hH_171.kd ht (by decide)) (up_s _ _ _ _) ?_
              refine r_callS (as := [(0, r168)]) (st := [(2, t)]) (pc := 179) hX 87 rfl mo_X8_isMarkSign ml_X8_65 stt_X8_isMarkSign (c_X8_isMarkSign g ω (up (up (up (up (up v0 t 5 (v0 t 3)) t 7 (-1)) t 8 0) t 6 0) t 6 r168) ρ Z hH_171 (r168) (by omega)) rfl (by rw [hRm]; exact ⟨by decide, by decide⟩) (by rw [hRm]; exact ⟨by decide, by decide⟩) (Nat.le_of_ble_eq_true rfl) (fun o179 v179 ρv179 Zv179 hq179 _ => ?_)
              obtain ⟨rfl, rfl, rfl, r179, rfl, hq179⟩ := hq179
              show wp g X F_X8_advance 0 0 182 [(2, t)] [(0, r179), (2, t)] (up (up (up (up (up v0 t 5 (v0 t 3)) t 7 (-1)) t 8 0) t 6 0) t 6 r168) ρ Z
              have L190 : ∀ (kd : Int) , (0 ≤ kd ∧ kd ≤ 4) → wp g X F_X8_advance 0 0 190 [(2, t)] [(0, kd), (2, t)] (up (up (up (up (up v0 t 5 (v0 t 3)) t 7 (-1)) t 8 0) t 6 0) t 6 r168) ρ Z := by
                intro kd ik
                refine r_putI (pc := 190) hX 92 rfl fl_X8_52 rfl (fun _ h => by cases h; rfl) (hH_171.kd ht (by decide)) (hH_171.g4 ht (by decide)) ?_
                have hH_190 : HT ω (up (up (up (up (up (up v0 t 5 (v0 t 3)) t 7 (-1)) t 8 0) t 6 0) t 6 r168) t 4 kd) ρ Z := hH_171.upR ht (by decide) rfl (by omega) (by omega)
                show wp g X F_X8_advance 0 0 193 [(2, t)] [] (up (up (up (up (up (up v0 t 5 (v0 t 3)) t 7 (-1)) t 8 0) t 6 0) t 6 r168) t 4 kd) ρ Z
                refine r_aload_n (pc := 193) hX 93 rfl rfl ?_
                refine r_dup (pc := 194) hX 94 rfl (show (2 : Nat) ≠ 1 by decide) ?_
                refine e_getI (y := (v0 t 3)) (pc := 195) hX 95 rfl fl_X8_22 rfl (hH_190.kd ht (by decide)) ((up_k (by decide)).trans ((up_k (by decide)).trans ((up_k (by decide)).trans ((up_k (by decide)).trans ((up_k (by decide)).trans ((up_k (by decide)).trans (rfl))))))) ?_
                refine r_iconst (pc := 198) hX 96 rfl ?_
                refine r_iadd (pc := 199) hX 97 rfl ?_
                refine r_putI (pc := 200) hX 98 rfl fl_X8_22 rfl (fun _ h => by cases h; rfl) (hH_190.kd ht (by decide)) (hH_190.g4 ht (by decide)) ?_
                have hH_200 : HT ω (up (up (up (up (up (up (up v0 t 5 (v0 t 3)) t 7 (-1)) t 8 0) t 6 0) t 6 r168) t 4 kd) t 3 ((v0 t 3) + 1)) ρ Z := hH_190.upR ht (by decide) rfl (by omega) (by omega)
                show wp g X F_X8_advance 0 0 203 [(2, t)] [] (up (up (up (up (up (up (up v0 t 5 (v0 t 3)) t 7 (-1)) t 8 0) t 6 0) t 6 r168) t 4 kd) t 3 ((v0 t 3) + 1)) ρ Z
                exact (L203  (up (up (up (up (up (up (up v0 t 5 (v0 t 3)) t 7 (-1)) t 8 0) t 6 0) t 6 r168) t 4 kd) t 3 ((v0 t 3) + 1)) ((((((((hfr0).up (r := t) ht (by decide)).up (r := t) ht (by decide)).up (r := t) ht (by decide)).up (r := t) ht (by decide)).up (r := t) ht (by decide)).up (r := t) ht (by decide)).up (r := t) ht (by decide)) (hH_200) (((up_k (by decide)).trans ((up_k (by decide)).trans ((up_k (by decide)).trans ((up_k (by decide)).trans ((up_k (by decide)).trans ((up_k (by decide)).trans ((up_k (by decide)).trans (rfl)))))))).trans (by omega)) )
              first | refine r_if_eq (pc := 182) hX 88 (tgt := 189) rfl (by decide) (⟨by omega, by omega⟩) (fun h182 => ?_) (fun h182 => ?_) | refine r_if_eq_any (pc := 182) hX 88 (tgt := 189) rfl (by decide) ?_ ?_
              · refine r_iconst (pc := 189) hX 91 rfl ?_
                exact (L190 4 (by omega) )
              · refine r_iconst (pc := 185) hX 89 rfl ?_
                refine r_goto (pc := 186) hX 90 (tgt := 190) rfl (by decide) ?_
                exact (L190 3 (by omega) )
            · refine r_aload_n (pc := 132) hX 64 rfl rfl ?_
              refine r_callV (as := []) (st := []) (K := 8) (pc := 133) hX 65 rfl mo_X8_readRun ml_X8_58 im_X8_readRun se_X8_readRun (c_X8_readRun g ω (up (up (up (up v0 t 5 (v0 t 3)) t 7 (-1)) t 8 0) t 6 0) ρ Z hH_58 t ht ) rfl rfl rfl (hH_58.kd ht (by decide)) (by rw [hRm]; exact ⟨by decide, by decide⟩) (by rw [hRm]; exact ⟨by decide, by decide⟩) (Nat.le_of_ble_eq_true rfl) (fun o133 v133 ρv133 Zv133 hq133 _ => ?_)
              obtain ⟨rfl, rfl, hfr133, hH133, rfl, hq133⟩ := hq133
              try rw [show ((up (up (up (up v0 t 5 (v0 t 3)) t 7 (-1)) t 8 0) t 6 0) t 1) = (v0 t 1) from (up_k (by decide)).trans ((up_k (by decide)).trans ((up_k (by decide)).trans ((up_k (by decide)).trans (rfl))))] at hq133
              show wp g X F_X8_advance 0 0 136 [(2, t)] [] v133 ρ Z
              refine r_aload_n (pc := 136) hX 66 rfl rfl ?_
              refine t_getI (y := (v133 t 4)) (pc := 137) hX 67 rfl rfl rfl fl_X8_52 rfl (hH133.kd ht (by decide)) (rfl) ?_
              have hb137 : 0 ≤ (v133 t 4) ∧ (v133 t 4) ≤ 4 := hH133.rg ht (by decide) rfl
              refine r_iconst (pc := 141) hX 69 rfl ?_
              have L156 : ∀ (k : Int) , (-1 ≤ k ∧ k ≤ 21) → wp g X F_X8_advance 0 0 156 [(2, t)] [(0, k), (2, t)] v133 ρ Z := by
                intro k ik
                refine r_putI (pc := 156) hX 76 rfl fl_X8_42 rfl (fun _ h => by cases h; rfl) (hH133.kd ht (by decide)) (hH133.g4 ht (by decide)) ?_
                have hH_156 : HT ω (up v133 t 7 k) ρ Z := hH133.upR ht (by decide) rfl (by omega) (by omega)
                show wp g X F_X8_advance 0 0 159 [(2, t)] [] (up v133 t 7 k) ρ Z
                refine r_goto (pc := 159) hX 77 (tgt := 203) rfl (by decide) ?_
                exact (L203  (up v133 t 7 k) (((((((hfr0).up (r := t) ht (by decide)).up (r := t) ht (by decide)).up (r := t) ht (by decide)).up (r := t) ht (by decide)).tr hfr133 (by decide)).up (r := t) ht (by decide)) (hH_156) (((up_k (by decide)).trans (rfl)).trans (by omega)) )
              first | refine r_icmp_ne (pc := 142) hX 70 (tgt := 155) rfl (by decide) (⟨by omega, by omega⟩) (⟨by omega, by omega⟩) (fun h142 => ?_) (fun h142 => ?_) | refine r_icmp_ne_any (pc := 142) hX 70 (tgt := 155) rfl (by decide) ?_ ?_
              · refine r_iconst (pc := 155) hX 75 rfl ?_
                exact (L156 (-1) (by omega) )
              · refine t_getL (y := (v133 t 8)) (pc := 145) hX 71 rfl rfl rfl fl_X8_45 rfl (hH133.kd ht (by decide)) (rfl) ?_
                refine r_callS (as := [(1, (v133 t 8))]) (st := [(2, t)]) (pc := 149) hX 73 rfl mo_X8_keyOf ml_X8_61 stt_X8_keyOf (c_X8_keyOf g ω v133 ρ Z hH133 ((v133 t 8)) ) rfl (by rw [hRm]; exact ⟨by decide, by decide⟩) (by rw [hRm]; exact ⟨by decide, by decide⟩) (Nat.le_of_ble_eq_true rfl) (fun o149 v149 ρv149 Zv149 hq149 _ => ?_)
                obtain ⟨rfl, rfl, rfl, r149, rfl, hq149⟩ := hq149
                show wp g X F_X8_advance 0 0 152 [(2, t)] [(0, r149), (2, t)] v133 ρ Z
                refine r_goto (pc := 152) hX 74 (tgt := 156) rfl (by decide) ?_
                exact (L156 r149 (by omega) )
          · refine r_aload_n (pc := 110) hX 54 rfl rfl ?_
            refine r_iconst (pc := 111) hX 55 rfl ?_
            refine r_putI (pc := 112) hX 56 rfl fl_X8_52 rfl (fun _ h => by cases h; rfl) (hH_58.kd ht (by decide)) (hH_58.g4 ht (by decide)) ?_
            have hH_112 : HT ω (up (up (up (up (up v0 t 5 (v0 t 3)) t 7 (-1)) t 8 0) t 6 0) t 4 0) ρ Z := hH_58.upR ht (by decide) rfl (by omega) (by omega)
            show wp g X F_X8_advance 0 0 115 [(2, t)] [] (up (up (up (up (up v0 t 5 (v0 t 3)) t 7 (-1)) t 8 0) t 6 0) t 4 0) ρ Z
            refine r_goto (pc := 115) hX 57 (tgt := 203) rfl (by decide) ?_
            exact (L203  (up (up (up (up (up v0 t 5 (v0 t 3)) t 7 (-1)) t 8 0) t 6 0) t 4 0) ((((((hfr0).up (r := t) ht (by decide)).up (r := t) ht (by decide)).up (r := t) ht (by decide)).up (r := t) ht (by decide)).up (r := t) ht (by decide)) (hH_112) (((up_k (by decide)).trans ((up_k (by decide)).trans ((up_k (by decide)).trans ((up_k (by decide)).trans ((up_k (by decide)).trans (rfl)))))).trans (by omega)) )
        first | refine r_icmp_le (pc := 69) hX 35 (tgt := 99) rfl (by decide) (⟨by omega, by omega⟩) (⟨by omega, by omega⟩) (fun h69 => ?_) (fun h69 => ?_) | refine r_icmp_le_any (pc := 69) hX 35 (tgt := 99) rfl (by decide) ?_ ?_
        · exact (L99   )
        · refine t_getI (y := (v0 t 3)) (pc := 72) hX 36 rfl rfl rfl fl_X8_22 rfl (hH_58.kd ht (by decide)) ((up_k (by decide)).trans ((up_k (by decide)).trans ((up_k (by decide)).trans ((up_k (by decide)).trans (rfl))))) ?_
          refine t_getI (y := (v0 t 2)) (pc := 76) hX 38 rfl rfl rfl fl_X8_19 rfl (hH_58.kd ht (by decide)) ((up_k (by decide)).trans ((up_k (by decide)).trans ((up_k (by decide)).trans ((up_k (by decide)).trans (rfl))))) ?_
          first | refine r_icmp_lt (pc := 80) hX 40 (tgt := 99) rfl (by decide) (⟨by omega, by omega⟩) (⟨by omega, by omega⟩) (fun h80 => ?_) (fun h80 => ?_) | refine r_icmp_lt_any (pc := 80) hX 40 (tgt := 99) rfl (by decide) ?_ ?_
          · exact (L99   )
          · refine r_aload_n (pc := 83) hX 41 rfl rfl ?_
            refine t_getI (y := (v0 t 2)) (pc := 84) hX 42 rfl rfl rfl fl_X8_19 rfl (hH_58.kd ht (by decide)) ((up_k (by decide)).trans ((up_k (by decide)).trans ((up_k (by decide)).trans ((up_k (by decide)).trans (rfl))))) ?_
            refine r_putI (pc := 88) hX 44 rfl fl_X8_39 rfl (fun _ h => by cases h; rfl) (hH_58.kd ht (by decide)) (hH_58.g4 ht (by decide)) ?_
            have hH_88 : HT ω (up (up (up (up (up v0 t 5 (v0 t 3)) t 7 (-1)) t 8 0) t 6 0) t 5 (v0 t 2)) ρ Z := hH_58.upR ht (by decide) rfl (by omega) (by omega)
            show wp g X F_X8_advance 0 0 91 [(2, t)] [] (up (up (up (up (up v0 t 5 (v0 t 3)) t 7 (-1)) t 8 0) t 6 0) t 5 (v0 t 2)) ρ Z
            refine r_aload_n (pc := 91) hX 45 rfl rfl ?_
            refine r_iconst (pc := 92) hX 46 rfl ?_
            refine r_putI (pc := 93) hX 47 rfl fl_X8_52 rfl (fun _ h => by cases h; rfl) (hH_88.kd ht (by decide)) (hH_88.g4 ht (by decide)) ?_
            have hH_93 : HT ω (up (up (up (up (up (up v0 t 5 (v0 t 3)) t 7 (-1)) t 8 0) t 6 0) t 5 (v0 t 2)) t 4 4) ρ Z := hH_88.upR ht (by decide) rfl (by omega) (by omega)
            show wp g X F_X8_advance 0 0 96 [(2, t)] [] (up (up (up (up (up (up v0 t 5 (v0 t 3)) t 7 (-1)) t 8 0) t 6 0) t 5 (v0 t 2)) t 4 4) ρ Z
            refine r_goto (pc := 96) hX 48 (tgt := 203) rfl (by decide) ?_
            exact (L203  (up (up (up (up (up (up v0 t 5 (v0 t 3)) t 7 (-1)) t 8 0) t 6 0) t 5 (v0 t 2)) t 4 4) (((((((hfr0).up (r := t) ht (by decide)).up (r := t) ht (by decide)).up (r := t) ht (by decide)).up (r := t) ht (by decide)).up (r := t) ht (by decide)).up (r := t) ht (by decide)) (hH_93) (((up_k (by decide)).trans ((up_k (by decide)).trans ((up_k (by decide)).trans ((up_k (by decide)).trans ((up_k (by decide)).trans ((up_k (by decide)).trans (rfl))))))).trans (by omega)) )
      first | refine r_icmp_ge (pc := 8) hX 4 (tgt := 38) rfl (by decide) (⟨by omega, by omega⟩) (⟨by omega, by omega⟩) (fun h8 => ?_) (fun h8 => ?_) | refine r_icmp_ge_any (pc := 8) hX 4 (tgt := 38) rfl (by decide) ?_ ?_
      · exact (L38   )
      · refine r_aload_n (pc := 11) hX 5 rfl rfl ?_
        refine t_getI (y := (v0 t 3)) (pc := 12) hX 6 rfl rfl rfl fl_X8_22 rfl (hH0.kd ht (by decide)) (rfl) ?_
        refine r_callV (as := [(0, (v0 t 3))]) (st := []) (K := 8) (pc := 16) hX 8 rfl mo_X8_byteAt ml_X8_31 im_X8_byteAt se_X8_byteAt (c_X8_byteAt g ω v0 ρ Z hH0 t ht ((v0 t 3)) (by omega)) rfl rfl rfl (hH0.kd ht (by decide)) (by rw [hRm]; exact ⟨by decide, by decide⟩) (by rw [hRm]; exact ⟨by decide, by decide⟩) (Nat.le_of_ble_eq_true rfl) (fun o16 v16 ρv16 Zv16 hq16 _ => ?_)
        obtain ⟨rfl, rfl, rfl, r16, rfl, hq16⟩ := hq16
        show wp g X F_X8_advance 0 0 19 [(2, t)] [(0, r16)] v0 ρ Z
        refine r_callS (as := [(0, r16)]) (st := []) (pc := 19) hX 9 rfl mo_X8_isBlank ml_X8_35 stt_X8_isBlank (c_X8_isBlank g ω v0 ρ Z hH0 (r16) (by omega)) rfl (by rw [hRm]; exact ⟨by decide, by decide⟩) (by rw [hRm]; exact ⟨by decide, by decide⟩) (Nat.le_of_ble_eq_true rfl) (fun o19 v19 ρv19 Zv19 hq19 _ => ?_)
        obtain ⟨rfl, rfl, rfl, r19, rfl, hq19⟩ := hq19
        show wp g X F_X8_advance 0 0 22 [(2, t)] [(0, r19)] v0 ρ Z
        first | refine r_if_eq (pc := 22) hX 10 (tgt := 38) rfl (by decide) (⟨by omega, by omega⟩) (fun h22 => ?_) (fun h22 => ?_) | refine r_if_eq_any (pc := 22) hX 10 (tgt := 38) rfl (by decide) ?_ ?_
        · exact (L38   )
        · refine r_aload_n (pc := 25) hX 11 rfl rfl ?_
          refine r_dup (pc := 26) hX 12 rfl (show (2 : Nat) ≠ 1 by decide) ?_
          refine e_getI (y := (v0 t 3)) (pc := 27) hX 13 rfl fl_X8_22 rfl (hH0.kd ht (by decide)) (rfl) ?_
          refine r_iconst (pc := 30) hX 14 rfl ?_
          refine r_iadd (pc := 31) hX 15 rfl ?_
          refine r_putI (pc := 32) hX 16 rfl fl_X8_22 rfl (fun _ h => by cases h; rfl) (hH0.kd ht (by decide)) (hH0.g4 ht (by decide)) ?_
          have hH_32 : HT ω (up v0 t 3 ((v0 t 3) + 1)) ρ Z := hH0.upR ht (by decide) rfl (by omega) (by omega)
          show wp g X F_X8_advance 0 0 35 [(2, t)] [] (up v0 t 3 ((v0 t 3) + 1)) ρ Z
          refine r_goto (pc := 35) hX 17 (tgt := 0) rfl (by decide) ?_
          exact (ih0  (up v0 t 3 ((v0 t 3) + 1)) ((hfr0).up (r := t) ht (by decide)) (hH_32) (((up_k (by decide)).trans (rfl)).trans (by omega)) (by rw [(show (up v0 t 3 ((v0 t 3) + 1)) t 3 = ((v0 t 3) + 1) from up_s _ _ _ _)]; omega))
  exact (L0 _  v (FrW.rf) (hH) ((rfl).trans (by omega)) (Nat.lt_succ_self _))
set_option maxHeartbeats 4000000 in
set_option maxRecDepth 100000 in
theorem c_X1_readActor (g : Gp) (ω : Rw) (v ρ : Mv) (Z : Mz) (hH : HT ω v ρ Z) (t : Int) (ht : ω t = 15) (o : Int) (ho : ω o = 5)  : Ok g 8 0 0 F_X1_readActor [(2, t), (2, o)] v ρ Z (fun o9 v' ρ' Z' => ρ = ρ' ∧ Z = Z' ∧ FrW ω [2, 16, 17] v v' ∧ HT ω v' ρ Z ∧ ∃ r : Int, o9 = some (0, r) ∧ (0 ≤ r ∧ r ≤ 1) ∧ ((r = 1 → v t 4 ≤ 39 ∧ (v' (ρ t 1) (v t 4) ≠ 9 → 0 ≤ v' (ρ t 2) (v t 4)) ∧ ∀ k, k ≠ v t 4 → v' (ρ t 1) k = v (ρ t 1) k ∧ v' (ρ t 2) k = v (ρ t 2) k)) ∧ (v' (ρ t 0) 1 = v (ρ t 0) 1)) := by
  refine Ok.of mo_X1_readActor (Nat.le_of_ble_eq_true rfl) ?_
  intro X hX hRm hxn hQ
  show wp g X F_X1_readActor 0 0 0 [(2, t), (2, o), (3, 0), (3, 0)] [] v ρ Z
  have hw0 : ω (ρ t 0) = 2 := hH.rf ht (by decide) rfl
  have hw1 : ω (ρ t 1) = 16 := hH.rf ht (by decide) rfl
  have hw2 : ω (ρ t 2) = 17 := hH.rf ht (by decide) rfl
  have hg_o_10 : 0 ≤ v o 10 ∧ v o 10 ≤ 3 := hH.rg ho (by decide) rfl
  refine t_getR (q := (ρ t 0)) (pc := 0) hX 0 rfl rfl rfl fl_X1_21 rfl (hH.kd ht (by decide)) (rfl) ?_
  have hw0_ : ω (ρ t 0) = 2 := hH.rf ht (by decide) rfl
  refine e_getI (y := (v (ρ t 0) 7)) (pc := 4) hX 2 rfl fl_X1_57 rfl (hH.kd hw0_ (by decide)) (rfl) ?_
  have hb4 : (-1) ≤ (v (ρ t 0) 7) ∧ (v (ρ t 0) 7) ≤ 21 := hH.rg hw0_ (by decide) rfl
  refine r_bipush (pc := 7) hX 3 rfl (by decide) ?_
  have L17 : ∀ (cm : Int) , (cm = 0 ∨ cm = 1 ∧ v (ρ t 0) 7 = 9) → wp g X F_X1_readActor 0 0 17 [(2, t), (2, o), (3, 0), (3, 0)] [(0, cm)] v ρ Z := by
    intro cm ic
    refine r_istore_n (ls' := [(2, t), (2, o), (0, cm), (3, 0)]) (pc := 17) hX 8 rfl (by decide) rfl ?_
    refine r_iload_n (pc := 18) hX 9 rfl rfl ?_
    have L41 : wp g X F_X1_readActor 0 0 41 [(2, t), (2, o), (0, cm), (3, 0)] [] v ρ Z := by
      refine r_iload_n (pc := 41) hX 20 rfl rfl ?_
      have L60 : ∀ (who : Int) , (-1 ≤ who ∧ who ≤ 2) → wp g X F_X1_readActor 0 0 60 [(2, t), (2, o), (0, cm), (3, 0)] [(0, who)] v ρ Z := by
        intro who iw
        refine r_istore_n (ls' := [(2, t), (2, o), (0, cm), (0, who)]) (pc := 60) hX 29 rfl (by decide) rfl ?_
        refine r_iload_n (pc := 61) hX 30 rfl rfl ?_
        have L79 : (cm = 1 ∨ 0 ≤ who) → wp g X F_X1_readActor 0 0 79 [(2, t), (2, o), (0, cm), (0, who)] [] v ρ Z := by
          intro i79
          refine t_getI (y := (v t 4)) (pc := 79) hX 40 rfl rfl rfl fl_X1_25 rfl (hH.kd ht (by decide)) (rfl) ?_
          have hb79 : 0 ≤ (v t 4) ∧ (v t 4) ≤ 40 := hH.rg ht (by decide) rfl
          refine r_bipush (pc := 83) hX 42 rfl (by decide) ?_
          first | refine r_icmp_lt (pc := 85) hX 43 (tgt := 97) rfl (by decide) (⟨by omega, by omega⟩) (⟨by omega, by omega⟩) (fun h85 => ?_) (fun h85 => ?_) | refine r_icmp_lt_any (pc := 85) hX 43 (tgt := 97) rfl (by decide) ?_ ?_
          · refine r_iload_n (pc := 97) hX 49 rfl rfl ?_
            have L141 : ∀ (v141 : Mv) , (FrW ω [2, 16, 17] v v141) → (HT ω v141 ρ Z) → (v141 (ρ t 0) 7 = 9 ∨ 0 ≤ who) → (v141 (ρ t 0) 1 = v (ρ t 0) 1) → (v141 (ρ t 1) = v (ρ t 1)) → (v141 (ρ t 2) = v (ρ t 2)) → wp g X F_X1_readActor 0 0 141 [(2, t), (2, o), (0, cm), (0, who)] [] v141 ρ Z := by
              intro v141 hfr141 hH141 i41 et ea ew
              refine t_getR (q := (ρ t 2)) (pc := 141) hX 69 rfl rfl rfl fl_X1_15 rfl (hH141.kd ht (by decide)) (rfl) ?_
              have hw141_ : ω (ρ t 2) = 17 := hH.rf ht (by decide) rfl
              refine t_getI (y := (v t 4)) (pc := 145) hX 71 rfl rfl rfl fl_X1_25 rfl (hH141.kd ht (by decide)) ((hfr141.at ht (by decide) 4).trans (rfl)) ?_
              refine r_iload_n (pc := 149) hX 73 rfl rfl ?_
              refine e_iast (n := 40) (pc := 150) hX 74 rfl (hH141.kd hw141_ (by decide)) (hH141.ln hw141_ (by decide)) (hH141.g4 hw141_ (by decide)) (by omega) (by omega) ?_
              have hH_150 : HT ω (up v141 (ρ t 2) (v t 4) who) ρ Z := hH141.upR hw141_ (by decide) rfl (by omega) (by omega)
              refine t_getR (q := (ρ t 1)) (pc := 151) hX 75 rfl rfl rfl fl_X1_11 rfl (hH_150.kd ht (by decide)) (rfl) ?_
              have hw151_ : ω (ρ t 1) = 16 := hH.rf ht (by decide) rfl
              refine t_getI (y := (v t 4)) (pc := 155) hX 77 rfl rfl rfl fl_X1_25 rfl (hH_150.kd ht (by decide)) ((up_r (rne ht hw141_ (by decide))).trans ((hfr141.at ht (by decide) 4).trans (rfl))) ?_
              refine t_getR (q := (ρ t 0)) (pc := 159) hX 79 rfl rfl rfl fl_X1_21 rfl (hH_150.kd ht (by decide)) (rfl) ?_
              refine e_getI (y := (v141 (ρ t 0) 7)) (pc := 163) hX 81 rfl fl_X1_57 rfl (hH_150.kd hw0_ (by decide)) ((up_r (rne hw0_ hw141_ (by decide))).trans (rfl)) ?_
              have hb163 : (-1) ≤ (v141 (ρ t 0) 7) ∧ (v141 (ρ t 0) 7) ≤ 21 := hH141.rg hw0_ (by decide) rfl
              refine e_iast (n := 40) (pc := 166) hX 82 rfl (hH_150.kd hw151_ (by decide)) (hH_150.ln hw151_ (by decide)) (hH_150.g4 hw151_ (by decide)) (by omega) (by omega) ?_
              have hH_166 : HT ω (up (up v141 (ρ t 2) (v t 4) who) (ρ t 1) (v t 4) (v141 (ρ t 0) 7)) ρ Z := hH_150.upR hw151_ (by decide) rfl (by omega) (by omega)
              refine r_iconst (pc := 167) hX 83 rfl ?_
              exact r_zret (pc := 168) hX 84 hQ rfl rfl ⟨by omega, by omega⟩ (Nat.le_refl 0) (Nat.le_refl 0) ⟨rfl, rfl, ((hfr141).up (r := (ρ t 2)) hw141_ (by decide)).up (r := (ρ t 1)) hw151_ (by decide), hH_166, 1, rfl, (by omega), (fun _ => ⟨by omega, by rw [up_s, up_r (rne hw2 hw1 (by decide)), up_s]; omega, fun k hk => ⟨by rw [up_k hk, up_r (rne hw1 hw2 (by decide)), ea], by rw [up_r (rne hw2 hw1 (by decide)), up_k hk, ew]⟩⟩), (((up_r (rne hw0_ hw151_ (by decide))).trans ((up_r (rne hw0_ hw141_ (by decide))).trans (rfl))).trans (by omega))⟩
            first | refine r_if_ne (pc := 98) hX 50 (tgt := 141) rfl (by decide) (⟨by omega, by omega⟩) (fun h98 => ?_) (fun h98 => ?_) | refine r_if_ne_any (pc := 98) hX 50 (tgt := 141) rfl (by decide) ?_ ?_
            · exact (L141  v (FrW.rf) (hH) (by omega) ((rfl).trans (by omega)) ((rfl).trans (by first | rfl | assumption)) ((rfl).trans (by first | rfl | assumption)) )
            · refine t_getR (q := (ρ t 0)) (pc := 101) hX 51 rfl rfl rfl fl_X1_21 rfl (hH.kd ht (by decide)) (rfl) ?_
              refine r_callV (as := []) (st := []) (K := 8) (pc := 105) hX 53 rfl mo_X8_advance ml_X1_35 im_X8_advance se_X8_advance (c_X8_advance g ω v ρ Z hH (ρ t 0) hw0_ ) rfl rfl rfl (hH.kd hw0_ (by decide)) (by rw [hRm]; exact ⟨by decide, by decide⟩) (by rw [hRm]; exact ⟨by decide, by decide⟩) (Nat.le_of_ble_eq_true rfl) (fun o105 v105 ρv105 Zv105 hq105 _ => ?_)
              obtain ⟨rfl, rfl, hfr105, hH105, rfl, hq105⟩ := hq105
              show wp g X F_X1_readActor 0 0 108 [(2, t), (2, o), (0, cm), (0, who)] [] v105 ρ Z
              refine t_getR (q := (ρ t 0)) (pc := 108) hX 54 rfl rfl rfl fl_X1_21 rfl (hH105.kd ht (by decide)) (rfl) ?_
              refine e_getI (y := (v105 (ρ t 0) 7)) (pc := 112) hX 56 rfl fl_X1_57 rfl (hH105.kd hw0_ (by decide)) (rfl) ?_
              have hb112 : (-1) ≤ (v105 (ρ t 0) 7) ∧ (v105 (ρ t 0) 7) ≤ 21 := hH105.rg hw0_ (by decide) rfl
              refine r_bipush (pc := 115) hX 57 rfl (by decide) ?_
              first | refine r_icmp_eq (pc := 117) hX 58 (tgt := 141) rfl (by decide) (⟨by omega, by omega⟩) (⟨by omega, by omega⟩) (fun h117 => ?_) (fun h117 => ?_) | refine r_icmp_eq_any (pc := 117) hX 58 (tgt := 141) rfl (by decide) ?_ ?_
              · exact (L141  v105 ((FrW.rf).tr hfr105 (by decide)) (hH105) (by omega) ((rfl).trans (by omega)) (((hfr105.rw (hH.rf ht (by decide) (show rfO 15 1 = some 16 from rfl)) (by decide)).trans (rfl)).trans (by first | rfl | assumption)) (((hfr105.rw (hH.rf ht (by decide) (show rfO 15 2 = some 17 from rfl)) (by decide)).trans (rfl)).trans (by first | rfl | assumption)) )
              · refine t_getR (q := (ρ t 0)) (pc := 120) hX 59 rfl rfl rfl fl_X1_21 rfl (hH105.kd ht (by decide)) (rfl) ?_
                refine e_getI (y := (v105 (ρ t 0) 7)) (pc := 124) hX 61 rfl fl_X1_57 rfl (hH105.kd hw0_ (by decide)) (rfl) ?_
                refine r_bipush (pc := 127) hX 62 rfl (by decide) ?_
                first | refine r_icmp_eq (pc := 129) hX 63 (tgt := 141) rfl (by decide) (⟨by omega, by omega⟩) (⟨by omega, by omega⟩) (fun h129 => ?_) (fun h129 => ?_) | refine r_icmp_eq_any (pc := 129) hX 63 (tgt := 141) rfl (by decide) ?_ ?_
                · exact (L141  v105 ((FrW.rf).tr hfr105 (by decide)) (hH105) (by omega) ((rfl).trans (by omega)) (((hfr105.rw (hH.rf ht (by decide) (show rfO 15 1 = some 16 from rfl)) (by decide)).trans (rfl)).trans (by first | rfl | assumption)) (((hfr105.rw (hH.rf ht (by decide) (show rfO 15 2 = some 17 from rfl)) (by decide)).trans (rfl)).trans (by first | rfl | assumption)) )
                · refine t_getR (q := (ρ t 0)) (pc := 132) hX 64 rfl rfl rfl fl_X1_21 rfl (hH105.kd ht (by decide)) (rfl) ?_
                  refine r_iconst (pc := 136) hX 66 rfl ?_
                  refine r_callV (as := [(0, 1)]) (st := []) (K := 8) (pc := 137) hX 67 rfl mo_X8_refuse ml_X1_53 im_X8_refuse se_X8_refuse (c_X8_refuse g ω v105 ρ Z hH105 (ρ t 0) hw0_ (1) (by omega)) rfl rfl rfl (hH105.kd hw0_ (by decide)) (by rw [hRm]; exact ⟨by decide, by decide⟩) (by rw [hRm]; exact ⟨by decide, by decide⟩) (Nat.le_of_ble_eq_true rfl) (fun o137 v137 ρv137 Zv137 hq137 _ => ?_)
                  obtain ⟨rfl, rfl, hfr137, hH137, r137, rfl, hq137⟩ := hq137
                  show wp g X F_X1_readActor 0 0 140 [(2, t), (2, o), (0, cm), (0, who)] [(0, r137)] v137 ρ Z
                  exact r_zret (pc := 140) hX 68 hQ rfl rfl ⟨by omega, by omega⟩ (Nat.le_refl 0) (Nat.le_refl 0) ⟨rfl, rfl, ((FrW.rf).tr hfr105 (by decide)).tr hfr137 (by decide), hH137, r137, rfl, (by omega), (fun e => by omega), ((rfl).trans (by omega))⟩
          · refine t_getR (q := (ρ t 0)) (pc := 88) hX 44 rfl rfl rfl fl_X1_21 rfl (hH.kd ht (by decide)) (rfl) ?_
            refine r_iconst (pc := 92) hX 46 rfl ?_
            refine r_callV (as := [(0, 4)]) (st := []) (K := 8) (pc := 93) hX 47 rfl mo_X8_refuse ml_X1_53 im_X8_refuse se_X8_refuse (c_X8_refuse g ω v ρ Z hH (ρ t 0) hw0_ (4) (by omega)) rfl rfl rfl (hH.kd hw0_ (by decide)) (by rw [hRm]; exact ⟨by decide, by decide⟩) (by rw [hRm]; exact ⟨by decide, by decide⟩) (Nat.le_of_ble_eq_true rfl) (fun o93 v93 ρv93 Zv93 hq93 _ => ?_)
            obtain ⟨rfl, rfl, hfr93, hH93, r93, rfl, hq93⟩ := hq93
            show wp g X F_X1_readActor 0 0 96 [(2, t), (2, o), (0, cm), (0, who)] [(0, r93)] v93 ρ Z
            exact r_zret (pc := 96) hX 48 hQ rfl rfl ⟨by omega, by omega⟩ (Nat.le_refl 0) (Nat.le_refl 0) ⟨rfl, rfl, (FrW.rf).tr hfr93 (by decide), hH93, r93, rfl, (by omega), (fun e => by omega), ((rfl).trans (by omega))⟩
        first | refine r_if_ne (pc := 62) hX 31 (tgt := 79) rfl (by decide) (⟨by omega, by omega⟩) (fun h62 => ?_) (fun h62 => ?_) | refine r_if_ne_any (pc := 62) hX 31 (tgt := 79) rfl (by decide) ?_ ?_
        · exact (L79  (by omega) )
        · refine r_iload_n (pc := 65) hX 32 rfl rfl ?_
          refine r_iconst (pc := 66) hX 33 rfl ?_
          first | refine r_icmp_ne (pc := 67) hX 34 (tgt := 79) rfl (by decide) (⟨by omega, by omega⟩) (⟨by omega, by omega⟩) (fun h67 => ?_) (fun h67 => ?_) | refine r_icmp_ne_any (pc := 67) hX 34 (tgt := 79) rfl (by decide) ?_ ?_
          · exact (L79  (by omega) )
          · refine t_getR (q := (ρ t 0)) (pc := 70) hX 35 rfl rfl rfl fl_X1_21 rfl (hH.kd ht (by decide)) (rfl) ?_
            refine r_iconst (pc := 74) hX 37 rfl ?_
            refine r_callV (as := [(0, 3)]) (st := []) (K := 8) (pc := 75) hX 38 rfl mo_X8_refuse ml_X1_53 im_X8_refuse se_X8_refuse (c_X8_refuse g ω v ρ Z hH (ρ t 0) hw0_ (3) (by omega)) rfl rfl rfl (hH.kd hw0_ (by decide)) (by rw [hRm]; exact ⟨by decide, by decide⟩) (by rw [hRm]; exact ⟨by decide, by decide⟩) (Nat.le_of_ble_eq_true rfl) (fun o75 v75 ρv75 Zv75 hq75 _ => ?_)
            obtain ⟨rfl, rfl, hfr75, hH75, r75, rfl, hq75⟩ := hq75
            show wp g X F_X1_readActor 0 0 78 [(2, t), (2, o), (0, cm), (0, who)] [(0, r75)] v75 ρ Z
            exact r_zret (pc := 78) hX 39 hQ rfl rfl ⟨by omega, by omega⟩ (Nat.le_refl 0) (Nat.le_refl 0) ⟨rfl, rfl, (FrW.rf).tr hfr75 (by decide), hH75, r75, rfl, (by omega), (fun e => by omega), ((rfl).trans (by omega))⟩
      first | refine r_if_eq (pc := 42) hX 21 (tgt := 49) rfl (by decide) (⟨by omega, by omega⟩) (fun h42 => ?_) (fun h42 => ?_) | refine r_if_eq_any (pc := 42) hX 21 (tgt := 49) rfl (by decide) ?_ ?_
      · refine r_aload_n (pc := 49) hX 24 rfl rfl ?_
        refine t_getR (q := (ρ t 0)) (pc := 50) hX 25 rfl rfl rfl fl_X1_21 rfl (hH.kd ht (by decide)) (rfl) ?_
        refine e_getL (y := (v (ρ t 0) 8)) (pc := 54) hX 27 rfl fl_X1_63 rfl (hH.kd hw0_ (by decide)) (rfl) ?_
        refine r_callV (as := [(1, (v (ρ t 0) 8))]) (st := []) (K := 4) (pc := 57) hX 28 rfl mo_X4_playerNamed ml_X1_67 im_X4_playerNamed se_X4_playerNamed (c_X4_playerNamed g ω v ρ Z hH o ho ((v (ρ t 0) 8)) ) rfl rfl rfl (hH.kd ho (by decide)) (by rw [hRm]; exact ⟨by decide, by decide⟩) (by rw [hRm]; exact ⟨by decide, by decide⟩) (Nat.le_of_ble_eq_true rfl) (fun o57 v57 ρv57 Zv57 hq57 _ => ?_)
        obtain ⟨rfl, rfl, rfl, r57, rfl, hq57⟩ := hq57
        show wp g X F_X1_readActor 0 0 60 [(2, t), (2, o), (0, cm), (3, 0)] [(0, r57)] v ρ Z
        exact (L60 r57 (by omega) )
      · refine r_iconst (pc := 45) hX 22 rfl ?_
        refine r_goto (pc := 46) hX 23 (tgt := 60) rfl (by decide) ?_
        exact (L60 (-1) (by omega) )
    first | refine r_if_ne (pc := 19) hX 10 (tgt := 41) rfl (by decide) (⟨by omega, by omega⟩) (fun h19 => ?_) (fun h19 => ?_) | refine r_if_ne_any (pc := 19) hX 10 (tgt := 41) rfl (by decide) ?_ ?_
    · exact (L41   )
    · refine t_getR (q := (ρ t 0)) (pc := 22) hX 11 rfl rfl rfl fl_X1_21 rfl (hH.kd ht (by decide)) (rfl) ?_
      refine r_callV (as := []) (st := []) (K := 8) (pc := 26) hX 13 rfl mo_X8_isName ml_X1_60 im_X8_isName se_X8_isName (c_X8_isName g ω v ρ Z hH (ρ t 0) hw0_ ) rfl rfl rfl (hH.kd hw0_ (by decide)) (by rw [hRm]; exact ⟨by decide, by decide⟩) (by rw [hRm]; exact ⟨by decide, by decide⟩) (Nat.le_of_ble_eq_true rfl) (fun o26 v26 ρv26 Zv26 hq26 _ => ?_)
      obtain ⟨rfl, rfl, rfl, r26, rfl, hq26⟩ := hq26
      show wp g X F_X1_readActor 0 0 29 [(2, t), (2, o), (0, cm), (3, 0)] [(0, r26)] v ρ Z
      first | refine r_if_ne (pc := 29) hX 14 (tgt := 41) rfl (by decide) (⟨by omega, by omega⟩) (fun h29 => ?_) (fun h29 => ?_) | refine r_if_ne_any (pc := 29) hX 14 (tgt := 41) rfl (by decide) ?_ ?_
      · exact (L41   )
      · refine t_getR (q := (ρ t 0)) (pc := 32) hX 15 rfl rfl rfl fl_X1_21 rfl (hH.kd ht (by decide)) (rfl) ?_
        refine r_iconst (pc := 36) hX 17 rfl ?_
        refine r_callV (as := [(0, 1)]) (st := []) (K := 8) (pc := 37) hX 18 rfl mo_X8_refuse ml_X1_53 im_X8_refuse se_X8_refuse (c_X8_refuse g ω v ρ Z hH (ρ t 0) hw0_ (1) (by omega)) rfl rfl rfl (hH.kd hw0_ (by decide)) (by rw [hRm]; exact ⟨by decide, by decide⟩) (by rw [hRm]; exact ⟨by decide, by decide⟩) (Nat.le_of_ble_eq_true rfl) (fun o37 v37 ρv37 Zv37 hq37 _ => ?_)
        obtain ⟨rfl, rfl, hfr37, hH37, r37, rfl, hq37⟩ := hq37
        show wp g X F_X1_readActor 0 0 40 [(2, t), (2, o), (0, cm), (3, 0)] [(0, r37)] v37 ρ Z
        exact r_zret (pc := 40) hX 19 hQ rfl rfl ⟨by omega, by omega⟩ (Nat.le_refl 0) (Nat.le_refl 0) ⟨rfl, rfl, (FrW.rf).tr hfr37 (by decide), hH37, r37, rfl, (by omega), (fun e => by omega), ((rfl).trans (by omega))⟩
  first | refine r_icmp_ne (pc := 9) hX 4 (tgt := 16) rfl (by decide) (⟨by omega, by omega⟩) (⟨by omega, by omega⟩) (fun h9 => ?_) (fun h9 => ?_) | refine r_icmp_ne_any (pc := 9) hX 4 (tgt := 16) rfl (by decide) ?_ ?_
  · refine r_iconst (pc := 16) hX 7 rfl ?_
    exact (L17 0 (by omega) )
  · refine r_iconst (pc := 12) hX 5 rfl ?_
    refine r_goto (pc := 13) hX 6 (tgt := 17) rfl (by decide) ?_
    exact (L17 1 (by omega) )
set_option maxHeartbeats 4000000 in
set_option maxRecDepth 100000 in
theorem c_X1_readColour (g : Gp) (ω : Rw) (v ρ : Mv) (Z : Mz) (hH : HT ω v ρ Z) (t : Int) (ht : ω t = 15) (o : Int) (ho : ω o = 5)  : Ok g 8 0 0 F_X1_readColour [(2, t), (2, o)] v ρ Z (fun o9 v' ρ' Z' => ρ = ρ' ∧ Z = Z' ∧ FrW ω [2, 18] v v' ∧ HT ω v' ρ Z ∧ ∃ r : Int, o9 = some (0, r) ∧ (0 ≤ r ∧ r ≤ 1) ∧ (v' (ρ t 0) 1 = v (ρ t 0) 1)) := by
  refine Ok.of mo_X1_readColour (Nat.le_of_ble_eq_true rfl) ?_
  intro X hX hRm hxn hQ
  show wp g X F_X1_readColour 0 0 0 [(2, t), (2, o)] [] v ρ Z
  have hw0 : ω (ρ t 0) = 2 := hH.rf ht (by decide) rfl
  have hw1 : ω (ρ t 1) = 16 := hH.rf ht (by decide) rfl
  have hw2 : ω (ρ t 2) = 17 := hH.rf ht (by decide) rfl
  have hg_o_8 : 0 ≤ v o 8 ∧ v o 8 ≤ 4 := hH.rg ho (by decide) rfl
  refine t_getI (y := (v t 4)) (pc := 0) hX 0 rfl rfl rfl fl_X1_25 rfl (hH.kd ht (by decide)) (rfl) ?_
  have hb0 : 0 ≤ (v t 4) ∧ (v t 4) ≤ 40 := hH.rg ht (by decide) rfl
  refine r_bipush (pc := 4) hX 2 rfl (by decide) ?_
  first | refine r_icmp_lt (pc := 6) hX 3 (tgt := 11) rfl (by decide) (⟨by omega, by omega⟩) (⟨by omega, by omega⟩) (fun h6 => ?_) (fun h6 => ?_) | refine r_icmp_lt_any (pc := 6) hX 3 (tgt := 11) rfl (by decide) ?_ ?_
  · refine t_getR (q := (ρ t 0)) (pc := 11) hX 6 rfl rfl rfl fl_X1_21 rfl (hH.kd ht (by decide)) (rfl) ?_
    have hw11_ : ω (ρ t 0) = 2 := hH.rf ht (by decide) rfl
    refine r_callV (as := []) (st := []) (K := 8) (pc := 15) hX 8 rfl mo_X8_advance ml_X1_35 im_X8_advance se_X8_advance (c_X8_advance g ω v ρ Z hH (ρ t 0) hw11_ ) rfl rfl rfl (hH.kd hw11_ (by decide)) (by rw [hRm]; exact ⟨by decide, by decide⟩) (by rw [hRm]; exact ⟨by decide, by decide⟩) (Nat.le_of_ble_eq_true rfl) (fun o15 v15 ρv15 Zv15 hq15 _ => ?_)
    obtain ⟨rfl, rfl, hfr15, hH15, rfl, hq15⟩ := hq15
    show wp g X F_X1_readColour 0 0 18 [(2, t), (2, o)] [] v15 ρ Z
    refine t_getR (q := (ρ t 0)) (pc := 18) hX 9 rfl rfl rfl fl_X1_21 rfl (hH15.kd ht (by decide)) (rfl) ?_
    refine e_getI (y := (v15 (ρ t 0) 7)) (pc := 22) hX 11 rfl fl_X1_57 rfl (hH15.kd hw11_ (by decide)) (rfl) ?_
    have hb22 : (-1) ≤ (v15 (ρ t 0) 7) ∧ (v15 (ρ t 0) 7) ≤ 21 := hH15.rg hw11_ (by decide) rfl
    refine r_bipush (pc := 25) hX 12 rfl (by decide) ?_
    have L56 : wp g X F_X1_readColour 0 0 56 [(2, t), (2, o)] [] v15 ρ Z := by
      refine t_getR (q := (ρ t 0)) (pc := 56) hX 29 rfl rfl rfl fl_X1_21 rfl (hH15.kd ht (by decide)) (rfl) ?_
      refine r_callV (as := []) (st := []) (K := 8) (pc := 60) hX 31 rfl mo_X8_isName ml_X1_60 im_X8_isName se_X8_isName (c_X8_isName g ω v15 ρ Z hH15 (ρ t 0) hw11_ ) rfl rfl rfl (hH15.kd hw11_ (by decide)) (by rw [hRm]; exact ⟨by decide, by decide⟩) (by rw [hRm]; exact ⟨by decide, by decide⟩) (Nat.le_of_ble_eq_true rfl) (fun o60 v60 ρv60 Zv60 hq60 _ => ?_)
      obtain ⟨rfl, rfl, rfl, r60, rfl, hq60⟩ := hq60
      show wp g X F_X1_readColour 0 0 63 [(2, t), (2, o)] [(0, r60)] v15 ρ Z
      first | refine r_if_ne (pc := 63) hX 32 (tgt := 75) rfl (by decide) (⟨by omega, by omega⟩) (fun h63 => ?_) (fun h63 => ?_) | refine r_if_ne_any (pc := 63) hX 32 (tgt := 75) rfl (by decide) ?_ ?_
      · refine t_getR (q := (ρ t 3)) (pc := 75) hX 38 rfl rfl rfl fl_X1_18 rfl (hH15.kd ht (by decide)) (rfl) ?_
        have hw75_ : ω (ρ t 3) = 18 := hH.rf ht (by decide) rfl
        refine t_getI (y := (v t 4)) (pc := 79) hX 40 rfl rfl rfl fl_X1_25 rfl (hH15.kd ht (by decide)) ((hfr15.at ht (by decide) 4).trans (rfl)) ?_
        refine r_aload_n (pc := 83) hX 42 rfl rfl ?_
        refine t_getR (q := (ρ t 0)) (pc := 84) hX 43 rfl rfl rfl fl_X1_21 rfl (hH15.kd ht (by decide)) (rfl) ?_
        refine e_getL (y := (v15 (ρ t 0) 8)) (pc := 88) hX 45 rfl fl_X1_63 rfl (hH15.kd hw11_ (by decide)) (rfl) ?_
        refine r_callV (as := [(1, (v15 (ρ t 0) 8))]) (st := [(0, (v t 4)), (2, (ρ t 3))]) (K := 4) (pc := 91) hX 46 rfl mo_X4_colourNamed ml_X1_73 im_X4_colourNamed se_X4_colourNamed (c_X4_colourNamed g ω v15 ρ Z hH15 o ho ((v15 (ρ t 0) 8)) ) rfl rfl rfl (hH15.kd ho (by decide)) (by rw [hRm]; exact ⟨by decide, by decide⟩) (by rw [hRm]; exact ⟨by decide, by decide⟩) (Nat.le_of_ble_eq_true rfl) (fun o91 v91 ρv91 Zv91 hq91 _ => ?_)
        obtain ⟨rfl, rfl, rfl, r91, rfl, hq91⟩ := hq91
        try rw [show (v15 o 8) = (v o 8) from (hfr15.at ho (by decide) 8).trans (rfl)] at hq91
        show wp g X F_X1_readColour 0 0 94 [(2, t), (2, o)] [(0, r91), (0, (v t 4)), (2, (ρ t 3))] v15 ρ Z
        refine e_iast (n := 40) (pc := 94) hX 47 rfl (hH15.kd hw75_ (by decide)) (hH15.ln hw75_ (by decide)) (hH15.g4 hw75_ (by decide)) (by omega) (by omega) ?_
        have hH_94 : HT ω (up v15 (ρ t 3) (v t 4) r91) ρ Z := hH15.upR hw75_ (by decide) rfl (by omega) (by omega)
        refine t_getR (q := (ρ t 3)) (pc := 95) hX 48 rfl rfl rfl fl_X1_18 rfl (hH_94.kd ht (by decide)) (rfl) ?_
        refine t_getI (y := (v t 4)) (pc := 99) hX 50 rfl rfl rfl fl_X1_25 rfl (hH_94.kd ht (by decide)) ((up_r (rne ht hw75_ (by decide))).trans ((hfr15.at ht (by decide) 4).trans (rfl))) ?_
        refine e_iald (y := r91) (n := 40) (pc := 103) hX 52 rfl (hH_94.kd hw75_ (by decide)) (hH_94.ln hw75_ (by decide)) (by omega) (by omega) (up_s _ _ _ _) ?_
        refine r_iconst (pc := 104) hX 53 rfl ?_
        first | refine r_icmp_ne (pc := 105) hX 54 (tgt := 119) rfl (by decide) (⟨by omega, by omega⟩) (⟨by omega, by omega⟩) (fun h105 => ?_) (fun h105 => ?_) | refine r_icmp_ne_any (pc := 105) hX 54 (tgt := 119) rfl (by decide) ?_ ?_
        · refine r_iconst (pc := 119) hX 60 rfl ?_
          refine r_goto (pc := 120) hX 61 (tgt := 124) rfl (by decide) ?_
          exact r_zret (pc := 124) hX 63 hQ rfl rfl ⟨by omega, by omega⟩ (Nat.le_refl 0) (Nat.le_refl 0) ⟨rfl, rfl, ((FrW.rf).tr hfr15 (by decide)).up (r := (ρ t 3)) hw75_ (by decide), hH_94, 1, rfl, (by omega), (((up_r (rne hw11_ hw75_ (by decide))).trans (rfl)).trans (by omega))⟩
        · refine t_getR (q := (ρ t 0)) (pc := 108) hX 55 rfl rfl rfl fl_X1_21 rfl (hH_94.kd ht (by decide)) (rfl) ?_
          refine r_iconst (pc := 112) hX 57 rfl ?_
          refine r_callV (as := [(0, 3)]) (st := []) (K := 8) (pc := 113) hX 58 rfl mo_X8_refuse ml_X1_53 im_X8_refuse se_X8_refuse (c_X8_refuse g ω (up v15 (ρ t 3) (v t 4) r91) ρ Z hH_94 (ρ t 0) hw11_ (3) (by omega)) rfl rfl rfl (hH_94.kd hw11_ (by decide)) (by rw [hRm]; exact ⟨by decide, by decide⟩) (by rw [hRm]; exact ⟨by decide, by decide⟩) (Nat.le_of_ble_eq_true rfl) (fun o113 v113 ρv113 Zv113 hq113 _ => ?_)
          obtain ⟨rfl, rfl, hfr113, hH113, r113, rfl, hq113⟩ := hq113
          try rw [show ((up v15 (ρ t 3) (v t 4) r91) (ρ t 0) 1) = (v15 (ρ t 0) 1) from (up_r (rne hw11_ hw75_ (by decide))).trans (rfl)] at hq113
          show wp g X F_X1_readColour 0 0 116 [(2, t), (2, o)] [(0, r113)] v113 ρ Z
          first | refine r_if_eq (pc := 116) hX 59 (tgt := 123) rfl (by decide) (⟨by omega, by omega⟩) (fun h116 => ?_) (fun h116 => ?_) | refine r_if_eq_any (pc := 116) hX 59 (tgt := 123) rfl (by decide) ?_ ?_
          · refine r_iconst (pc := 123) hX 62 rfl ?_
            exact r_zret (pc := 124) hX 63 hQ rfl rfl ⟨by omega, by omega⟩ (Nat.le_refl 0) (Nat.le_refl 0) ⟨rfl, rfl, (((FrW.rf).tr hfr15 (by decide)).up (r := (ρ t 3)) hw75_ (by decide)).tr hfr113 (by decide), hH113, 0, rfl, (by omega), ((rfl).trans (by omega))⟩
          · refine r_iconst (pc := 119) hX 60 rfl ?_
            refine r_goto (pc := 120) hX 61 (tgt := 124) rfl (by decide) ?_
            exact r_zret (pc := 124) hX 63 hQ rfl rfl ⟨by omega, by omega⟩ (Nat.le_refl 0) (Nat.le_refl 0) ⟨rfl, rfl, (((FrW.rf).tr hfr15 (by decide)).up (r := (ρ t 3)) hw75_ (by decide)).tr hfr113 (by decide), hH113, 1, rfl, (by omega), ((rfl).trans (by omega))⟩
      · refine t_getR (q := (ρ t 0)) (pc := 66) hX 33 rfl rfl rfl fl_X1_21 rfl (hH15.kd ht (by decide)) (rfl) ?_
        refine r_iconst (pc := 70) hX 35 rfl ?_
        refine r_callV (as := [(0, 1)]) (st := []) (K := 8) (pc := 71) hX 36 rfl mo_X8_refuse ml_X1_53 im_X8_refuse se_X8_refuse (c_X8_refuse g ω v15 ρ Z hH15 (ρ t 0) hw11_ (1) (by omega)) rfl rfl rfl (hH15.kd hw11_ (by decide)) (by rw [hRm]; exact ⟨by decide, by decide⟩) (by rw [hRm]; exact ⟨by decide, by decide⟩) (Nat.le_of_ble_eq_true rfl) (fun o71 v71 ρv71 Zv71 hq71 _ => ?_)
        obtain ⟨rfl, rfl, hfr71, hH71, r71, rfl, hq71⟩ := hq71
        show wp g X F_X1_readColour 0 0 74 [(2, t), (2, o)] [(0, r71)] v71 ρ Z
        exact r_zret (pc := 74) hX 37 hQ rfl rfl ⟨by omega, by omega⟩ (Nat.le_refl 0) (Nat.le_refl 0) ⟨rfl, rfl, ((FrW.rf).tr hfr15 (by decide)).tr hfr71 (by decide), hH71, r71, rfl, (by omega), ((rfl).trans (by omega))⟩
    first | refine r_icmp_ne (pc := 27) hX 13 (tgt := 56) rfl (by decide) (⟨by omega, by omega⟩) (⟨by omega, by omega⟩) (fun h27 => ?_) (fun h27 => ?_) | refine r_icmp_ne_any (pc := 27) hX 13 (tgt := 56) rfl (by decide) ?_ ?_
    · exact (L56   )
    · refine t_getR (q := (ρ t 1)) (pc := 30) hX 14 rfl rfl rfl fl_X1_11 rfl (hH15.kd ht (by decide)) (rfl) ?_
      have hw30_ : ω (ρ t 1) = 16 := hH.rf ht (by decide) rfl
      refine t_getI (y := (v t 4)) (pc := 34) hX 16 rfl rfl rfl fl_X1_25 rfl (hH15.kd ht (by decide)) ((hfr15.at ht (by decide) 4).trans (rfl)) ?_
      refine e_iald (y := (v (ρ t 1) (v t 4))) (n := 40) (pc := 38) hX 18 rfl (hH15.kd hw30_ (by decide)) (hH15.ln hw30_ (by decide)) (by omega) (by omega) ((hfr15.at hw30_ (by decide) (v t 4)).trans (rfl)) ?_
      have hb38 : (-1) ≤ (v (ρ t 1) (v t 4)) ∧ (v (ρ t 1) (v t 4)) ≤ 21 := hH.rg hw30_ (by decide) rfl
      refine r_bipush (pc := 39) hX 19 rfl (by decide) ?_
      first | refine r_icmp_ne (pc := 41) hX 20 (tgt := 56) rfl (by decide) (⟨by omega, by omega⟩) (⟨by omega, by omega⟩) (fun h41 => ?_) (fun h41 => ?_) | refine r_icmp_ne_any (pc := 41) hX 20 (tgt := 56) rfl (by decide) ?_ ?_
      · exact (L56   )
      · refine t_getR (q := (ρ t 3)) (pc := 44) hX 21 rfl rfl rfl fl_X1_18 rfl (hH15.kd ht (by decide)) (rfl) ?_
        have hw44_ : ω (ρ t 3) = 18 := hH.rf ht (by decide) rfl
        refine t_getI (y := (v t 4)) (pc := 48) hX 23 rfl rfl rfl fl_X1_25 rfl (hH15.kd ht (by decide)) ((hfr15.at ht (by decide) 4).trans (rfl)) ?_
        refine r_iconst (pc := 52) hX 25 rfl ?_
        refine e_iast (n := 40) (pc := 53) hX 26 rfl (hH15.kd hw44_ (by decide)) (hH15.ln hw44_ (by decide)) (hH15.g4 hw44_ (by decide)) (by omega) (by omega) ?_
        have hH_53 : HT ω (up v15 (ρ t 3) (v t 4) (-1)) ρ Z := hH15.upR hw44_ (by decide) rfl (by omega) (by omega)
        refine r_iconst (pc := 54) hX 27 rfl ?_
        exact r_zret (pc := 55) hX 28 hQ rfl rfl ⟨by omega, by omega⟩ (Nat.le_refl 0) (Nat.le_refl 0) ⟨rfl, rfl, ((FrW.rf).tr hfr15 (by decide)).up (r := (ρ t 3)) hw44_ (by decide), hH_53, 1, rfl, (by omega), (((up_r (rne hw11_ hw44_ (by decide))).trans (rfl)).trans (by omega))⟩
  · refine r_iconst (pc := 9) hX 4 rfl ?_
    exact r_zret (pc := 10) hX 5 hQ rfl rfl ⟨by omega, by omega⟩ (Nat.le_refl 0) (Nat.le_refl 0) ⟨rfl, rfl, FrW.rf, hH, 0, rfl, (by omega), ((rfl).trans (by omega))⟩
set_option maxHeartbeats 4000000 in
set_option maxRecDepth 100000 in
theorem c_X1_read (g : Gp) (ω : Rw) (v ρ : Mv) (Z : Mz) (hH : HT ω v ρ Z) (t : Int) (ht : ω t = 15) (o : Int) (ho : ω o = 5)  : Ok g 9 0 0 F_X1_read [(2, t), (2, o)] v ρ Z (fun o9 v' ρ' Z' => ρ = ρ' ∧ Z = Z' ∧ FrW ω [2, 15, 16, 17, 18] v v' ∧ HT ω v' ρ Z ∧ ∃ r : Int, o9 = some (0, r) ∧ (0 ≤ r ∧ r ≤ 1) ∧ ((r = 1 → LgO (v' (ρ t 1)) (v' (ρ t 2)) (v' t 4))) ∧ (v' (ρ t 0) 1 = v (ρ t 0) 1)) := by
  refine Ok.of mo_X1_read (Nat.le_of_ble_eq_true rfl) ?_
  intro X hX hRm hxn hQ
  show wp g X F_X1_read 0 0 0 [(2, t), (2, o), (3, 0)] [] v ρ Z
  have hw0 : ω (ρ t 0) = 2 := hH.rf ht (by decide) rfl
  have hw1 : ω (ρ t 1) = 16 := hH.rf ht (by decide) rfl
  have hw2 : ω (ρ t 2) = 17 := hH.rf ht (by decide) rfl
  refine r_aload_n (pc := 0) hX 0 rfl rfl ?_
  refine r_iconst (pc := 1) hX 1 rfl ?_
  refine r_putI (pc := 2) hX 2 rfl fl_X1_25 rfl (fun _ h => by cases h; rfl) (hH.kd ht (by decide)) (hH.g4 ht (by decide)) ?_
  have hH_2 : HT ω (up v t 4 0) ρ Z := hH.upR ht (by decide) rfl (by omega) (by omega)
  show wp g X F_X1_read 0 0 5 [(2, t), (2, o), (3, 0)] [] (up v t 4 0) ρ Z
  refine t_getR (q := (ρ t 0)) (pc := 5) hX 3 rfl rfl rfl fl_X1_21 rfl (hH_2.kd ht (by decide)) (rfl) ?_
  have hw5_ : ω (ρ t 0) = 2 := hH.rf ht (by decide) rfl
  refine r_sipush (pc := 9) hX 5 rfl (by decide) ?_
  refine r_callV (as := [(0, 400)]) (st := []) (K := 8) (pc := 12) hX 6 rfl mo_X8_open ml_X1_29 im_X8_open se_X8_open (c_X8_open g ω (up v t 4 0) ρ Z hH_2 (ρ t 0) hw5_ (400) (by omega)) rfl rfl rfl (hH_2.kd hw5_ (by decide)) (by rw [hRm]; exact ⟨by decide, by decide⟩) (by rw [hRm]; exact ⟨by decide, by decide⟩) (Nat.le_of_ble_eq_true rfl) (fun o12 v12 ρv12 Zv12 hq12 _ => ?_)
  obtain ⟨rfl, rfl, hfr12, hH12, rfl, hq12⟩ := hq12
  try rw [show ((up v t 4 0) (ρ t 0) 1) = (v (ρ t 0) 1) from (up_k (by decide)).trans (rfl)] at hq12
  show wp g X F_X1_read 0 0 15 [(2, t), (2, o), (3, 0)] [] v12 ρ Z
  refine t_getR (q := (ρ t 0)) (pc := 15) hX 7 rfl rfl rfl fl_X1_21 rfl (hH12.kd ht (by decide)) (rfl) ?_
  refine r_callV (as := []) (st := []) (K := 8) (pc := 19) hX 9 rfl mo_X8_advance ml_X1_35 im_X8_advance se_X8_advance (c_X8_advance g ω v12 ρ Z hH12 (ρ t 0) hw5_ ) rfl rfl rfl (hH12.kd hw5_ (by decide)) (by rw [hRm]; exact ⟨by decide, by decide⟩) (by rw [hRm]; exact ⟨by decide, by decide⟩) (Nat.le_of_ble_eq_true rfl) (fun o19 v19 ρv19 Zv19 hq19 _ => ?_)
  obtain ⟨rfl, rfl, hfr19, hH19, rfl, hq19⟩ := hq19
  show wp g X F_X1_read 0 0 22 [(2, t), (2, o), (3, 0)] [] v19 ρ Z
  refine r_iconst (pc := 22) hX 10 rfl ?_
  refine r_istore_n (ls' := [(2, t), (2, o), (0, 0)]) (pc := 23) hX 11 rfl (by decide) rfl ?_
  have L24 : ∀ (n24 : Nat) (i : Int) (v24 : Mv) , (FrW ω [2, 15, 16, 17, 18] v v24) → (HT ω v24 ρ Z) → (0 ≤ i ∧ i ≤ 41) → (v24 (ρ t 0) 1 = v (ρ t 0) 1) → (LgO (v24 (ρ t 1)) (v24 (ρ t 2)) (v24 t 4)) → (41 - i).toNat < n24 → wp g X F_X1_read 0 0 24 [(2, t), (2, o), (0, i)] [] v24 ρ Z := by
    intro n24
    induction n24 with
    | zero => intro i v24 hfr24 hH24 ii et ig hme24; exact absurd hme24 (Nat.not_lt_zero _)
    | succ n24 ih24 =>
      intro i v24 hfr24 hH24 ii et ig hme24
      refine r_iload_n (pc := 24) hX 12 rfl rfl ?_
      refine r_bipush (pc := 25) hX 13 rfl (by decide) ?_
      have L109 : wp g X F_X1_read 0 0 109 [(2, t), (2, o), (0, i)] [] v24 ρ Z := by
        refine r_iconst (pc := 109) hX 53 rfl ?_
        exact r_zret (pc := 110) hX 54 hQ rfl rfl ⟨by omega, by omega⟩ (Nat.le_refl 0) (Nat.le_refl 0) ⟨rfl, rfl, hfr24, hH24, 1, rfl, (by omega), (fun _ => ig), ((rfl).trans (by omega))⟩
      first | refine r_icmp_gt (pc := 27) hX 14 (tgt := 109) rfl (by decide) (⟨by omega, by omega⟩) (⟨by omega, by omega⟩) (fun h27 => ?_) (fun h27 => ?_) | refine r_icmp_gt_any (pc := 27) hX 14 (tgt := 109) rfl (by decide) ?_ ?_
      · exact (L109   )
      · refine t_getR (q := (ρ t 0)) (pc := 30) hX 15 rfl rfl rfl fl_X1_21 rfl (hH24.kd ht (by decide)) (rfl) ?_
        refine r_callV (as := []) (st := []) (K := 8) (pc := 34) hX 17 rfl mo_X8_isEnd ml_X1_38 im_X8_isEnd se_X8_isEnd (c_X8_isEnd g ω v24 ρ Z hH24 (ρ t 0) hw5_ ) rfl rfl rfl (hH24.kd hw5_ (by decide)) (by rw [hRm]; exact ⟨by decide, by decide⟩) (by rw [hRm]; exact ⟨by decide, by decide⟩) (Nat.le_of_ble_eq_true rfl) (fun o34 v34 ρv34 Zv34 hq34 _ => ?_)
        obtain ⟨rfl, rfl, rfl, r34, rfl, hq34⟩ := hq34
        show wp g X F_X1_read 0 0 37 [(2, t), (2, o), (0, i)] [(0, r34)] v24 ρ Z
        first | refine r_if_ne (pc := 37) hX 18 (tgt := 109) rfl (by decide) (⟨by omega, by omega⟩) (fun h37 => ?_) (fun h37 => ?_) | refine r_if_ne_any (pc := 37) hX 18 (tgt := 109) rfl (by decide) ?_ ?_
        · exact (L109   )
        · refine r_aload_n (pc := 40) hX 19 rfl rfl ?_
          refine r_aload_n (pc := 41) hX 20 rfl rfl ?_
          refine r_callV (as := [(2, o)]) (st := []) (K := 1) (pc := 42) hX 21 rfl mo_X1_readActor ml_X1_42 im_X1_readActor se_X1_readActor (c_X1_readActor g ω v24 ρ Z hH24 t ht o ho ) rfl rfl rfl (hH24.kd ht (by decide)) (by rw [hRm]; exact ⟨by decide, by decide⟩) (by rw [hRm]; exact ⟨by decide, by decide⟩) (Nat.le_of_ble_eq_true rfl) (fun o42 v42 ρv42 Zv42 hq42 _ => ?_)
          obtain ⟨rfl, rfl, hfr42, hH42, r42, rfl, hq42⟩ := hq42
          have hw42_ : ω (ρ t 1) = 16 := hH.rf ht (by decide) rfl
          have hwf1_ : ω (ρ t 2) = 17 := hH.rf ht (by decide) rfl
          show wp g X F_X1_read 0 0 45 [(2, t), (2, o), (0, i)] [(0, r42)] v42 ρ Z
          have L56 : ∀ (v56 : Mv) , (FrW ω [2, 15, 16, 17, 18] v v56) → (HT ω v56 ρ Z) → (v56 (ρ t 0) 1 = v (ρ t 0) 1) → wp g X F_X1_read 0 0 56 [(2, t), (2, o), (0, i)] [] v56 ρ Z := by
            intro v56 hfr56 hH56 et
            refine r_iconst (pc := 56) hX 27 rfl ?_
            exact r_zret (pc := 57) hX 28 hQ rfl rfl ⟨by omega, by omega⟩ (Nat.le_refl 0) (Nat.le_refl 0) ⟨rfl, rfl, hfr56, hH56, 0, rfl, (by omega), (fun e => by omega), ((rfl).trans (by omega))⟩
          first | refine r_if_eq (pc := 45) hX 22 (tgt := 56) rfl (by decide) (⟨by omega, by omega⟩) (fun h45 => ?_) (fun h45 => ?_) | refine r_if_eq_any (pc := 45) hX 22 (tgt := 56) rfl (by decide) ?_ ?_
          · exact (L56  v42 ((hfr24).tr hfr42 (by decide)) (hH42) ((rfl).trans (by omega)) )
          · refine r_aload_n (pc := 48) hX 23 rfl rfl ?_
            refine r_aload_n (pc := 49) hX 24 rfl rfl ?_
            refine r_callV (as := [(2, o)]) (st := []) (K := 1) (pc := 50) hX 25 rfl mo_X1_readColour ml_X1_46 im_X1_readColour se_X1_readColour (c_X1_readColour g ω v42 ρ Z hH42 t ht o ho ) rfl rfl rfl (hH42.kd ht (by decide)) (by rw [hRm]; exact ⟨by decide, by decide⟩) (by rw [hRm]; exact ⟨by decide, by decide⟩) (Nat.le_of_ble_eq_true rfl) (fun o50 v50 ρv50 Zv50 hq50 _ => ?_)
            obtain ⟨rfl, rfl, hfr50, hH50, r50, rfl, hq50⟩ := hq50
            show wp g X F_X1_read 0 0 53 [(2, t), (2, o), (0, i)] [(0, r50)] v50 ρ Z
            first | refine r_if_ne (pc := 53) hX 26 (tgt := 58) rfl (by decide) (⟨by omega, by omega⟩) (fun h53 => ?_) (fun h53 => ?_) | refine r_if_ne_any (pc := 53) hX 26 (tgt := 58) rfl (by decide) ?_ ?_
            · refine t_getR (q := (ρ t 0)) (pc := 58) hX 29 rfl rfl rfl fl_X1_21 rfl (hH50.kd ht (by decide)) (rfl) ?_
              refine r_callV (as := []) (st := []) (K := 8) (pc := 62) hX 31 rfl mo_X8_advance ml_X1_35 im_X8_advance se_X8_advance (c_X8_advance g ω v50 ρ Z hH50 (ρ t 0) hw5_ ) rfl rfl rfl (hH50.kd hw5_ (by decide)) (by rw [hRm]; exact ⟨by decide, by decide⟩) (by rw [hRm]; exact ⟨by decide, by decide⟩) (Nat.le_of_ble_eq_true rfl) (fun o62 v62 ρv62 Zv62 hq62 _ => ?_)
              obtain ⟨rfl, rfl, hfr62, hH62, rfl, hq62⟩ := hq62
              show wp g X F_X1_read 0 0 65 [(2, t), (2, o), (0, i)] [] v62 ρ Z
              refine t_getR (q := (ρ t 0)) (pc := 65) hX 32 rfl rfl rfl fl_X1_21 rfl (hH62.kd ht (by decide)) (rfl) ?_
              refine r_bipush (pc := 69) hX 34 rfl (by decide) ?_
              refine r_callV (as := [(0, 59)]) (st := []) (K := 8) (pc := 71) hX 35 rfl mo_X8_isMark ml_X1_49 im_X8_isMark se_X8_isMark (c_X8_isMark g ω v62 ρ Z hH62 (ρ t 0) hw5_ (59) (by omega)) rfl rfl rfl (hH62.kd hw5_ (by decide)) (by rw [hRm]; exact ⟨by decide, by decide⟩) (by rw [hRm]; exact ⟨by decide, by decide⟩) (Nat.le_of_ble_eq_true rfl) (fun o71 v71 ρv71 Zv71 hq71 _ => ?_)
              obtain ⟨rfl, rfl, rfl, r71, rfl, hq71⟩ := hq71
              show wp g X F_X1_read 0 0 74 [(2, t), (2, o), (0, i)] [(0, r71)] v62 ρ Z
              first | refine r_if_ne (pc := 74) hX 36 (tgt := 86) rfl (by decide) (⟨by omega, by omega⟩) (fun h74 => ?_) (fun h74 => ?_) | refine r_if_ne_any (pc := 74) hX 36 (tgt := 86) rfl (by decide) ?_ ?_
              · refine r_aload_n (pc := 86) hX 42 rfl rfl ?_
                refine r_dup (pc := 87) hX 43 rfl (show (2 : Nat) ≠ 1 by decide) ?_
                refine e_getI (y := (v24 t 4)) (pc := 88) hX 44 rfl fl_X1_25 rfl (hH62.kd ht (by decide)) ((hfr62.at ht (by decide) 4).trans ((hfr50.at ht (by decide) 4).trans ((hfr42.at ht (by decide) 4).trans (rfl)))) ?_
                have hb88 : 0 ≤ (v24 t 4) ∧ (v24 t 4) ≤ 40 := hH24.rg ht (by decide) rfl
                refine r_iconst (pc := 91) hX 45 rfl ?_
                refine r_iadd (pc := 92) hX 46 rfl ?_
                have hz93 := (hq42.2.1 (by omega)).1
                refine r_putI (pc := 93) hX 47 rfl fl_X1_25 rfl (fun _ h => by cases h; rfl) (hH62.kd ht (by decide)) (hH62.g4 ht (by decide)) ?_
                have hH_93 : HT ω (up v62 t 4 ((v24 t 4) + 1)) ρ Z := hH62.upR ht (by decide) rfl (by omega) (by omega)
                show wp g X F_X1_read 0 0 96 [(2, t), (2, o), (0, i)] [] (up v62 t 4 ((v24 t 4) + 1)) ρ Z
                refine t_getR (q := (ρ t 0)) (pc := 96) hX 48 rfl rfl rfl fl_X1_21 rfl (hH_93.kd ht (by decide)) (rfl) ?_
                refine r_callV (as := []) (st := []) (K := 8) (pc := 100) hX 50 rfl mo_X8_advance ml_X1_35 im_X8_advance se_X8_advance (c_X8_advance g ω (up v62 t 4 ((v24 t 4) + 1)) ρ Z hH_93 (ρ t 0) hw5_ ) rfl rfl rfl (hH_93.kd hw5_ (by decide)) (by rw [hRm]; exact ⟨by decide, by decide⟩) (by rw [hRm]; exact ⟨by decide, by decide⟩) (Nat.le_of_ble_eq_true rfl) (fun o100 v100 ρv100 Zv100 hq100 _ => ?_)
                obtain ⟨rfl, rfl, hfr100, hH100, rfl, hq100⟩ := hq100
                try rw [show ((up v62 t 4 ((v24 t 4) + 1)) (ρ t 0) 1) = (v62 (ρ t 0) 1) from (up_k (by decide)).trans (rfl)] at hq100
                show wp g X F_X1_read 0 0 103 [(2, t), (2, o), (0, i)] [] v100 ρ Z
                refine r_iinc (ls' := [(2, t), (2, o), (0, (i + 1))]) (pc := 103) hX 51 rfl rfl (by decide) rfl ?_
                refine r_goto (pc := 106) hX 52 (tgt := 24) rfl (by decide) ?_
                exact (ih24 (i + 1) v100 ((((((hfr24).tr hfr42 (by decide)).tr hfr50 (by decide)).tr hfr62 (by decide)).up (r := t) ht (by decide)).tr hfr100 (by decide)) (hH100) (by omega) ((rfl).trans (by omega)) (by rw [(show v100 (ρ t 1) = v42 (ρ t 1) from (hfr100.rw hw42_ (by decide)).trans ((up_f (rne hw42_ ht (by decide))).trans ((hfr62.rw hw42_ (by decide)).trans ((hfr50.rw hw42_ (by decide)).trans (rfl))))), (show v100 (ρ t 2) = v42 (ρ t 2) from (hfr100.rw hwf1_ (by decide)).trans ((up_f (rne hwf1_ ht (by decide))).trans ((hfr62.rw hwf1_ (by decide)).trans ((hfr50.rw hwf1_ (by decide)).trans (rfl))))), (show v100 t 4 = ((v24 t 4) + 1) from (hfr100.at ht (by decide) 4).trans (up_s _ _ _ _))]; exact ig.step (hq42.2.1 (by omega)).2.1 (hq42.2.1 (by omega)).2.2) (by omega))
              · refine t_getR (q := (ρ t 0)) (pc := 77) hX 37 rfl rfl rfl fl_X1_21 rfl (hH62.kd ht (by decide)) (rfl) ?_
                refine r_iconst (pc := 81) hX 39 rfl ?_
                refine r_callV (as := [(0, 1)]) (st := []) (K := 8) (pc := 82) hX 40 rfl mo_X8_refuse ml_X1_53 im_X8_refuse se_X8_refuse (c_X8_refuse g ω v62 ρ Z hH62 (ρ t 0) hw5_ (1) (by omega)) rfl rfl rfl (hH62.kd hw5_ (by decide)) (by rw [hRm]; exact ⟨by decide, by decide⟩) (by rw [hRm]; exact ⟨by decide, by decide⟩) (Nat.le_of_ble_eq_true rfl) (fun o82 v82 ρv82 Zv82 hq82 _ => ?_)
                obtain ⟨rfl, rfl, hfr82, hH82, r82, rfl, hq82⟩ := hq82
                show wp g X F_X1_read 0 0 85 [(2, t), (2, o), (0, i)] [(0, r82)] v82 ρ Z
                exact r_zret (pc := 85) hX 41 hQ rfl rfl ⟨by omega, by omega⟩ (Nat.le_refl 0) (Nat.le_refl 0) ⟨rfl, rfl, ((((hfr24).tr hfr42 (by decide)).tr hfr50 (by decide)).tr hfr62 (by decide)).tr hfr82 (by decide), hH82, r82, rfl, (by omega), (fun e => by omega), ((rfl).trans (by omega))⟩
            · exact (L56  v50 (((hfr24).tr hfr42 (by decide)).tr hfr50 (by decide)) (hH50) ((rfl).trans (by omega)) )
  exact (L24 _ 0 v19 ((((FrW.rf).up (r := t) ht (by decide)).tr hfr12 (by decide)).tr hfr19 (by decide)) (hH19) (by omega) ((rfl).trans (by omega)) (by rw [(show v19 t 4 = 0 from (hfr19.at ht (by decide) 4).trans ((hfr12.at ht (by decide) 4).trans (up_s _ _ _ _)))]; exact LgO.none) (Nat.lt_succ_self _))
set_option maxHeartbeats 4000000 in
set_option maxRecDepth 100000 in
theorem c_X1_live (g : Gp) (ω : Rw) (v ρ : Mv) (Z : Mz) (hH : HT ω v ρ Z) (t : Int) (ht : ω t = 15) (i : Int) (o : Int) (ho : ω o = 22) (hir : inR i) (hlg : LgO (v (ρ t 1)) (v (ρ t 2)) (v t 4)) : Ok g 5 0 0 F_X1_live [(2, t), (0, i), (2, o)] v ρ Z (fun o9 v' ρ' Z' => ρ = ρ' ∧ Z = Z' ∧ FrW ω [22, 23, 24, 25, 26] v v' ∧ HT ω v' ρ Z ∧ ∃ r : Int, o9 = some (0, r) ∧ (0 ≤ r ∧ r ≤ 30)) := by
  refine Ok.of mo_X1_live (Nat.le_of_ble_eq_true rfl) ?_
  intro X hX hRm hxn hQ
  show wp g X F_X1_live 0 0 0 [(2, t), (0, i), (2, o), (3, 0)] [] v ρ Z
  refine r_iload_n (pc := 0) hX 0 rfl rfl ?_
  have L18 : wp g X F_X1_live 0 0 18 [(2, t), (0, i), (2, o), (3, 0)] [] v ρ Z := by
    refine r_iconst (pc := 18) hX 9 rfl ?_
    exact r_iret (pc := 19) hX 10 hQ rfl rfl (Nat.le_refl 0) (Nat.le_refl 0) ⟨rfl, rfl, FrW.rf, hH, 0, rfl, (by omega)⟩
  first | refine r_if_lt (pc := 1) hX 1 (tgt := 18) rfl (by decide) (⟨by omega, by omega⟩) (fun h1 => ?_) (fun h1 => ?_) | refine r_if_lt_any (pc := 1) hX 1 (tgt := 18) rfl (by decide) ?_ ?_
  · exact (L18   )
  · refine r_iload_n (pc := 4) hX 2 rfl rfl ?_
    refine t_getI (y := (v t 4)) (pc := 5) hX 3 rfl rfl rfl fl_X1_25 rfl (hH.kd ht (by decide)) (rfl) ?_
    have hb5 : 0 ≤ (v t 4) ∧ (v t 4) ≤ 40 := hH.rg ht (by decide) rfl
    first | refine r_icmp_ge (pc := 9) hX 5 (tgt := 18) rfl (by decide) (⟨by omega, by omega⟩) (⟨by omega, by omega⟩) (fun h9 => ?_) (fun h9 => ?_) | refine r_icmp_ge_any (pc := 9) hX 5 (tgt := 18) rfl (by decide) ?_ ?_
    · exact (L18   )
    · refine r_iload_n (pc := 12) hX 6 rfl rfl ?_
      refine r_bipush (pc := 13) hX 7 rfl (by decide) ?_
      first | refine r_icmp_lt (pc := 15) hX 8 (tgt := 20) rfl (by decide) (⟨by omega, by omega⟩) (⟨by omega, by omega⟩) (fun h15 => ?_) (fun h15 => ?_) | refine r_icmp_lt_any (pc := 15) hX 8 (tgt := 20) rfl (by decide) ?_ ?_
      · refine t_getR (q := (ρ t 1)) (pc := 20) hX 11 rfl rfl rfl fl_X1_11 rfl (hH.kd ht (by decide)) (rfl) ?_
        have hw20_ : ω (ρ t 1) = 16 := hH.rf ht (by decide) rfl
        refine r_iload_n (pc := 24) hX 13 rfl rfl ?_
        refine e_iald (y := (v (ρ t 1) i)) (n := 40) (pc := 25) hX 14 rfl (hH.kd hw20_ (by decide)) (hH.ln hw20_ (by decide)) (by omega) (by omega) (rfl) ?_
        have hb25 : (-1) ≤ (v (ρ t 1) i) ∧ (v (ρ t 1) i) ≤ 21 := hH.rg hw20_ (by decide) rfl
        have hsw26 : ((v (ρ t 1) i) ≠ 7 ∧ (v (ρ t 1) i) ≠ 8) ∨ (v (ρ t 1) i) = 7 ∨ (v (ρ t 1) i) = 8 := by omega
        rcases hsw26 with hsw26 | hsw26 | hsw26
        · refine r_ls (off := 115) (pc := 26) hX 15 (tgt := 141) rfl ⟨by omega, by omega⟩ (by decide) (by simp [Op.lookupswitch.offset, hsw26, Ne.symm, eq_comm]) (by decide) ?_
          refine r_aload_n (pc := 141) hX 72 rfl rfl ?_
          refine t_getR (q := (ρ t 3)) (pc := 142) hX 73 rfl rfl rfl fl_X1_18 rfl (hH.kd ht (by decide)) (rfl) ?_
          have hw142_ : ω (ρ t 3) = 18 := hH.rf ht (by decide) rfl
          refine r_iload_n (pc := 146) hX 75 rfl rfl ?_
          refine e_iald (y := (v (ρ t 3) i)) (n := 40) (pc := 147) hX 76 rfl (hH.kd hw142_ (by decide)) (hH.ln hw142_ (by decide)) (by omega) (by omega) (rfl) ?_
          have hb147 : (-1) ≤ (v (ρ t 3) i) ∧ (v (ρ t 3) i) ≤ 3 := hH.rg hw142_ (by decide) rfl
          refine r_callV (as := [(0, (v (ρ t 3) i))]) (st := []) (K := 9) (pc := 148) hX 77 rfl mo_X9_whyNotCome ml_X1_92 im_X9_whyNotCome se_X9_whyNotCome (c_X9_whyNotCome g ω v ρ Z hH o ho ((v (ρ t 3) i)) (by omega)) rfl rfl rfl (hH.kd ho (by decide)) (by rw [hRm]; exact ⟨by decide, by decide⟩) (by rw [hRm]; exact ⟨by decide, by decide⟩) (Nat.le_of_ble_eq_true rfl) (fun o148 v148 ρv148 Zv148 hq148 _ => ?_)
          obtain ⟨rfl, rfl, rfl, r148, rfl, hq148⟩ := hq148
          have hw148_ : ω (ρ o 0) = 5 := hH.rf ho (by decide) rfl
          have hwf1_ : ω (ρ o 6) = 26 := hH.rf ho (by decide) rfl
          show wp g X F_X1_live 0 0 151 [(2, t), (0, i), (2, o), (3, 0)] [(0, r148)] v ρ Z
          refine r_istore_n (ls' := [(2, t), (0, i), (2, o), (0, r148)]) (pc := 151) hX 78 rfl (by decide) rfl ?_
          refine r_iload_n (pc := 152) hX 79 rfl rfl ?_
          have L166 : ∀ (v166 : Mv) , (FrW ω [22, 23, 24, 25, 26] v v166) → (HT ω v166 ρ Z) → wp g X F_X1_live 0 0 166 [(2, t), (0, i), (2, o), (0, r148)] [] v166 ρ Z := by
            intro v166 hfr166 hH166
            refine r_iload_n (pc := 166) hX 87 rfl rfl ?_
            first | refine r_if_ne (pc := 167) hX 88 (tgt := 174) rfl (by decide) (⟨by omega, by omega⟩) (fun h167 => ?_) (fun h167 => ?_) | refine r_if_ne_any (pc := 167) hX 88 (tgt := 174) rfl (by decide) ?_ ?_
            · refine r_bipush (pc := 174) hX 91 rfl (by decide) ?_
              refine r_iload_n (pc := 176) hX 92 rfl rfl ?_
              refine r_iadd (pc := 177) hX 93 rfl ?_
              exact r_iret (pc := 178) hX 94 hQ rfl rfl (Nat.le_refl 0) (Nat.le_refl 0) ⟨rfl, rfl, hfr166, hH166, (20 + r148), rfl, (by omega)⟩
            · refine r_iconst (pc := 170) hX 89 rfl ?_
              refine r_goto (pc := 171) hX 90 (tgt := 178) rfl (by decide) ?_
              exact r_iret (pc := 178) hX 94 hQ rfl rfl (Nat.le_refl 0) (Nat.le_refl 0) ⟨rfl, rfl, hfr166, hH166, 0, rfl, (by omega)⟩
          first | refine r_if_ne (pc := 153) hX 80 (tgt := 166) rfl (by decide) (⟨by omega, by omega⟩) (fun h153 => ?_) (fun h153 => ?_) | refine r_if_ne_any (pc := 153) hX 80 (tgt := 166) rfl (by decide) ?_ ?_
          · exact (L166  v (FrW.rf) (hH) )
          · refine r_aload_n (pc := 156) hX 81 rfl rfl ?_
            refine t_getR (q := (ρ t 3)) (pc := 157) hX 82 rfl rfl rfl fl_X1_18 rfl (hH.kd ht (by decide)) (rfl) ?_
            refine r_iload_n (pc := 161) hX 84 rfl rfl ?_
            refine e_iald (y := (v (ρ t 3) i)) (n := 40) (pc := 162) hX 85 rfl (hH.kd hw142_ (by decide)) (hH.ln hw142_ (by decide)) (by omega) (by omega) (rfl) ?_
            refine r_callV (as := [(0, (v (ρ t 3) i))]) (st := []) (K := 9) (pc := 163) hX 86 rfl mo_X9_doCome ml_X1_96 im_X9_doCome se_X9_doCome (c_X9_doCome g ω v ρ Z hH o ho ((v (ρ t 3) i)) (by omega) (hq148.2 (by omega))) rfl rfl rfl (hH.kd ho (by decide)) (by rw [hRm]; exact ⟨by decide, by decide⟩) (by rw [hRm]; exact ⟨by decide, by decide⟩) (Nat.le_of_ble_eq_true rfl) (fun o163 v163 ρv163 Zv163 hq163 _ => ?_)
            obtain ⟨rfl, rfl, hfr163, hH163, rfl, hq163⟩ := hq163
            show wp g X F_X1_live 0 0 166 [(2, t), (0, i), (2, o), (0, r148)] [] v163 ρ Z
            exact (L166  v163 ((FrW.rf).tr hfr163 (by decide)) (hH163) )
        · refine r_ls (off := 26) (pc := 26) hX 15 (tgt := 52) rfl ⟨by omega, by omega⟩ (by decide) (by rw [hsw26]; rfl) (by decide) ?_
          refine r_aload_n (pc := 52) hX 16 rfl rfl ?_
          refine t_getR (q := (ρ t 2)) (pc := 53) hX 17 rfl rfl rfl fl_X1_15 rfl (hH.kd ht (by decide)) (rfl) ?_
          have hw53_ : ω (ρ t 2) = 17 := hH.rf ht (by decide) rfl
          refine r_iload_n (pc := 57) hX 19 rfl rfl ?_
          refine e_iald (y := (v (ρ t 2) i)) (n := 40) (pc := 58) hX 20 rfl (hH.kd hw53_ (by decide)) (hH.ln hw53_ (by decide)) (by omega) (by omega) (rfl) ?_
          have hb58 : (-1) ≤ (v (ρ t 2) i) ∧ (v (ρ t 2) i) ≤ 2 := hH.rg hw53_ (by decide) rfl
          have hb58b := hlg i (by omega) (by omega) (by omega)
          refine t_getR (q := (ρ t 3)) (pc := 59) hX 21 rfl rfl rfl fl_X1_18 rfl (hH.kd ht (by decide)) (rfl) ?_
          have hw59_ : ω (ρ t 3) = 18 := hH.rf ht (by decide) rfl
          refine r_iload_n (pc := 63) hX 23 rfl rfl ?_
          refine e_iald (y := (v (ρ t 3) i)) (n := 40) (pc := 64) hX 24 rfl (hH.kd hw59_ (by decide)) (hH.ln hw59_ (by decide)) (by omega) (by omega) (rfl) ?_
          have hb64 : (-1) ≤ (v (ρ t 3) i) ∧ (v (ρ t 3) i) ≤ 3 := hH.rg hw59_ (by decide) rfl
          refine r_callV (as := [(0, (v (ρ t 2) i)), (0, (v (ρ t 3) i))]) (st := []) (K := 9) (pc := 65) hX 25 rfl mo_X9_whyNotTake ml_X1_76 im_X9_whyNotTake se_X9_whyNotTake (c_X9_whyNotTake g ω v ρ Z hH o ho ((v (ρ t 2) i)) ((v (ρ t 3) i)) (by omega) (by omega)) rfl rfl rfl (hH.kd ho (by decide)) (by rw [hRm]; exact ⟨by decide, by decide⟩) (by rw [hRm]; exact ⟨by decide, by decide⟩) (Nat.le_of_ble_eq_true rfl) (fun o65 v65 ρv65 Zv65 hq65 _ => ?_)
          obtain ⟨rfl, rfl, rfl, r65, rfl, hq65⟩ := hq65
          show wp g X F_X1_live 0 0 68 [(2, t), (0, i), (2, o), (3, 0)] [(0, r65)] v ρ Z
          refine r_istore_n (ls' := [(2, t), (0, i), (2, o), (0, r65)]) (pc := 68) hX 26 rfl (by decide) rfl ?_
          refine r_iload_n (pc := 69) hX 27 rfl rfl ?_
          have L89 : ∀ (v89 : Mv) , (FrW ω [22, 23, 24, 25, 26] v v89) → (HT ω v89 ρ Z) → wp g X F_X1_live 0 0 89 [(2, t), (0, i), (2, o), (0, r65)] [] v89 ρ Z := by
            intro v89 hfr89 hH89
            refine r_iload_n (pc := 89) hX 39 rfl rfl ?_
            exact r_iret (pc := 90) hX 40 hQ rfl rfl (Nat.le_refl 0) (Nat.le_refl 0) ⟨rfl, rfl, hfr89, hH89, r65, rfl, (by omega)⟩
          first | refine r_if_ne (pc := 70) hX 28 (tgt := 89) rfl (by decide) (⟨by omega, by omega⟩) (fun h70 => ?_) (fun h70 => ?_) | refine r_if_ne_any (pc := 70) hX 28 (tgt := 89) rfl (by decide) ?_ ?_
          · exact (L89  v (FrW.rf) (hH) )
          · refine r_aload_n (pc := 73) hX 29 rfl rfl ?_
            refine t_getR (q := (ρ t 2)) (pc := 74) hX 30 rfl rfl rfl fl_X1_15 rfl (hH.kd ht (by decide)) (rfl) ?_
            refine r_iload_n (pc := 78) hX 32 rfl rfl ?_
            refine e_iald (y := (v (ρ t 2) i)) (n := 40) (pc := 79) hX 33 rfl (hH.kd hw53_ (by decide)) (hH.ln hw53_ (by decide)) (by omega) (by omega) (rfl) ?_
            refine t_getR (q := (ρ t 3)) (pc := 80) hX 34 rfl rfl rfl fl_X1_18 rfl (hH.kd ht (by decide)) (rfl) ?_
            refine r_iload_n (pc := 84) hX 36 rfl rfl ?_
            refine e_iald (y := (v (ρ t 3) i)) (n := 40) (pc := 85) hX 37 rfl (hH.kd hw59_ (by decide)) (hH.ln hw59_ (by decide)) (by omega) (by omega) (rfl) ?_
            refine r_callV (as := [(0, (v (ρ t 2) i)), (0, (v (ρ t 3) i))]) (st := []) (K := 9) (pc := 86) hX 38 rfl mo_X9_doTake ml_X1_82 im_X9_doTake se_X9_doTake (c_X9_doTake g ω v ρ Z hH o ho ((v (ρ t 2) i)) ((v (ρ t 3) i)) (by omega) (by omega)) rfl rfl rfl (hH.kd ho (by decide)) (by rw [hRm]; exact ⟨by decide, by decide⟩) (by rw [hRm]; exact ⟨by decide, by decide⟩) (Nat.le_of_ble_eq_true rfl) (fun o86 v86 ρv86 Zv86 hq86 _ => ?_)
            obtain ⟨rfl, rfl, hfr86, hH86, rfl, hq86⟩ := hq86
            show wp g X F_X1_live 0 0 89 [(2, t), (0, i), (2, o), (0, r65)] [] v86 ρ Z
            exact (L89  v86 ((FrW.rf).tr hfr86 (by decide)) (hH86) )
        · refine r_ls (off := 65) (pc := 26) hX 15 (tgt := 91) rfl ⟨by omega, by omega⟩ (by decide) (by rw [hsw26]; rfl) (by decide) ?_
          refine r_aload_n (pc := 91) hX 41 rfl rfl ?_
          refine t_getR (q := (ρ t 2)) (pc := 92) hX 42 rfl rfl rfl fl_X1_15 rfl (hH.kd ht (by decide)) (rfl) ?_
          have hw92_ : ω (ρ t 2) = 17 := hH.rf ht (by decide) rfl
          refine r_iload_n (pc := 96) hX 44 rfl rfl ?_
          refine e_iald (y := (v (ρ t 2) i)) (n := 40) (pc := 97) hX 45 rfl (hH.kd hw92_ (by decide)) (hH.ln hw92_ (by decide)) (by omega) (by omega) (rfl) ?_
          have hb97 : (-1) ≤ (v (ρ t 2) i) ∧ (v (ρ t 2) i) ≤ 2 := hH.rg hw92_ (by decide) rfl
          have hb97b := hlg i (by omega) (by omega) (by omega)
          refine t_getR (q := (ρ t 3)) (pc := 98) hX 46 rfl rfl rfl fl_X1_18 rfl (hH.kd ht (by decide)) (rfl) ?_
          have hw98_ : ω (ρ t 3) = 18 := hH.rf ht (by decide) rfl
          refine r_iload_n (pc := 102) hX 48 rfl rfl ?_
          refine e_iald (y := (v (ρ t 3) i)) (n := 40) (pc := 103) hX 49 rfl (hH.kd hw98_ (by decide)) (hH.ln hw98_ (by decide)) (by omega) (by omega) (rfl) ?_
          have hb103 : (-1) ≤ (v (ρ t 3) i) ∧ (v (ρ t 3) i) ≤ 3 := hH.rg hw98_ (by decide) rfl
          refine r_callV (as := [(0, (v (ρ t 2) i)), (0, (v (ρ t 3) i))]) (st := []) (K := 9) (pc := 104) hX 50 rfl mo_X9_whyNotTurn ml_X1_86 im_X9_whyNotTurn se_X9_whyNotTurn (c_X9_whyNotTurn g ω v ρ Z hH o ho ((v (ρ t 2) i)) ((v (ρ t 3) i)) (by omega) (by omega)) rfl rfl rfl (hH.kd ho (by decide)) (by rw [hRm]; exact ⟨by decide, by decide⟩) (by rw [hRm]; exact ⟨by decide, by decide⟩) (Nat.le_of_ble_eq_true rfl) (fun o104 v104 ρv104 Zv104 hq104 _ => ?_)
          obtain ⟨rfl, rfl, rfl, r104, rfl, hq104⟩ := hq104
          show wp g X F_X1_live 0 0 107 [(2, t), (0, i), (2, o), (3, 0)] [(0, r104)] v ρ Z
          refine r_istore_n (ls' := [(2, t), (0, i), (2, o), (0, r104)]) (pc := 107) hX 51 rfl (by decide) rfl ?_
          refine r_iload_n (pc := 108) hX 52 rfl rfl ?_
          have L128 : ∀ (v128 : Mv) , (FrW ω [22, 23, 24, 25, 26] v v128) → (HT ω v128 ρ Z) → wp g X F_X1_live 0 0 128 [(2, t), (0, i), (2, o), (0, r104)] [] v128 ρ Z := by
            intro v128 hfr128 hH128
            refine r_iload_n (pc := 128) hX 64 rfl rfl ?_
            first | refine r_if_ne (pc := 129) hX 65 (tgt := 136) rfl (by decide) (⟨by omega, by omega⟩) (fun h129 => ?_) (fun h129 => ?_) | refine r_if_ne_any (pc := 129) hX 65 (tgt := 136) rfl (by decide) ?_ ?_
            · refine r_bipush (pc := 136) hX 68 rfl (by decide) ?_
              refine r_iload_n (pc := 138) hX 69 rfl rfl ?_
              refine r_iadd (pc := 139) hX 70 rfl ?_
              exact r_iret (pc := 140) hX 71 hQ rfl rfl (Nat.le_refl 0) (Nat.le_refl 0) ⟨rfl, rfl, hfr128, hH128, (10 + r104), rfl, (by omega)⟩
            · refine r_iconst (pc := 132) hX 66 rfl ?_
              refine r_goto (pc := 133) hX 67 (tgt := 140) rfl (by decide) ?_
              exact r_iret (pc := 140) hX 71 hQ rfl rfl (Nat.le_refl 0) (Nat.le_refl 0) ⟨rfl, rfl, hfr128, hH128, 0, rfl, (by omega)⟩
          first | refine r_if_ne (pc := 109) hX 53 (tgt := 128) rfl (by decide) (⟨by omega, by omega⟩) (fun h109 => ?_) (fun h109 => ?_) | refine r_if_ne_any (pc := 109) hX 53 (tgt := 128) rfl (by decide) ?_ ?_
          · exact (L128  v (FrW.rf) (hH) )
          · refine r_aload_n (pc := 112) hX 54 rfl rfl ?_
            refine t_getR (q := (ρ t 2)) (pc := 113) hX 55 rfl rfl rfl fl_X1_15 rfl (hH.kd ht (by decide)) (rfl) ?_
            refine r_iload_n (pc := 117) hX 57 rfl rfl ?_
            refine e_iald (y := (v (ρ t 2) i)) (n := 40) (pc := 118) hX 58 rfl (hH.kd hw92_ (by decide)) (hH.ln hw92_ (by decide)) (by omega) (by omega) (rfl) ?_
            refine t_getR (q := (ρ t 3)) (pc := 119) hX 59 rfl rfl rfl fl_X1_18 rfl (hH.kd ht (by decide)) (rfl) ?_
            refine r_iload_n (pc := 123) hX 61 rfl rfl ?_
            refine e_iald (y := (v (ρ t 3) i)) (n := 40) (pc := 124) hX 62 rfl (hH.kd hw98_ (by decide)) (hH.ln hw98_ (by decide)) (by omega) (by omega) (rfl) ?_
            refine r_callV (as := [(0, (v (ρ t 2) i)), (0, (v (ρ t 3) i))]) (st := []) (K := 9) (pc := 125) hX 63 rfl mo_X9_doTurn ml_X1_89 im_X9_doTurn se_X9_doTurn (c_X9_doTurn g ω v ρ Z hH o ho ((v (ρ t 2) i)) ((v (ρ t 3) i)) (by omega) (by omega)) rfl rfl rfl (hH.kd ho (by decide)) (by rw [hRm]; exact ⟨by decide, by decide⟩) (by rw [hRm]; exact ⟨by decide, by decide⟩) (Nat.le_of_ble_eq_true rfl) (fun o125 v125 ρv125 Zv125 hq125 _ => ?_)
            obtain ⟨rfl, rfl, hfr125, hH125, rfl, hq125⟩ := hq125
            show wp g X F_X1_live 0 0 128 [(2, t), (0, i), (2, o), (0, r104)] [] v125 ρ Z
            exact (L128  v125 ((FrW.rf).tr hfr125 (by decide)) (hH125) )
      · exact (L18   )
set_option maxHeartbeats 4000000 in
set_option maxRecDepth 100000 in
theorem c_X1_liveB (g : Gp) (ω : Rw) (v ρ : Mv) (Z : Mz) (hH : HT ω v ρ Z) (t : Int) (ht : ω t = 15) (i : Int) (o : Int) (ho : ω o = 66) (hir : inR i) (hlg : LgO (v (ρ t 1)) (v (ρ t 2)) (v t 4)) : Ok g 5 0 0 F_X1_live [(2, t), (0, i), (2, o)] v ρ Z (fun o9 v' ρ' Z' => ρ = ρ' ∧ Z = Z' ∧ FrW ω [66, 67, 68, 69, 70] v v' ∧ HT ω v' ρ Z ∧ ∃ r : Int, o9 = some (0, r) ∧ (0 ≤ r ∧ r ≤ 30)) := by
  refine Ok.of mo_X1_live (Nat.le_of_ble_eq_true rfl) ?_
  intro X hX hRm hxn hQ
  show wp g X F_X1_live 0 0 0 [(2, t), (0, i), (2, o), (3, 0)] [] v ρ Z
  refine r_iload_n (pc := 0) hX 0 rfl rfl ?_
  have L18 : wp g X F_X1_live 0 0 18 [(2, t), (0, i), (2, o), (3, 0)] [] v ρ Z := by
    refine r_iconst (pc := 18) hX 9 rfl ?_
    exact r_iret (pc := 19) hX 10 hQ rfl rfl (Nat.le_refl 0) (Nat.le_refl 0) ⟨rfl, rfl, FrW.rf, hH, 0, rfl, (by omega)⟩
  first | refine r_if_lt (pc := 1) hX 1 (tgt := 18) rfl (by decide) (⟨by omega, by omega⟩) (fun h1 => ?_) (fun h1 => ?_) | refine r_if_lt_any (pc := 1) hX 1 (tgt := 18) rfl (by decide) ?_ ?_
  · exact (L18   )
  · refine r_iload_n (pc := 4) hX 2 rfl rfl ?_
    refine t_getI (y := (v t 4)) (pc := 5) hX 3 rfl rfl rfl fl_X1_25 rfl (hH.kd ht (by decide)) (rfl) ?_
    have hb5 : 0 ≤ (v t 4) ∧ (v t 4) ≤ 40 := hH.rg ht (by decide) rfl
    first | refine r_icmp_ge (pc := 9) hX 5 (tgt := 18) rfl (by decide) (⟨by omega, by omega⟩) (⟨by omega, by omega⟩) (fun h9 => ?_) (fun h9 => ?_) | refine r_icmp_ge_any (pc := 9) hX 5 (tgt := 18) rfl (by decide) ?_ ?_
    · exact (L18   )
    · refine r_iload_n (pc := 12) hX 6 rfl rfl ?_
      refine r_bipush (pc := 13) hX 7 rfl (by decide) ?_
      first | refine r_icmp_lt (pc := 15) hX 8 (tgt := 20) rfl (by decide) (⟨by omega, by omega⟩) (⟨by omega, by omega⟩) (fun h15 => ?_) (fun h15 => ?_) | refine r_icmp_lt_any (pc := 15) hX 8 (tgt := 20) rfl (by decide) ?_ ?_
      · refine t_getR (q := (ρ t 1)) (pc := 20) hX 11 rfl rfl rfl fl_X1_11 rfl (hH.kd ht (by decide)) (rfl) ?_
        have hw20_ : ω (ρ t 1) = 16 := hH.rf ht (by decide) rfl
        refine r_iload_n (pc := 24) hX 13 rfl rfl ?_
        refine e_iald (y := (v (ρ t 1) i)) (n := 40) (pc := 25) hX 14 rfl (hH.kd hw20_ (by decide)) (hH.ln hw20_ (by decide)) (by omega) (by omega) (rfl) ?_
        have hb25 : (-1) ≤ (v (ρ t 1) i) ∧ (v (ρ t 1) i) ≤ 21 := hH.rg hw20_ (by decide) rfl
        have hsw26 : ((v (ρ t 1) i) ≠ 7 ∧ (v (ρ t 1) i) ≠ 8) ∨ (v (ρ t 1) i) = 7 ∨ (v (ρ t 1) i) = 8 := by omega
        rcases hsw26 with hsw26 | hsw26 | hsw26
        · refine r_ls (off := 115) (pc := 26) hX 15 (tgt := 141) rfl ⟨by omega, by omega⟩ (by decide) (by simp [Op.lookupswitch.offset, hsw26, Ne.symm, eq_comm]) (by decide) ?_
          refine r_aload_n (pc := 141) hX 72 rfl rfl ?_
          refine t_getR (q := (ρ t 3)) (pc := 142) hX 73 rfl rfl rfl fl_X1_18 rfl (hH.kd ht (by decide)) (rfl) ?_
          have hw142_ : ω (ρ t 3) = 18 := hH.rf ht (by decide) rfl
          refine r_iload_n (pc := 146) hX 75 rfl rfl ?_
          refine e_iald (y := (v (ρ t 3) i)) (n := 40) (pc := 147) hX 76 rfl (hH.kd hw142_ (by decide)) (hH.ln hw142_ (by decide)) (by omega) (by omega) (rfl) ?_
          have hb147 : (-1) ≤ (v (ρ t 3) i) ∧ (v (ρ t 3) i) ≤ 3 := hH.rg hw142_ (by decide) rfl
          refine r_callV (as := [(0, (v (ρ t 3) i))]) (st := []) (K := 9) (pc := 148) hX 77 rfl mo_X9_whyNotCome ml_X1_92 im_X9_whyNotCome se_X9_whyNotCome (c_X9_whyNotComeB g ω v ρ Z hH o ho ((v (ρ t 3) i)) (by omega)) rfl rfl rfl (hH.kd ho (by decide)) (by rw [hRm]; exact ⟨by decide, by decide⟩) (by rw [hRm]; exact ⟨by decide, by decide⟩) (Nat.le_of_ble_eq_true rfl) (fun o148 v148 ρv148 Zv148 hq148 _ => ?_)
          obtain ⟨rfl, rfl, rfl, r148, rfl, hq148⟩ := hq148
          have hw148_ : ω (ρ o 0) = 5 := hH.rf ho (by decide) rfl
          have hwf1_ : ω (ρ o 6) = 70 := hH.rf ho (by decide) rfl
          show wp g X F_X1_live 0 0 151 [(2, t), (0, i), (2, o), (3, 0)] [(0, r148)] v ρ Z
          refine r_istore_n (ls' := [(2, t), (0, i), (2, o), (0, r148)]) (pc := 151) hX 78 rfl (by decide) rfl ?_
          refine r_iload_n (pc := 152) hX 79 rfl rfl ?_
          have L166 : ∀ (v166 : Mv) , (FrW ω [66, 67, 68, 69, 70] v v166) → (HT ω v166 ρ Z) → wp g X F_X1_live 0 0 166 [(2, t), (0, i), (2, o), (0, r148)] [] v166 ρ Z := by
            intro v166 hfr166 hH166
            refine r_iload_n (pc := 166) hX 87 rfl rfl ?_
            first | refine r_if_ne (pc := 167) hX 88 (tgt := 174) rfl (by decide) (⟨by omega, by omega⟩) (fun h167 => ?_) (fun h167 => ?_) | refine r_if_ne_any (pc := 167) hX 88 (tgt := 174) rfl (by decide) ?_ ?_
            · refine r_bipush (pc := 174) hX 91 rfl (by decide) ?_
              refine r_iload_n (pc := 176) hX 92 rfl rfl ?_
              refine r_iadd (pc := 177) hX 93 rfl ?_
              exact r_iret (pc := 178) hX 94 hQ rfl rfl (Nat.le_refl 0) (Nat.le_refl 0) ⟨rfl, rfl, hfr166, hH166, (20 + r148), rfl, (by omega)⟩
            · refine r_iconst (pc := 170) hX 89 rfl ?_
              refine r_goto (pc := 171) hX 90 (tgt := 178) rfl (by decide) ?_
              exact r_iret (pc := 178) hX 94 hQ rfl rfl (Nat.le_refl 0) (Nat.le_refl 0) ⟨rfl, rfl, hfr166, hH166, 0, rfl, (by omega)⟩
          first | refine r_if_ne (pc := 153) hX 80 (tgt := 166) rfl (by decide) (⟨by omega, by omega⟩) (fun h153 => ?_) (fun h153 => ?_) | refine r_if_ne_any (pc := 153) hX 80 (tgt := 166) rfl (by decide) ?_ ?_
          · exact (L166  v (FrW.rf) (hH) )
          · refine r_aload_n (pc := 156) hX 81 rfl rfl ?_
            refine t_getR (q := (ρ t 3)) (pc := 157) hX 82 rfl rfl rfl fl_X1_18 rfl (hH.kd ht (by decide)) (rfl) ?_
            refine r_iload_n (pc := 161) hX 84 rfl rfl ?_
            refine e_iald (y := (v (ρ t 3) i)) (n := 40) (pc := 162) hX 85 rfl (hH.kd hw142_ (by decide)) (hH.ln hw142_ (by decide)) (by omega) (by omega) (rfl) ?_
            refine r_callV (as := [(0, (v (ρ t 3) i))]) (st := []) (K := 9) (pc := 163) hX 86 rfl mo_X9_doCome ml_X1_96 im_X9_doCome se_X9_doCome (c_X9_doComeB g ω v ρ Z hH o ho ((v (ρ t 3) i)) (by omega) (hq148.2 (by omega))) rfl rfl rfl (hH.kd ho (by decide)) (by rw [hRm]; exact ⟨by decide, by decide⟩) (by rw [hRm]; exact ⟨by decide, by decide⟩) (Nat.le_of_ble_eq_true rfl) (fun o163 v163 ρv163 Zv163 hq163 _ => ?_)
            obtain ⟨rfl, rfl, hfr163, hH163, rfl, hq163⟩ := hq163
            show wp g X F_X1_live 0 0 166 [(2, t), (0, i), (2, o), (0, r148)] [] v163 ρ Z
            exact (L166  v163 ((FrW.rf).tr hfr163 (by decide)) (hH163) )
        · refine r_ls (off := 26) (pc := 26) hX 15 (tgt := 52) rfl ⟨by omega, by omega⟩ (by decide) (by rw [hsw26]; rfl) (by decide) ?_
          refine r_aload_n (pc := 52) hX 16 rfl rfl ?_
          refine t_getR (q := (ρ t 2)) (pc := 53) hX 17 rfl rfl rfl fl_X1_15 rfl (hH.kd ht (by decide)) (rfl) ?_
          have hw53_ : ω (ρ t 2) = 17 := hH.rf ht (by decide) rfl
          refine r_iload_n (pc := 57) hX 19 rfl rfl ?_
          refine e_iald (y := (v (ρ t 2) i)) (n := 40) (pc := 58) hX 20 rfl (hH.kd hw53_ (by decide)) (hH.ln hw53_ (by decide)) (by omega) (by omega) (rfl) ?_
          have hb58 : (-1) ≤ (v (ρ t 2) i) ∧ (v (ρ t 2) i) ≤ 2 := hH.rg hw53_ (by decide) rfl
          have hb58b := hlg i (by omega) (by omega) (by omega)
          refine t_getR (q := (ρ t 3)) (pc := 59) hX 21 rfl rfl rfl fl_X1_18 rfl (hH.kd ht (by decide)) (rfl) ?_
          have hw59_ : ω (ρ t 3) = 18 := hH.rf ht (by decide) rfl
          refine r_iload_n (pc := 63) hX 23 rfl rfl ?_
          refine e_iald (y := (v (ρ t 3) i)) (n := 40) (pc := 64) hX 24 rfl (hH.kd hw59_ (by decide)) (hH.ln hw59_ (by decide)) (by omega) (by omega) (rfl) ?_
          have hb64 : (-1) ≤ (v (ρ t 3) i) ∧ (v (ρ t 3) i) ≤ 3 := hH.rg hw59_ (by decide) rfl
          refine r_callV (as := [(0, (v (ρ t 2) i)), (0, (v (ρ t 3) i))]) (st := []) (K := 9) (pc := 65) hX 25 rfl mo_X9_whyNotTake ml_X1_76 im_X9_whyNotTake se_X9_whyNotTake (c_X9_whyNotTakeB g ω v ρ Z hH o ho ((v (ρ t 2) i)) ((v (ρ t 3) i)) (by omega) (by omega)) rfl rfl rfl (hH.kd ho (by decide)) (by rw [hRm]; exact ⟨by decide, by decide⟩) (by rw [hRm]; exact ⟨by decide, by decide⟩) (Nat.le_of_ble_eq_true rfl) (fun o65 v65 ρv65 Zv65 hq65 _ => ?_)
          obtain ⟨rfl, rfl, rfl, r65, rfl, hq65⟩ := hq65
          show wp g X F_X1_live 0 0 68 [(2, t), (0, i), (2, o), (3, 0)] [(0, r65)] v ρ Z
          refine r_istore_n (ls' := [(2, t), (0, i), (2, o), (0, r65)]) (pc := 68) hX 26 rfl (by decide) rfl ?_
          refine r_iload_n (pc := 69) hX 27 rfl rfl ?_
          have L89 : ∀ (v89 : Mv) , (FrW ω [66, 67, 68, 69, 70] v v89) → (HT ω v89 ρ Z) → wp g X F_X1_live 0 0 89 [(2, t), (0, i), (2, o), (0, r65)] [] v89 ρ Z := by
            intro v89 hfr89 hH89
            refine r_iload_n (pc := 89) hX 39 rfl rfl ?_
            exact r_iret (pc := 90) hX 40 hQ rfl rfl (Nat.le_refl 0) (Nat.le_refl 0) ⟨rfl, rfl, hfr89, hH89, r65, rfl, (by omega)⟩
          first | refine r_if_ne (pc := 70) hX 28 (tgt := 89) rfl (by decide) (⟨by omega, by omega⟩) (fun h70 => ?_) (fun h70 => ?_) | refine r_if_ne_any (pc := 70) hX 28 (tgt := 89) rfl (by decide) ?_ ?_
          · exact (L89  v (FrW.rf) (hH) )
          · refine r_aload_n (pc := 73) hX 29 rfl rfl ?_
            refine t_getR (q := (ρ t 2)) (pc := 74) hX 30 rfl rfl rfl fl_X1_15 rfl (hH.kd ht (by decide)) (rfl) ?_
            refine r_iload_n (pc := 78) hX 32 rfl rfl ?_
            refine e_iald (y := (v (ρ t 2) i)) (n := 40) (pc := 79) hX 33 rfl (hH.kd hw53_ (by decide)) (hH.ln hw53_ (by decide)) (by omega) (by omega) (rfl) ?_
            refine t_getR (q := (ρ t 3)) (pc := 80) hX 34 rfl rfl rfl fl_X1_18 rfl (hH.kd ht (by decide)) (rfl) ?_
            refine r_iload_n (pc := 84) hX 36 rfl rfl ?_
            refine e_iald (y := (v (ρ t 3) i)) (n := 40) (pc := 85) hX 37 rfl (hH.kd hw59_ (by decide)) (hH.ln hw59_ (by decide)) (by omega) (by omega) (rfl) ?_
            refine r_callV (as := [(0, (v (ρ t 2) i)), (0, (v (ρ t 3) i))]) (st := []) (K := 9) (pc := 86) hX 38 rfl mo_X9_doTake ml_X1_82 im_X9_doTake se_X9_doTake (c_X9_doTakeB g ω v ρ Z hH o ho ((v (ρ t 2) i)) ((v (ρ t 3) i)) (by omega) (by omega)) rfl rfl rfl (hH.kd ho (by decide)) (by rw [hRm]; exact ⟨by decide, by decide⟩) (by rw [hRm]; exact ⟨by decide, by decide⟩) (Nat.le_of_ble_eq_true rfl) (fun o86 v86 ρv86 Zv86 hq86 _ => ?_)
            obtain ⟨rfl, rfl, hfr86, hH86, rfl, hq86⟩ := hq86
            show wp g X F_X1_live 0 0 89 [(2, t), (0, i), (2, o), (0, r65)] [] v86 ρ Z
            exact (L89  v86 ((FrW.rf).tr hfr86 (by decide)) (hH86) )
        · refine r_ls (off := 65) (pc := 26) hX 15 (tgt := 91) rfl ⟨by omega, by omega⟩ (by decide) (by rw [hsw26]; rfl) (by decide) ?_
          refine r_aload_n (pc := 91) hX 41 rfl rfl ?_
          refine t_getR (q := (ρ t 2)) (pc := 92) hX 42 rfl rfl rfl fl_X1_15 rfl (hH.kd ht (by decide)) (rfl) ?_
          have hw92_ : ω (ρ t 2) = 17 := hH.rf ht (by decide) rfl
          refine r_iload_n (pc := 96) hX 44 rfl rfl ?_
          refine e_iald (y := (v (ρ t 2) i)) (n := 40) (pc := 97) hX 45 rfl (hH.kd hw92_ (by decide)) (hH.ln hw92_ (by decide)) (by omega) (by omega) (rfl) ?_
          have hb97 : (-1) ≤ (v (ρ t 2) i) ∧ (v (ρ t 2) i) ≤ 2 := hH.rg hw92_ (by decide) rfl
          have hb97b := hlg i (by omega) (by omega) (by omega)
          refine t_getR (q := (ρ t 3)) (pc := 98) hX 46 rfl rfl rfl fl_X1_18 rfl (hH.kd ht (by decide)) (rfl) ?_
          have hw98_ : ω (ρ t 3) = 18 := hH.rf ht (by decide) rfl
          refine r_iload_n (pc := 102) hX 48 rfl rfl ?_
          refine e_iald (y := (v (ρ t 3) i)) (n := 40) (pc := 103) hX 49 rfl (hH.kd hw98_ (by decide)) (hH.ln hw98_ (by decide)) (by omega) (by omega) (rfl) ?_
          have hb103 : (-1) ≤ (v (ρ t 3) i) ∧ (v (ρ t 3) i) ≤ 3 := hH.rg hw98_ (by decide) rfl
          refine r_callV (as := [(0, (v (ρ t 2) i)), (0, (v (ρ t 3) i))]) (st := []) (K := 9) (pc := 104) hX 50 rfl mo_X9_whyNotTurn ml_X1_86 im_X9_whyNotTurn se_X9_whyNotTurn (c_X9_whyNotTurnB g ω v ρ Z hH o ho ((v (ρ t 2) i)) ((v (ρ t 3) i)) (by omega) (by omega)) rfl rfl rfl (hH.kd ho (by decide)) (by rw [hRm]; exact ⟨by decide, by decide⟩) (by rw [hRm]; exact ⟨by decide, by decide⟩) (Nat.le_of_ble_eq_true rfl) (fun o104 v104 ρv104 Zv104 hq104 _ => ?_)
          obtain ⟨rfl, rfl, rfl, r104, rfl, hq104⟩ := hq104
          show wp g X F_X1_live 0 0 107 [(2, t), (0, i), (2, o), (3, 0)] [(0, r104)] v ρ Z
          refine r_istore_n (ls' := [(2, t), (0, i), (2, o), (0, r104)]) (pc := 107) hX 51 rfl (by decide) rfl ?_
          refine r_iload_n (pc := 108) hX 52 rfl rfl ?_
          have L128 : ∀ (v128 : Mv) , (FrW ω [66, 67, 68, 69, 70] v v128) → (HT ω v128 ρ Z) → wp g X F_X1_live 0 0 128 [(2, t), (0, i), (2, o), (0, r104)] [] v128 ρ Z := by
            intro v128 hfr128 hH128
            refine r_iload_n (pc := 128) hX 64 rfl rfl ?_
            first | refine r_if_ne (pc := 129) hX 65 (tgt := 136) rfl (by decide) (⟨by omega, by omega⟩) (fun h129 => ?_) (fun h129 => ?_) | refine r_if_ne_any (pc := 129) hX 65 (tgt := 136) rfl (by decide) ?_ ?_
            · refine r_bipush (pc := 136) hX 68 rfl (by decide) ?_
              refine r_iload_n (pc := 138) hX 69 rfl rfl ?_
              refine r_iadd (pc := 139) hX 70 rfl ?_
              exact r_iret (pc := 140) hX 71 hQ rfl rfl (Nat.le_refl 0) (Nat.le_refl 0) ⟨rfl, rfl, hfr128, hH128, (10 + r104), rfl, (by omega)⟩
            · refine r_iconst (pc := 132) hX 66 rfl ?_
              refine r_goto (pc := 133) hX 67 (tgt := 140) rfl (by decide) ?_
              exact r_iret (pc := 140) hX 71 hQ rfl rfl (Nat.le_refl 0) (Nat.le_refl 0) ⟨rfl, rfl, hfr128, hH128, 0, rfl, (by omega)⟩
          first | refine r_if_ne (pc := 109) hX 53 (tgt := 128) rfl (by decide) (⟨by omega, by omega⟩) (fun h109 => ?_) (fun h109 => ?_) | refine r_if_ne_any (pc := 109) hX 53 (tgt := 128) rfl (by decide) ?_ ?_
          · exact (L128  v (FrW.rf) (hH) )
          · refine r_aload_n (pc := 112) hX 54 rfl rfl ?_
            refine t_getR (q := (ρ t 2)) (pc := 113) hX 55 rfl rfl rfl fl_X1_15 rfl (hH.kd ht (by decide)) (rfl) ?_
            refine r_iload_n (pc := 117) hX 57 rfl rfl ?_
            refine e_iald (y := (v (ρ t 2) i)) (n := 40) (pc := 118) hX 58 rfl (hH.kd hw92_ (by decide)) (hH.ln hw92_ (by decide)) (by omega) (by omega) (rfl) ?_
            refine t_getR (q := (ρ t 3)) (pc := 119) hX 59 rfl rfl rfl fl_X1_18 rfl (hH.kd ht (by decide)) (rfl) ?_
            refine r_iload_n (pc := 123) hX 61 rfl rfl ?_
            refine e_iald (y := (v (ρ t 3) i)) (n := 40) (pc := 124) hX 62 rfl (hH.kd hw98_ (by decide)) (hH.ln hw98_ (by decide)) (by omega) (by omega) (rfl) ?_
            refine r_callV (as := [(0, (v (ρ t 2) i)), (0, (v (ρ t 3) i))]) (st := []) (K := 9) (pc := 125) hX 63 rfl mo_X9_doTurn ml_X1_89 im_X9_doTurn se_X9_doTurn (c_X9_doTurnB g ω v ρ Z hH o ho ((v (ρ t 2) i)) ((v (ρ t 3) i)) (by omega) (by omega)) rfl rfl rfl (hH.kd ho (by decide)) (by rw [hRm]; exact ⟨by decide, by decide⟩) (by rw [hRm]; exact ⟨by decide, by decide⟩) (Nat.le_of_ble_eq_true rfl) (fun o125 v125 ρv125 Zv125 hq125 _ => ?_)
            obtain ⟨rfl, rfl, hfr125, hH125, rfl, hq125⟩ := hq125
            show wp g X F_X1_live 0 0 128 [(2, t), (0, i), (2, o), (0, r104)] [] v125 ρ Z
            exact (L128  v125 ((FrW.rf).tr hfr125 (by decide)) (hH125) )
      · exact (L18   )
set_option maxHeartbeats 4000000 in
set_option maxRecDepth 100000 in
theorem c_X6_add (g : Gp) (ω : Rw) (v ρ : Mv) (Z : Mz) (hH : HT ω v ρ Z) (t : Int) (ht : ω t = 19) (k : Int) (m : Int) (n : Int)  : Ok g 1 0 0 F_X6_add [(2, t), (0, k), (0, m), (0, n)] v ρ Z (fun o9 v' ρ' Z' => ρ = ρ' ∧ Z = Z' ∧ FrW ω [19, 20] v v' ∧ HT ω v' ρ Z ∧ o9 = none ∧ (v' t 4 = v t 4)) := by
  refine Ok.of mo_X6_add (Nat.le_of_ble_eq_true rfl) ?_
  intro X hX hRm hxn hQ
  show wp g X F_X6_add 0 0 0 [(2, t), (0, k), (0, m), (0, n)] [] v ρ Z
  refine t_getI (y := (v t 3)) (pc := 0) hX 0 rfl rfl rfl fl_X6_21 rfl (hH.kd ht (by decide)) (rfl) ?_
  have hb0 : 0 ≤ (v t 3) ∧ (v t 3) ≤ 40 := hH.rg ht (by decide) rfl
  refine t_getR (q := (ρ t 0)) (pc := 4) hX 2 rfl rfl rfl fl_X6_11 rfl (hH.kd ht (by decide)) (rfl) ?_
  have hw4_ : ω (ρ t 0) = 20 := hH.rf ht (by decide) rfl
  refine r_alen (pc := 8) hX 4 13 rfl (hH.kd hw4_ (by decide)) (by decide) (by decide) (fun _ _ => ?_)
  rw [show Z.2.1 (ρ t 0) = 40 from (hH.ln hw4_ (by decide))]
  have L52 : ∀ (v52 : Mv) , (FrW ω [19, 20] v v52) → (HT ω v52 ρ Z) → (v52 t 4 = v t 4) → wp g X F_X6_add 0 0 52 [(2, t), (0, k), (0, m), (0, n)] [] v52 ρ Z := by
    intro v52 hfr52 hH52 e4
    exact r_vret (pc := 52) hX 30 hQ rfl rfl (Nat.le_refl 0) (Nat.le_refl 0) ⟨rfl, rfl, hfr52, hH52, rfl, ((rfl).trans (by omega))⟩
  first | refine r_icmp_ge (pc := 9) hX 5 (tgt := 52) rfl (by decide) (⟨by omega, by omega⟩) (⟨by omega, by omega⟩) (fun h9 => ?_) (fun h9 => ?_) | refine r_icmp_ge_any (pc := 9) hX 5 (tgt := 52) rfl (by decide) ?_ ?_
  · exact (L52  v (FrW.rf) (hH) ((rfl).trans (by omega)) )
  · refine t_getR (q := (ρ t 0)) (pc := 12) hX 6 rfl rfl rfl fl_X6_11 rfl (hH.kd ht (by decide)) (rfl) ?_
    refine t_getI (y := (v t 3)) (pc := 16) hX 8 rfl rfl rfl fl_X6_21 rfl (hH.kd ht (by decide)) (rfl) ?_
    refine r_iload_n (pc := 20) hX 10 rfl rfl ?_
    refine e_iast (n := 40) (pc := 21) hX 11 rfl (hH.kd hw4_ (by decide)) (hH.ln hw4_ (by decide)) (hH.g4 hw4_ (by decide)) (by omega) (by omega) ?_
    have hH_21 : HT ω (up v (ρ t 0) (v t 3) k) ρ Z := hH.up0 hw4_ (by decide) rfl
    refine t_getR (q := (ρ t 1)) (pc := 22) hX 12 rfl rfl rfl fl_X6_15 rfl (hH_21.kd ht (by decide)) (rfl) ?_
    have hw22_ : ω (ρ t 1) = 20 := hH.rf ht (by decide) rfl
    refine t_getI (y := (v t 3)) (pc := 26) hX 14 rfl rfl rfl fl_X6_21 rfl (hH_21.kd ht (by decide)) ((up_r (rne ht hw4_ (by decide))).trans (rfl)) ?_
    refine r_iload_n (pc := 30) hX 16 rfl rfl ?_
    refine e_iast (n := 40) (pc := 31) hX 17 rfl (hH_21.kd hw22_ (by decide)) (hH_21.ln hw22_ (by decide)) (hH_21.g4 hw22_ (by decide)) (by omega) (by omega) ?_
    have hH_31 : HT ω (up (up v (ρ t 0) (v t 3) k) (ρ t 1) (v t 3) m) ρ Z := hH_21.up0 hw22_ (by decide) rfl
    refine t_getR (q := (ρ t 2)) (pc := 32) hX 18 rfl rfl rfl fl_X6_18 rfl (hH_31.kd ht (by decide)) (rfl) ?_
    have hw32_ : ω (ρ t 2) = 20 := hH.rf ht (by decide) rfl
    refine t_getI (y := (v t 3)) (pc := 36) hX 20 rfl rfl rfl fl_X6_21 rfl (hH_31.kd ht (by decide)) ((up_r (rne ht hw22_ (by decide))).trans ((up_r (rne ht hw4_ (by decide))).trans (rfl))) ?_
    refine r_iload_n (pc := 40) hX 22 rfl rfl ?_
    refine e_iast (n := 40) (pc := 41) hX 23 rfl (hH_31.kd hw32_ (by decide)) (hH_31.ln hw32_ (by decide)) (hH_31.g4 hw32_ (by decide)) (by omega) (by omega) ?_
    have hH_41 : HT ω (up (up (up v (ρ t 0) (v t 3) k) (ρ t 1) (v t 3) m) (ρ t 2) (v t 3) n) ρ Z := hH_31.up0 hw32_ (by decide) rfl
    refine r_aload_n (pc := 42) hX 24 rfl rfl ?_
    refine r_dup (pc := 43) hX 25 rfl (show (2 : Nat) ≠ 1 by decide) ?_
    refine e_getI (y := (v t 3)) (pc := 44) hX 26 rfl fl_X6_21 rfl (hH_41.kd ht (by decide)) ((up_r (rne ht hw32_ (by decide))).trans ((up_r (rne ht hw22_ (by decide))).trans ((up_r (rne ht hw4_ (by decide))).trans (rfl)))) ?_
    refine r_iconst (pc := 47) hX 27 rfl ?_
    refine r_iadd (pc := 48) hX 28 rfl ?_
    refine r_putI (pc := 49) hX 29 rfl fl_X6_21 rfl (fun _ h => by cases h; rfl) (hH_41.kd ht (by decide)) (hH_41.g4 ht (by decide)) ?_
    have hH_49 : HT ω (up (up (up (up v (ρ t 0) (v t 3) k) (ρ t 1) (v t 3) m) (ρ t 2) (v t 3) n) t 3 ((v t 3) + 1)) ρ Z := hH_41.upR ht (by decide) rfl (by omega) (by omega)
    show wp g X F_X6_add 0 0 52 [(2, t), (0, k), (0, m), (0, n)] [] (up (up (up (up v (ρ t 0) (v t 3) k) (ρ t 1) (v t 3) m) (ρ t 2) (v t 3) n) t 3 ((v t 3) + 1)) ρ Z
    exact (L52  (up (up (up (up v (ρ t 0) (v t 3) k) (ρ t 1) (v t 3) m) (ρ t 2) (v t 3) n) t 3 ((v t 3) + 1)) (((((FrW.rf).up (r := (ρ t 0)) hw4_ (by decide)).up (r := (ρ t 1)) hw22_ (by decide)).up (r := (ρ t 2)) hw32_ (by decide)).up (r := t) ht (by decide)) (hH_49) (((up_k (by decide)).trans ((up_r (rne ht hw32_ (by decide))).trans ((up_r (rne ht hw22_ (by decide))).trans ((up_r (rne ht hw4_ (by decide))).trans (rfl))))).trans (by omega)) )
set_option maxHeartbeats 4000000 in
set_option maxRecDepth 100000 in
theorem c_X6_compares (g : Gp) (ω : Rw) (v ρ : Mv) (Z : Mz) (hH : HT ω v ρ Z) (t : Int) (ht : ω t = 19) (x : Int) (i : Int) (hi : 0 ≤ i ∧ i ≤ 39) : Ok g 1 0 0 F_X6_compares [(2, t), (0, x), (0, i)] v ρ Z (fun o9 v' ρ' Z' => ρ = ρ' ∧ Z = Z' ∧ v = v' ∧ ∃ r : Int, o9 = some (0, r) ∧ (0 ≤ r ∧ r ≤ 1)) := by
  refine Ok.of mo_X6_compares (Nat.le_of_ble_eq_true rfl) ?_
  intro X hX hRm hxn hQ
  show wp g X F_X6_compares 0 0 0 [(2, t), (0, x), (0, i)] [] v ρ Z
  refine t_getR (q := (ρ t 1)) (pc := 0) hX 0 rfl rfl rfl fl_X6_15 rfl (hH.kd ht (by decide)) (rfl) ?_
  have hw0_ : ω (ρ t 1) = 20 := hH.rf ht (by decide) rfl
  refine r_iload_n (pc := 4) hX 2 rfl rfl ?_
  refine e_iald (y := (v (ρ t 1) i)) (n := 40) (pc := 5) hX 3 rfl (hH.kd hw0_ (by decide)) (hH.ln hw0_ (by decide)) (by omega) (by omega) (rfl) ?_
  refine r_iany _ (fun z6 hz6 => ?_)
  have hsw6 : (z6 ≠ 60 ∧ z6 ≠ 61) ∨ z6 = 60 ∨ z6 = 61 := by omega
  rcases hsw6 with hsw6 | hsw6 | hsw6
  · refine r_ls (off := 58) (pc := 6) hX 4 (tgt := 64) rfl ⟨by omega, by omega⟩ (by decide) (by simp [Op.lookupswitch.offset, hsw6, Ne.symm, eq_comm]) (by decide) ?_
    refine r_iload_n (pc := 64) hX 25 rfl rfl ?_
    refine t_getR (q := (ρ t 2)) (pc := 65) hX 26 rfl rfl rfl fl_X6_18 rfl (hH.kd ht (by decide)) (rfl) ?_
    have hw65_ : ω (ρ t 2) = 20 := hH.rf ht (by decide) rfl
    refine r_iload_n (pc := 69) hX 28 rfl rfl ?_
    refine e_iald (y := (v (ρ t 2) i)) (n := 40) (pc := 70) hX 29 rfl (hH.kd hw65_ (by decide)) (hH.ln hw65_ (by decide)) (by omega) (by omega) (rfl) ?_
    first | refine r_icmp_le (pc := 71) hX 30 (tgt := 78) rfl (by decide) (⟨by omega, by omega⟩) (⟨by omega, by omega⟩) (fun h71 => ?_) (fun h71 => ?_) | refine r_icmp_le_any (pc := 71) hX 30 (tgt := 78) rfl (by decide) ?_ ?_
    · refine r_iconst (pc := 78) hX 33 rfl ?_
      exact r_zret (pc := 79) hX 34 hQ rfl rfl ⟨by omega, by omega⟩ (Nat.le_refl 0) (Nat.le_refl 0) ⟨rfl, rfl, rfl, 0, rfl, (by omega)⟩
    · refine r_iconst (pc := 74) hX 31 rfl ?_
      refine r_goto (pc := 75) hX 32 (tgt := 79) rfl (by decide) ?_
      exact r_zret (pc := 79) hX 34 hQ rfl rfl ⟨by omega, by omega⟩ (Nat.le_refl 0) (Nat.le_refl 0) ⟨rfl, rfl, rfl, 1, rfl, (by omega)⟩
  · refine r_ls (off := 26) (pc := 6) hX 4 (tgt := 32) rfl ⟨by omega, by omega⟩ (by decide) (by rw [hsw6]; rfl) (by decide) ?_
    refine r_iload_n (pc := 32) hX 5 rfl rfl ?_
    refine t_getR (q := (ρ t 2)) (pc := 33) hX 6 rfl rfl rfl fl_X6_18 rfl (hH.kd ht (by decide)) (rfl) ?_
    have hw33_ : ω (ρ t 2) = 20 := hH.rf ht (by decide) rfl
    refine r_iload_n (pc := 37) hX 8 rfl rfl ?_
    refine e_iald (y := (v (ρ t 2) i)) (n := 40) (pc := 38) hX 9 rfl (hH.kd hw33_ (by decide)) (hH.ln hw33_ (by decide)) (by omega) (by omega) (rfl) ?_
    first | refine r_icmp_ge (pc := 39) hX 10 (tgt := 46) rfl (by decide) (⟨by omega, by omega⟩) (⟨by omega, by omega⟩) (fun h39 => ?_) (fun h39 => ?_) | refine r_icmp_ge_any (pc := 39) hX 10 (tgt := 46) rfl (by decide) ?_ ?_
    · refine r_iconst (pc := 46) hX 13 rfl ?_
      exact r_zret (pc := 47) hX 14 hQ rfl rfl ⟨by omega, by omega⟩ (Nat.le_refl 0) (Nat.le_refl 0) ⟨rfl, rfl, rfl, 0, rfl, (by omega)⟩
    · refine r_iconst (pc := 42) hX 11 rfl ?_
      refine r_goto (pc := 43) hX 12 (tgt := 47) rfl (by decide) ?_
      exact r_zret (pc := 47) hX 14 hQ rfl rfl ⟨by omega, by omega⟩ (Nat.le_refl 0) (Nat.le_refl 0) ⟨rfl, rfl, rfl, 1, rfl, (by omega)⟩
  · refine r_ls (off := 42) (pc := 6) hX 4 (tgt := 48) rfl ⟨by omega, by omega⟩ (by decide) (by rw [hsw6]; rfl) (by decide) ?_
    refine r_iload_n (pc := 48) hX 15 rfl rfl ?_
    refine t_getR (q := (ρ t 2)) (pc := 49) hX 16 rfl rfl rfl fl_X6_18 rfl (hH.kd ht (by decide)) (rfl) ?_
    have hw49_ : ω (ρ t 2) = 20 := hH.rf ht (by decide) rfl
    refine r_iload_n (pc := 53) hX 18 rfl rfl ?_
    refine e_iald (y := (v (ρ t 2) i)) (n := 40) (pc := 54) hX 19 rfl (hH.kd hw49_ (by decide)) (hH.ln hw49_ (by decide)) (by omega) (by omega) (rfl) ?_
    first | refine r_icmp_ne (pc := 55) hX 20 (tgt := 62) rfl (by decide) (⟨by omega, by omega⟩) (⟨by omega, by omega⟩) (fun h55 => ?_) (fun h55 => ?_) | refine r_icmp_ne_any (pc := 55) hX 20 (tgt := 62) rfl (by decide) ?_ ?_
    · refine r_iconst (pc := 62) hX 23 rfl ?_
      exact r_zret (pc := 63) hX 24 hQ rfl rfl ⟨by omega, by omega⟩ (Nat.le_refl 0) (Nat.le_refl 0) ⟨rfl, rfl, rfl, 0, rfl, (by omega)⟩
    · refine r_iconst (pc := 58) hX 21 rfl ?_
      refine r_goto (pc := 59) hX 22 (tgt := 63) rfl (by decide) ?_
      exact r_zret (pc := 63) hX 24 hQ rfl rfl ⟨by omega, by omega⟩ (Nat.le_refl 0) (Nat.le_refl 0) ⟨rfl, rfl, rfl, 1, rfl, (by omega)⟩
set_option maxHeartbeats 4000000 in
set_option maxRecDepth 100000 in
theorem c_X6_oneHolds (g : Gp) (ω : Rw) (v ρ : Mv) (Z : Mz) (hH : HT ω v ρ Z) (t : Int) (ht : ω t = 19) (i : Int) (o : Int) (ho : ω o = 22) (p : Int) (hi : 0 ≤ i ∧ i ≤ 39) (hp : 0 ≤ p ∧ p ≤ 2) : Ok g 4 0 0 F_X6_oneHolds [(2, t), (0, i), (2, o), (0, p)] v ρ Z (fun o9 v' ρ' Z' => ρ = ρ' ∧ Z = Z' ∧ v = v' ∧ ∃ r : Int, o9 = some (0, r) ∧ (0 ≤ r ∧ r ≤ 1)) := by
  refine Ok.of mo_X6_oneHolds (Nat.le_of_ble_eq_true rfl) ?_
  intro X hX hRm hxn hQ
  show wp g X F_X6_oneHolds 0 0 0 [(2, t), (0, i), (2, o), (0, p)] [] v ρ Z
  refine t_getR (q := (ρ t 0)) (pc := 0) hX 0 rfl rfl rfl fl_X6_11 rfl (hH.kd ht (by decide)) (rfl) ?_
  have hw0_ : ω (ρ t 0) = 20 := hH.rf ht (by decide) rfl
  refine r_iload_n (pc := 4) hX 2 rfl rfl ?_
  refine e_iald (y := (v (ρ t 0) i)) (n := 40) (pc := 5) hX 3 rfl (hH.kd hw0_ (by decide)) (hH.ln hw0_ (by decide)) (by omega) (by omega) (rfl) ?_
  refine r_iany _ (fun z6 hz6 => ?_)
  have hsw6 : z6 < 14 ∨ 20 < z6 ∨ z6 = 14 ∨ z6 = 15 ∨ z6 = 16 ∨ z6 = 17 ∨ z6 = 18 ∨ z6 = 19 ∨ z6 = 20 := by omega
  rcases hsw6 with hsw6 | hsw6 | hsw6 | hsw6 | hsw6 | hsw6 | hsw6 | hsw6 | hsw6
  · refine r_tsOut (pc := 6) hX 4 (tgt := 147) rfl ⟨by omega, by omega⟩ (by omega) (by decide) ?_
    refine r_aload_n (pc := 147) hX 66 rfl rfl ?_
    refine r_iload_n (pc := 148) hX 67 rfl rfl ?_
    refine r_iload_n (pc := 149) hX 68 rfl rfl ?_
    refine r_callV (as := [(0, p), (0, i)]) (st := []) (K := 6) (pc := 150) hX 69 rfl mo_X6_compares ml_X6_49 im_X6_compares se_X6_compares (c_X6_compares g ω v ρ Z hH t ht (p) (i) (by omega)) rfl rfl rfl (hH.kd ht (by decide)) (by rw [hRm]; exact ⟨by decide, by decide⟩) (by rw [hRm]; exact ⟨by decide, by decide⟩) (Nat.le_of_ble_eq_true rfl) (fun o150 v150 ρv150 Zv150 hq150 _ => ?_)
    obtain ⟨rfl, rfl, rfl, r150, rfl, hq150⟩ := hq150
    show wp g X F_X6_oneHolds 0 0 153 [(2, t), (0, i), (2, o), (0, p)] [(0, r150)] v ρ Z
    exact r_zret (pc := 153) hX 70 hQ rfl rfl ⟨by omega, by omega⟩ (Nat.le_refl 0) (Nat.le_refl 0) ⟨rfl, rfl, rfl, r150, rfl, (by omega)⟩
  · refine r_tsOut (pc := 6) hX 4 (tgt := 147) rfl ⟨by omega, by omega⟩ (by omega) (by decide) ?_
    refine r_aload_n (pc := 147) hX 66 rfl rfl ?_
    refine r_iload_n (pc := 148) hX 67 rfl rfl ?_
    refine r_iload_n (pc := 149) hX 68 rfl rfl ?_
    refine r_callV (as := [(0, p), (0, i)]) (st := []) (K := 6) (pc := 150) hX 69 rfl mo_X6_compares ml_X6_49 im_X6_compares se_X6_compares (c_X6_compares g ω v ρ Z hH t ht (p) (i) (by omega)) rfl rfl rfl (hH.kd ht (by decide)) (by rw [hRm]; exact ⟨by decide, by decide⟩) (by rw [hRm]; exact ⟨by decide, by decide⟩) (Nat.le_of_ble_eq_true rfl) (fun o150 vf1_ ρvf1_ Zvf1_ hqf3_ _ => ?_)
    obtain ⟨rfl, rfl, rfl, rf2_, rfl, hqf3_⟩ := hqf3_
    show wp g X F_X6_oneHolds 0 0 153 [(2, t), (0, i), (2, o), (0, p)] [(0, rf2_)] v ρ Z
    exact r_zret (pc := 153) hX 70 hQ rfl rfl ⟨by omega, by omega⟩ (Nat.le_refl 0) (Nat.le_refl 0) ⟨rfl, rfl, rfl, rf2_, rfl, (by omega)⟩
  · refine r_tsIn (x := z6) (pc := 6) hX 4 (tgt := 48) rfl ⟨by omega, by omega⟩ (by omega) (by omega) (by rw [hsw6]; rfl) (by decide) ?_
    refine r_aload_n (pc := 48) hX 5 rfl rfl ?_
    refine r_iload_n (pc := 49) hX 6 rfl rfl ?_
    refine r_callV (as := [(0, p)]) (st := []) (K := 9) (pc := 50) hX 7 rfl mo_X9_isAhead ml_X6_29 im_X9_isAhead se_X9_isAhead (c_X9_isAhead g ω v ρ Z hH o ho (p) (by omega)) rfl rfl rfl (hH.kd ho (by decide)) (by rw [hRm]; exact ⟨by decide, by decide⟩) (by rw [hRm]; exact ⟨by decide, by decide⟩) (Nat.le_of_ble_eq_true rfl) (fun o50 v50 ρv50 Zv50 hq50 _ => ?_)
    obtain ⟨rfl, rfl, rfl, r50, rfl, hq50⟩ := hq50
    show wp g X F_X6_oneHolds 0 0 53 [(2, t), (0, i), (2, o), (0, p)] [(0, r50)] v ρ Z
    exact r_zret (pc := 53) hX 8 hQ rfl rfl ⟨by omega, by omega⟩ (Nat.le_refl 0) (Nat.le_refl 0) ⟨rfl, rfl, rfl, r50, rfl, (by omega)⟩
  · refine r_tsIn (x := z6) (pc := 6) hX 4 (tgt := 54) rfl ⟨by omega, by omega⟩ (by omega) (by omega) (by rw [hsw6]; rfl) (by decide) ?_
    refine r_aload_n (pc := 54) hX 9 rfl rfl ?_
    refine r_callV (as := []) (st := []) (K := 9) (pc := 55) hX 10 rfl mo_X9_winner ml_X6_35 im_X9_winner se_X9_winner (c_X9_winner g ω v ρ Z hH o ho ) rfl rfl rfl (hH.kd ho (by decide)) (by rw [hRm]; exact ⟨by decide, by decide⟩) (by rw [hRm]; exact ⟨by decide, by decide⟩) (Nat.le_of_ble_eq_true rfl) (fun o55 v55 ρv55 Zv55 hq55 _ => ?_)
    obtain ⟨rfl, rfl, rfl, r55, rfl, hq55⟩ := hq55
    show wp g X F_X6_oneHolds 0 0 58 [(2, t), (0, i), (2, o), (0, p)] [(0, r55)] v ρ Z
    refine r_iload_n (pc := 58) hX 11 rfl rfl ?_
    first | refine r_icmp_ne (pc := 59) hX 12 (tgt := 66) rfl (by decide) (⟨by omega, by omega⟩) (⟨by omega, by omega⟩) (fun h59 => ?_) (fun h59 => ?_) | refine r_icmp_ne_any (pc := 59) hX 12 (tgt := 66) rfl (by decide) ?_ ?_
    · refine r_iconst (pc := 66) hX 15 rfl ?_
      exact r_zret (pc := 67) hX 16 hQ rfl rfl ⟨by omega, by omega⟩ (Nat.le_refl 0) (Nat.le_refl 0) ⟨rfl, rfl, rfl, 0, rfl, (by omega)⟩
    · refine r_iconst (pc := 62) hX 13 rfl ?_
      refine r_goto (pc := 63) hX 14 (tgt := 67) rfl (by decide) ?_
      exact r_zret (pc := 67) hX 16 hQ rfl rfl ⟨by omega, by omega⟩ (Nat.le_refl 0) (Nat.le_refl 0) ⟨rfl, rfl, rfl, 1, rfl, (by omega)⟩
  · refine r_tsIn (x := z6) (pc := 6) hX 4 (tgt := 68) rfl ⟨by omega, by omega⟩ (by omega) (by omega) (by rw [hsw6]; rfl) (by decide) ?_
    refine r_aload_n (pc := 68) hX 17 rfl rfl ?_
    refine r_getR (q := (ρ o 4)) (pc := 69) hX 18 rfl fl_X6_39 rfl (hH.kd ho (by decide)) (rfl) ?_
    have hw69_ : ω (ρ o 4) = 24 := hH.rf ho (by decide) rfl
    refine r_iload_n (pc := 72) hX 19 rfl rfl ?_
    refine e_iald (y := (v (ρ o 4) p)) (n := 3) (pc := 73) hX 20 rfl (hH.kd hw69_ (by decide)) (hH.ln hw69_ (by decide)) (by omega) (by omega) (rfl) ?_
    have hb73 : (-1) ≤ (v (ρ o 4) p) ∧ (v (ρ o 4) p) ≤ 3 := hH.rg hw69_ (by decide) rfl
    refine t_getR (q := (ρ t 2)) (pc := 74) hX 21 rfl rfl rfl fl_X6_18 rfl (hH.kd ht (by decide)) (rfl) ?_
    have hw74_ : ω (ρ t 2) = 20 := hH.rf ht (by decide) rfl
    refine r_iload_n (pc := 78) hX 23 rfl rfl ?_
    refine e_iald (y := (v (ρ t 2) i)) (n := 40) (pc := 79) hX 24 rfl (hH.kd hw74_ (by decide)) (hH.ln hw74_ (by decide)) (by omega) (by omega) (rfl) ?_
    first | refine r_icmp_ne (pc := 80) hX 25 (tgt := 87) rfl (by decide) (⟨by omega, by omega⟩) (⟨by omega, by omega⟩) (fun h80 => ?_) (fun h80 => ?_) | refine r_icmp_ne_any (pc := 80) hX 25 (tgt := 87) rfl (by decide) ?_ ?_
    · refine r_iconst (pc := 87) hX 28 rfl ?_
      exact r_zret (pc := 88) hX 29 hQ rfl rfl ⟨by omega, by omega⟩ (Nat.le_refl 0) (Nat.le_refl 0) ⟨rfl, rfl, rfl, 0, rfl, (by omega)⟩
    · refine r_iconst (pc := 83) hX 26 rfl ?_
      refine r_goto (pc := 84) hX 27 (tgt := 88) rfl (by decide) ?_
      exact r_zret (pc := 88) hX 29 hQ rfl rfl ⟨by omega, by omega⟩ (Nat.le_refl 0) (Nat.le_refl 0) ⟨rfl, rfl, rfl, 1, rfl, (by omega)⟩
  · refine r_tsIn (x := z6) (pc := 6) hX 4 (tgt := 89) rfl ⟨by omega, by omega⟩ (by omega) (by omega) (by rw [hsw6]; rfl) (by decide) ?_
    refine r_aload_n (pc := 89) hX 30 rfl rfl ?_
    refine r_getR (q := (ρ o 5)) (pc := 90) hX 31 rfl fl_X6_42 rfl (hH.kd ho (by decide)) (rfl) ?_
    have hw90_ : ω (ρ o 5) = 25 := hH.rf ho (by decide) rfl
    refine r_iload_n (pc := 93) hX 32 rfl rfl ?_
    refine e_zald (y := (v (ρ o 5) p)) (n := 3) (pc := 94) hX 33 rfl (hH.kd hw90_ (by decide)) (hH.ln hw90_ (by decide)) (by omega) (by omega) (rfl) (fun hb94a hb94b => ?_)
    exact r_zret (pc := 95) hX 34 hQ rfl rfl ⟨by omega, by omega⟩ (Nat.le_refl 0) (Nat.le_refl 0) ⟨rfl, rfl, rfl, (v (ρ o 5) p), rfl, (by omega)⟩
  · refine r_tsIn (x := z6) (pc := 6) hX 4 (tgt := 96) rfl ⟨by omega, by omega⟩ (by omega) (by omega) (by rw [hsw6]; rfl) (by decide) ?_
    refine r_aload_n (pc := 96) hX 35 rfl rfl ?_
    refine r_aload_n (pc := 97) hX 36 rfl rfl ?_
    refine r_getR (q := (ρ o 6)) (pc := 98) hX 37 rfl fl_X6_46 rfl (hH.kd ho (by decide)) (rfl) ?_
    have hw98_ : ω (ρ o 6) = 26 := hH.rf ho (by decide) rfl
    refine r_iload_n (pc := 101) hX 38 rfl rfl ?_
    refine e_iald (y := (v (ρ o 6) p)) (n := 3) (pc := 102) hX 39 rfl (hH.kd hw98_ (by decide)) (hH.ln hw98_ (by decide)) (by omega) (by omega) (rfl) ?_
    have hb102 : 0 ≤ (v (ρ o 6) p) ∧ (v (ρ o 6) p) ≤ 11 := hH.rg hw98_ (by decide) rfl
    refine r_iload_n (pc := 103) hX 40 rfl rfl ?_
    refine r_callV (as := [(0, (v (ρ o 6) p)), (0, i)]) (st := []) (K := 6) (pc := 104) hX 41 rfl mo_X6_compares ml_X6_49 im_X6_compares se_X6_compares (c_X6_compares g ω v ρ Z hH t ht ((v (ρ o 6) p)) (i) (by omega)) rfl rfl rfl (hH.kd ht (by decide)) (by rw [hRm]; exact ⟨by decide, by decide⟩) (by rw [hRm]; exact ⟨by decide, by decide⟩) (Nat.le_of_ble_eq_true rfl) (fun o104 v104 ρv104 Zv104 hq104 _ => ?_)
    obtain ⟨rfl, rfl, rfl, r104, rfl, hq104⟩ := hq104
    show wp g X F_X6_oneHolds 0 0 107 [(2, t), (0, i), (2, o), (0, p)] [(0, r104)] v ρ Z
    exact r_zret (pc := 107) hX 42 hQ rfl rfl ⟨by omega, by omega⟩ (Nat.le_refl 0) (Nat.le_refl 0) ⟨rfl, rfl, rfl, r104, rfl, (by omega)⟩
  · refine r_tsIn (x := z6) (pc := 6) hX 4 (tgt := 108) rfl ⟨by omega, by omega⟩ (by omega) (by omega) (by rw [hsw6]; rfl) (by decide) ?_
    refine r_aload_n (pc := 108) hX 43 rfl rfl ?_
    refine r_aload_n (pc := 109) hX 44 rfl rfl ?_
    refine r_getR (q := (ρ o 0)) (pc := 110) hX 45 rfl fl_X6_53 rfl (hH.kd ho (by decide)) (rfl) ?_
    have hw110_ : ω (ρ o 0) = 5 := hH.rf ho (by decide) rfl
    refine r_getR (q := (ρ (ρ o 0) 7)) (pc := 113) hX 46 rfl fl_X6_57 rfl (hH.kd hw110_ (by decide)) (rfl) ?_
    have hw113_ : ω (ρ (ρ o 0) 7) = 14 := hH.rf hw110_ (by decide) rfl
    refine r_iload_n (pc := 116) hX 47 rfl rfl ?_
    refine e_iald (y := (v (ρ (ρ o 0) 7) p)) (n := 3) (pc := 117) hX 48 rfl (hH.kd hw113_ (by decide)) (hH.ln hw113_ (by decide)) (by omega) (by omega) (rfl) ?_
    have hb117 : 0 ≤ (v (ρ (ρ o 0) 7) p) ∧ (v (ρ (ρ o 0) 7) p) ≤ 8 := hH.rg hw113_ (by decide) rfl
    refine r_iload_n (pc := 118) hX 49 rfl rfl ?_
    refine r_callV (as := [(0, (v (ρ (ρ o 0) 7) p)), (0, i)]) (st := []) (K := 6) (pc := 119) hX 50 rfl mo_X6_compares ml_X6_49 im_X6_compares se_X6_compares (c_X6_compares g ω v ρ Z hH t ht ((v (ρ (ρ o 0) 7) p)) (i) (by omega)) rfl rfl rfl (hH.kd ht (by decide)) (by rw [hRm]; exact ⟨by decide, by decide⟩) (by rw [hRm]; exact ⟨by decide, by decide⟩) (Nat.le_of_ble_eq_true rfl) (fun o119 v119 ρv119 Zv119 hq119 _ => ?_)
    obtain ⟨rfl, rfl, rfl, r119, rfl, hq119⟩ := hq119
    show wp g X F_X6_oneHolds 0 0 122 [(2, t), (0, i), (2, o), (0, p)] [(0, r119)] v ρ Z
    exact r_zret (pc := 122) hX 51 hQ rfl rfl ⟨by omega, by omega⟩ (Nat.le_refl 0) (Nat.le_refl 0) ⟨rfl, rfl, rfl, r119, rfl, (by omega)⟩
  · refine r_tsIn (x := z6) (pc := 6) hX 4 (tgt := 123) rfl ⟨by omega, by omega⟩ (by omega) (by omega) (by rw [hsw6]; rfl) (by decide) ?_
    refine r_aload_n (pc := 123) hX 52 rfl rfl ?_
    refine r_iconst (pc := 124) hX 53 rfl ?_
    refine r_aload_n (pc := 125) hX 54 rfl rfl ?_
    refine r_getR (q := (ρ o 0)) (pc := 126) hX 55 rfl fl_X6_53 rfl (hH.kd ho (by decide)) (rfl) ?_
    have hw126_ : ω (ρ o 0) = 5 := hH.rf ho (by decide) rfl
    refine e_getI (y := (v (ρ o 0) 11)) (pc := 129) hX 56 rfl fl_X6_62 rfl (hH.kd hw126_ (by decide)) (rfl) ?_
    have hb129 : 1 ≤ (v (ρ o 0) 11) ∧ (v (ρ o 0) 11) ≤ 9 := hH.rg hw126_ (by decide) rfl
    refine r_aload_n (pc := 132) hX 57 rfl rfl ?_
    refine r_getR (q := (ρ o 6)) (pc := 133) hX 58 rfl fl_X6_46 rfl (hH.kd ho (by decide)) (rfl) ?_
    have hw133_ : ω (ρ o 6) = 26 := hH.rf ho (by decide) rfl
    refine r_iload_n (pc := 136) hX 59 rfl rfl ?_
    refine e_iald (y := (v (ρ o 6) p)) (n := 3) (pc := 137) hX 60 rfl (hH.kd hw133_ (by decide)) (hH.ln hw133_ (by decide)) (by omega) (by omega) (rfl) ?_
    have hb137 : 0 ≤ (v (ρ o 6) p) ∧ (v (ρ o 6) p) ≤ 11 := hH.rg hw133_ (by decide) rfl
    refine r_isub (pc := 138) hX 61 rfl ?_
    refine r_mmax (pc := 139) hX 62 rfl ml_X6_65 ⟨by omega, by omega⟩ ⟨by omega, by omega⟩ (by rw [hRm]; exact ⟨by decide, by decide, by decide, by decide⟩) (Nat.le_of_ble_eq_true rfl) (fun z139 hz139 => ?_)
    refine r_iload_n (pc := 142) hX 63 rfl rfl ?_
    refine r_callV (as := [(0, z139), (0, i)]) (st := []) (K := 6) (pc := 143) hX 64 rfl mo_X6_compares ml_X6_49 im_X6_compares se_X6_compares (c_X6_compares g ω v ρ Z hH t ht (z139) (i) (by omega)) rfl rfl rfl (hH.kd ht (by decide)) (by rw [hRm]; exact ⟨by decide, by decide⟩) (by rw [hRm]; exact ⟨by decide, by decide⟩) (Nat.le_of_ble_eq_true rfl) (fun o143 v143 ρv143 Zv143 hq143 _ => ?_)
    obtain ⟨rfl, rfl, rfl, r143, rfl, hq143⟩ := hq143
    show wp g X F_X6_oneHolds 0 0 146 [(2, t), (0, i), (2, o), (0, p)] [(0, r143)] v ρ Z
    exact r_zret (pc := 146) hX 65 hQ rfl rfl ⟨by omega, by omega⟩ (Nat.le_refl 0) (Nat.le_refl 0) ⟨rfl, rfl, rfl, r143, rfl, (by omega)⟩
set_option maxHeartbeats 4000000 in
set_option maxRecDepth 100000 in
theorem c_X6_holdsFor (g : Gp) (ω : Rw) (v ρ : Mv) (Z : Mz) (hH : HT ω v ρ Z) (t : Int) (ht : ω t = 19) (o : Int) (ho : ω o = 22) (p : Int) (hp : 0 ≤ p ∧ p ≤ 2) : Ok g 5 0 0 F_X6_holdsFor [(2, t), (2, o), (0, p)] v ρ Z (fun o9 v' ρ' Z' => ρ = ρ' ∧ Z = Z' ∧ v = v' ∧ ∃ r : Int, o9 = some (0, r) ∧ (0 ≤ r ∧ r ≤ 1)) := by
  refine Ok.of mo_X6_holdsFor (Nat.le_of_ble_eq_true rfl) ?_
  intro X hX hRm hxn hQ
  show wp g X F_X6_holdsFor 0 0 0 [(2, t), (2, o), (0, p), (3, 0), (3, 0), (3, 0)] [] v ρ Z
  refine r_iconst (pc := 0) hX 0 rfl ?_
  refine r_istore_n (ls' := [(2, t), (2, o), (0, p), (0, 0), (3, 0), (3, 0)]) (pc := 1) hX 1 rfl (by decide) rfl ?_
  refine r_iconst (pc := 2) hX 2 rfl ?_
  refine r_istore (ls' := [(2, t), (2, o), (0, p), (0, 0), (0, 0), (3, 0)]) (pc := 3) hX 3 rfl (by decide) rfl ?_
  have L5 : ∀ (n5 : Nat) (b i : Int) , (0 ≤ i ∧ i ≤ 40) → (40 - i).toNat < n5 → wp g X F_X6_holdsFor 0 0 5 [(2, t), (2, o), (0, p), (0, b), (0, i), (3, 0)] [] v ρ Z := by
    intro n5
    induction n5 with
    | zero => intro b i ii hme5; exact absurd hme5 (Nat.not_lt_zero _)
    | succ n5 ih5 =>
      intro b i ii hme5
      refine r_iload (pc := 5) hX 4 rfl rfl ?_
      refine t_getI (y := (v t 3)) (pc := 7) hX 5 rfl rfl rfl fl_X6_21 rfl (hH.kd ht (by decide)) (rfl) ?_
      have hb7 : 0 ≤ (v t 3) ∧ (v t 3) ≤ 40 := hH.rg ht (by decide) rfl
      have L122 : wp g X F_X6_holdsFor 0 0 122 [(2, t), (2, o), (0, p), (0, b), (0, i), (3, 0)] [] v ρ Z := by
        refine r_iload_n (pc := 122) hX 72 rfl rfl ?_
        refine r_iconst (pc := 123) hX 73 rfl ?_
        refine r_iandm (pc := 124) hX 74 1 rfl (by decide) (by decide) (m := 2) (by decide) ?_
        refine r_iconst (pc := 125) hX 75 rfl ?_
        first | refine r_icmp_ne (pc := 126) hX 76 (tgt := 133) rfl (by decide) (⟨by omega, by omega⟩) (⟨by omega, by omega⟩) (fun h126 => ?_) (fun h126 => ?_) | refine r_icmp_ne_any (pc := 126) hX 76 (tgt := 133) rfl (by decide) ?_ ?_
        · refine r_iconst (pc := 133) hX 79 rfl ?_
          exact r_zret (pc := 134) hX 80 hQ rfl rfl ⟨by omega, by omega⟩ (Nat.le_refl 0) (Nat.le_refl 0) ⟨rfl, rfl, rfl, 0, rfl, (by omega)⟩
        · refine r_iconst (pc := 129) hX 77 rfl ?_
          refine r_goto (pc := 130) hX 78 (tgt := 134) rfl (by decide) ?_
          exact r_zret (pc := 134) hX 80 hQ rfl rfl ⟨by omega, by omega⟩ (Nat.le_refl 0) (Nat.le_refl 0) ⟨rfl, rfl, rfl, 1, rfl, (by omega)⟩
      first | refine r_icmp_ge (pc := 11) hX 7 (tgt := 122) rfl (by decide) (⟨by omega, by omega⟩) (⟨by omega, by omega⟩) (fun h11 => ?_) (fun h11 => ?_) | refine r_icmp_ge_any (pc := 11) hX 7 (tgt := 122) rfl (by decide) ?_ ?_
      · exact (L122   )
      · refine r_iload (pc := 14) hX 8 rfl rfl ?_
        refine t_getR (q := (ρ t 0)) (pc := 16) hX 9 rfl rfl rfl fl_X6_11 rfl (hH.kd ht (by decide)) (rfl) ?_
        have hw16_ : ω (ρ t 0) = 20 := hH.rf ht (by decide) rfl
        refine r_alen (pc := 20) hX 11 13 rfl (hH.kd hw16_ (by decide)) (by decide) (by decide) (fun _ _ => ?_)
        rw [show Z.2.1 (ρ t 0) = 40 from (hH.ln hw16_ (by decide))]
        first | refine r_icmp_ge (pc := 21) hX 12 (tgt := 122) rfl (by decide) (⟨by omega, by omega⟩) (⟨by omega, by omega⟩) (fun h21 => ?_) (fun h21 => ?_) | refine r_icmp_ge_any (pc := 21) hX 12 (tgt := 122) rfl (by decide) ?_ ?_
        · exact (L122   )
        · refine r_iload_n (pc := 24) hX 13 rfl rfl ?_
          refine r_iconst (pc := 25) hX 14 rfl ?_
          refine r_iandm (pc := 26) hX 15 1 rfl (by decide) (by decide) (m := 2) (by decide) ?_
          refine r_istore (ls' := [(2, t), (2, o), (0, p), (0, b), (0, i), (0, (b % 2))]) (pc := 27) hX 16 rfl (by decide) rfl ?_
          refine t_getR (q := (ρ t 0)) (pc := 29) hX 17 rfl rfl rfl fl_X6_11 rfl (hH.kd ht (by decide)) (rfl) ?_
          refine r_iload (pc := 33) hX 19 rfl rfl ?_
          refine e_iald (y := (v (ρ t 0) i)) (n := 40) (pc := 35) hX 20 rfl (hH.kd hw16_ (by decide)) (hH.ln hw16_ (by decide)) (by omega) (by omega) (rfl) ?_
          refine r_bipush (pc := 36) hX 21 rfl (by decide) ?_
          have L116 : ∀ (b2 : Int) , wp g X F_X6_holdsFor 0 0 116 [(2, t), (2, o), (0, p), (0, b2), (0, i), (3, 0)] [] v ρ Z := by
            intro b2
            refine r_iinc (ls' := [(2, t), (2, o), (0, p), (0, b2), (0, (i + 1)), (3, 0)]) (pc := 116) hX 70 rfl rfl (by decide) rfl ?_
            refine r_goto (pc := 119) hX 71 (tgt := 5) rfl (by decide) ?_
            exact (ih5 b2 (i + 1) (by omega) (by omega))
          first | refine r_icmp_ne (pc := 38) hX 22 (tgt := 48) rfl (by decide) (⟨by omega, by omega⟩) (⟨by omega, by omega⟩) (fun h38 => ?_) (fun h38 => ?_) | refine r_icmp_ne_any (pc := 38) hX 22 (tgt := 48) rfl (by decide) ?_ ?_
          · refine t_getR (q := (ρ t 0)) (pc := 48) hX 28 rfl rfl rfl fl_X6_11 rfl (hH.kd ht (by decide)) (rfl) ?_
            refine r_iload (pc := 52) hX 30 rfl rfl ?_
            refine e_iald (y := (v (ρ t 0) i)) (n := 40) (pc := 54) hX 31 rfl (hH.kd hw16_ (by decide)) (hH.ln hw16_ (by decide)) (by omega) (by omega) (rfl) ?_
            refine r_bipush (pc := 55) hX 32 rfl (by decide) ?_
            first | refine r_icmp_ne (pc := 57) hX 33 (tgt := 73) rfl (by decide) (⟨by omega, by omega⟩) (⟨by omega, by omega⟩) (fun h57 => ?_) (fun h57 => ?_) | refine r_icmp_ne_any (pc := 57) hX 33 (tgt := 73) rfl (by decide) ?_ ?_
            · refine t_getR (q := (ρ t 0)) (pc := 73) hX 43 rfl rfl rfl fl_X6_11 rfl (hH.kd ht (by decide)) (rfl) ?_
              refine r_iload (pc := 77) hX 45 rfl rfl ?_
              refine e_iald (y := (v (ρ t 0) i)) (n := 40) (pc := 79) hX 46 rfl (hH.kd hw16_ (by decide)) (hH.ln hw16_ (by decide)) (by omega) (by omega) (rfl) ?_
              refine r_bipush (pc := 80) hX 47 rfl (by decide) ?_
              first | refine r_icmp_ne (pc := 82) hX 48 (tgt := 95) rfl (by decide) (⟨by omega, by omega⟩) (⟨by omega, by omega⟩) (fun h82 => ?_) (fun h82 => ?_) | refine r_icmp_ne_any (pc := 82) hX 48 (tgt := 95) rfl (by decide) ?_ ?_
              · refine r_iload_n (pc := 95) hX 56 rfl rfl ?_
                refine r_iconst (pc := 96) hX 57 rfl ?_
                refine r_ishl_any (pc := 97) hX 58 rfl (fun z97 hz97 => ?_)
                refine r_aload_n (pc := 98) hX 59 rfl rfl ?_
                refine r_iload (pc := 99) hX 60 rfl rfl ?_
                refine r_aload_n (pc := 101) hX 61 rfl rfl ?_
                refine r_iload_n (pc := 102) hX 62 rfl rfl ?_
                refine r_callV (as := [(0, i), (2, o), (0, p)]) (st := [(0, z97)]) (K := 6) (pc := 103) hX 63 rfl mo_X6_oneHolds ml_X6_25 im_X6_oneHolds se_X6_oneHolds (c_X6_oneHolds g ω v ρ Z hH t ht (i) o ho (p) (by omega) (by omega)) rfl rfl rfl (hH.kd ht (by decide)) (by rw [hRm]; exact ⟨by decide, by decide⟩) (by rw [hRm]; exact ⟨by decide, by decide⟩) (Nat.le_of_ble_eq_true rfl) (fun o103 v103 ρv103 Zv103 hq103 _ => ?_)
                obtain ⟨rfl, rfl, rfl, r103, rfl, hq103⟩ := hq103
                show wp g X F_X6_holdsFor 0 0 106 [(2, t), (2, o), (0, p), (0, b), (0, i), (0, (b % 2))] [(0, r103), (0, z97)] v ρ Z
                have L114 : ∀ (hh : Int) , wp g X F_X6_holdsFor 0 0 114 [(2, t), (2, o), (0, p), (0, b), (0, i), (0, (b % 2))] [(0, hh), (0, z97)] v ρ Z := by
                  intro hh
                  refine r_ior_any (pc := 114) hX 68 rfl (fun z114 hz114 => ?_)
                  refine r_istore_n (ls' := [(2, t), (2, o), (0, p), (0, z114), (0, i), (0, (b % 2))]) (pc := 115) hX 69 rfl (by decide) rfl ?_
                  refine r_wk (ls' := [(2, t), (2, o), (0, p), (0, z114), (0, i), (3, 0)]) ⟨Or.inr rfl, Or.inr rfl, Or.inr rfl, Or.inr rfl, Or.inr rfl, Or.inl rfl, trivial⟩ ?_
                  exact (L116 z114  )
                first | refine r_if_eq (pc := 106) hX 64 (tgt := 113) rfl (by decide) (⟨by omega, by omega⟩) (fun h106 => ?_) (fun h106 => ?_) | refine r_if_eq_any (pc := 106) hX 64 (tgt := 113) rfl (by decide) ?_ ?_
                · refine r_iconst (pc := 113) hX 67 rfl ?_
                  exact (L114 0  )
                · refine r_iconst (pc := 109) hX 65 rfl ?_
                  refine r_goto (pc := 110) hX 66 (tgt := 114) rfl (by decide) ?_
                  exact (L114 1  )
              · refine r_iload_n (pc := 85) hX 49 rfl rfl ?_
                refine r_iconst (pc := 86) hX 50 rfl ?_
                refine r_iushr_any (pc := 87) hX 51 rfl (fun z87 hz87 => ?_)
                refine r_iload (pc := 88) hX 52 rfl rfl ?_
                refine r_ior_any (pc := 90) hX 53 rfl (fun z90 hz90 => ?_)
                refine r_istore_n (ls' := [(2, t), (2, o), (0, p), (0, z90), (0, i), (0, (b % 2))]) (pc := 91) hX 54 rfl (by decide) rfl ?_
                refine r_goto (pc := 92) hX 55 (tgt := 116) rfl (by decide) ?_
                refine r_wk (ls' := [(2, t), (2, o), (0, p), (0, z90), (0, i), (3, 0)]) ⟨Or.inr rfl, Or.inr rfl, Or.inr rfl, Or.inr rfl, Or.inr rfl, Or.inl rfl, trivial⟩ ?_
                exact (L116 z90  )
            · refine r_iload_n (pc := 60) hX 34 rfl rfl ?_
              refine r_iconst (pc := 61) hX 35 rfl ?_
              refine r_iushr_any (pc := 62) hX 36 rfl (fun z62 hz62 => ?_)
              refine r_iload (pc := 63) hX 37 rfl rfl ?_
              refine r_bipush (pc := 65) hX 38 rfl (by decide) ?_
              refine r_ior_any (pc := 67) hX 39 rfl (fun z67 hz67 => ?_)
              refine r_iand_any (pc := 68) hX 40 rfl (fun z68 hz68 => ?_)
              refine r_istore_n (ls' := [(2, t), (2, o), (0, p), (0, z68), (0, i), (0, (b % 2))]) (pc := 69) hX 41 rfl (by decide) rfl ?_
              refine r_goto (pc := 70) hX 42 (tgt := 116) rfl (by decide) ?_
              refine r_wk (ls' := [(2, t), (2, o), (0, p), (0, z68), (0, i), (3, 0)]) ⟨Or.inr rfl, Or.inr rfl, Or.inr rfl, Or.inr rfl, Or.inr rfl, Or.inl rfl, trivial⟩ ?_
              exact (L116 z68  )
          · refine r_iload_n (pc := 41) hX 23 rfl rfl ?_
            refine r_iconst (pc := 42) hX 24 rfl ?_
            refine r_ixor_any (pc := 43) hX 25 rfl (fun z43 hz43 => ?_)
            refine r_istore_n (ls' := [(2, t), (2, o), (0, p), (0, z43), (0, i), (0, (b % 2))]) (pc := 44) hX 26 rfl (by decide) rfl ?_
            refine r_goto (pc := 45) hX 27 (tgt := 116) rfl (by decide) ?_
            refine r_wk (ls' := [(2, t), (2, o), (0, p), (0, z43), (0, i), (3, 0)]) ⟨Or.inr rfl, Or.inr rfl, Or.inr rfl, Or.inr rfl, Or.inr rfl, Or.inl rfl, trivial⟩ ?_
            exact (L116 z43  )
  exact (L5 _ 0 0 (by omega) (Nat.lt_succ_self _))
