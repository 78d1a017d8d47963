set_option maxHeartbeats 4000000 in
set_option maxRecDepth 100000 in
theorem c_X5_readClosing (g : Gp) (ω : Rw) (v ρ : Mv) (Z : Mz) (hH : HT ω v ρ Z) (t : Int) (ht : ω t = 4)  : Ok g 7 0 0 F_X5_readClosing [(2, t)] v ρ Z (fun o9 v' ρ' Z' => ρ = ρ' ∧ Z = Z' ∧ FrW ω [2, 5] v v' ∧ HT ω v' ρ Z ∧ ∃ r : Int, o9 = some (0, r) ∧ (0 ≤ r ∧ r ≤ 1)) := by
  refine Ok.of mo_X5_readClosing (Nat.le_of_ble_eq_true rfl) ?_
  intro X hX hRm hxn hQ
  show wp g X F_X5_readClosing 0 0 0 [(2, t)] [] v ρ Z
  refine t_getR (q := (ρ t 0)) (pc := 0) hX 0 rfl rfl rfl fl_X5_9 rfl (hH.kd ht (by decide)) (rfl) ?_
  have hw0_ : ω (ρ t 0) = 2 := hH.rf ht (by decide) rfl
  refine r_bipush (pc := 4) hX 2 rfl (by decide) ?_
  refine r_callV (as := [(0, 59)]) (st := []) (K := 8) (pc := 6) hX 3 rfl mo_X8_isMark ml_X5_74 im_X8_isMark se_X8_isMark (c_X8_isMark g ω v ρ Z hH (ρ t 0) hw0_ (59) (by omega)) rfl rfl rfl (hH.kd hw0_ (by decide)) (by rw [hRm]; exact ⟨by decide, by decide⟩) (by rw [hRm]; exact ⟨by decide, by decide⟩) (Nat.le_of_ble_eq_true rfl) (fun o6 v6 ρv6 Zv6 hq6 _ => ?_)
  obtain ⟨rfl, rfl, rfl, r6, rfl, hq6⟩ := hq6
  show wp g X F_X5_readClosing 0 0 9 [(2, t)] [(0, r6)] v ρ Z
  first | refine r_if_ne (pc := 9) hX 4 (tgt := 21) rfl (by decide) (⟨by omega, by omega⟩) (fun h9 => ?_) (fun h9 => ?_) | refine r_if_ne_any (pc := 9) hX 4 (tgt := 21) rfl (by decide) ?_ ?_
  · refine t_getR (q := (ρ t 1)) (pc := 21) hX 10 rfl rfl rfl fl_X5_18 rfl (hH.kd ht (by decide)) (rfl) ?_
    have hw21_ : ω (ρ t 1) = 5 := hH.rf ht (by decide) rfl
    refine r_dup (pc := 25) hX 12 rfl (show (2 : Nat) ≠ 1 by decide) ?_
    refine e_getI (y := (v (ρ t 1) 14)) (pc := 26) hX 13 rfl fl_X5_78 rfl (hH.kd hw21_ (by decide)) (rfl) ?_
    refine r_iconst (pc := 29) hX 14 rfl ?_
    refine r_iadd (pc := 30) hX 15 rfl ?_
    refine r_putI (pc := 31) hX 16 rfl fl_X5_78 rfl (fun _ h => by cases h; rfl) (hH.kd hw21_ (by decide)) (hH.g4 hw21_ (by decide)) ?_
    have hH_31 : HT ω (up v (ρ t 1) 14 ((v (ρ t 1) 14) + 1)) ρ Z := hH.up0 hw21_ (by decide) rfl
    show wp g X F_X5_readClosing 0 0 34 [(2, t)] [] (up v (ρ t 1) 14 ((v (ρ t 1) 14) + 1)) ρ Z
    refine t_getR (q := (ρ t 0)) (pc := 34) hX 17 rfl rfl rfl fl_X5_9 rfl (hH_31.kd ht (by decide)) (rfl) ?_
    refine r_callV (as := []) (st := []) (K := 8) (pc := 38) hX 19 rfl mo_X8_advance ml_X5_35 im_X8_advance se_X8_advance (c_X8_advance g ω (up v (ρ t 1) 14 ((v (ρ t 1) 14) + 1)) ρ Z hH_31 (ρ t 0) hw0_ ) rfl rfl rfl (hH_31.kd hw0_ (by decide)) (by rw [hRm]; exact ⟨by decide, by decide⟩) (by rw [hRm]; exact ⟨by decide, by decide⟩) (Nat.le_of_ble_eq_true rfl) (fun o38 v38 ρv38 Zv38 hq38 _ => ?_)
    obtain ⟨rfl, rfl, hfr38, hH38, rfl, hq38⟩ := hq38
    try rw [show ((up v (ρ t 1) 14 ((v (ρ t 1) 14) + 1)) (ρ t 0) 1) = (v (ρ t 0) 1) from (up_k (by decide)).trans (rfl)] at hq38
    show wp g X F_X5_readClosing 0 0 41 [(2, t)] [] v38 ρ Z
    refine r_iconst (pc := 41) hX 20 rfl ?_
    exact r_zret (pc := 42) hX 21 hQ rfl rfl ⟨by omega, by omega⟩ (Nat.le_refl 0) (Nat.le_refl 0) ⟨rfl, rfl, ((FrW.rf).up (r := (ρ t 1)) hw21_ (by decide)).tr hfr38 (by decide), hH38, 1, rfl, (by omega)⟩
  · refine t_getR (q := (ρ t 0)) (pc := 12) hX 5 rfl rfl rfl fl_X5_9 rfl (hH.kd ht (by decide)) (rfl) ?_
    refine r_iconst (pc := 16) hX 7 rfl ?_
    refine r_callV (as := [(0, 1)]) (st := []) (K := 8) (pc := 17) hX 8 rfl mo_X8_refuse ml_X5_67 im_X8_refuse se_X8_refuse (c_X8_refuse g ω v ρ Z hH (ρ t 0) hw0_ (1) (by omega)) rfl rfl rfl (hH.kd hw0_ (by decide)) (by rw [hRm]; exact ⟨by decide, by decide⟩) (by rw [hRm]; exact ⟨by decide, by decide⟩) (Nat.le_of_ble_eq_true rfl) (fun o17 v17 ρv17 Zv17 hq17 _ => ?_)
    obtain ⟨rfl, rfl, hfr17, hH17, r17, rfl, hq17⟩ := hq17
    show wp g X F_X5_readClosing 0 0 20 [(2, t)] [(0, r17)] v17 ρ Z
    exact r_zret (pc := 20) hX 9 hQ rfl rfl ⟨by omega, by omega⟩ (Nat.le_refl 0) (Nat.le_refl 0) ⟨rfl, rfl, (FrW.rf).tr hfr17 (by decide), hH17, r17, rfl, (by omega)⟩
set_option maxHeartbeats 4000000 in
set_option maxRecDepth 100000 in
theorem c_X5_readNewName (g : Gp) (ω : Rw) (v ρ : Mv) (Z : Mz) (hH : HT ω v ρ Z) (t : Int) (ht : ω t = 4)  : Ok g 7 0 0 F_X5_readNewName [(2, t)] v ρ Z (fun o9 v' ρ' Z' => ρ = ρ' ∧ Z = Z' ∧ FrW ω [2] v v' ∧ HT ω v' ρ Z ∧ ∃ r : Int, o9 = some (0, r) ∧ (0 ≤ r ∧ r ≤ 1)) := by
  refine Ok.of mo_X5_readNewName (Nat.le_of_ble_eq_true rfl) ?_
  intro X hX hRm hxn hQ
  show wp g X F_X5_readNewName 0 0 0 [(2, t)] [] v ρ Z
  refine t_getR (q := (ρ t 0)) (pc := 0) hX 0 rfl rfl rfl fl_X5_9 rfl (hH.kd ht (by decide)) (rfl) ?_
  have hw0_ : ω (ρ t 0) = 2 := hH.rf ht (by decide) rfl
  refine r_callV (as := []) (st := []) (K := 8) (pc := 4) hX 2 rfl mo_X8_advance ml_X5_35 im_X8_advance se_X8_advance (c_X8_advance g ω v ρ Z hH (ρ t 0) hw0_ ) rfl rfl rfl (hH.kd hw0_ (by decide)) (by rw [hRm]; exact ⟨by decide, by decide⟩) (by rw [hRm]; exact ⟨by decide, by decide⟩) (Nat.le_of_ble_eq_true rfl) (fun o4 v4 ρv4 Zv4 hq4 _ => ?_)
  obtain ⟨rfl, rfl, hfr4, hH4, rfl, hq4⟩ := hq4
  show wp g X F_X5_readNewName 0 0 7 [(2, t)] [] v4 ρ Z
  refine t_getR (q := (ρ t 0)) (pc := 7) hX 3 rfl rfl rfl fl_X5_9 rfl (hH4.kd ht (by decide)) (rfl) ?_
  refine r_callV (as := []) (st := []) (K := 8) (pc := 11) hX 5 rfl mo_X8_isName ml_X5_106 im_X8_isName se_X8_isName (c_X8_isName g ω v4 ρ Z hH4 (ρ t 0) hw0_ ) rfl rfl rfl (hH4.kd hw0_ (by decide)) (by rw [hRm]; exact ⟨by decide, by decide⟩) (by rw [hRm]; exact ⟨by decide, by decide⟩) (Nat.le_of_ble_eq_true rfl) (fun o11 v11 ρv11 Zv11 hq11 _ => ?_)
  obtain ⟨rfl, rfl, rfl, r11, rfl, hq11⟩ := hq11
  show wp g X F_X5_readNewName 0 0 14 [(2, t)] [(0, r11)] v4 ρ Z
  first | refine r_if_ne (pc := 14) hX 6 (tgt := 26) rfl (by decide) (⟨by omega, by omega⟩) (fun h14 => ?_) (fun h14 => ?_) | refine r_if_ne_any (pc := 14) hX 6 (tgt := 26) rfl (by decide) ?_ ?_
  · refine t_getR (q := (ρ t 1)) (pc := 26) hX 12 rfl rfl rfl fl_X5_18 rfl (hH4.kd ht (by decide)) (rfl) ?_
    have hw26_ : ω (ρ t 1) = 5 := hH.rf ht (by decide) rfl
    refine t_getR (q := (ρ t 0)) (pc := 30) hX 14 rfl rfl rfl fl_X5_9 rfl (hH4.kd ht (by decide)) (rfl) ?_
    refine e_getL (y := (v4 (ρ t 0) 8)) (pc := 34) hX 16 rfl fl_X5_91 rfl (hH4.kd hw0_ (by decide)) (rfl) ?_
    refine r_callV (as := [(1, (v4 (ρ t 0) 8))]) (st := []) (K := 4) (pc := 37) hX 17 rfl mo_X4_tells ml_X5_155 im_X4_tells se_X4_tells (c_X4_tells g ω v4 ρ Z hH4 (ρ t 1) hw26_ ((v4 (ρ t 0) 8)) ) rfl rfl rfl (hH4.kd hw26_ (by decide)) (by rw [hRm]; exact ⟨by decide, by decide⟩) (by rw [hRm]; exact ⟨by decide, by decide⟩) (Nat.le_of_ble_eq_true rfl) (fun o37 v37 ρv37 Zv37 hq37 _ => ?_)
    obtain ⟨rfl, rfl, rfl, r37, rfl, hq37⟩ := hq37
    show wp g X F_X5_readNewName 0 0 40 [(2, t)] [(0, r37)] v4 ρ Z
    first | refine r_if_eq (pc := 40) hX 18 (tgt := 54) rfl (by decide) (⟨by omega, by omega⟩) (fun h40 => ?_) (fun h40 => ?_) | refine r_if_eq_any (pc := 40) hX 18 (tgt := 54) rfl (by decide) ?_ ?_
    · refine r_iconst (pc := 54) hX 24 rfl ?_
      refine r_goto (pc := 55) hX 25 (tgt := 59) rfl (by decide) ?_
      exact r_zret (pc := 59) hX 27 hQ rfl rfl ⟨by omega, by omega⟩ (Nat.le_refl 0) (Nat.le_refl 0) ⟨rfl, rfl, (FrW.rf).tr hfr4 (by decide), hH4, 1, rfl, (by omega)⟩
    · refine t_getR (q := (ρ t 0)) (pc := 43) hX 19 rfl rfl rfl fl_X5_9 rfl (hH4.kd ht (by decide)) (rfl) ?_
      refine r_iconst (pc := 47) hX 21 rfl ?_
      refine r_callV (as := [(0, 3)]) (st := []) (K := 8) (pc := 48) hX 22 rfl mo_X8_refuse ml_X5_67 im_X8_refuse se_X8_refuse (c_X8_refuse g ω v4 ρ Z hH4 (ρ t 0) hw0_ (3) (by omega)) rfl rfl rfl (hH4.kd hw0_ (by decide)) (by rw [hRm]; exact ⟨by decide, by decide⟩) (by rw [hRm]; exact ⟨by decide, by decide⟩) (Nat.le_of_ble_eq_true rfl) (fun o48 v48 ρv48 Zv48 hq48 _ => ?_)
      obtain ⟨rfl, rfl, hfr48, hH48, r48, rfl, hq48⟩ := hq48
      show wp g X F_X5_readNewName 0 0 51 [(2, t)] [(0, r48)] v48 ρ Z
      first | refine r_if_eq (pc := 51) hX 23 (tgt := 58) rfl (by decide) (⟨by omega, by omega⟩) (fun h51 => ?_) (fun h51 => ?_) | refine r_if_eq_any (pc := 51) hX 23 (tgt := 58) rfl (by decide) ?_ ?_
      · refine r_iconst (pc := 58) hX 26 rfl ?_
        exact r_zret (pc := 59) hX 27 hQ rfl rfl ⟨by omega, by omega⟩ (Nat.le_refl 0) (Nat.le_refl 0) ⟨rfl, rfl, ((FrW.rf).tr hfr4 (by decide)).tr hfr48 (by decide), hH48, 0, rfl, (by omega)⟩
      · refine r_iconst (pc := 54) hX 24 rfl ?_
        refine r_goto (pc := 55) hX 25 (tgt := 59) rfl (by decide) ?_
        exact r_zret (pc := 59) hX 27 hQ rfl rfl ⟨by omega, by omega⟩ (Nat.le_refl 0) (Nat.le_refl 0) ⟨rfl, rfl, ((FrW.rf).tr hfr4 (by decide)).tr hfr48 (by decide), hH48, 1, rfl, (by omega)⟩
  · refine t_getR (q := (ρ t 0)) (pc := 17) hX 7 rfl rfl rfl fl_X5_9 rfl (hH4.kd ht (by decide)) (rfl) ?_
    refine r_iconst (pc := 21) hX 9 rfl ?_
    refine r_callV (as := [(0, 1)]) (st := []) (K := 8) (pc := 22) hX 10 rfl mo_X8_refuse ml_X5_67 im_X8_refuse se_X8_refuse (c_X8_refuse g ω v4 ρ Z hH4 (ρ t 0) hw0_ (1) (by omega)) rfl rfl rfl (hH4.kd hw0_ (by decide)) (by rw [hRm]; exact ⟨by decide, by decide⟩) (by rw [hRm]; exact ⟨by decide, by decide⟩) (Nat.le_of_ble_eq_true rfl) (fun o22 v22 ρv22 Zv22 hq22 _ => ?_)
    obtain ⟨rfl, rfl, hfr22, hH22, r22, rfl, hq22⟩ := hq22
    show wp g X F_X5_readNewName 0 0 25 [(2, t)] [(0, r22)] v22 ρ Z
    exact r_zret (pc := 25) hX 11 hQ rfl rfl ⟨by omega, by omega⟩ (Nat.le_refl 0) (Nat.le_refl 0) ⟨rfl, rfl, ((FrW.rf).tr hfr4 (by decide)).tr hfr22 (by decide), hH22, r22, rfl, (by omega)⟩
set_option maxHeartbeats 4000000 in
set_option maxRecDepth 100000 in
theorem c_X5_readNumber (g : Gp) (ω : Rw) (v ρ : Mv) (Z : Mz) (hH : HT ω v ρ Z) (t : Int) (ht : ω t = 4) (lo : Int) (hi : Int) (hlor : inR lo) (hhir : inR hi) : Ok g 7 0 0 F_X5_readNumber [(2, t), (0, lo), (0, hi)] v ρ Z (fun o9 v' ρ' Z' => ρ = ρ' ∧ Z = Z' ∧ FrW ω [2] v v' ∧ HT ω v' ρ Z ∧ ∃ r : Int, o9 = some (0, r) ∧ (0 ≤ r ∧ r ≤ 1) ∧ ((r = 1 → lo ≤ v' (ρ t 0) 6 ∧ v' (ρ t 0) 6 ≤ hi))) := by
  refine Ok.of mo_X5_readNumber (Nat.le_of_ble_eq_true rfl) ?_
  intro X hX hRm hxn hQ
  show wp g X F_X5_readNumber 0 0 0 [(2, t), (0, lo), (0, hi)] [] v ρ Z
  refine t_getR (q := (ρ t 0)) (pc := 0) hX 0 rfl rfl rfl fl_X5_9 rfl (hH.kd ht (by decide)) (rfl) ?_
  have hw0_ : ω (ρ t 0) = 2 := hH.rf ht (by decide) rfl
  refine r_callV (as := []) (st := []) (K := 8) (pc := 4) hX 2 rfl mo_X8_advance ml_X5_35 im_X8_advance se_X8_advance (c_X8_advance g ω v ρ Z hH (ρ t 0) hw0_ ) rfl rfl rfl (hH.kd hw0_ (by decide)) (by rw [hRm]; exact ⟨by decide, by decide⟩) (by rw [hRm]; exact ⟨by decide, by decide⟩) (Nat.le_of_ble_eq_true rfl) (fun o4 v4 ρv4 Zv4 hq4 _ => ?_)
  obtain ⟨rfl, rfl, hfr4, hH4, rfl, hq4⟩ := hq4
  show wp g X F_X5_readNumber 0 0 7 [(2, t), (0, lo), (0, hi)] [] v4 ρ Z
  refine t_getR (q := (ρ t 0)) (pc := 7) hX 3 rfl rfl rfl fl_X5_9 rfl (hH4.kd ht (by decide)) (rfl) ?_
  refine r_callV (as := []) (st := []) (K := 8) (pc := 11) hX 5 rfl mo_X8_isNumber ml_X5_159 im_X8_isNumber se_X8_isNumber (c_X8_isNumber g ω v4 ρ Z hH4 (ρ t 0) hw0_ ) rfl rfl rfl (hH4.kd hw0_ (by decide)) (by rw [hRm]; exact ⟨by decide, by decide⟩) (by rw [hRm]; exact ⟨by decide, by decide⟩) (Nat.le_of_ble_eq_true rfl) (fun o11 v11 ρv11 Zv11 hq11 _ => ?_)
  obtain ⟨rfl, rfl, rfl, r11, rfl, hq11⟩ := hq11
  show wp g X F_X5_readNumber 0 0 14 [(2, t), (0, lo), (0, hi)] [(0, r11)] v4 ρ Z
  first | refine r_if_ne (pc := 14) hX 6 (tgt := 26) rfl (by decide) (⟨by omega, by omega⟩) (fun h14 => ?_) (fun h14 => ?_) | refine r_if_ne_any (pc := 14) hX 6 (tgt := 26) rfl (by decide) ?_ ?_
  · refine t_getR (q := (ρ t 0)) (pc := 26) hX 12 rfl rfl rfl fl_X5_9 rfl (hH4.kd ht (by decide)) (rfl) ?_
    refine e_getI (y := (v4 (ρ t 0) 6)) (pc := 30) hX 14 rfl fl_X5_103 rfl (hH4.kd hw0_ (by decide)) (rfl) ?_
    have hb30 : (-2147483648) ≤ (v4 (ρ t 0) 6) ∧ (v4 (ρ t 0) 6) ≤ 2147483647 := hH4.rg hw0_ (by decide) rfl
    refine r_iload_n (pc := 33) hX 15 rfl rfl ?_
    have L48 : wp g X F_X5_readNumber 0 0 48 [(2, t), (0, lo), (0, hi)] [] v4 ρ Z := by
      refine t_getR (q := (ρ t 0)) (pc := 48) hX 22 rfl rfl rfl fl_X5_9 rfl (hH4.kd ht (by decide)) (rfl) ?_
      refine r_iconst (pc := 52) hX 24 rfl ?_
      refine r_callV (as := [(0, 2)]) (st := []) (K := 8) (pc := 53) hX 25 rfl mo_X8_refuse ml_X5_67 im_X8_refuse se_X8_refuse (c_X8_refuse g ω v4 ρ Z hH4 (ρ t 0) hw0_ (2) (by omega)) rfl rfl rfl (hH4.kd hw0_ (by decide)) (by rw [hRm]; exact ⟨by decide, by decide⟩) (by rw [hRm]; exact ⟨by decide, by decide⟩) (Nat.le_of_ble_eq_true rfl) (fun o53 v53 ρv53 Zv53 hq53 _ => ?_)
      obtain ⟨rfl, rfl, hfr53, hH53, r53, rfl, hq53⟩ := hq53
      show wp g X F_X5_readNumber 0 0 56 [(2, t), (0, lo), (0, hi)] [(0, r53)] v53 ρ Z
      first | refine r_if_eq (pc := 56) hX 26 (tgt := 63) rfl (by decide) (⟨by omega, by omega⟩) (fun h56 => ?_) (fun h56 => ?_) | refine r_if_eq_any (pc := 56) hX 26 (tgt := 63) rfl (by decide) ?_ ?_
      · refine r_iconst (pc := 63) hX 29 rfl ?_
        exact r_zret (pc := 64) hX 30 hQ rfl rfl ⟨by omega, by omega⟩ (Nat.le_refl 0) (Nat.le_refl 0) ⟨rfl, rfl, ((FrW.rf).tr hfr4 (by decide)).tr hfr53 (by decide), hH53, 0, rfl, (by omega), (by omega)⟩
      · refine r_iconst (pc := 59) hX 27 rfl ?_
        refine r_goto (pc := 60) hX 28 (tgt := 64) rfl (by decide) ?_
        exact r_zret (pc := 64) hX 30 hQ rfl rfl ⟨by omega, by omega⟩ (Nat.le_refl 0) (Nat.le_refl 0) ⟨rfl, rfl, ((FrW.rf).tr hfr4 (by decide)).tr hfr53 (by decide), hH53, 1, rfl, (by omega), (by omega)⟩
    first | refine r_icmp_lt (pc := 34) hX 16 (tgt := 48) rfl (by decide) (⟨by omega, by omega⟩) (⟨by omega, by omega⟩) (fun h34 => ?_) (fun h34 => ?_) | refine r_icmp_lt_any (pc := 34) hX 16 (tgt := 48) rfl (by decide) ?_ ?_
    · exact (L48   )
    · refine t_getR (q := (ρ t 0)) (pc := 37) hX 17 rfl rfl rfl fl_X5_9 rfl (hH4.kd ht (by decide)) (rfl) ?_
      refine e_getI (y := (v4 (ρ t 0) 6)) (pc := 41) hX 19 rfl fl_X5_103 rfl (hH4.kd hw0_ (by decide)) (rfl) ?_
      refine r_iload_n (pc := 44) hX 20 rfl rfl ?_
      first | refine r_icmp_le (pc := 45) hX 21 (tgt := 59) rfl (by decide) (⟨by omega, by omega⟩) (⟨by omega, by omega⟩) (fun h45 => ?_) (fun h45 => ?_) | refine r_icmp_le_any (pc := 45) hX 21 (tgt := 59) rfl (by decide) ?_ ?_
      · refine r_iconst (pc := 59) hX 27 rfl ?_
        refine r_goto (pc := 60) hX 28 (tgt := 64) rfl (by decide) ?_
        exact r_zret (pc := 64) hX 30 hQ rfl rfl ⟨by omega, by omega⟩ (Nat.le_refl 0) (Nat.le_refl 0) ⟨rfl, rfl, (FrW.rf).tr hfr4 (by decide), hH4, 1, rfl, (by omega), (by omega)⟩
      · exact (L48   )
  · refine t_getR (q := (ρ t 0)) (pc := 17) hX 7 rfl rfl rfl fl_X5_9 rfl (hH4.kd ht (by decide)) (rfl) ?_
    refine r_iconst (pc := 21) hX 9 rfl ?_
    refine r_callV (as := [(0, 1)]) (st := []) (K := 8) (pc := 22) hX 10 rfl mo_X8_refuse ml_X5_67 im_X8_refuse se_X8_refuse (c_X8_refuse g ω v4 ρ Z hH4 (ρ t 0) hw0_ (1) (by omega)) rfl rfl rfl (hH4.kd hw0_ (by decide)) (by rw [hRm]; exact ⟨by decide, by decide⟩) (by rw [hRm]; exact ⟨by decide, by decide⟩) (Nat.le_of_ble_eq_true rfl) (fun o22 v22 ρv22 Zv22 hq22 _ => ?_)
    obtain ⟨rfl, rfl, hfr22, hH22, r22, rfl, hq22⟩ := hq22
    show wp g X F_X5_readNumber 0 0 25 [(2, t), (0, lo), (0, hi)] [(0, r22)] v22 ρ Z
    exact r_zret (pc := 25) hX 11 hQ rfl rfl ⟨by omega, by omega⟩ (Nat.le_refl 0) (Nat.le_refl 0) ⟨rfl, rfl, ((FrW.rf).tr hfr4 (by decide)).tr hfr22 (by decide), hH22, r22, rfl, (by omega), (by omega)⟩
set_option maxHeartbeats 4000000 in
set_option maxRecDepth 100000 in
theorem c_X5_readColour (g : Gp) (ω : Rw) (v ρ : Mv) (Z : Mz) (hH : HT ω v ρ Z) (t : Int) (ht : ω t = 4)  : Ok g 8 0 0 F_X5_readColour [(2, t)] v ρ Z (fun o9 v' ρ' Z' => ρ = ρ' ∧ Z = Z' ∧ FrW ω [2, 5, 6, 9] v v' ∧ HT ω v' ρ Z ∧ ∃ r : Int, o9 = some (0, r) ∧ (0 ≤ r ∧ r ≤ 1)) := by
  refine Ok.of mo_X5_readColour (Nat.le_of_ble_eq_true rfl) ?_
  intro X hX hRm hxn hQ
  show wp g X F_X5_readColour 0 0 0 [(2, t)] [] v ρ Z
  have hw0 : ω (ρ t 0) = 2 := hH.rf ht (by decide) rfl
  have hwr : ω (ρ t 1) = 5 := hH.rf ht (by decide) rfl
  have hg8 : 0 ≤ v (ρ t 1) 8 ∧ v (ρ t 1) 8 ≤ 4 := hH.rg hwr (by decide) rfl
  have hg9 : 0 ≤ v (ρ t 1) 9 ∧ v (ρ t 1) 9 ≤ 3 := hH.rg hwr (by decide) rfl
  have hg10 : 0 ≤ v (ρ t 1) 10 ∧ v (ρ t 1) 10 ≤ 3 := hH.rg hwr (by decide) rfl
  refine t_getR (q := (ρ t 1)) (pc := 0) hX 0 rfl rfl rfl fl_X5_18 rfl (hH.kd ht (by decide)) (rfl) ?_
  have hw0_ : ω (ρ t 1) = 5 := hH.rf ht (by decide) rfl
  refine e_getI (y := (v (ρ t 1) 8)) (pc := 4) hX 2 rfl fl_X5_81 rfl (hH.kd hw0_ (by decide)) (rfl) ?_
  have hb4 : 0 ≤ (v (ρ t 1) 8) ∧ (v (ρ t 1) 8) ≤ 4 := hH.rg hw0_ (by decide) rfl
  refine r_iconst (pc := 7) hX 3 rfl ?_
  first | refine r_icmp_lt (pc := 8) hX 4 (tgt := 20) rfl (by decide) (⟨by omega, by omega⟩) (⟨by omega, by omega⟩) (fun h8 => ?_) (fun h8 => ?_) | refine r_icmp_lt_any (pc := 8) hX 4 (tgt := 20) rfl (by decide) ?_ ?_
  · refine r_aload_n (pc := 20) hX 10 rfl rfl ?_
    refine r_callV (as := []) (st := []) (K := 5) (pc := 21) hX 11 rfl mo_X5_readNewName ml_X5_84 im_X5_readNewName se_X5_readNewName (c_X5_readNewName g ω v ρ Z hH t ht ) rfl rfl rfl (hH.kd ht (by decide)) (by rw [hRm]; exact ⟨by decide, by decide⟩) (by rw [hRm]; exact ⟨by decide, by decide⟩) (Nat.le_of_ble_eq_true rfl) (fun o21 v21 ρv21 Zv21 hq21 _ => ?_)
    obtain ⟨rfl, rfl, hfr21, hH21, r21, rfl, hq21⟩ := hq21
    show wp g X F_X5_readColour 0 0 24 [(2, t)] [(0, r21)] v21 ρ Z
    first | refine r_if_ne (pc := 24) hX 12 (tgt := 29) rfl (by decide) (⟨by omega, by omega⟩) (fun h24 => ?_) (fun h24 => ?_) | refine r_if_ne_any (pc := 24) hX 12 (tgt := 29) rfl (by decide) ?_ ?_
    · refine t_getR (q := (ρ t 1)) (pc := 29) hX 15 rfl rfl rfl fl_X5_18 rfl (hH21.kd ht (by decide)) (rfl) ?_
      refine r_getR (q := (ρ (ρ t 1) 0)) (pc := 33) hX 17 rfl fl_X5_87 rfl (hH21.kd hw0_ (by decide)) (rfl) ?_
      have hw33_ : ω (ρ (ρ t 1) 0) = 6 := hH.rf hw0_ (by decide) rfl
      refine t_getR (q := (ρ t 1)) (pc := 36) hX 18 rfl rfl rfl fl_X5_18 rfl (hH21.kd ht (by decide)) (rfl) ?_
      refine e_getI (y := (v (ρ t 1) 8)) (pc := 40) hX 20 rfl fl_X5_81 rfl (hH21.kd hw0_ (by decide)) ((hfr21.at hw0_ (by decide) 8).trans (rfl)) ?_
      refine t_getR (q := (ρ t 0)) (pc := 43) hX 21 rfl rfl rfl fl_X5_9 rfl (hH21.kd ht (by decide)) (rfl) ?_
      have hw43_ : ω (ρ t 0) = 2 := hH.rf ht (by decide) rfl
      refine e_getL (y := (v21 (ρ t 0) 8)) (pc := 47) hX 23 rfl fl_X5_91 rfl (hH21.kd hw43_ (by decide)) (rfl) ?_
      refine e_last (n := 4) (pc := 50) hX 24 rfl (hH21.kd hw33_ (by decide)) (hH21.ln hw33_ (by decide)) (hH21.g4 hw33_ (by decide)) (by omega) (by omega) ?_
      have hH_50 : HT ω (up v21 (ρ (ρ t 1) 0) (v (ρ t 1) 8) (v21 (ρ t 0) 8)) ρ Z := hH21.up0 hw33_ (by decide) rfl
      refine r_aload_n (pc := 51) hX 25 rfl rfl ?_
      refine r_iconst (pc := 52) hX 26 rfl ?_
      refine r_iconst (pc := 53) hX 27 rfl ?_
      refine r_callV (as := [(0, 1), (0, 3)]) (st := []) (K := 5) (pc := 54) hX 28 rfl mo_X5_readNumber ml_X5_95 im_X5_readNumber se_X5_readNumber (c_X5_readNumber g ω (up v21 (ρ (ρ t 1) 0) (v (ρ t 1) 8) (v21 (ρ t 0) 8)) ρ Z hH_50 t ht (1) (3) (by omega) (by omega)) rfl rfl rfl (hH_50.kd ht (by decide)) (by rw [hRm]; exact ⟨by decide, by decide⟩) (by rw [hRm]; exact ⟨by decide, by decide⟩) (Nat.le_of_ble_eq_true rfl) (fun o54 v54 ρv54 Zv54 hq54 _ => ?_)
      obtain ⟨rfl, rfl, hfr54, hH54, r54, rfl, hq54⟩ := hq54
      show wp g X F_X5_readColour 0 0 57 [(2, t)] [(0, r54)] v54 ρ Z
      first | refine r_if_ne (pc := 57) hX 29 (tgt := 62) rfl (by decide) (⟨by omega, by omega⟩) (fun h57 => ?_) (fun h57 => ?_) | refine r_if_ne_any (pc := 57) hX 29 (tgt := 62) rfl (by decide) ?_ ?_
      · refine t_getR (q := (ρ t 1)) (pc := 62) hX 32 rfl rfl rfl fl_X5_18 rfl (hH54.kd ht (by decide)) (rfl) ?_
        refine r_getR (q := (ρ (ρ t 1) 1)) (pc := 66) hX 34 rfl fl_X5_99 rfl (hH54.kd hw0_ (by decide)) (rfl) ?_
        have hw66_ : ω (ρ (ρ t 1) 1) = 9 := hH.rf hw0_ (by decide) rfl
        refine t_getR (q := (ρ t 1)) (pc := 69) hX 35 rfl rfl rfl fl_X5_18 rfl (hH54.kd ht (by decide)) (rfl) ?_
        refine e_getI (y := (v (ρ t 1) 8)) (pc := 73) hX 37 rfl fl_X5_81 rfl (hH54.kd hw0_ (by decide)) ((hfr54.at hw0_ (by decide) 8).trans ((up_r (rne hw0_ hw33_ (by decide))).trans ((hfr21.at hw0_ (by decide) 8).trans (rfl)))) ?_
        refine t_getR (q := (ρ t 0)) (pc := 76) hX 38 rfl rfl rfl fl_X5_9 rfl (hH54.kd ht (by decide)) (rfl) ?_
        refine e_getI (y := (v54 (ρ t 0) 6)) (pc := 80) hX 40 rfl fl_X5_103 rfl (hH54.kd hw43_ (by decide)) (rfl) ?_
        have hb80 : (-2147483648) ≤ (v54 (ρ t 0) 6) ∧ (v54 (ρ t 0) 6) ≤ 2147483647 := hH54.rg hw43_ (by decide) rfl
        refine e_iast (n := 5) (pc := 83) hX 41 rfl (hH54.kd hw66_ (by decide)) (hH54.ln hw66_ (by decide)) (hH54.g4 hw66_ (by decide)) (by omega) (by omega) ?_
        have hH_83 : HT ω (up v54 (ρ (ρ t 1) 1) (v (ρ t 1) 8) (v54 (ρ t 0) 6)) ρ Z := hH54.upR hw66_ (by decide) rfl (by omega) (by omega)
        refine t_getR (q := (ρ t 1)) (pc := 84) hX 42 rfl rfl rfl fl_X5_18 rfl (hH_83.kd ht (by decide)) (rfl) ?_
        refine r_dup (pc := 88) hX 44 rfl (show (2 : Nat) ≠ 1 by decide) ?_
        refine e_getI (y := (v (ρ t 1) 8)) (pc := 89) hX 45 rfl fl_X5_81 rfl (hH_83.kd hw0_ (by decide)) ((up_r (rne hw0_ hw66_ (by decide))).trans ((hfr54.at hw0_ (by decide) 8).trans ((up_r (rne hw0_ hw33_ (by decide))).trans ((hfr21.at hw0_ (by decide) 8).trans (rfl))))) ?_
        refine r_iconst (pc := 92) hX 46 rfl ?_
        refine r_iadd (pc := 93) hX 47 rfl ?_
        refine r_putI (pc := 94) hX 48 rfl fl_X5_81 rfl (fun _ h => by cases h; rfl) (hH_83.kd hw0_ (by decide)) (hH_83.g4 hw0_ (by decide)) ?_
        have hH_94 : HT ω (up (up v54 (ρ (ρ t 1) 1) (v (ρ t 1) 8) (v54 (ρ t 0) 6)) (ρ t 1) 8 ((v (ρ t 1) 8) + 1)) ρ Z := hH_83.upR hw0_ (by decide) rfl (by omega) (by omega)
        show wp g X F_X5_readColour 0 0 97 [(2, t)] [] (up (up v54 (ρ (ρ t 1) 1) (v (ρ t 1) 8) (v54 (ρ t 0) 6)) (ρ t 1) 8 ((v (ρ t 1) 8) + 1)) ρ Z
        refine t_getR (q := (ρ t 0)) (pc := 97) hX 49 rfl rfl rfl fl_X5_9 rfl (hH_94.kd ht (by decide)) (rfl) ?_
        refine r_callV (as := []) (st := []) (K := 8) (pc := 101) hX 51 rfl mo_X8_advance ml_X5_35 im_X8_advance se_X8_advance (c_X8_advance g ω (up (up v54 (ρ (ρ t 1) 1) (v (ρ t 1) 8) (v54 (ρ t 0) 6)) (ρ t 1) 8 ((v (ρ t 1) 8) + 1)) ρ Z hH_94 (ρ t 0) hw43_ ) rfl rfl rfl (hH_94.kd hw43_ (by decide)) (by rw [hRm]; exact ⟨by decide, by decide⟩) (by rw [hRm]; exact ⟨by decide, by decide⟩) (Nat.le_of_ble_eq_true rfl) (fun o101 v101 ρv101 Zv101 hq101 _ => ?_)
        obtain ⟨rfl, rfl, hfr101, hH101, rfl, hq101⟩ := hq101
        try rw [show ((up (up v54 (ρ (ρ t 1) 1) (v (ρ t 1) 8) (v54 (ρ t 0) 6)) (ρ t 1) 8 ((v (ρ t 1) 8) + 1)) (ρ t 0) 1) = (v54 (ρ t 0) 1) from (up_k (by decide)).trans ((up_r (rne hw43_ hw66_ (by decide))).trans (rfl))] at hq101
        show wp g X F_X5_readColour 0 0 104 [(2, t)] [] v101 ρ Z
        refine r_iconst (pc := 104) hX 52 rfl ?_
        exact r_zret (pc := 105) hX 53 hQ rfl rfl ⟨by omega, by omega⟩ (Nat.le_refl 0) (Nat.le_refl 0) ⟨rfl, rfl, ((((((FrW.rf).tr hfr21 (by decide)).up (r := (ρ (ρ t 1) 0)) hw33_ (by decide)).tr hfr54 (by decide)).up (r := (ρ (ρ t 1) 1)) hw66_ (by decide)).up (r := (ρ t 1)) hw0_ (by decide)).tr hfr101 (by decide), hH101, 1, rfl, (by omega)⟩
      · refine r_iconst (pc := 60) hX 30 rfl ?_
        exact r_zret (pc := 61) hX 31 hQ rfl rfl ⟨by omega, by omega⟩ (Nat.le_refl 0) (Nat.le_refl 0) ⟨rfl, rfl, (((FrW.rf).tr hfr21 (by decide)).up (r := (ρ (ρ t 1) 0)) hw33_ (by decide)).tr hfr54 (by decide), hH54, 0, rfl, (by omega)⟩
    · refine r_iconst (pc := 27) hX 13 rfl ?_
      exact r_zret (pc := 28) hX 14 hQ rfl rfl ⟨by omega, by omega⟩ (Nat.le_refl 0) (Nat.le_refl 0) ⟨rfl, rfl, (FrW.rf).tr hfr21 (by decide), hH21, 0, rfl, (by omega)⟩
  · refine t_getR (q := (ρ t 0)) (pc := 11) hX 5 rfl rfl rfl fl_X5_9 rfl (hH.kd ht (by decide)) (rfl) ?_
    have hw11_ : ω (ρ t 0) = 2 := hH.rf ht (by decide) rfl
    refine r_iconst (pc := 15) hX 7 rfl ?_
    refine r_callV (as := [(0, 4)]) (st := []) (K := 8) (pc := 16) hX 8 rfl mo_X8_refuse ml_X5_67 im_X8_refuse se_X8_refuse (c_X8_refuse g ω v ρ Z hH (ρ t 0) hw11_ (4) (by omega)) rfl rfl rfl (hH.kd hw11_ (by decide)) (by rw [hRm]; exact ⟨by decide, by decide⟩) (by rw [hRm]; exact ⟨by decide, by decide⟩) (Nat.le_of_ble_eq_true rfl) (fun o16 v16 ρv16 Zv16 hq16 _ => ?_)
    obtain ⟨rfl, rfl, hfr16, hH16, r16, rfl, hq16⟩ := hq16
    show wp g X F_X5_readColour 0 0 19 [(2, t)] [(0, r16)] v16 ρ Z
    exact r_zret (pc := 19) hX 9 hQ rfl rfl ⟨by omega, by omega⟩ (Nat.le_refl 0) (Nat.le_refl 0) ⟨rfl, rfl, (FrW.rf).tr hfr16 (by decide), hH16, r16, rfl, (by omega)⟩
set_option maxHeartbeats 4000000 in
set_option maxRecDepth 100000 in
theorem c_X5_readEnds (g : Gp) (ω : Rw) (v ρ : Mv) (Z : Mz) (hH : HT ω v ρ Z) (t : Int) (ht : ω t = 4)  : Ok g 7 0 0 F_X5_readEnds [(2, t)] v ρ Z (fun o9 v' ρ' Z' => ρ = ρ' ∧ Z = Z' ∧ FrW ω [2, 10] v v' ∧ HT ω v' ρ Z ∧ ∃ r : Int, o9 = some (0, r) ∧ (0 ≤ r ∧ r ≤ 1)) := by
  refine Ok.of mo_X5_readEnds (Nat.le_of_ble_eq_true rfl) ?_
  intro X hX hRm hxn hQ
  show wp g X F_X5_readEnds 0 0 0 [(2, t), (3, 0)] [] v ρ Z
  have hw0 : ω (ρ t 0) = 2 := hH.rf ht (by decide) rfl
  have hwr : ω (ρ t 1) = 5 := hH.rf ht (by decide) rfl
  have hg8 : 0 ≤ v (ρ t 1) 8 ∧ v (ρ t 1) 8 ≤ 4 := hH.rg hwr (by decide) rfl
  have hg9 : 0 ≤ v (ρ t 1) 9 ∧ v (ρ t 1) 9 ≤ 3 := hH.rg hwr (by decide) rfl
  have hg10 : 0 ≤ v (ρ t 1) 10 ∧ v (ρ t 1) 10 ≤ 3 := hH.rg hwr (by decide) rfl
  refine t_getR (q := (ρ t 0)) (pc := 0) hX 0 rfl rfl rfl fl_X5_9 rfl (hH.kd ht (by decide)) (rfl) ?_
  have hw0_ : ω (ρ t 0) = 2 := hH.rf ht (by decide) rfl
  refine r_callV (as := []) (st := []) (K := 8) (pc := 4) hX 2 rfl mo_X8_advance ml_X5_35 im_X8_advance se_X8_advance (c_X8_advance g ω v ρ Z hH (ρ t 0) hw0_ ) rfl rfl rfl (hH.kd hw0_ (by decide)) (by rw [hRm]; exact ⟨by decide, by decide⟩) (by rw [hRm]; exact ⟨by decide, by decide⟩) (Nat.le_of_ble_eq_true rfl) (fun o4 v4 ρv4 Zv4 hq4 _ => ?_)
  obtain ⟨rfl, rfl, hfr4, hH4, rfl, hq4⟩ := hq4
  show wp g X F_X5_readEnds 0 0 7 [(2, t), (3, 0)] [] v4 ρ Z
  refine t_getR (q := (ρ t 0)) (pc := 7) hX 3 rfl rfl rfl fl_X5_9 rfl (hH4.kd ht (by decide)) (rfl) ?_
  refine r_callV (as := []) (st := []) (K := 8) (pc := 11) hX 5 rfl mo_X8_isName ml_X5_106 im_X8_isName se_X8_isName (c_X8_isName g ω v4 ρ Z hH4 (ρ t 0) hw0_ ) rfl rfl rfl (hH4.kd hw0_ (by decide)) (by rw [hRm]; exact ⟨by decide, by decide⟩) (by rw [hRm]; exact ⟨by decide, by decide⟩) (Nat.le_of_ble_eq_true rfl) (fun o11 v11 ρv11 Zv11 hq11 _ => ?_)
  obtain ⟨rfl, rfl, rfl, r11, rfl, hq11⟩ := hq11
  show wp g X F_X5_readEnds 0 0 14 [(2, t), (3, 0)] [(0, r11)] v4 ρ Z
  first | refine r_if_ne (pc := 14) hX 6 (tgt := 26) rfl (by decide) (⟨by omega, by omega⟩) (fun h14 => ?_) (fun h14 => ?_) | refine r_if_ne_any (pc := 14) hX 6 (tgt := 26) rfl (by decide) ?_ ?_
  · refine t_getR (q := (ρ t 1)) (pc := 26) hX 12 rfl rfl rfl fl_X5_18 rfl (hH4.kd ht (by decide)) (rfl) ?_
    have hw26_ : ω (ρ t 1) = 5 := hH.rf ht (by decide) rfl
    refine t_getR (q := (ρ t 0)) (pc := 30) hX 14 rfl rfl rfl fl_X5_9 rfl (hH4.kd ht (by decide)) (rfl) ?_
    refine e_getL (y := (v4 (ρ t 0) 8)) (pc := 34) hX 16 rfl fl_X5_91 rfl (hH4.kd hw0_ (by decide)) (rfl) ?_
    refine r_callV (as := [(1, (v4 (ρ t 0) 8))]) (st := []) (K := 4) (pc := 37) hX 17 rfl mo_X4_colourNamed ml_X5_109 im_X4_colourNamed se_X4_colourNamed (c_X4_colourNamed g ω v4 ρ Z hH4 (ρ t 1) hw26_ ((v4 (ρ t 0) 8)) ) rfl rfl rfl (hH4.kd hw26_ (by decide)) (by rw [hRm]; exact ⟨by decide, by decide⟩) (by rw [hRm]; exact ⟨by decide, by decide⟩) (Nat.le_of_ble_eq_true rfl) (fun o37 v37 ρv37 Zv37 hq37 _ => ?_)
    obtain ⟨rfl, rfl, rfl, r37, rfl, hq37⟩ := hq37
    try rw [show (v4 (ρ t 1) 8) = (v (ρ t 1) 8) from (hfr4.at hw26_ (by decide) 8).trans (rfl)] at hq37
    show wp g X F_X5_readEnds 0 0 40 [(2, t), (3, 0)] [(0, r37)] v4 ρ Z
    refine r_istore_n (ls' := [(2, t), (0, r37)]) (pc := 40) hX 18 rfl (by decide) rfl ?_
    refine r_iload_n (pc := 41) hX 19 rfl rfl ?_
    refine r_iconst (pc := 42) hX 20 rfl ?_
    have L58 : wp g X F_X5_readEnds 0 0 58 [(2, t), (0, r37)] [] v4 ρ Z := by
      refine t_getR (q := (ρ t 0)) (pc := 58) hX 28 rfl rfl rfl fl_X5_9 rfl (hH4.kd ht (by decide)) (rfl) ?_
      refine r_iconst (pc := 62) hX 30 rfl ?_
      refine r_callV (as := [(0, 3)]) (st := []) (K := 8) (pc := 63) hX 31 rfl mo_X8_refuse ml_X5_67 im_X8_refuse se_X8_refuse (c_X8_refuse g ω v4 ρ Z hH4 (ρ t 0) hw0_ (3) (by omega)) rfl rfl rfl (hH4.kd hw0_ (by decide)) (by rw [hRm]; exact ⟨by decide, by decide⟩) (by rw [hRm]; exact ⟨by decide, by decide⟩) (Nat.le_of_ble_eq_true rfl) (fun o63 v63 ρv63 Zv63 hq63 _ => ?_)
      obtain ⟨rfl, rfl, hfr63, hH63, r63, rfl, hq63⟩ := hq63
      show wp g X F_X5_readEnds 0 0 66 [(2, t), (0, r37)] [(0, r63)] v63 ρ Z
      exact r_zret (pc := 66) hX 32 hQ rfl rfl ⟨by omega, by omega⟩ (Nat.le_refl 0) (Nat.le_refl 0) ⟨rfl, rfl, ((FrW.rf).tr hfr4 (by decide)).tr hfr63 (by decide), hH63, r63, rfl, (by omega)⟩
    first | refine r_icmp_eq (pc := 43) hX 21 (tgt := 58) rfl (by decide) (⟨by omega, by omega⟩) (⟨by omega, by omega⟩) (fun h43 => ?_) (fun h43 => ?_) | refine r_icmp_eq_any (pc := 43) hX 21 (tgt := 58) rfl (by decide) ?_ ?_
    · exact (L58   )
    · refine t_getR (q := (ρ t 1)) (pc := 46) hX 22 rfl rfl rfl fl_X5_18 rfl (hH4.kd ht (by decide)) (rfl) ?_
      refine r_getR (q := (ρ (ρ t 1) 2)) (pc := 50) hX 24 rfl fl_X5_113 rfl (hH4.kd hw26_ (by decide)) (rfl) ?_
      have hw50_ : ω (ρ (ρ t 1) 2) = 10 := hH.rf hw26_ (by decide) rfl
      refine r_iload_n (pc := 53) hX 25 rfl rfl ?_
      refine e_zald (y := (v (ρ (ρ t 1) 2) r37)) (n := 5) (pc := 54) hX 26 rfl (hH4.kd hw50_ (by decide)) (hH4.ln hw50_ (by decide)) (by omega) (by omega) ((hfr4.at hw50_ (by decide) r37).trans (rfl)) (fun hb54a hb54b => ?_)
      first | refine r_if_eq (pc := 55) hX 27 (tgt := 67) rfl (by decide) (⟨by omega, by omega⟩) (fun h55 => ?_) (fun h55 => ?_) | refine r_if_eq_any (pc := 55) hX 27 (tgt := 67) rfl (by decide) ?_ ?_
      · refine t_getR (q := (ρ t 1)) (pc := 67) hX 33 rfl rfl rfl fl_X5_18 rfl (hH4.kd ht (by decide)) (rfl) ?_
        refine r_getR (q := (ρ (ρ t 1) 2)) (pc := 71) hX 35 rfl fl_X5_113 rfl (hH4.kd hw26_ (by decide)) (rfl) ?_
        refine r_iload_n (pc := 74) hX 36 rfl rfl ?_
        refine r_iconst (pc := 75) hX 37 rfl ?_
        refine e_zast (n := 5) (pc := 76) hX 38 rfl (hH4.kd hw50_ (by decide)) (hH4.ln hw50_ (by decide)) (hH4.g4 hw50_ (by decide)) (by omega) (by omega) ⟨by omega, by omega⟩ ?_
        have hH_76 : HT ω (up v4 (ρ (ρ t 1) 2) r37 1) ρ Z := hH4.up0 hw50_ (by decide) rfl
        refine t_getR (q := (ρ t 0)) (pc := 77) hX 39 rfl rfl rfl fl_X5_9 rfl (hH_76.kd ht (by decide)) (rfl) ?_
        refine r_callV (as := []) (st := []) (K := 8) (pc := 81) hX 41 rfl mo_X8_advance ml_X5_35 im_X8_advance se_X8_advance (c_X8_advance g ω (up v4 (ρ (ρ t 1) 2) r37 1) ρ Z hH_76 (ρ t 0) hw0_ ) rfl rfl rfl (hH_76.kd hw0_ (by decide)) (by rw [hRm]; exact ⟨by decide, by decide⟩) (by rw [hRm]; exact ⟨by decide, by decide⟩) (Nat.le_of_ble_eq_true rfl) (fun o81 v81 ρv81 Zv81 hq81 _ => ?_)
        obtain ⟨rfl, rfl, hfr81, hH81, rfl, hq81⟩ := hq81
        try rw [show ((up v4 (ρ (ρ t 1) 2) r37 1) (ρ t 0) 1) = (v4 (ρ t 0) 1) from (up_r (rne hw0_ hw50_ (by decide))).trans (rfl)] at hq81
        show wp g X F_X5_readEnds 0 0 84 [(2, t), (0, r37)] [] v81 ρ Z
        refine r_iconst (pc := 84) hX 42 rfl ?_
        exact r_zret (pc := 85) hX 43 hQ rfl rfl ⟨by omega, by omega⟩ (Nat.le_refl 0) (Nat.le_refl 0) ⟨rfl, rfl, (((FrW.rf).tr hfr4 (by decide)).up (r := (ρ (ρ t 1) 2)) hw50_ (by decide)).tr hfr81 (by decide), hH81, 1, rfl, (by omega)⟩
      · exact (L58   )
  · refine t_getR (q := (ρ t 0)) (pc := 17) hX 7 rfl rfl rfl fl_X5_9 rfl (hH4.kd ht (by decide)) (rfl) ?_
    refine r_iconst (pc := 21) hX 9 rfl ?_
    refine r_callV (as := [(0, 1)]) (st := []) (K := 8) (pc := 22) hX 10 rfl mo_X8_refuse ml_X5_67 im_X8_refuse se_X8_refuse (c_X8_refuse g ω v4 ρ Z hH4 (ρ t 0) hw0_ (1) (by omega)) rfl rfl rfl (hH4.kd hw0_ (by decide)) (by rw [hRm]; exact ⟨by decide, by decide⟩) (by rw [hRm]; exact ⟨by decide, by decide⟩) (Nat.le_of_ble_eq_true rfl) (fun o22 v22 ρv22 Zv22 hq22 _ => ?_)
    obtain ⟨rfl, rfl, hfr22, hH22, r22, rfl, hq22⟩ := hq22
    show wp g X F_X5_readEnds 0 0 25 [(2, t), (3, 0)] [(0, r22)] v22 ρ Z
    exact r_zret (pc := 25) hX 11 hQ rfl rfl ⟨by omega, by omega⟩ (Nat.le_refl 0) (Nat.le_refl 0) ⟨rfl, rfl, ((FrW.rf).tr hfr4 (by decide)).tr hfr22 (by decide), hH22, r22, rfl, (by omega)⟩
set_option maxHeartbeats 4000000 in
set_option maxRecDepth 100000 in
theorem c_X5_readShare (g : Gp) (ω : Rw) (v ρ : Mv) (Z : Mz) (hH : HT ω v ρ Z) (t : Int) (ht : ω t = 4) (a : Int) (ha : ω a = 13)  : Ok g 8 0 0 F_X5_readShare [(2, t), (2, a)] v ρ Z (fun o9 v' ρ' Z' => ρ = ρ' ∧ Z = Z' ∧ FrW ω [2, 13] v v' ∧ HT ω v' ρ Z ∧ ∃ r : Int, o9 = some (0, r) ∧ (0 ≤ r ∧ r ≤ 1)) := by
  refine Ok.of mo_X5_readShare (Nat.le_of_ble_eq_true rfl) ?_
  intro X hX hRm hxn hQ
  show wp g X F_X5_readShare 0 0 0 [(2, t), (2, a), (3, 0)] [] v ρ Z
  have hw0 : ω (ρ t 0) = 2 := hH.rf ht (by decide) rfl
  have hwr : ω (ρ t 1) = 5 := hH.rf ht (by decide) rfl
  have hg8 : 0 ≤ v (ρ t 1) 8 ∧ v (ρ t 1) 8 ≤ 4 := hH.rg hwr (by decide) rfl
  have hg9 : 0 ≤ v (ρ t 1) 9 ∧ v (ρ t 1) 9 ≤ 3 := hH.rg hwr (by decide) rfl
  have hg10 : 0 ≤ v (ρ t 1) 10 ∧ v (ρ t 1) 10 ≤ 3 := hH.rg hwr (by decide) rfl
  have hga : ∀ k, 0 ≤ v a k ∧ v a k ≤ 12 := fun k => hH.rg ha (by decide) rfl
  have hga4 := hga 4
  refine t_getR (q := (ρ t 0)) (pc := 0) hX 0 rfl rfl rfl fl_X5_9 rfl (hH.kd ht (by decide)) (rfl) ?_
  have hw0_ : ω (ρ t 0) = 2 := hH.rf ht (by decide) rfl
  refine r_callV (as := []) (st := []) (K := 8) (pc := 4) hX 2 rfl mo_X8_isName ml_X5_106 im_X8_isName se_X8_isName (c_X8_isName g ω v ρ Z hH (ρ t 0) hw0_ ) rfl rfl rfl (hH.kd hw0_ (by decide)) (by rw [hRm]; exact ⟨by decide, by decide⟩) (by rw [hRm]; exact ⟨by decide, by decide⟩) (Nat.le_of_ble_eq_true rfl) (fun o4 v4 ρv4 Zv4 hq4 _ => ?_)
  obtain ⟨rfl, rfl, rfl, r4, rfl, hq4⟩ := hq4
  show wp g X F_X5_readShare 0 0 7 [(2, t), (2, a), (3, 0)] [(0, r4)] v ρ Z
  first | refine r_if_ne (pc := 7) hX 3 (tgt := 19) rfl (by decide) (⟨by omega, by omega⟩) (fun h7 => ?_) (fun h7 => ?_) | refine r_if_ne_any (pc := 7) hX 3 (tgt := 19) rfl (by decide) ?_ ?_
  · refine t_getR (q := (ρ t 1)) (pc := 19) hX 9 rfl rfl rfl fl_X5_18 rfl (hH.kd ht (by decide)) (rfl) ?_
    have hw19_ : ω (ρ t 1) = 5 := hH.rf ht (by decide) rfl
    refine t_getR (q := (ρ t 0)) (pc := 23) hX 11 rfl rfl rfl fl_X5_9 rfl (hH.kd ht (by decide)) (rfl) ?_
    refine e_getL (y := (v (ρ t 0) 8)) (pc := 27) hX 13 rfl fl_X5_91 rfl (hH.kd hw0_ (by decide)) (rfl) ?_
    refine r_callV (as := [(1, (v (ρ t 0) 8))]) (st := []) (K := 4) (pc := 30) hX 14 rfl mo_X4_colourNamed ml_X5_109 im_X4_colourNamed se_X4_colourNamed (c_X4_colourNamed g ω v ρ Z hH (ρ t 1) hw19_ ((v (ρ t 0) 8)) ) rfl rfl rfl (hH.kd hw19_ (by decide)) (by rw [hRm]; exact ⟨by decide, by decide⟩) (by rw [hRm]; exact ⟨by decide, by decide⟩) (Nat.le_of_ble_eq_true rfl) (fun o30 v30 ρv30 Zv30 hq30 _ => ?_)
    obtain ⟨rfl, rfl, rfl, r30, rfl, hq30⟩ := hq30
    show wp g X F_X5_readShare 0 0 33 [(2, t), (2, a), (3, 0)] [(0, r30)] v ρ Z
    refine r_istore_n (ls' := [(2, t), (2, a), (0, r30)]) (pc := 33) hX 15 rfl (by decide) rfl ?_
    refine r_iload_n (pc := 34) hX 16 rfl rfl ?_
    refine r_iconst (pc := 35) hX 17 rfl ?_
    have L45 : wp g X F_X5_readShare 0 0 45 [(2, t), (2, a), (0, r30)] [] v ρ Z := by
      refine t_getR (q := (ρ t 0)) (pc := 45) hX 23 rfl rfl rfl fl_X5_9 rfl (hH.kd ht (by decide)) (rfl) ?_
      refine r_iconst (pc := 49) hX 25 rfl ?_
      refine r_callV (as := [(0, 3)]) (st := []) (K := 8) (pc := 50) hX 26 rfl mo_X8_refuse ml_X5_67 im_X8_refuse se_X8_refuse (c_X8_refuse g ω v ρ Z hH (ρ t 0) hw0_ (3) (by omega)) rfl rfl rfl (hH.kd hw0_ (by decide)) (by rw [hRm]; exact ⟨by decide, by decide⟩) (by rw [hRm]; exact ⟨by decide, by decide⟩) (Nat.le_of_ble_eq_true rfl) (fun o50 v50 ρv50 Zv50 hq50 _ => ?_)
      obtain ⟨rfl, rfl, hfr50, hH50, r50, rfl, hq50⟩ := hq50
      show wp g X F_X5_readShare 0 0 53 [(2, t), (2, a), (0, r30)] [(0, r50)] v50 ρ Z
      exact r_zret (pc := 53) hX 27 hQ rfl rfl ⟨by omega, by omega⟩ (Nat.le_refl 0) (Nat.le_refl 0) ⟨rfl, rfl, (FrW.rf).tr hfr50 (by decide), hH50, r50, rfl, (by omega)⟩
    first | refine r_icmp_eq (pc := 36) hX 18 (tgt := 45) rfl (by decide) (⟨by omega, by omega⟩) (⟨by omega, by omega⟩) (fun h36 => ?_) (fun h36 => ?_) | refine r_icmp_eq_any (pc := 36) hX 18 (tgt := 45) rfl (by decide) ?_ ?_
    · exact (L45   )
    · refine r_aload_n (pc := 39) hX 19 rfl rfl ?_
      refine r_iload_n (pc := 40) hX 20 rfl rfl ?_
      refine e_iald (y := (v a r30)) (n := 5) (pc := 41) hX 21 rfl (hH.kd ha (by decide)) (hH.ln ha (by decide)) (by omega) (by omega) (rfl) ?_
      have hb41 : 0 ≤ (v a r30) ∧ (v a r30) ≤ 12 := hH.rg ha (by decide) rfl
      first | refine r_if_le (pc := 42) hX 22 (tgt := 54) rfl (by decide) (⟨by omega, by omega⟩) (fun h42 => ?_) (fun h42 => ?_) | refine r_if_le_any (pc := 42) hX 22 (tgt := 54) rfl (by decide) ?_ ?_
      · refine r_aload_n (pc := 54) hX 28 rfl rfl ?_
        refine r_iconst (pc := 55) hX 29 rfl ?_
        refine r_aload_n (pc := 56) hX 30 rfl rfl ?_
        refine r_iconst (pc := 57) hX 31 rfl ?_
        refine e_iald (y := (v a 4)) (n := 5) (pc := 58) hX 32 rfl (hH.kd ha (by decide)) (hH.ln ha (by decide)) (by omega) (by omega) (rfl) ?_
        have hb58 : 0 ≤ (v a 4) ∧ (v a 4) ≤ 12 := hH.rg ha (by decide) rfl
        refine r_callV (as := [(0, 1), (0, (v a 4))]) (st := []) (K := 5) (pc := 59) hX 33 rfl mo_X5_readNumber ml_X5_95 im_X5_readNumber se_X5_readNumber (c_X5_readNumber g ω v ρ Z hH t ht (1) ((v a 4)) (by omega) (by omega)) rfl rfl rfl (hH.kd ht (by decide)) (by rw [hRm]; exact ⟨by decide, by decide⟩) (by rw [hRm]; exact ⟨by decide, by decide⟩) (Nat.le_of_ble_eq_true rfl) (fun o59 v59 ρv59 Zv59 hq59 _ => ?_)
        obtain ⟨rfl, rfl, hfr59, hH59, r59, rfl, hq59⟩ := hq59
        show wp g X F_X5_readShare 0 0 62 [(2, t), (2, a), (0, r30)] [(0, r59)] v59 ρ Z
        first | refine r_if_ne (pc := 62) hX 34 (tgt := 67) rfl (by decide) (⟨by omega, by omega⟩) (fun h62 => ?_) (fun h62 => ?_) | refine r_if_ne_any (pc := 62) hX 34 (tgt := 67) rfl (by decide) ?_ ?_
        · refine r_aload_n (pc := 67) hX 37 rfl rfl ?_
          refine r_iload_n (pc := 68) hX 38 rfl rfl ?_
          refine t_getR (q := (ρ t 0)) (pc := 69) hX 39 rfl rfl rfl fl_X5_9 rfl (hH59.kd ht (by decide)) (rfl) ?_
          refine e_getI (y := (v59 (ρ t 0) 6)) (pc := 73) hX 41 rfl fl_X5_103 rfl (hH59.kd hw0_ (by decide)) (rfl) ?_
          have hb73 : (-2147483648) ≤ (v59 (ρ t 0) 6) ∧ (v59 (ρ t 0) 6) ≤ 2147483647 := hH59.rg hw0_ (by decide) rfl
          refine e_iast (n := 5) (pc := 76) hX 42 rfl (hH59.kd ha (by decide)) (hH59.ln ha (by decide)) (hH59.g4 ha (by decide)) (by omega) (by omega) ?_
          have hH_76 : HT ω (up v59 a r30 (v59 (ρ t 0) 6)) ρ Z := hH59.upR ha (by decide) rfl (by omega) (by omega)
          refine r_aload_n (pc := 77) hX 43 rfl rfl ?_
          refine r_iconst (pc := 78) hX 44 rfl ?_
          refine r_dup2i (pc := 79) hX 45 rfl (show (0 : Nat) ≠ 1 by decide) (show (2 : Nat) ≠ 1 by decide) ?_
          refine e_iald (y := (v a 4)) (n := 5) (pc := 80) hX 46 rfl (hH_76.kd ha (by decide)) (hH_76.ln ha (by decide)) (by omega) (by omega) ((up_k (by omega)).trans ((hfr59.at ha (by decide) 4).trans (rfl))) ?_
          refine t_getR (q := (ρ t 0)) (pc := 81) hX 47 rfl rfl rfl fl_X5_9 rfl (hH_76.kd ht (by decide)) (rfl) ?_
          refine e_getI (y := (v59 (ρ t 0) 6)) (pc := 85) hX 49 rfl fl_X5_103 rfl (hH_76.kd hw0_ (by decide)) ((up_r (rne hw0_ ha (by decide))).trans (rfl)) ?_
          refine r_isub (pc := 88) hX 50 rfl ?_
          refine e_iast (n := 5) (pc := 89) hX 51 rfl (hH_76.kd ha (by decide)) (hH_76.ln ha (by decide)) (hH_76.g4 ha (by decide)) (by omega) (by omega) ?_
          have hH_89 : HT ω (up (up v59 a r30 (v59 (ρ t 0) 6)) a 4 ((v a 4) - (v59 (ρ t 0) 6))) ρ Z := hH_76.upR ha (by decide) rfl (by omega) (by omega)
          refine t_getR (q := (ρ t 0)) (pc := 90) hX 52 rfl rfl rfl fl_X5_9 rfl (hH_89.kd ht (by decide)) (rfl) ?_
          refine r_callV (as := []) (st := []) (K := 8) (pc := 94) hX 54 rfl mo_X8_advance ml_X5_35 im_X8_advance se_X8_advance (c_X8_advance g ω (up (up v59 a r30 (v59 (ρ t 0) 6)) a 4 ((v a 4) - (v59 (ρ t 0) 6))) ρ Z hH_89 (ρ t 0) hw0_ ) rfl rfl rfl (hH_89.kd hw0_ (by decide)) (by rw [hRm]; exact ⟨by decide, by decide⟩) (by rw [hRm]; exact ⟨by decide, by decide⟩) (Nat.le_of_ble_eq_true rfl) (fun o94 v94 ρv94 Zv94 hq94 _ => ?_)
          obtain ⟨rfl, rfl, hfr94, hH94, rfl, hq94⟩ := hq94
          try rw [show ((up (up v59 a r30 (v59 (ρ t 0) 6)) a 4 ((v a 4) - (v59 (ρ t 0) 6))) (ρ t 0) 1) = (v59 (ρ t 0) 1) from (up_k (by decide)).trans ((up_r (rne hw0_ ha (by decide))).trans (rfl))] at hq94
          show wp g X F_X5_readShare 0 0 97 [(2, t), (2, a), (0, r30)] [] v94 ρ Z
          refine r_iconst (pc := 97) hX 55 rfl ?_
          exact r_zret (pc := 98) hX 56 hQ rfl rfl ⟨by omega, by omega⟩ (Nat.le_refl 0) (Nat.le_refl 0) ⟨rfl, rfl, ((((FrW.rf).tr hfr59 (by decide)).up (r := a) ha (by decide)).up (r := a) ha (by decide)).tr hfr94 (by decide), hH94, 1, rfl, (by omega)⟩
        · refine r_iconst (pc := 65) hX 35 rfl ?_
          exact r_zret (pc := 66) hX 36 hQ rfl rfl ⟨by omega, by omega⟩ (Nat.le_refl 0) (Nat.le_refl 0) ⟨rfl, rfl, (FrW.rf).tr hfr59 (by decide), hH59, 0, rfl, (by omega)⟩
      · exact (L45   )
  · refine t_getR (q := (ρ t 0)) (pc := 10) hX 4 rfl rfl rfl fl_X5_9 rfl (hH.kd ht (by decide)) (rfl) ?_
    refine r_iconst (pc := 14) hX 6 rfl ?_
    refine r_callV (as := [(0, 1)]) (st := []) (K := 8) (pc := 15) hX 7 rfl mo_X8_refuse ml_X5_67 im_X8_refuse se_X8_refuse (c_X8_refuse g ω v ρ Z hH (ρ t 0) hw0_ (1) (by omega)) rfl rfl rfl (hH.kd hw0_ (by decide)) (by rw [hRm]; exact ⟨by decide, by decide⟩) (by rw [hRm]; exact ⟨by decide, by decide⟩) (Nat.le_of_ble_eq_true rfl) (fun o15 v15 ρv15 Zv15 hq15 _ => ?_)
    obtain ⟨rfl, rfl, hfr15, hH15, r15, rfl, hq15⟩ := hq15
    show wp g X F_X5_readShare 0 0 18 [(2, t), (2, a), (3, 0)] [(0, r15)] v15 ρ Z
    exact r_zret (pc := 18) hX 8 hQ rfl rfl ⟨by omega, by omega⟩ (Nat.le_refl 0) (Nat.le_refl 0) ⟨rfl, rfl, (FrW.rf).tr hfr15 (by decide), hH15, r15, rfl, (by omega)⟩
set_option maxHeartbeats 4000000 in
set_option maxRecDepth 100000 in
theorem c_X5_endLand (g : Gp) (ω : Rw) (v ρ : Mv) (Z : Mz) (hH : HT ω v ρ Z) (t : Int) (ht : ω t = 4) (hl : v (ρ t 1) 9 ≤ 2) : Ok g 2 0 0 F_X5_endLand [(2, t)] v ρ Z (fun o9 v' ρ' Z' => ρ = ρ' ∧ Z = Z' ∧ FrW ω [2, 5] v v' ∧ HT ω v' ρ Z ∧ ∃ r : Int, o9 = some (0, r) ∧ (0 ≤ r ∧ r ≤ 1)) := by
  refine Ok.of mo_X5_endLand (Nat.le_of_ble_eq_true rfl) ?_
  intro X hX hRm hxn hQ
  show wp g X F_X5_endLand 0 0 0 [(2, t)] [] v ρ Z
  have hw0 : ω (ρ t 0) = 2 := hH.rf ht (by decide) rfl
  have hwr : ω (ρ t 1) = 5 := hH.rf ht (by decide) rfl
  have hg8 : 0 ≤ v (ρ t 1) 8 ∧ v (ρ t 1) 8 ≤ 4 := hH.rg hwr (by decide) rfl
  have hg9 : 0 ≤ v (ρ t 1) 9 ∧ v (ρ t 1) 9 ≤ 3 := hH.rg hwr (by decide) rfl
  have hg10 : 0 ≤ v (ρ t 1) 10 ∧ v (ρ t 1) 10 ≤ 3 := hH.rg hwr (by decide) rfl
  refine t_getR (q := (ρ t 0)) (pc := 0) hX 0 rfl rfl rfl fl_X5_9 rfl (hH.kd ht (by decide)) (rfl) ?_
  have hw0_ : ω (ρ t 0) = 2 := hH.rf ht (by decide) rfl
  refine r_callV (as := []) (st := []) (K := 8) (pc := 4) hX 2 rfl mo_X8_isName ml_X5_106 im_X8_isName se_X8_isName (c_X8_isName g ω v ρ Z hH (ρ t 0) hw0_ ) rfl rfl rfl (hH.kd hw0_ (by decide)) (by rw [hRm]; exact ⟨by decide, by decide⟩) (by rw [hRm]; exact ⟨by decide, by decide⟩) (Nat.le_of_ble_eq_true rfl) (fun o4 v4 ρv4 Zv4 hq4 _ => ?_)
  obtain ⟨rfl, rfl, rfl, r4, rfl, hq4⟩ := hq4
  show wp g X F_X5_endLand 0 0 7 [(2, t)] [(0, r4)] v ρ Z
  first | refine r_if_eq (pc := 7) hX 3 (tgt := 19) rfl (by decide) (⟨by omega, by omega⟩) (fun h7 => ?_) (fun h7 => ?_) | refine r_if_eq_any (pc := 7) hX 3 (tgt := 19) rfl (by decide) ?_ ?_
  · refine t_getR (q := (ρ t 1)) (pc := 19) hX 9 rfl rfl rfl fl_X5_18 rfl (hH.kd ht (by decide)) (rfl) ?_
    have hw19_ : ω (ρ t 1) = 5 := hH.rf ht (by decide) rfl
    refine r_dup (pc := 23) hX 11 rfl (show (2 : Nat) ≠ 1 by decide) ?_
    refine e_getI (y := (v (ρ t 1) 9)) (pc := 24) hX 12 rfl fl_X5_117 rfl (hH.kd hw19_ (by decide)) (rfl) ?_
    have hb24 : 0 ≤ (v (ρ t 1) 9) ∧ (v (ρ t 1) 9) ≤ 3 := hH.rg hw19_ (by decide) rfl
    refine r_iconst (pc := 27) hX 13 rfl ?_
    refine r_iadd (pc := 28) hX 14 rfl ?_
    refine r_putI (pc := 29) hX 15 rfl fl_X5_117 rfl (fun _ h => by cases h; rfl) (hH.kd hw19_ (by decide)) (hH.g4 hw19_ (by decide)) ?_
    have hH_29 : HT ω (up v (ρ t 1) 9 ((v (ρ t 1) 9) + 1)) ρ Z := hH.upR hw19_ (by decide) rfl (by omega) (by omega)
    show wp g X F_X5_endLand 0 0 32 [(2, t)] [] (up v (ρ t 1) 9 ((v (ρ t 1) 9) + 1)) ρ Z
    refine r_iconst (pc := 32) hX 16 rfl ?_
    exact r_zret (pc := 33) hX 17 hQ rfl rfl ⟨by omega, by omega⟩ (Nat.le_refl 0) (Nat.le_refl 0) ⟨rfl, rfl, (FrW.rf).up (r := (ρ t 1)) hw19_ (by decide), hH_29, 1, rfl, (by omega)⟩
  · refine t_getR (q := (ρ t 0)) (pc := 10) hX 4 rfl rfl rfl fl_X5_9 rfl (hH.kd ht (by decide)) (rfl) ?_
    refine r_iconst (pc := 14) hX 6 rfl ?_
    refine r_callV (as := [(0, 3)]) (st := []) (K := 8) (pc := 15) hX 7 rfl mo_X8_refuse ml_X5_67 im_X8_refuse se_X8_refuse (c_X8_refuse g ω v ρ Z hH (ρ t 0) hw0_ (3) (by omega)) rfl rfl rfl (hH.kd hw0_ (by decide)) (by rw [hRm]; exact ⟨by decide, by decide⟩) (by rw [hRm]; exact ⟨by decide, by decide⟩) (Nat.le_of_ble_eq_true rfl) (fun o15 v15 ρv15 Zv15 hq15 _ => ?_)
    obtain ⟨rfl, rfl, hfr15, hH15, r15, rfl, hq15⟩ := hq15
    show wp g X F_X5_endLand 0 0 18 [(2, t)] [(0, r15)] v15 ρ Z
    exact r_zret (pc := 18) hX 8 hQ rfl rfl ⟨by omega, by omega⟩ (Nat.le_refl 0) (Nat.le_refl 0) ⟨rfl, rfl, (FrW.rf).tr hfr15 (by decide), hH15, r15, rfl, (by omega)⟩
set_option maxHeartbeats 4000000 in
set_option maxRecDepth 100000 in
theorem c_X5_readLand (g : Gp) (ω : Rw) (v ρ : Mv) (Z : Mz) (hH : HT ω v ρ Z) (t : Int) (ht : ω t = 4)  : Ok g 9 0 0 F_X5_readLand [(2, t)] v ρ Z (fun o9 v' ρ' Z' => ρ = ρ' ∧ Z = Z' ∧ FrW ω [2, 5, 7, 11, 13] v v' ∧ HT ω v' ρ Z ∧ ∃ r : Int, o9 = some (0, r) ∧ (0 ≤ r ∧ r ≤ 1)) := by
  refine Ok.of mo_X5_readLand (Nat.le_of_ble_eq_true rfl) ?_
  intro X hX hRm hxn hQ
  show wp g X F_X5_readLand 0 0 0 [(2, t), (3, 0), (3, 0)] [] v ρ Z
  have hw0 : ω (ρ t 0) = 2 := hH.rf ht (by decide) rfl
  have hwr : ω (ρ t 1) = 5 := hH.rf ht (by decide) rfl
  have hg8 : 0 ≤ v (ρ t 1) 8 ∧ v (ρ t 1) 8 ≤ 4 := hH.rg hwr (by decide) rfl
  have hg9 : 0 ≤ v (ρ t 1) 9 ∧ v (ρ t 1) 9 ≤ 3 := hH.rg hwr (by decide) rfl
  have hg10 : 0 ≤ v (ρ t 1) 10 ∧ v (ρ t 1) 10 ≤ 3 := hH.rg hwr (by decide) rfl
  refine t_getR (q := (ρ t 1)) (pc := 0) hX 0 rfl rfl rfl fl_X5_18 rfl (hH.kd ht (by decide)) (rfl) ?_
  have hw0_ : ω (ρ t 1) = 5 := hH.rf ht (by decide) rfl
  refine e_getI (y := (v (ρ t 1) 9)) (pc := 4) hX 2 rfl fl_X5_117 rfl (hH.kd hw0_ (by decide)) (rfl) ?_
  have hb4 : 0 ≤ (v (ρ t 1) 9) ∧ (v (ρ t 1) 9) ≤ 3 := hH.rg hw0_ (by decide) rfl
  refine r_iconst (pc := 7) hX 3 rfl ?_
  first | refine r_icmp_lt (pc := 8) hX 4 (tgt := 20) rfl (by decide) (⟨by omega, by omega⟩) (⟨by omega, by omega⟩) (fun h8 => ?_) (fun h8 => ?_) | refine r_icmp_lt_any (pc := 8) hX 4 (tgt := 20) rfl (by decide) ?_ ?_
  · refine r_aload_n (pc := 20) hX 10 rfl rfl ?_
    refine r_callV (as := []) (st := []) (K := 5) (pc := 21) hX 11 rfl mo_X5_readNewName ml_X5_84 im_X5_readNewName se_X5_readNewName (c_X5_readNewName g ω v ρ Z hH t ht ) rfl rfl rfl (hH.kd ht (by decide)) (by rw [hRm]; exact ⟨by decide, by decide⟩) (by rw [hRm]; exact ⟨by decide, by decide⟩) (Nat.le_of_ble_eq_true rfl) (fun o21 v21 ρv21 Zv21 hq21 _ => ?_)
    obtain ⟨rfl, rfl, hfr21, hH21, r21, rfl, hq21⟩ := hq21
    show wp g X F_X5_readLand 0 0 24 [(2, t), (3, 0), (3, 0)] [(0, r21)] v21 ρ Z
    first | refine r_if_ne (pc := 24) hX 12 (tgt := 29) rfl (by decide) (⟨by omega, by omega⟩) (fun h24 => ?_) (fun h24 => ?_) | refine r_if_ne_any (pc := 24) hX 12 (tgt := 29) rfl (by decide) ?_ ?_
    · refine t_getR (q := (ρ t 1)) (pc := 29) hX 15 rfl rfl rfl fl_X5_18 rfl (hH21.kd ht (by decide)) (rfl) ?_
      refine r_getR (q := (ρ (ρ t 1) 3)) (pc := 33) hX 17 rfl fl_X5_120 rfl (hH21.kd hw0_ (by decide)) (rfl) ?_
      have hw33_ : ω (ρ (ρ t 1) 3) = 7 := hH.rf hw0_ (by decide) rfl
      refine t_getR (q := (ρ t 1)) (pc := 36) hX 18 rfl rfl rfl fl_X5_18 rfl (hH21.kd ht (by decide)) (rfl) ?_
      refine e_getI (y := (v (ρ t 1) 9)) (pc := 40) hX 20 rfl fl_X5_117 rfl (hH21.kd hw0_ (by decide)) ((hfr21.at hw0_ (by decide) 9).trans (rfl)) ?_
      refine t_getR (q := (ρ t 0)) (pc := 43) hX 21 rfl rfl rfl fl_X5_9 rfl (hH21.kd ht (by decide)) (rfl) ?_
      have hw43_ : ω (ρ t 0) = 2 := hH.rf ht (by decide) rfl
      refine e_getL (y := (v21 (ρ t 0) 8)) (pc := 47) hX 23 rfl fl_X5_91 rfl (hH21.kd hw43_ (by decide)) (rfl) ?_
      refine e_last (n := 3) (pc := 50) hX 24 rfl (hH21.kd hw33_ (by decide)) (hH21.ln hw33_ (by decide)) (hH21.g4 hw33_ (by decide)) (by omega) (by omega) ?_
      have hH_50 : HT ω (up v21 (ρ (ρ t 1) 3) (v (ρ t 1) 9) (v21 (ρ t 0) 8)) ρ Z := hH21.up0 hw33_ (by decide) rfl
      refine r_aload_n (pc := 51) hX 25 rfl rfl ?_
      refine r_iconst (pc := 52) hX 26 rfl ?_
      refine r_bipush (pc := 53) hX 27 rfl (by decide) ?_
      refine r_callV (as := [(0, 1), (0, 9)]) (st := []) (K := 5) (pc := 55) hX 28 rfl mo_X5_readNumber ml_X5_95 im_X5_readNumber se_X5_readNumber (c_X5_readNumber g ω (up v21 (ρ (ρ t 1) 3) (v (ρ t 1) 9) (v21 (ρ t 0) 8)) ρ Z hH_50 t ht (1) (9) (by omega) (by omega)) rfl rfl rfl (hH_50.kd ht (by decide)) (by rw [hRm]; exact ⟨by decide, by decide⟩) (by rw [hRm]; exact ⟨by decide, by decide⟩) (Nat.le_of_ble_eq_true rfl) (fun o55 v55 ρv55 Zv55 hq55 _ => ?_)
      obtain ⟨rfl, rfl, hfr55, hH55, r55, rfl, hq55⟩ := hq55
      show wp g X F_X5_readLand 0 0 58 [(2, t), (3, 0), (3, 0)] [(0, r55)] v55 ρ Z
      first | refine r_if_ne (pc := 58) hX 29 (tgt := 63) rfl (by decide) (⟨by omega, by omega⟩) (fun h58 => ?_) (fun h58 => ?_) | refine r_if_ne_any (pc := 58) hX 29 (tgt := 63) rfl (by decide) ?_ ?_
      · refine t_getR (q := (ρ t 1)) (pc := 63) hX 32 rfl rfl rfl fl_X5_18 rfl (hH55.kd ht (by decide)) (rfl) ?_
        refine r_getR (q := (ρ (ρ t 1) 4)) (pc := 67) hX 34 rfl fl_X5_123 rfl (hH55.kd hw0_ (by decide)) (rfl) ?_
        have hw67_ : ω (ρ (ρ t 1) 4) = 11 := hH.rf hw0_ (by decide) rfl
        refine t_getR (q := (ρ t 1)) (pc := 70) hX 35 rfl rfl rfl fl_X5_18 rfl (hH55.kd ht (by decide)) (rfl) ?_
        refine e_getI (y := (v (ρ t 1) 9)) (pc := 74) hX 37 rfl fl_X5_117 rfl (hH55.kd hw0_ (by decide)) ((hfr55.at hw0_ (by decide) 9).trans ((up_r (rne hw0_ hw33_ (by decide))).trans ((hfr21.at hw0_ (by decide) 9).trans (rfl)))) ?_
        refine t_getR (q := (ρ t 0)) (pc := 77) hX 38 rfl rfl rfl fl_X5_9 rfl (hH55.kd ht (by decide)) (rfl) ?_
        refine e_getI (y := (v55 (ρ t 0) 6)) (pc := 81) hX 40 rfl fl_X5_103 rfl (hH55.kd hw43_ (by decide)) (rfl) ?_
        have hb81 : (-2147483648) ≤ (v55 (ρ t 0) 6) ∧ (v55 (ρ t 0) 6) ≤ 2147483647 := hH55.rg hw43_ (by decide) rfl
        refine e_iast (n := 3) (pc := 84) hX 41 rfl (hH55.kd hw67_ (by decide)) (hH55.ln hw67_ (by decide)) (hH55.g4 hw67_ (by decide)) (by omega) (by omega) ?_
        have hH_84 : HT ω (up v55 (ρ (ρ t 1) 4) (v (ρ t 1) 9) (v55 (ρ t 0) 6)) ρ Z := hH55.upR hw67_ (by decide) rfl (by omega) (by omega)
        refine t_getR (q := (ρ t 1)) (pc := 85) hX 42 rfl rfl rfl fl_X5_18 rfl (hH_84.kd ht (by decide)) (rfl) ?_
        refine r_getR (q := (ρ (ρ t 1) 5)) (pc := 89) hX 44 rfl fl_X5_126 rfl (hH_84.kd hw0_ (by decide)) (rfl) ?_
        have hw89_ : ω (ρ (ρ t 1) 5) = 12 := hH.rf hw0_ (by decide) rfl
        refine t_getR (q := (ρ t 1)) (pc := 92) hX 45 rfl rfl rfl fl_X5_18 rfl (hH_84.kd ht (by decide)) (rfl) ?_
        refine e_getI (y := (v (ρ t 1) 9)) (pc := 96) hX 47 rfl fl_X5_117 rfl (hH_84.kd hw0_ (by decide)) ((up_r (rne hw0_ hw67_ (by decide))).trans ((hfr55.at hw0_ (by decide) 9).trans ((up_r (rne hw0_ hw33_ (by decide))).trans ((hfr21.at hw0_ (by decide) 9).trans (rfl))))) ?_
        refine r_aald (q := (ρ (ρ (ρ t 1) 5) (v (ρ t 1) 9))) (pc := 99) hX 48 19 rfl (hH_84.kd hw89_ (by decide)) (by decide) (by decide) rfl rfl (by omega) (by rw [show Z.2.1 (ρ (ρ t 1) 5) = 3 from (hH_84.ln hw89_ (by decide))]; omega) (rfl) ?_
        have hw99_ : ω (ρ (ρ (ρ t 1) 5) (v (ρ t 1) 9)) = 13 := hH.rf hw89_ (by decide) (rf12 ⟨by omega, by omega⟩)
        refine r_astore_n (ls' := [(2, t), (2, (ρ (ρ (ρ t 1) 5) (v (ρ t 1) 9))), (3, 0)]) (pc := 100) hX 49 rfl (by decide) rfl ?_
        refine t_getR (q := (ρ t 0)) (pc := 101) hX 50 rfl rfl rfl fl_X5_9 rfl (hH_84.kd ht (by decide)) (rfl) ?_
        refine r_callV (as := []) (st := []) (K := 8) (pc := 105) hX 52 rfl mo_X8_advance ml_X5_35 im_X8_advance se_X8_advance (c_X8_advance g ω (up v55 (ρ (ρ t 1) 4) (v (ρ t 1) 9) (v55 (ρ t 0) 6)) ρ Z hH_84 (ρ t 0) hw43_ ) rfl rfl rfl (hH_84.kd hw43_ (by decide)) (by rw [hRm]; exact ⟨by decide, by decide⟩) (by rw [hRm]; exact ⟨by decide, by decide⟩) (Nat.le_of_ble_eq_true rfl) (fun o105 v105 ρv105 Zv105 hq105 _ => ?_)
        obtain ⟨rfl, rfl, hfr105, hH105, rfl, hq105⟩ := hq105
        try rw [show ((up v55 (ρ (ρ t 1) 4) (v (ρ t 1) 9) (v55 (ρ t 0) 6)) (ρ t 0) 1) = (v55 (ρ t 0) 1) from (up_r (rne hw43_ hw67_ (by decide))).trans (rfl)] at hq105
        show wp g X F_X5_readLand 0 0 108 [(2, t), (2, (ρ (ρ (ρ t 1) 5) (v (ρ t 1) 9))), (3, 0)] [] v105 ρ Z
        refine r_iconst (pc := 108) hX 53 rfl ?_
        refine r_istore_n (ls' := [(2, t), (2, (ρ (ρ (ρ t 1) 5) (v (ρ t 1) 9))), (0, 0)]) (pc := 109) hX 54 rfl (by decide) rfl ?_
        have L110 : ∀ (n110 : Nat) (i : Int) (v110 : Mv) , (FrW ω [2, 5, 7, 11, 13] v v110) → (HT ω v110 ρ Z) → (0 ≤ i ∧ i ≤ 4) → (v110 (ρ t 1) 9 = v (ρ t 1) 9) → (4 - i).toNat < n110 → wp g X F_X5_readLand 0 0 110 [(2, t), (2, (ρ (ρ (ρ t 1) 5) (v (ρ t 1) 9))), (0, i)] [] v110 ρ Z := by
          intro n110
          induction n110 with
          | zero => intro i v110 hfr110 hH110 ii el hme110; exact absurd hme110 (Nat.not_lt_zero _)
          | succ n110 ih110 =>
            intro i v110 hfr110 hH110 ii el hme110
            refine r_iload_n (pc := 110) hX 55 rfl rfl ?_
            refine r_iconst (pc := 111) hX 56 rfl ?_
            have L143 : wp g X F_X5_readLand 0 0 143 [(2, t), (2, (ρ (ρ (ρ t 1) 5) (v (ρ t 1) 9))), (0, i)] [] v110 ρ Z := by
              refine r_aload_n (pc := 143) hX 71 rfl rfl ?_
              refine r_callV (as := []) (st := []) (K := 5) (pc := 144) hX 72 rfl mo_X5_endLand ml_X5_134 im_X5_endLand se_X5_endLand (c_X5_endLand g ω v110 ρ Z hH110 t ht (by omega)) rfl rfl rfl (hH110.kd ht (by decide)) (by rw [hRm]; exact ⟨by decide, by decide⟩) (by rw [hRm]; exact ⟨by decide, by decide⟩) (Nat.le_of_ble_eq_true rfl) (fun o144 v144 ρv144 Zv144 hq144 _ => ?_)
              obtain ⟨rfl, rfl, hfr144, hH144, r144, rfl, hq144⟩ := hq144
              show wp g X F_X5_readLand 0 0 147 [(2, t), (2, (ρ (ρ (ρ t 1) 5) (v (ρ t 1) 9))), (0, i)] [(0, r144)] v144 ρ Z
              exact r_zret (pc := 147) hX 73 hQ rfl rfl ⟨by omega, by omega⟩ (Nat.le_refl 0) (Nat.le_refl 0) ⟨rfl, rfl, (hfr110).tr hfr144 (by decide), hH144, r144, rfl, (by omega)⟩
            first | refine r_icmp_ge (pc := 112) hX 57 (tgt := 143) rfl (by decide) (⟨by omega, by omega⟩) (⟨by omega, by omega⟩) (fun h112 => ?_) (fun h112 => ?_) | refine r_icmp_ge_any (pc := 112) hX 57 (tgt := 143) rfl (by decide) ?_ ?_
            · exact (L143   )
            · refine t_getR (q := (ρ t 0)) (pc := 115) hX 58 rfl rfl rfl fl_X5_9 rfl (hH110.kd ht (by decide)) (rfl) ?_
              refine r_bipush (pc := 119) hX 60 rfl (by decide) ?_
              refine r_callV (as := [(0, 59)]) (st := []) (K := 8) (pc := 121) hX 61 rfl mo_X8_isMark ml_X5_74 im_X8_isMark se_X8_isMark (c_X8_isMark g ω v110 ρ Z hH110 (ρ t 0) hw43_ (59) (by omega)) rfl rfl rfl (hH110.kd hw43_ (by decide)) (by rw [hRm]; exact ⟨by decide, by decide⟩) (by rw [hRm]; exact ⟨by decide, by decide⟩) (Nat.le_of_ble_eq_true rfl) (fun o121 v121 ρv121 Zv121 hq121 _ => ?_)
              obtain ⟨rfl, rfl, rfl, r121, rfl, hq121⟩ := hq121
              show wp g X F_X5_readLand 0 0 124 [(2, t), (2, (ρ (ρ (ρ t 1) 5) (v (ρ t 1) 9))), (0, i)] [(0, r121)] v110 ρ Z
              first | refine r_if_ne (pc := 124) hX 62 (tgt := 143) rfl (by decide) (⟨by omega, by omega⟩) (fun h124 => ?_) (fun h124 => ?_) | refine r_if_ne_any (pc := 124) hX 62 (tgt := 143) rfl (by decide) ?_ ?_
              · exact (L143   )
              · refine r_aload_n (pc := 127) hX 63 rfl rfl ?_
                refine r_aload_n (pc := 128) hX 64 rfl rfl ?_
                refine r_callV (as := [(2, (ρ (ρ (ρ t 1) 5) (v (ρ t 1) 9)))]) (st := []) (K := 5) (pc := 129) hX 65 rfl mo_X5_readShare ml_X5_130 im_X5_readShare se_X5_readShare (c_X5_readShare g ω v110 ρ Z hH110 t ht (ρ (ρ (ρ t 1) 5) (v (ρ t 1) 9)) hw99_ ) rfl rfl rfl (hH110.kd ht (by decide)) (by rw [hRm]; exact ⟨by decide, by decide⟩) (by rw [hRm]; exact ⟨by decide, by decide⟩) (Nat.le_of_ble_eq_true rfl) (fun o129 v129 ρv129 Zv129 hq129 _ => ?_)
                obtain ⟨rfl, rfl, hfr129, hH129, r129, rfl, hq129⟩ := hq129
                show wp g X F_X5_readLand 0 0 132 [(2, t), (2, (ρ (ρ (ρ t 1) 5) (v (ρ t 1) 9))), (0, i)] [(0, r129)] v129 ρ Z
                first | refine r_if_ne (pc := 132) hX 66 (tgt := 137) rfl (by decide) (⟨by omega, by omega⟩) (fun h132 => ?_) (fun h132 => ?_) | refine r_if_ne_any (pc := 132) hX 66 (tgt := 137) rfl (by decide) ?_ ?_
                · refine r_iinc (ls' := [(2, t), (2, (ρ (ρ (ρ t 1) 5) (v (ρ t 1) 9))), (0, (i + 1))]) (pc := 137) hX 69 rfl rfl (by decide) rfl ?_
                  refine r_goto (pc := 140) hX 70 (tgt := 110) rfl (by decide) ?_
                  exact (ih110 (i + 1) v129 ((hfr110).tr hfr129 (by decide)) (hH129) (by omega) (((hfr129.at hw0_ (by decide) 9).trans (rfl)).trans (by omega)) (by omega))
                · refine r_iconst (pc := 135) hX 67 rfl ?_
                  exact r_zret (pc := 136) hX 68 hQ rfl rfl ⟨by omega, by omega⟩ (Nat.le_refl 0) (Nat.le_refl 0) ⟨rfl, rfl, (hfr110).tr hfr129 (by decide), hH129, 0, rfl, (by omega)⟩
        exact (L110 _ 0 v105 ((((((FrW.rf).tr hfr21 (by decide)).up (r := (ρ (ρ t 1) 3)) hw33_ (by decide)).tr hfr55 (by decide)).up (r := (ρ (ρ t 1) 4)) hw67_ (by decide)).tr hfr105 (by decide)) (hH105) (by omega) (((hfr105.at hw0_ (by decide) 9).trans ((up_r (rne hw0_ hw67_ (by decide))).trans ((hfr55.at hw0_ (by decide) 9).trans ((up_r (rne hw0_ hw33_ (by decide))).trans ((hfr21.at hw0_ (by decide) 9).trans (rfl)))))).trans (by omega)) (Nat.lt_succ_self _))
      · refine r_iconst (pc := 61) hX 30 rfl ?_
        exact r_zret (pc := 62) hX 31 hQ rfl rfl ⟨by omega, by omega⟩ (Nat.le_refl 0) (Nat.le_refl 0) ⟨rfl, rfl, (((FrW.rf).tr hfr21 (by decide)).up (r := (ρ (ρ t 1) 3)) hw33_ (by decide)).tr hfr55 (by decide), hH55, 0, rfl, (by omega)⟩
    · refine r_iconst (pc := 27) hX 13 rfl ?_
      exact r_zret (pc := 28) hX 14 hQ rfl rfl ⟨by omega, by omega⟩ (Nat.le_refl 0) (Nat.le_refl 0) ⟨rfl, rfl, (FrW.rf).tr hfr21 (by decide), hH21, 0, rfl, (by omega)⟩
  · refine t_getR (q := (ρ t 0)) (pc := 11) hX 5 rfl rfl rfl fl_X5_9 rfl (hH.kd ht (by decide)) (rfl) ?_
    have hw11_ : ω (ρ t 0) = 2 := hH.rf ht (by decide) rfl
    refine r_iconst (pc := 15) hX 7 rfl ?_
    refine r_callV (as := [(0, 4)]) (st := []) (K := 8) (pc := 16) hX 8 rfl mo_X8_refuse ml_X5_67 im_X8_refuse se_X8_refuse (c_X8_refuse g ω v ρ Z hH (ρ t 0) hw11_ (4) (by omega)) rfl rfl rfl (hH.kd hw11_ (by decide)) (by rw [hRm]; exact ⟨by decide, by decide⟩) (by rw [hRm]; exact ⟨by decide, by decide⟩) (Nat.le_of_ble_eq_true rfl) (fun o16 v16 ρv16 Zv16 hq16 _ => ?_)
    obtain ⟨rfl, rfl, hfr16, hH16, r16, rfl, hq16⟩ := hq16
    show wp g X F_X5_readLand 0 0 19 [(2, t), (3, 0), (3, 0)] [(0, r16)] v16 ρ Z
    exact r_zret (pc := 19) hX 9 hQ rfl rfl ⟨by omega, by omega⟩ (Nat.le_refl 0) (Nat.le_refl 0) ⟨rfl, rfl, (FrW.rf).tr hfr16 (by decide), hH16, r16, rfl, (by omega)⟩
set_option maxHeartbeats 4000000 in
set_option maxRecDepth 100000 in
theorem c_X5_readPlayer (g : Gp) (ω : Rw) (v ρ : Mv) (Z : Mz) (hH : HT ω v ρ Z) (t : Int) (ht : ω t = 4)  : Ok g 8 0 0 F_X5_readPlayer [(2, t)] v ρ Z (fun o9 v' ρ' Z' => ρ = ρ' ∧ Z = Z' ∧ FrW ω [2, 5, 8, 14] v v' ∧ HT ω v' ρ Z ∧ ∃ r : Int, o9 = some (0, r) ∧ (0 ≤ r ∧ r ≤ 1)) := by
  refine Ok.of mo_X5_readPlayer (Nat.le_of_ble_eq_true rfl) ?_
  intro X hX hRm hxn hQ
  show wp g X F_X5_readPlayer 0 0 0 [(2, t)] [] v ρ Z
  have hw0 : ω (ρ t 0) = 2 := hH.rf ht (by decide) rfl
  have hwr : ω (ρ t 1) = 5 := hH.rf ht (by decide) rfl
  have hg8 : 0 ≤ v (ρ t 1) 8 ∧ v (ρ t 1) 8 ≤ 4 := hH.rg hwr (by decide) rfl
  have hg9 : 0 ≤ v (ρ t 1) 9 ∧ v (ρ t 1) 9 ≤ 3 := hH.rg hwr (by decide) rfl
  have hg10 : 0 ≤ v (ρ t 1) 10 ∧ v (ρ t 1) 10 ≤ 3 := hH.rg hwr (by decide) rfl
  refine t_getR (q := (ρ t 1)) (pc := 0) hX 0 rfl rfl rfl fl_X5_18 rfl (hH.kd ht (by decide)) (rfl) ?_
  have hw0_ : ω (ρ t 1) = 5 := hH.rf ht (by decide) rfl
  refine e_getI (y := (v (ρ t 1) 10)) (pc := 4) hX 2 rfl fl_X5_137 rfl (hH.kd hw0_ (by decide)) (rfl) ?_
  have hb4 : 0 ≤ (v (ρ t 1) 10) ∧ (v (ρ t 1) 10) ≤ 3 := hH.rg hw0_ (by decide) rfl
  refine r_iconst (pc := 7) hX 3 rfl ?_
  first | refine r_icmp_lt (pc := 8) hX 4 (tgt := 20) rfl (by decide) (⟨by omega, by omega⟩) (⟨by omega, by omega⟩) (fun h8 => ?_) (fun h8 => ?_) | refine r_icmp_lt_any (pc := 8) hX 4 (tgt := 20) rfl (by decide) ?_ ?_
  · refine r_aload_n (pc := 20) hX 10 rfl rfl ?_
    refine r_callV (as := []) (st := []) (K := 5) (pc := 21) hX 11 rfl mo_X5_readNewName ml_X5_84 im_X5_readNewName se_X5_readNewName (c_X5_readNewName g ω v ρ Z hH t ht ) rfl rfl rfl (hH.kd ht (by decide)) (by rw [hRm]; exact ⟨by decide, by decide⟩) (by rw [hRm]; exact ⟨by decide, by decide⟩) (Nat.le_of_ble_eq_true rfl) (fun o21 v21 ρv21 Zv21 hq21 _ => ?_)
    obtain ⟨rfl, rfl, hfr21, hH21, r21, rfl, hq21⟩ := hq21
    show wp g X F_X5_readPlayer 0 0 24 [(2, t)] [(0, r21)] v21 ρ Z
    first | refine r_if_ne (pc := 24) hX 12 (tgt := 29) rfl (by decide) (⟨by omega, by omega⟩) (fun h24 => ?_) (fun h24 => ?_) | refine r_if_ne_any (pc := 24) hX 12 (tgt := 29) rfl (by decide) ?_ ?_
    · refine t_getR (q := (ρ t 1)) (pc := 29) hX 15 rfl rfl rfl fl_X5_18 rfl (hH21.kd ht (by decide)) (rfl) ?_
      refine r_getR (q := (ρ (ρ t 1) 6)) (pc := 33) hX 17 rfl fl_X5_140 rfl (hH21.kd hw0_ (by decide)) (rfl) ?_
      have hw33_ : ω (ρ (ρ t 1) 6) = 8 := hH.rf hw0_ (by decide) rfl
      refine t_getR (q := (ρ t 1)) (pc := 36) hX 18 rfl rfl rfl fl_X5_18 rfl (hH21.kd ht (by decide)) (rfl) ?_
      refine e_getI (y := (v (ρ t 1) 10)) (pc := 40) hX 20 rfl fl_X5_137 rfl (hH21.kd hw0_ (by decide)) ((hfr21.at hw0_ (by decide) 10).trans (rfl)) ?_
      refine t_getR (q := (ρ t 0)) (pc := 43) hX 21 rfl rfl rfl fl_X5_9 rfl (hH21.kd ht (by decide)) (rfl) ?_
      have hw43_ : ω (ρ t 0) = 2 := hH.rf ht (by decide) rfl
      refine e_getL (y := (v21 (ρ t 0) 8)) (pc := 47) hX 23 rfl fl_X5_91 rfl (hH21.kd hw43_ (by decide)) (rfl) ?_
      refine e_last (n := 3) (pc := 50) hX 24 rfl (hH21.kd hw33_ (by decide)) (hH21.ln hw33_ (by decide)) (hH21.g4 hw33_ (by decide)) (by omega) (by omega) ?_
      have hH_50 : HT ω (up v21 (ρ (ρ t 1) 6) (v (ρ t 1) 10) (v21 (ρ t 0) 8)) ρ Z := hH21.up0 hw33_ (by decide) rfl
      refine r_aload_n (pc := 51) hX 25 rfl rfl ?_
      refine r_iconst (pc := 52) hX 26 rfl ?_
      refine r_bipush (pc := 53) hX 27 rfl (by decide) ?_
      refine r_callV (as := [(0, 0), (0, 8)]) (st := []) (K := 5) (pc := 55) hX 28 rfl mo_X5_readNumber ml_X5_95 im_X5_readNumber se_X5_readNumber (c_X5_readNumber g ω (up v21 (ρ (ρ t 1) 6) (v (ρ t 1) 10) (v21 (ρ t 0) 8)) ρ Z hH_50 t ht (0) (8) (by omega) (by omega)) rfl rfl rfl (hH_50.kd ht (by decide)) (by rw [hRm]; exact ⟨by decide, by decide⟩) (by rw [hRm]; exact ⟨by decide, by decide⟩) (Nat.le_of_ble_eq_true rfl) (fun o55 v55 ρv55 Zv55 hq55 _ => ?_)
      obtain ⟨rfl, rfl, hfr55, hH55, r55, rfl, hq55⟩ := hq55
      show wp g X F_X5_readPlayer 0 0 58 [(2, t)] [(0, r55)] v55 ρ Z
      first | refine r_if_ne (pc := 58) hX 29 (tgt := 63) rfl (by decide) (⟨by omega, by omega⟩) (fun h58 => ?_) (fun h58 => ?_) | refine r_if_ne_any (pc := 58) hX 29 (tgt := 63) rfl (by decide) ?_ ?_
      · refine t_getR (q := (ρ t 1)) (pc := 63) hX 32 rfl rfl rfl fl_X5_18 rfl (hH55.kd ht (by decide)) (rfl) ?_
        refine r_getR (q := (ρ (ρ t 1) 7)) (pc := 67) hX 34 rfl fl_X5_143 rfl (hH55.kd hw0_ (by decide)) (rfl) ?_
        have hw67_ : ω (ρ (ρ t 1) 7) = 14 := hH.rf hw0_ (by decide) rfl
        refine t_getR (q := (ρ t 1)) (pc := 70) hX 35 rfl rfl rfl fl_X5_18 rfl (hH55.kd ht (by decide)) (rfl) ?_
        refine e_getI (y := (v (ρ t 1) 10)) (pc := 74) hX 37 rfl fl_X5_137 rfl (hH55.kd hw0_ (by decide)) ((hfr55.at hw0_ (by decide) 10).trans ((up_r (rne hw0_ hw33_ (by decide))).trans ((hfr21.at hw0_ (by decide) 10).trans (rfl)))) ?_
        refine t_getR (q := (ρ t 0)) (pc := 77) hX 38 rfl rfl rfl fl_X5_9 rfl (hH55.kd ht (by decide)) (rfl) ?_
        refine e_getI (y := (v55 (ρ t 0) 6)) (pc := 81) hX 40 rfl fl_X5_103 rfl (hH55.kd hw43_ (by decide)) (rfl) ?_
        have hb81 : (-2147483648) ≤ (v55 (ρ t 0) 6) ∧ (v55 (ρ t 0) 6) ≤ 2147483647 := hH55.rg hw43_ (by decide) rfl
        refine e_iast (n := 3) (pc := 84) hX 41 rfl (hH55.kd hw67_ (by decide)) (hH55.ln hw67_ (by decide)) (hH55.g4 hw67_ (by decide)) (by omega) (by omega) ?_
        have hH_84 : HT ω (up v55 (ρ (ρ t 1) 7) (v (ρ t 1) 10) (v55 (ρ t 0) 6)) ρ Z := hH55.upR hw67_ (by decide) rfl (by omega) (by omega)
        refine t_getR (q := (ρ t 1)) (pc := 85) hX 42 rfl rfl rfl fl_X5_18 rfl (hH_84.kd ht (by decide)) (rfl) ?_
        refine r_dup (pc := 89) hX 44 rfl (show (2 : Nat) ≠ 1 by decide) ?_
        refine e_getI (y := (v (ρ t 1) 10)) (pc := 90) hX 45 rfl fl_X5_137 rfl (hH_84.kd hw0_ (by decide)) ((up_r (rne hw0_ hw67_ (by decide))).trans ((hfr55.at hw0_ (by decide) 10).trans ((up_r (rne hw0_ hw33_ (by decide))).trans ((hfr21.at hw0_ (by decide) 10).trans (rfl))))) ?_
        refine r_iconst (pc := 93) hX 46 rfl ?_
        refine r_iadd (pc := 94) hX 47 rfl ?_
        refine r_putI (pc := 95) hX 48 rfl fl_X5_137 rfl (fun _ h => by cases h; rfl) (hH_84.kd hw0_ (by decide)) (hH_84.g4 hw0_ (by decide)) ?_
        have hH_95 : HT ω (up (up v55 (ρ (ρ t 1) 7) (v (ρ t 1) 10) (v55 (ρ t 0) 6)) (ρ t 1) 10 ((v (ρ t 1) 10) + 1)) ρ Z := hH_84.upR hw0_ (by decide) rfl (by omega) (by omega)
        show wp g X F_X5_readPlayer 0 0 98 [(2, t)] [] (up (up v55 (ρ (ρ t 1) 7) (v (ρ t 1) 10) (v55 (ρ t 0) 6)) (ρ t 1) 10 ((v (ρ t 1) 10) + 1)) ρ Z
        refine t_getR (q := (ρ t 0)) (pc := 98) hX 49 rfl rfl rfl fl_X5_9 rfl (hH_95.kd ht (by decide)) (rfl) ?_
        refine r_callV (as := []) (st := []) (K := 8) (pc := 102) hX 51 rfl mo_X8_advance ml_X5_35 im_X8_advance se_X8_advance (c_X8_advance g ω (up (up v55 (ρ (ρ t 1) 7) (v (ρ t 1) 10) (v55 (ρ t 0) 6)) (ρ t 1) 10 ((v (ρ t 1) 10) + 1)) ρ Z hH_95 (ρ t 0) hw43_ ) rfl rfl rfl (hH_95.kd hw43_ (by decide)) (by rw [hRm]; exact ⟨by decide, by decide⟩) (by rw [hRm]; exact ⟨by decide, by decide⟩) (Nat.le_of_ble_eq_true rfl) (fun o102 v102 ρv102 Zv102 hq102 _ => ?_)
        obtain ⟨rfl, rfl, hfr102, hH102, rfl, hq102⟩ := hq102
        try rw [show ((up (up v55 (ρ (ρ t 1) 7) (v (ρ t 1) 10) (v55 (ρ t 0) 6)) (ρ t 1) 10 ((v (ρ t 1) 10) + 1)) (ρ t 0) 1) = (v55 (ρ t 0) 1) from (up_k (by decide)).trans ((up_r (rne hw43_ hw67_ (by decide))).trans (rfl))] at hq102
        show wp g X F_X5_readPlayer 0 0 105 [(2, t)] [] v102 ρ Z
        refine r_iconst (pc := 105) hX 52 rfl ?_
        exact r_zret (pc := 106) hX 53 hQ rfl rfl ⟨by omega, by omega⟩ (Nat.le_refl 0) (Nat.le_refl 0) ⟨rfl, rfl, ((((((FrW.rf).tr hfr21 (by decide)).up (r := (ρ (ρ t 1) 6)) hw33_ (by decide)).tr hfr55 (by decide)).up (r := (ρ (ρ t 1) 7)) hw67_ (by decide)).up (r := (ρ t 1)) hw0_ (by decide)).tr hfr102 (by decide), hH102, 1, rfl, (by omega)⟩
      · refine r_iconst (pc := 61) hX 30 rfl ?_
        exact r_zret (pc := 62) hX 31 hQ rfl rfl ⟨by omega, by omega⟩ (Nat.le_refl 0) (Nat.le_refl 0) ⟨rfl, rfl, (((FrW.rf).tr hfr21 (by decide)).up (r := (ρ (ρ t 1) 6)) hw33_ (by decide)).tr hfr55 (by decide), hH55, 0, rfl, (by omega)⟩
    · refine r_iconst (pc := 27) hX 13 rfl ?_
      exact r_zret (pc := 28) hX 14 hQ rfl rfl ⟨by omega, by omega⟩ (Nat.le_refl 0) (Nat.le_refl 0) ⟨rfl, rfl, (FrW.rf).tr hfr21 (by decide), hH21, 0, rfl, (by omega)⟩
  · refine t_getR (q := (ρ t 0)) (pc := 11) hX 5 rfl rfl rfl fl_X5_9 rfl (hH.kd ht (by decide)) (rfl) ?_
    have hw11_ : ω (ρ t 0) = 2 := hH.rf ht (by decide) rfl
    refine r_iconst (pc := 15) hX 7 rfl ?_
    refine r_callV (as := [(0, 4)]) (st := []) (K := 8) (pc := 16) hX 8 rfl mo_X8_refuse ml_X5_67 im_X8_refuse se_X8_refuse (c_X8_refuse g ω v ρ Z hH (ρ t 0) hw11_ (4) (by omega)) rfl rfl rfl (hH.kd hw11_ (by decide)) (by rw [hRm]; exact ⟨by decide, by decide⟩) (by rw [hRm]; exact ⟨by decide, by decide⟩) (Nat.le_of_ble_eq_true rfl) (fun o16 v16 ρv16 Zv16 hq16 _ => ?_)
    obtain ⟨rfl, rfl, hfr16, hH16, r16, rfl, hq16⟩ := hq16
    show wp g X F_X5_readPlayer 0 0 19 [(2, t)] [(0, r16)] v16 ρ Z
    exact r_zret (pc := 19) hX 9 hQ rfl rfl ⟨by omega, by omega⟩ (Nat.le_refl 0) (Nat.le_refl 0) ⟨rfl, rfl, (FrW.rf).tr hfr16 (by decide), hH16, r16, rfl, (by omega)⟩
set_option maxHeartbeats 4000000 in
set_option maxRecDepth 100000 in
theorem c_X5_readGoal (g : Gp) (ω : Rw) (v ρ : Mv) (Z : Mz) (hH : HT ω v ρ Z) (t : Int) (ht : ω t = 4)  : Ok g 8 0 0 F_X5_readGoal [(2, t)] v ρ Z (fun o9 v' ρ' Z' => ρ = ρ' ∧ Z = Z' ∧ FrW ω [2, 4, 5] v v' ∧ HT ω v' ρ Z ∧ ∃ r : Int, o9 = some (0, r) ∧ (0 ≤ r ∧ r ≤ 1)) := by
  refine Ok.of mo_X5_readGoal (Nat.le_of_ble_eq_true rfl) ?_
  intro X hX hRm hxn hQ
  show wp g X F_X5_readGoal 0 0 0 [(2, t)] [] v ρ Z
  refine t_getI (y := (v t 2)) (pc := 0) hX 0 rfl rfl rfl fl_X5_22 rfl (hH.kd ht (by decide)) (rfl) ?_
  have hb0 : 0 ≤ (v t 2) ∧ (v t 2) ≤ 1 := hH.rg ht (by decide) rfl
  first | refine r_if_eq (pc := 4) hX 2 (tgt := 16) rfl (by decide) (⟨by omega, by omega⟩) (fun h4 => ?_) (fun h4 => ?_) | refine r_if_eq_any (pc := 4) hX 2 (tgt := 16) rfl (by decide) ?_ ?_
  · refine r_aload_n (pc := 16) hX 8 rfl rfl ?_
    refine r_iconst (pc := 17) hX 9 rfl ?_
    refine r_bipush (pc := 18) hX 10 rfl (by decide) ?_
    refine r_callV (as := [(0, 1), (0, 9)]) (st := []) (K := 5) (pc := 20) hX 11 rfl mo_X5_readNumber ml_X5_95 im_X5_readNumber se_X5_readNumber (c_X5_readNumber g ω v ρ Z hH t ht (1) (9) (by omega) (by omega)) rfl rfl rfl (hH.kd ht (by decide)) (by rw [hRm]; exact ⟨by decide, by decide⟩) (by rw [hRm]; exact ⟨by decide, by decide⟩) (Nat.le_of_ble_eq_true rfl) (fun o20 v20 ρv20 Zv20 hq20 _ => ?_)
    obtain ⟨rfl, rfl, hfr20, hH20, r20, rfl, hq20⟩ := hq20
    show wp g X F_X5_readGoal 0 0 23 [(2, t)] [(0, r20)] v20 ρ Z
    first | refine r_if_ne (pc := 23) hX 12 (tgt := 28) rfl (by decide) (⟨by omega, by omega⟩) (fun h23 => ?_) (fun h23 => ?_) | refine r_if_ne_any (pc := 23) hX 12 (tgt := 28) rfl (by decide) ?_ ?_
    · refine r_aload_n (pc := 28) hX 15 rfl rfl ?_
      refine r_iconst (pc := 29) hX 16 rfl ?_
      refine r_putZ (pc := 30) hX 17 rfl fl_X5_22 rfl (fun _ h => by cases h; rfl) ⟨by omega, by omega⟩ (hH20.kd ht (by decide)) (hH20.g4 ht (by decide)) ?_
      have hH_30 : HT ω (up v20 t 2 1) ρ Z := hH20.upR ht (by decide) rfl (by omega) (by omega)
      show wp g X F_X5_readGoal 0 0 33 [(2, t)] [] (up v20 t 2 1) ρ Z
      refine t_getR (q := (ρ t 1)) (pc := 33) hX 18 rfl rfl rfl fl_X5_18 rfl (hH_30.kd ht (by decide)) (rfl) ?_
      have hw33_ : ω (ρ t 1) = 5 := hH.rf ht (by decide) rfl
      refine t_getR (q := (ρ t 0)) (pc := 37) hX 20 rfl rfl rfl fl_X5_9 rfl (hH_30.kd ht (by decide)) (rfl) ?_
      have hw37_ : ω (ρ t 0) = 2 := hH.rf ht (by decide) rfl
      refine e_getI (y := (v20 (ρ t 0) 6)) (pc := 41) hX 22 rfl fl_X5_103 rfl (hH_30.kd hw37_ (by decide)) ((up_k (by decide)).trans (rfl)) ?_
      have hb41 : (-2147483648) ≤ (v20 (ρ t 0) 6) ∧ (v20 (ρ t 0) 6) ≤ 2147483647 := hH20.rg hw37_ (by decide) rfl
      refine r_putI (pc := 44) hX 23 rfl fl_X5_146 rfl (fun _ h => by cases h; rfl) (hH_30.kd hw33_ (by decide)) (hH_30.g4 hw33_ (by decide)) ?_
      have hH_44 : HT ω (up (up v20 t 2 1) (ρ t 1) 11 (v20 (ρ t 0) 6)) ρ Z := hH_30.upR hw33_ (by decide) rfl (by omega) (by omega)
      show wp g X F_X5_readGoal 0 0 47 [(2, t)] [] (up (up v20 t 2 1) (ρ t 1) 11 (v20 (ρ t 0) 6)) ρ Z
      refine t_getR (q := (ρ t 0)) (pc := 47) hX 24 rfl rfl rfl fl_X5_9 rfl (hH_44.kd ht (by decide)) (rfl) ?_
      refine r_callV (as := []) (st := []) (K := 8) (pc := 51) hX 26 rfl mo_X8_advance ml_X5_35 im_X8_advance se_X8_advance (c_X8_advance g ω (up (up v20 t 2 1) (ρ t 1) 11 (v20 (ρ t 0) 6)) ρ Z hH_44 (ρ t 0) hw37_ ) rfl rfl rfl (hH_44.kd hw37_ (by decide)) (by rw [hRm]; exact ⟨by decide, by decide⟩) (by rw [hRm]; exact ⟨by decide, by decide⟩) (Nat.le_of_ble_eq_true rfl) (fun o51 v51 ρv51 Zv51 hq51 _ => ?_)
      obtain ⟨rfl, rfl, hfr51, hH51, rfl, hq51⟩ := hq51
      try rw [show ((up (up v20 t 2 1) (ρ t 1) 11 (v20 (ρ t 0) 6)) (ρ t 0) 1) = (v20 (ρ t 0) 1) from (up_k (by decide)).trans ((up_k (by decide)).trans (rfl))] at hq51
      show wp g X F_X5_readGoal 0 0 54 [(2, t)] [] v51 ρ Z
      refine r_iconst (pc := 54) hX 27 rfl ?_
      exact r_zret (pc := 55) hX 28 hQ rfl rfl ⟨by omega, by omega⟩ (Nat.le_refl 0) (Nat.le_refl 0) ⟨rfl, rfl, ((((FrW.rf).tr hfr20 (by decide)).up (r := t) ht (by decide)).up (r := (ρ t 1)) hw33_ (by decide)).tr hfr51 (by decide), hH51, 1, rfl, (by omega)⟩
    · refine r_iconst (pc := 26) hX 13 rfl ?_
      exact r_zret (pc := 27) hX 14 hQ rfl rfl ⟨by omega, by omega⟩ (Nat.le_refl 0) (Nat.le_refl 0) ⟨rfl, rfl, (FrW.rf).tr hfr20 (by decide), hH20, 0, rfl, (by omega)⟩
  · refine t_getR (q := (ρ t 0)) (pc := 7) hX 3 rfl rfl rfl fl_X5_9 rfl (hH.kd ht (by decide)) (rfl) ?_
    have hw7_ : ω (ρ t 0) = 2 := hH.rf ht (by decide) rfl
    refine r_iconst (pc := 11) hX 5 rfl ?_
    refine r_callV (as := [(0, 3)]) (st := []) (K := 8) (pc := 12) hX 6 rfl mo_X8_refuse ml_X5_67 im_X8_refuse se_X8_refuse (c_X8_refuse g ω v ρ Z hH (ρ t 0) hw7_ (3) (by omega)) rfl rfl rfl (hH.kd hw7_ (by decide)) (by rw [hRm]; exact ⟨by decide, by decide⟩) (by rw [hRm]; exact ⟨by decide, by decide⟩) (Nat.le_of_ble_eq_true rfl) (fun o12 v12 ρv12 Zv12 hq12 _ => ?_)
    obtain ⟨rfl, rfl, hfr12, hH12, r12, rfl, hq12⟩ := hq12
    show wp g X F_X5_readGoal 0 0 15 [(2, t)] [(0, r12)] v12 ρ Z
    exact r_zret (pc := 15) hX 7 hQ rfl rfl ⟨by omega, by omega⟩ (Nat.le_refl 0) (Nat.le_refl 0) ⟨rfl, rfl, (FrW.rf).tr hfr12 (by decide), hH12, r12, rfl, (by omega)⟩
set_option maxHeartbeats 4000000 in
set_option maxRecDepth 100000 in
theorem c_X5_readCars (g : Gp) (ω : Rw) (v ρ : Mv) (Z : Mz) (hH : HT ω v ρ Z) (t : Int) (ht : ω t = 4)  : Ok g 8 0 0 F_X5_readCars [(2, t)] v ρ Z (fun o9 v' ρ' Z' => ρ = ρ' ∧ Z = Z' ∧ FrW ω [2, 4, 5] v v' ∧ HT ω v' ρ Z ∧ ∃ r : Int, o9 = some (0, r) ∧ (0 ≤ r ∧ r ≤ 1)) := by
  refine Ok.of mo_X5_readCars (Nat.le_of_ble_eq_true rfl) ?_
  intro X hX hRm hxn hQ
  show wp g X F_X5_readCars 0 0 0 [(2, t)] [] v ρ Z
  refine t_getI (y := (v t 3)) (pc := 0) hX 0 rfl rfl rfl fl_X5_26 rfl (hH.kd ht (by decide)) (rfl) ?_
  have hb0 : 0 ≤ (v t 3) ∧ (v t 3) ≤ 1 := hH.rg ht (by decide) rfl
  first | refine r_if_eq (pc := 4) hX 2 (tgt := 16) rfl (by decide) (⟨by omega, by omega⟩) (fun h4 => ?_) (fun h4 => ?_) | refine r_if_eq_any (pc := 4) hX 2 (tgt := 16) rfl (by decide) ?_ ?_
  · refine r_aload_n (pc := 16) hX 8 rfl rfl ?_
    refine r_iconst (pc := 17) hX 9 rfl ?_
    refine r_bipush (pc := 18) hX 10 rfl (by decide) ?_
    refine r_callV (as := [(0, 1), (0, 12)]) (st := []) (K := 5) (pc := 20) hX 11 rfl mo_X5_readNumber ml_X5_95 im_X5_readNumber se_X5_readNumber (c_X5_readNumber g ω v ρ Z hH t ht (1) (12) (by omega) (by omega)) rfl rfl rfl (hH.kd ht (by decide)) (by rw [hRm]; exact ⟨by decide, by decide⟩) (by rw [hRm]; exact ⟨by decide, by decide⟩) (Nat.le_of_ble_eq_true rfl) (fun o20 v20 ρv20 Zv20 hq20 _ => ?_)
    obtain ⟨rfl, rfl, hfr20, hH20, r20, rfl, hq20⟩ := hq20
    show wp g X F_X5_readCars 0 0 23 [(2, t)] [(0, r20)] v20 ρ Z
    first | refine r_if_ne (pc := 23) hX 12 (tgt := 28) rfl (by decide) (⟨by omega, by omega⟩) (fun h23 => ?_) (fun h23 => ?_) | refine r_if_ne_any (pc := 23) hX 12 (tgt := 28) rfl (by decide) ?_ ?_
    · refine r_aload_n (pc := 28) hX 15 rfl rfl ?_
      refine r_iconst (pc := 29) hX 16 rfl ?_
      refine r_putZ (pc := 30) hX 17 rfl fl_X5_26 rfl (fun _ h => by cases h; rfl) ⟨by omega, by omega⟩ (hH20.kd ht (by decide)) (hH20.g4 ht (by decide)) ?_
      have hH_30 : HT ω (up v20 t 3 1) ρ Z := hH20.upR ht (by decide) rfl (by omega) (by omega)
      show wp g X F_X5_readCars 0 0 33 [(2, t)] [] (up v20 t 3 1) ρ Z
      refine t_getR (q := (ρ t 1)) (pc := 33) hX 18 rfl rfl rfl fl_X5_18 rfl (hH_30.kd ht (by decide)) (rfl) ?_
      have hw33_ : ω (ρ t 1) = 5 := hH.rf ht (by decide) rfl
      refine t_getR (q := (ρ t 0)) (pc := 37) hX 20 rfl rfl rfl fl_X5_9 rfl (hH_30.kd ht (by decide)) (rfl) ?_
      have hw37_ : ω (ρ t 0) = 2 := hH.rf ht (by decide) rfl
      refine e_getI (y := (v20 (ρ t 0) 6)) (pc := 41) hX 22 rfl fl_X5_103 rfl (hH_30.kd hw37_ (by decide)) ((up_k (by decide)).trans (rfl)) ?_
      have hb41 : (-2147483648) ≤ (v20 (ρ t 0) 6) ∧ (v20 (ρ t 0) 6) ≤ 2147483647 := hH20.rg hw37_ (by decide) rfl
      refine r_putI (pc := 44) hX 23 rfl fl_X5_149 rfl (fun _ h => by cases h; rfl) (hH_30.kd hw33_ (by decide)) (hH_30.g4 hw33_ (by decide)) ?_
      have hH_44 : HT ω (up (up v20 t 3 1) (ρ t 1) 12 (v20 (ρ t 0) 6)) ρ Z := hH_30.upR hw33_ (by decide) rfl (by omega) (by omega)
      show wp g X F_X5_readCars 0 0 47 [(2, t)] [] (up (up v20 t 3 1) (ρ t 1) 12 (v20 (ρ t 0) 6)) ρ Z
      refine t_getR (q := (ρ t 0)) (pc := 47) hX 24 rfl rfl rfl fl_X5_9 rfl (hH_44.kd ht (by decide)) (rfl) ?_
      refine r_callV (as := []) (st := []) (K := 8) (pc := 51) hX 26 rfl mo_X8_advance ml_X5_35 im_X8_advance se_X8_advance (c_X8_advance g ω (up (up v20 t 3 1) (ρ t 1) 12 (v20 (ρ t 0) 6)) ρ Z hH_44 (ρ t 0) hw37_ ) rfl rfl rfl (hH_44.kd hw37_ (by decide)) (by rw [hRm]; exact ⟨by decide, by decide⟩) (by rw [hRm]; exact ⟨by decide, by decide⟩) (Nat.le_of_ble_eq_true rfl) (fun o51 v51 ρv51 Zv51 hq51 _ => ?_)
      obtain ⟨rfl, rfl, hfr51, hH51, rfl, hq51⟩ := hq51
      try rw [show ((up (up v20 t 3 1) (ρ t 1) 12 (v20 (ρ t 0) 6)) (ρ t 0) 1) = (v20 (ρ t 0) 1) from (up_k (by decide)).trans ((up_k (by decide)).trans (rfl))] at hq51
      show wp g X F_X5_readCars 0 0 54 [(2, t)] [] v51 ρ Z
      refine r_iconst (pc := 54) hX 27 rfl ?_
      exact r_zret (pc := 55) hX 28 hQ rfl rfl ⟨by omega, by omega⟩ (Nat.le_refl 0) (Nat.le_refl 0) ⟨rfl, rfl, ((((FrW.rf).tr hfr20 (by decide)).up (r := t) ht (by decide)).up (r := (ρ t 1)) hw33_ (by decide)).tr hfr51 (by decide), hH51, 1, rfl, (by omega)⟩
    · refine r_iconst (pc := 26) hX 13 rfl ?_
      exact r_zret (pc := 27) hX 14 hQ rfl rfl ⟨by omega, by omega⟩ (Nat.le_refl 0) (Nat.le_refl 0) ⟨rfl, rfl, (FrW.rf).tr hfr20 (by decide), hH20, 0, rfl, (by omega)⟩
  · refine t_getR (q := (ρ t 0)) (pc := 7) hX 3 rfl rfl rfl fl_X5_9 rfl (hH.kd ht (by decide)) (rfl) ?_
    have hw7_ : ω (ρ t 0) = 2 := hH.rf ht (by decide) rfl
    refine r_iconst (pc := 11) hX 5 rfl ?_
    refine r_callV (as := [(0, 3)]) (st := []) (K := 8) (pc := 12) hX 6 rfl mo_X8_refuse ml_X5_67 im_X8_refuse se_X8_refuse (c_X8_refuse g ω v ρ Z hH (ρ t 0) hw7_ (3) (by omega)) rfl rfl rfl (hH.kd hw7_ (by decide)) (by rw [hRm]; exact ⟨by decide, by decide⟩) (by rw [hRm]; exact ⟨by decide, by decide⟩) (Nat.le_of_ble_eq_true rfl) (fun o12 v12 ρv12 Zv12 hq12 _ => ?_)
    obtain ⟨rfl, rfl, hfr12, hH12, r12, rfl, hq12⟩ := hq12
    show wp g X F_X5_readCars 0 0 15 [(2, t)] [(0, r12)] v12 ρ Z
    exact r_zret (pc := 15) hX 7 hQ rfl rfl ⟨by omega, by omega⟩ (Nat.le_refl 0) (Nat.le_refl 0) ⟨rfl, rfl, (FrW.rf).tr hfr12 (by decide), hH12, r12, rfl, (by omega)⟩
set_option maxHeartbeats 4000000 in
set_option maxRecDepth 100000 in
theorem c_X5_readChange (g : Gp) (ω : Rw) (v ρ : Mv) (Z : Mz) (hH : HT ω v ρ Z) (t : Int) (ht : ω t = 4)  : Ok g 7 0 0 F_X5_readChange [(2, t)] v ρ Z (fun o9 v' ρ' Z' => ρ = ρ' ∧ Z = Z' ∧ FrW ω [2, 5] v v' ∧ HT ω v' ρ Z ∧ ∃ r : Int, o9 = some (0, r) ∧ (0 ≤ r ∧ r ≤ 1)) := by
  refine Ok.of mo_X5_readChange (Nat.le_of_ble_eq_true rfl) ?_
  intro X hX hRm hxn hQ
  show wp g X F_X5_readChange 0 0 0 [(2, t)] [] v ρ Z
  refine t_getR (q := (ρ t 1)) (pc := 0) hX 0 rfl rfl rfl fl_X5_18 rfl (hH.kd ht (by decide)) (rfl) ?_
  have hw0_ : ω (ρ t 1) = 5 := hH.rf ht (by decide) rfl
  refine e_getI (y := (v (ρ t 1) 13)) (pc := 4) hX 2 rfl fl_X5_152 rfl (hH.kd hw0_ (by decide)) (rfl) ?_
  have hb4 : 0 ≤ (v (ρ t 1) 13) ∧ (v (ρ t 1) 13) ≤ 1 := hH.rg hw0_ (by decide) rfl
  first | refine r_if_eq (pc := 7) hX 3 (tgt := 19) rfl (by decide) (⟨by omega, by omega⟩) (fun h7 => ?_) (fun h7 => ?_) | refine r_if_eq_any (pc := 7) hX 3 (tgt := 19) rfl (by decide) ?_ ?_
  · refine t_getR (q := (ρ t 1)) (pc := 19) hX 9 rfl rfl rfl fl_X5_18 rfl (hH.kd ht (by decide)) (rfl) ?_
    refine r_iconst (pc := 23) hX 11 rfl ?_
    refine r_putZ (pc := 24) hX 12 rfl fl_X5_152 rfl (fun _ h => by cases h; rfl) ⟨by omega, by omega⟩ (hH.kd hw0_ (by decide)) (hH.g4 hw0_ (by decide)) ?_
    have hH_24 : HT ω (up v (ρ t 1) 13 1) ρ Z := hH.upR hw0_ (by decide) rfl (by omega) (by omega)
    show wp g X F_X5_readChange 0 0 27 [(2, t)] [] (up v (ρ t 1) 13 1) ρ Z
    refine t_getR (q := (ρ t 0)) (pc := 27) hX 13 rfl rfl rfl fl_X5_9 rfl (hH_24.kd ht (by decide)) (rfl) ?_
    have hw27_ : ω (ρ t 0) = 2 := hH.rf ht (by decide) rfl
    refine r_callV (as := []) (st := []) (K := 8) (pc := 31) hX 15 rfl mo_X8_advance ml_X5_35 im_X8_advance se_X8_advance (c_X8_advance g ω (up v (ρ t 1) 13 1) ρ Z hH_24 (ρ t 0) hw27_ ) rfl rfl rfl (hH_24.kd hw27_ (by decide)) (by rw [hRm]; exact ⟨by decide, by decide⟩) (by rw [hRm]; exact ⟨by decide, by decide⟩) (Nat.le_of_ble_eq_true rfl) (fun o31 v31 ρv31 Zv31 hq31 _ => ?_)
    obtain ⟨rfl, rfl, hfr31, hH31, rfl, hq31⟩ := hq31
    try rw [show ((up v (ρ t 1) 13 1) (ρ t 0) 1) = (v (ρ t 0) 1) from (up_k (by decide)).trans (rfl)] at hq31
    show wp g X F_X5_readChange 0 0 34 [(2, t)] [] v31 ρ Z
    refine r_iconst (pc := 34) hX 16 rfl ?_
    exact r_zret (pc := 35) hX 17 hQ rfl rfl ⟨by omega, by omega⟩ (Nat.le_refl 0) (Nat.le_refl 0) ⟨rfl, rfl, ((FrW.rf).up (r := (ρ t 1)) hw0_ (by decide)).tr hfr31 (by decide), hH31, 1, rfl, (by omega)⟩
  · refine t_getR (q := (ρ t 0)) (pc := 10) hX 4 rfl rfl rfl fl_X5_9 rfl (hH.kd ht (by decide)) (rfl) ?_
    have hw10_ : ω (ρ t 0) = 2 := hH.rf ht (by decide) rfl
    refine r_iconst (pc := 14) hX 6 rfl ?_
    refine r_callV (as := [(0, 3)]) (st := []) (K := 8) (pc := 15) hX 7 rfl mo_X8_refuse ml_X5_67 im_X8_refuse se_X8_refuse (c_X8_refuse g ω v ρ Z hH (ρ t 0) hw10_ (3) (by omega)) rfl rfl rfl (hH.kd hw10_ (by decide)) (by rw [hRm]; exact ⟨by decide, by decide⟩) (by rw [hRm]; exact ⟨by decide, by decide⟩) (Nat.le_of_ble_eq_true rfl) (fun o15 v15 ρv15 Zv15 hq15 _ => ?_)
    obtain ⟨rfl, rfl, hfr15, hH15, r15, rfl, hq15⟩ := hq15
    show wp g X F_X5_readChange 0 0 18 [(2, t)] [(0, r15)] v15 ρ Z
    exact r_zret (pc := 18) hX 8 hQ rfl rfl ⟨by omega, by omega⟩ (Nat.le_refl 0) (Nat.le_refl 0) ⟨rfl, rfl, (FrW.rf).tr hfr15 (by decide), hH15, r15, rfl, (by omega)⟩
set_option maxHeartbeats 4000000 in
set_option maxRecDepth 100000 in
theorem c_X7_readClosing (g : Gp) (ω : Rw) (v ρ : Mv) (Z : Mz) (hH : HT ω v ρ Z) (t : Int) (ht : ω t = 21)  : Ok g 7 0 0 F_X7_readClosing [(2, t)] v ρ Z (fun o9 v' ρ' Z' => ρ = ρ' ∧ Z = Z' ∧ FrW ω [2] v v' ∧ HT ω v' ρ Z ∧ ∃ r : Int, o9 = some (0, r) ∧ (0 ≤ r ∧ r ≤ 1)) := by
  refine Ok.of mo_X7_readClosing (Nat.le_of_ble_eq_true rfl) ?_
  intro X hX hRm hxn hQ
  show wp g X F_X7_readClosing 0 0 0 [(2, t)] [] v ρ Z
  refine t_getR (q := (ρ t 0)) (pc := 0) hX 0 rfl rfl rfl fl_X7_18 rfl (hH.kd ht (by decide)) (rfl) ?_
  have hw0_ : ω (ρ t 0) = 2 := hH.rf ht (by decide) rfl
  refine r_bipush (pc := 4) hX 2 rfl (by decide) ?_
  refine r_callV (as := [(0, 41)]) (st := []) (K := 8) (pc := 6) hX 3 rfl mo_X8_isMark ml_X7_54 im_X8_isMark se_X8_isMark (c_X8_isMark g ω v ρ Z hH (ρ t 0) hw0_ (41) (by omega)) rfl rfl rfl (hH.kd hw0_ (by decide)) (by rw [hRm]; exact ⟨by decide, by decide⟩) (by rw [hRm]; exact ⟨by decide, by decide⟩) (Nat.le_of_ble_eq_true rfl) (fun o6 v6 ρv6 Zv6 hq6 _ => ?_)
  obtain ⟨rfl, rfl, rfl, r6, rfl, hq6⟩ := hq6
  show wp g X F_X7_readClosing 0 0 9 [(2, t)] [(0, r6)] v ρ Z
  first | refine r_if_ne (pc := 9) hX 4 (tgt := 21) rfl (by decide) (⟨by omega, by omega⟩) (fun h9 => ?_) (fun h9 => ?_) | refine r_if_ne_any (pc := 9) hX 4 (tgt := 21) rfl (by decide) ?_ ?_
  · refine t_getR (q := (ρ t 0)) (pc := 21) hX 10 rfl rfl rfl fl_X7_18 rfl (hH.kd ht (by decide)) (rfl) ?_
    refine r_callV (as := []) (st := []) (K := 8) (pc := 25) hX 12 rfl mo_X8_advance ml_X7_28 im_X8_advance se_X8_advance (c_X8_advance g ω v ρ Z hH (ρ t 0) hw0_ ) rfl rfl rfl (hH.kd hw0_ (by decide)) (by rw [hRm]; exact ⟨by decide, by decide⟩) (by rw [hRm]; exact ⟨by decide, by decide⟩) (Nat.le_of_ble_eq_true rfl) (fun o25 v25 ρv25 Zv25 hq25 _ => ?_)
    obtain ⟨rfl, rfl, hfr25, hH25, rfl, hq25⟩ := hq25
    show wp g X F_X7_readClosing 0 0 28 [(2, t)] [] v25 ρ Z
    refine r_iconst (pc := 28) hX 13 rfl ?_
    exact r_zret (pc := 29) hX 14 hQ rfl rfl ⟨by omega, by omega⟩ (Nat.le_refl 0) (Nat.le_refl 0) ⟨rfl, rfl, (FrW.rf).tr hfr25 (by decide), hH25, 1, rfl, (by omega)⟩
  · refine t_getR (q := (ρ t 0)) (pc := 12) hX 5 rfl rfl rfl fl_X7_18 rfl (hH.kd ht (by decide)) (rfl) ?_
    refine r_iconst (pc := 16) hX 7 rfl ?_
    refine r_callV (as := [(0, 1)]) (st := []) (K := 8) (pc := 17) hX 8 rfl mo_X8_refuse ml_X7_39 im_X8_refuse se_X8_refuse (c_X8_refuse g ω v ρ Z hH (ρ t 0) hw0_ (1) (by omega)) rfl rfl rfl (hH.kd hw0_ (by decide)) (by rw [hRm]; exact ⟨by decide, by decide⟩) (by rw [hRm]; exact ⟨by decide, by decide⟩) (Nat.le_of_ble_eq_true rfl) (fun o17 v17 ρv17 Zv17 hq17 _ => ?_)
    obtain ⟨rfl, rfl, hfr17, hH17, r17, rfl, hq17⟩ := hq17
    show wp g X F_X7_readClosing 0 0 20 [(2, t)] [(0, r17)] v17 ρ Z
    exact r_zret (pc := 20) hX 9 hQ rfl rfl ⟨by omega, by omega⟩ (Nat.le_refl 0) (Nat.le_refl 0) ⟨rfl, rfl, (FrW.rf).tr hfr17 (by decide), hH17, r17, rfl, (by omega)⟩
set_option maxHeartbeats 4000000 in
set_option maxRecDepth 100000 in
theorem c_X7_readHas (g : Gp) (ω : Rw) (v ρ : Mv) (Z : Mz) (hH : HT ω v ρ Z) (t : Int) (ht : ω t = 21) (o : Int) (ho : ω o = 5)  : Ok g 7 0 0 F_X7_readHas [(2, t), (2, o)] v ρ Z (fun o9 v' ρ' Z' => ρ = ρ' ∧ Z = Z' ∧ FrW ω [2, 19, 20] v v' ∧ HT ω v' ρ Z ∧ ∃ r : Int, o9 = some (0, r) ∧ (0 ≤ r ∧ r ≤ 1)) := by
  refine Ok.of mo_X7_readHas (Nat.le_of_ble_eq_true rfl) ?_
  intro X hX hRm hxn hQ
  show wp g X F_X7_readHas 0 0 0 [(2, t), (2, o), (3, 0)] [] v ρ Z
  refine t_getR (q := (ρ t 0)) (pc := 0) hX 0 rfl rfl rfl fl_X7_18 rfl (hH.kd ht (by decide)) (rfl) ?_
  have hw0_ : ω (ρ t 0) = 2 := hH.rf ht (by decide) rfl
  refine r_callV (as := []) (st := []) (K := 8) (pc := 4) hX 2 rfl mo_X8_isName ml_X7_71 im_X8_isName se_X8_isName (c_X8_isName g ω v ρ Z hH (ρ t 0) hw0_ ) rfl rfl rfl (hH.kd hw0_ (by decide)) (by rw [hRm]; exact ⟨by decide, by decide⟩) (by rw [hRm]; exact ⟨by decide, by decide⟩) (Nat.le_of_ble_eq_true rfl) (fun o4 v4 ρv4 Zv4 hq4 _ => ?_)
  obtain ⟨rfl, rfl, rfl, r4, rfl, hq4⟩ := hq4
  show wp g X F_X7_readHas 0 0 7 [(2, t), (2, o), (3, 0)] [(0, r4)] v ρ Z
  first | refine r_if_ne (pc := 7) hX 3 (tgt := 19) rfl (by decide) (⟨by omega, by omega⟩) (fun h7 => ?_) (fun h7 => ?_) | refine r_if_ne_any (pc := 7) hX 3 (tgt := 19) rfl (by decide) ?_ ?_
  · refine r_aload_n (pc := 19) hX 9 rfl rfl ?_
    refine t_getR (q := (ρ t 0)) (pc := 20) hX 10 rfl rfl rfl fl_X7_18 rfl (hH.kd ht (by decide)) (rfl) ?_
    refine e_getL (y := (v (ρ t 0) 8)) (pc := 24) hX 12 rfl fl_X7_74 rfl (hH.kd hw0_ (by decide)) (rfl) ?_
    refine r_callV (as := [(1, (v (ρ t 0) 8))]) (st := []) (K := 4) (pc := 27) hX 13 rfl mo_X4_colourNamed ml_X7_78 im_X4_colourNamed se_X4_colourNamed (c_X4_colourNamed g ω v ρ Z hH o ho ((v (ρ t 0) 8)) ) rfl rfl rfl (hH.kd ho (by decide)) (by rw [hRm]; exact ⟨by decide, by decide⟩) (by rw [hRm]; exact ⟨by decide, by decide⟩) (Nat.le_of_ble_eq_true rfl) (fun o27 v27 ρv27 Zv27 hq27 _ => ?_)
    obtain ⟨rfl, rfl, rfl, r27, rfl, hq27⟩ := hq27
    show wp g X F_X7_readHas 0 0 30 [(2, t), (2, o), (3, 0)] [(0, r27)] v ρ Z
    refine r_istore_n (ls' := [(2, t), (2, o), (0, r27)]) (pc := 30) hX 14 rfl (by decide) rfl ?_
    refine r_iload_n (pc := 31) hX 15 rfl rfl ?_
    refine r_iconst (pc := 32) hX 16 rfl ?_
    first | refine r_icmp_ne (pc := 33) hX 17 (tgt := 45) rfl (by decide) (⟨by omega, by omega⟩) (⟨by omega, by omega⟩) (fun h33 => ?_) (fun h33 => ?_) | refine r_icmp_ne_any (pc := 33) hX 17 (tgt := 45) rfl (by decide) ?_ ?_
    · refine t_getR (q := (ρ t 1)) (pc := 45) hX 23 rfl rfl rfl fl_X7_12 rfl (hH.kd ht (by decide)) (rfl) ?_
      have hw45_ : ω (ρ t 1) = 19 := hH.rf ht (by decide) rfl
      refine r_bipush (pc := 49) hX 25 rfl (by decide) ?_
      refine r_iconst (pc := 51) hX 26 rfl ?_
      refine r_iload_n (pc := 52) hX 27 rfl rfl ?_
      refine r_callV (as := [(0, 16), (0, 0), (0, r27)]) (st := []) (K := 6) (pc := 53) hX 28 rfl mo_X6_add ml_X7_46 im_X6_add se_X6_add (c_X6_add g ω v ρ Z hH (ρ t 1) hw45_ (16) (0) (r27) ) rfl rfl rfl (hH.kd hw45_ (by decide)) (by rw [hRm]; exact ⟨by decide, by decide⟩) (by rw [hRm]; exact ⟨by decide, by decide⟩) (Nat.le_of_ble_eq_true rfl) (fun o53 v53 ρv53 Zv53 hq53 _ => ?_)
      obtain ⟨rfl, rfl, hfr53, hH53, rfl, hq53⟩ := hq53
      show wp g X F_X7_readHas 0 0 56 [(2, t), (2, o), (0, r27)] [] v53 ρ Z
      refine t_getR (q := (ρ t 0)) (pc := 56) hX 29 rfl rfl rfl fl_X7_18 rfl (hH53.kd ht (by decide)) (rfl) ?_
      refine r_callV (as := []) (st := []) (K := 8) (pc := 60) hX 31 rfl mo_X8_advance ml_X7_28 im_X8_advance se_X8_advance (c_X8_advance g ω v53 ρ Z hH53 (ρ t 0) hw0_ ) rfl rfl rfl (hH53.kd hw0_ (by decide)) (by rw [hRm]; exact ⟨by decide, by decide⟩) (by rw [hRm]; exact ⟨by decide, by decide⟩) (Nat.le_of_ble_eq_true rfl) (fun o60 v60 ρv60 Zv60 hq60 _ => ?_)
      obtain ⟨rfl, rfl, hfr60, hH60, rfl, hq60⟩ := hq60
      try rw [show (v53 (ρ t 0) 1) = (v (ρ t 0) 1) from (hfr53.at hw0_ (by decide) 1).trans (rfl)] at hq60
      show wp g X F_X7_readHas 0 0 63 [(2, t), (2, o), (0, r27)] [] v60 ρ Z
      refine r_iconst (pc := 63) hX 32 rfl ?_
      exact r_zret (pc := 64) hX 33 hQ rfl rfl ⟨by omega, by omega⟩ (Nat.le_refl 0) (Nat.le_refl 0) ⟨rfl, rfl, ((FrW.rf).tr hfr53 (by decide)).tr hfr60 (by decide), hH60, 1, rfl, (by omega)⟩
    · refine t_getR (q := (ρ t 0)) (pc := 36) hX 18 rfl rfl rfl fl_X7_18 rfl (hH.kd ht (by decide)) (rfl) ?_
      refine r_iconst (pc := 40) hX 20 rfl ?_
      refine r_callV (as := [(0, 3)]) (st := []) (K := 8) (pc := 41) hX 21 rfl mo_X8_refuse ml_X7_39 im_X8_refuse se_X8_refuse (c_X8_refuse g ω v ρ Z hH (ρ t 0) hw0_ (3) (by omega)) rfl rfl rfl (hH.kd hw0_ (by decide)) (by rw [hRm]; exact ⟨by decide, by decide⟩) (by rw [hRm]; exact ⟨by decide, by decide⟩) (Nat.le_of_ble_eq_true rfl) (fun o41 v41 ρv41 Zv41 hq41 _ => ?_)
      obtain ⟨rfl, rfl, hfr41, hH41, r41, rfl, hq41⟩ := hq41
      show wp g X F_X7_readHas 0 0 44 [(2, t), (2, o), (0, r27)] [(0, r41)] v41 ρ Z
      exact r_zret (pc := 44) hX 22 hQ rfl rfl ⟨by omega, by omega⟩ (Nat.le_refl 0) (Nat.le_refl 0) ⟨rfl, rfl, (FrW.rf).tr hfr41 (by decide), hH41, r41, rfl, (by omega)⟩
  · refine t_getR (q := (ρ t 0)) (pc := 10) hX 4 rfl rfl rfl fl_X7_18 rfl (hH.kd ht (by decide)) (rfl) ?_
    refine r_iconst (pc := 14) hX 6 rfl ?_
    refine r_callV (as := [(0, 1)]) (st := []) (K := 8) (pc := 15) hX 7 rfl mo_X8_refuse ml_X7_39 im_X8_refuse se_X8_refuse (c_X8_refuse g ω v ρ Z hH (ρ t 0) hw0_ (1) (by omega)) rfl rfl rfl (hH.kd hw0_ (by decide)) (by rw [hRm]; exact ⟨by decide, by decide⟩) (by rw [hRm]; exact ⟨by decide, by decide⟩) (Nat.le_of_ble_eq_true rfl) (fun o15 v15 ρv15 Zv15 hq15 _ => ?_)
    obtain ⟨rfl, rfl, hfr15, hH15, r15, rfl, hq15⟩ := hq15
    show wp g X F_X7_readHas 0 0 18 [(2, t), (2, o), (3, 0)] [(0, r15)] v15 ρ Z
    exact r_zret (pc := 18) hX 8 hQ rfl rfl ⟨by omega, by omega⟩ (Nat.le_refl 0) (Nat.le_refl 0) ⟨rfl, rfl, (FrW.rf).tr hfr15 (by decide), hH15, r15, rfl, (by omega)⟩
set_option maxHeartbeats 4000000 in
set_option maxRecDepth 100000 in
theorem c_X7_readComparison (g : Gp) (ω : Rw) (v ρ : Mv) (Z : Mz) (hH : HT ω v ρ Z) (t : Int) (ht : ω t = 21) (k : Int)  : Ok g 7 0 0 F_X7_readComparison [(2, t), (0, k)] v ρ Z (fun o9 v' ρ' Z' => ρ = ρ' ∧ Z = Z' ∧ FrW ω [2, 19, 20] v v' ∧ HT ω v' ρ Z ∧ ∃ r : Int, o9 = some (0, r) ∧ (0 ≤ r ∧ r ≤ 1)) := by
  refine Ok.of mo_X7_readComparison (Nat.le_of_ble_eq_true rfl) ?_
  intro X hX hRm hxn hQ
  show wp g X F_X7_readComparison 0 0 0 [(2, t), (0, k), (3, 0)] [] v ρ Z
  refine t_getR (q := (ρ t 0)) (pc := 0) hX 0 rfl rfl rfl fl_X7_18 rfl (hH.kd ht (by decide)) (rfl) ?_
  have hw0_ : ω (ρ t 0) = 2 := hH.rf ht (by decide) rfl
  refine r_callV (as := []) (st := []) (K := 8) (pc := 4) hX 2 rfl mo_X8_isComparing ml_X7_84 im_X8_isComparing se_X8_isComparing (c_X8_isComparing g ω v ρ Z hH (ρ t 0) hw0_ ) rfl rfl rfl (hH.kd hw0_ (by decide)) (by rw [hRm]; exact ⟨by decide, by decide⟩) (by rw [hRm]; exact ⟨by decide, by decide⟩) (Nat.le_of_ble_eq_true rfl) (fun o4 v4 ρv4 Zv4 hq4 _ => ?_)
  obtain ⟨rfl, rfl, rfl, r4, rfl, hq4⟩ := hq4
  show wp g X F_X7_readComparison 0 0 7 [(2, t), (0, k), (3, 0)] [(0, r4)] v ρ Z
  first | refine r_if_ne (pc := 7) hX 3 (tgt := 19) rfl (by decide) (⟨by omega, by omega⟩) (fun h7 => ?_) (fun h7 => ?_) | refine r_if_ne_any (pc := 7) hX 3 (tgt := 19) rfl (by decide) ?_ ?_
  · refine t_getR (q := (ρ t 0)) (pc := 19) hX 9 rfl rfl rfl fl_X7_18 rfl (hH.kd ht (by decide)) (rfl) ?_
    refine e_getI (y := (v (ρ t 0) 6)) (pc := 23) hX 11 rfl fl_X7_87 rfl (hH.kd hw0_ (by decide)) (rfl) ?_
    have hb23 : (-2147483648) ≤ (v (ρ t 0) 6) ∧ (v (ρ t 0) 6) ≤ 2147483647 := hH.rg hw0_ (by decide) rfl
    refine r_istore_n (ls' := [(2, t), (0, k), (0, (v (ρ t 0) 6))]) (pc := 26) hX 12 rfl (by decide) rfl ?_
    refine t_getR (q := (ρ t 0)) (pc := 27) hX 13 rfl rfl rfl fl_X7_18 rfl (hH.kd ht (by decide)) (rfl) ?_
    refine r_callV (as := []) (st := []) (K := 8) (pc := 31) hX 15 rfl mo_X8_advance ml_X7_28 im_X8_advance se_X8_advance (c_X8_advance g ω v ρ Z hH (ρ t 0) hw0_ ) rfl rfl rfl (hH.kd hw0_ (by decide)) (by rw [hRm]; exact ⟨by decide, by decide⟩) (by rw [hRm]; exact ⟨by decide, by decide⟩) (Nat.le_of_ble_eq_true rfl) (fun o31 v31 ρv31 Zv31 hq31 _ => ?_)
    obtain ⟨rfl, rfl, hfr31, hH31, rfl, hq31⟩ := hq31
    show wp g X F_X7_readComparison 0 0 34 [(2, t), (0, k), (0, (v (ρ t 0) 6))] [] v31 ρ Z
    refine t_getR (q := (ρ t 0)) (pc := 34) hX 16 rfl rfl rfl fl_X7_18 rfl (hH31.kd ht (by decide)) (rfl) ?_
    refine r_callV (as := []) (st := []) (K := 8) (pc := 38) hX 18 rfl mo_X8_isNumber ml_X7_90 im_X8_isNumber se_X8_isNumber (c_X8_isNumber g ω v31 ρ Z hH31 (ρ t 0) hw0_ ) rfl rfl rfl (hH31.kd hw0_ (by decide)) (by rw [hRm]; exact ⟨by decide, by decide⟩) (by rw [hRm]; exact ⟨by decide, by decide⟩) (Nat.le_of_ble_eq_true rfl) (fun o38 v38 ρv38 Zv38 hq38 _ => ?_)
    obtain ⟨rfl, rfl, rfl, r38, rfl, hq38⟩ := hq38
    show wp g X F_X7_readComparison 0 0 41 [(2, t), (0, k), (0, (v (ρ t 0) 6))] [(0, r38)] v31 ρ Z
    first | refine r_if_ne (pc := 41) hX 19 (tgt := 53) rfl (by decide) (⟨by omega, by omega⟩) (fun h41 => ?_) (fun h41 => ?_) | refine r_if_ne_any (pc := 41) hX 19 (tgt := 53) rfl (by decide) ?_ ?_
    · refine t_getR (q := (ρ t 1)) (pc := 53) hX 25 rfl rfl rfl fl_X7_12 rfl (hH31.kd ht (by decide)) (rfl) ?_
      have hw53_ : ω (ρ t 1) = 19 := hH.rf ht (by decide) rfl
      refine r_iload_n (pc := 57) hX 27 rfl rfl ?_
      refine r_iload_n (pc := 58) hX 28 rfl rfl ?_
      refine t_getR (q := (ρ t 0)) (pc := 59) hX 29 rfl rfl rfl fl_X7_18 rfl (hH31.kd ht (by decide)) (rfl) ?_
      refine e_getI (y := (v31 (ρ t 0) 6)) (pc := 63) hX 31 rfl fl_X7_87 rfl (hH31.kd hw0_ (by decide)) (rfl) ?_
      have hb63 : (-2147483648) ≤ (v31 (ρ t 0) 6) ∧ (v31 (ρ t 0) 6) ≤ 2147483647 := hH31.rg hw0_ (by decide) rfl
      refine r_callV (as := [(0, k), (0, (v (ρ t 0) 6)), (0, (v31 (ρ t 0) 6))]) (st := []) (K := 6) (pc := 66) hX 32 rfl mo_X6_add ml_X7_46 im_X6_add se_X6_add (c_X6_add g ω v31 ρ Z hH31 (ρ t 1) hw53_ (k) ((v (ρ t 0) 6)) ((v31 (ρ t 0) 6)) ) rfl rfl rfl (hH31.kd hw53_ (by decide)) (by rw [hRm]; exact ⟨by decide, by decide⟩) (by rw [hRm]; exact ⟨by decide, by decide⟩) (Nat.le_of_ble_eq_true rfl) (fun o66 v66 ρv66 Zv66 hq66 _ => ?_)
      obtain ⟨rfl, rfl, hfr66, hH66, rfl, hq66⟩ := hq66
      try rw [show (v31 (ρ t 1) 4) = (v (ρ t 1) 4) from (hfr31.at hw53_ (by decide) 4).trans (rfl)] at hq66
      show wp g X F_X7_readComparison 0 0 69 [(2, t), (0, k), (0, (v (ρ t 0) 6))] [] v66 ρ Z
      refine t_getR (q := (ρ t 0)) (pc := 69) hX 33 rfl rfl rfl fl_X7_18 rfl (hH66.kd ht (by decide)) (rfl) ?_
      refine r_callV (as := []) (st := []) (K := 8) (pc := 73) hX 35 rfl mo_X8_advance ml_X7_28 im_X8_advance se_X8_advance (c_X8_advance g ω v66 ρ Z hH66 (ρ t 0) hw0_ ) rfl rfl rfl (hH66.kd hw0_ (by decide)) (by rw [hRm]; exact ⟨by decide, by decide⟩) (by rw [hRm]; exact ⟨by decide, by decide⟩) (Nat.le_of_ble_eq_true rfl) (fun o73 v73 ρv73 Zv73 hq73 _ => ?_)
      obtain ⟨rfl, rfl, hfr73, hH73, rfl, hq73⟩ := hq73
      try rw [show (v66 (ρ t 0) 1) = (v31 (ρ t 0) 1) from (hfr66.at hw0_ (by decide) 1).trans (rfl)] at hq73
      show wp g X F_X7_readComparison 0 0 76 [(2, t), (0, k), (0, (v (ρ t 0) 6))] [] v73 ρ Z
      refine r_iconst (pc := 76) hX 36 rfl ?_
      exact r_zret (pc := 77) hX 37 hQ rfl rfl ⟨by omega, by omega⟩ (Nat.le_refl 0) (Nat.le_refl 0) ⟨rfl, rfl, (((FrW.rf).tr hfr31 (by decide)).tr hfr66 (by decide)).tr hfr73 (by decide), hH73, 1, rfl, (by omega)⟩
    · refine t_getR (q := (ρ t 0)) (pc := 44) hX 20 rfl rfl rfl fl_X7_18 rfl (hH31.kd ht (by decide)) (rfl) ?_
      refine r_iconst (pc := 48) hX 22 rfl ?_
      refine r_callV (as := [(0, 1)]) (st := []) (K := 8) (pc := 49) hX 23 rfl mo_X8_refuse ml_X7_39 im_X8_refuse se_X8_refuse (c_X8_refuse g ω v31 ρ Z hH31 (ρ t 0) hw0_ (1) (by omega)) rfl rfl rfl (hH31.kd hw0_ (by decide)) (by rw [hRm]; exact ⟨by decide, by decide⟩) (by rw [hRm]; exact ⟨by decide, by decide⟩) (Nat.le_of_ble_eq_true rfl) (fun o49 v49 ρv49 Zv49 hq49 _ => ?_)
      obtain ⟨rfl, rfl, hfr49, hH49, r49, rfl, hq49⟩ := hq49
      show wp g X F_X7_readComparison 0 0 52 [(2, t), (0, k), (0, (v (ρ t 0) 6))] [(0, r49)] v49 ρ Z
      exact r_zret (pc := 52) hX 24 hQ rfl rfl ⟨by omega, by omega⟩ (Nat.le_refl 0) (Nat.le_refl 0) ⟨rfl, rfl, ((FrW.rf).tr hfr31 (by decide)).tr hfr49 (by decide), hH49, r49, rfl, (by omega)⟩
  · refine t_getR (q := (ρ t 0)) (pc := 10) hX 4 rfl rfl rfl fl_X7_18 rfl (hH.kd ht (by decide)) (rfl) ?_
    refine r_iconst (pc := 14) hX 6 rfl ?_
    refine r_callV (as := [(0, 1)]) (st := []) (K := 8) (pc := 15) hX 7 rfl mo_X8_refuse ml_X7_39 im_X8_refuse se_X8_refuse (c_X8_refuse g ω v ρ Z hH (ρ t 0) hw0_ (1) (by omega)) rfl rfl rfl (hH.kd hw0_ (by decide)) (by rw [hRm]; exact ⟨by decide, by decide⟩) (by rw [hRm]; exact ⟨by decide, by decide⟩) (Nat.le_of_ble_eq_true rfl) (fun o15 v15 ρv15 Zv15 hq15 _ => ?_)
    obtain ⟨rfl, rfl, hfr15, hH15, r15, rfl, hq15⟩ := hq15
    show wp g X F_X7_readComparison 0 0 18 [(2, t), (0, k), (3, 0)] [(0, r15)] v15 ρ Z
    exact r_zret (pc := 18) hX 8 hQ rfl rfl ⟨by omega, by omega⟩ (Nat.le_refl 0) (Nat.le_refl 0) ⟨rfl, rfl, (FrW.rf).tr hfr15 (by decide), hH15, r15, rfl, (by omega)⟩
