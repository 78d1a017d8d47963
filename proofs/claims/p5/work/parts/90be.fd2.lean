set_option maxHeartbeats 4000000 in
set_option maxRecDepth 100000 in
theorem c_X8_appendF (g : Gp) (ω : Rw) (v ρ : Mv) (Z : Mz) (hH : HT ω v ρ Z) (t : Int) (ht : ω t = 2) (x : Int) (hl : v t 1 ≤ 936) : Ok g 1 0 0 F_X8_append [(2, t), (0, x)] v ρ Z (fun o9 v' ρ' Z' => ρ = ρ' ∧ Z = Z' ∧ FrW ω [2, 3] v v' ∧ HT ω v' ρ Z ∧ o9 = none ∧ (v' t 1 = v t 1 + 4) ∧ (v' (ρ t 0) = ap (v (ρ t 0)) (v t 1) x) ∧ (∀ j, j ≠ 1 → v' t j = v t j)) := by
  refine Ok.of mo_X8_append (Nat.le_of_ble_eq_true rfl) ?_
  intro X hX hRm hxn hQ
  show wp g X F_X8_append 0 0 0 [(2, t), (0, x), (3, 0)] [] v ρ Z
  have hg_t_1 : 0 ≤ v t 1 ∧ v t 1 ≤ 940 := hH.rg ht (by decide) rfl
  have hwB : ω (ρ t 0) = 3 := hH.rf ht (by decide) rfl
  refine r_bipush (pc := 0) hX 0 rfl (by decide) ?_
  refine r_istore_n (ls' := [(2, t), (0, x), (0, 24)]) (pc := 2) hX 1 rfl (by decide) rfl ?_
  have L3 : ∀ (n3 : Nat) (s : Int) (v3 : Mv) , (FrW ω [2, 3] v v3) → (HT ω v3 ρ Z) → (-8 ≤ s ∧ s ≤ 24 ∧ 8 * (v3 t 1 - v t 1) = 24 - s) → (v3 (ρ t 0) = apn (v (ρ t 0)) (v t 1) x (v3 t 1 - v t 1).toNat) → (∀ j, j ≠ 1 → v3 t j = v t j) → (s + 8).toNat < n3 → wp g X F_X8_append 0 0 3 [(2, t), (0, x), (0, s)] [] v3 ρ Z := by
    intro n3
    induction n3 with
    | zero => intro s v3 hfr3 hH3 is ib ij hme3; exact absurd hme3 (Nat.not_lt_zero _)
    | succ n3 ih3 =>
      intro s v3 hfr3 hH3 is ib ij hme3
      refine r_iload_n (pc := 3) hX 2 rfl rfl ?_
      first | refine r_if_lt (pc := 4) hX 3 (tgt := 46) rfl (by decide) (⟨by omega, by omega⟩) (fun h4 => ?_) (fun h4 => ?_) | refine r_if_lt_any (pc := 4) hX 3 (tgt := 46) rfl (by decide) ?_ ?_
      · exact r_vret (pc := 46) hX 25 hQ rfl rfl (Nat.le_of_ble_eq_true rfl) (Nat.le_of_ble_eq_true rfl) ⟨rfl, rfl, hfr3, hH3, rfl, (by omega), (by rw [ib, show (v3 t 1 - v t 1).toNat = 4 by omega]; rfl), (ij)⟩
      · refine t_getI (y := (v3 t 1)) (pc := 7) hX 4 rfl rfl rfl fl_X8_15 rfl (hH3.kd ht (by decide)) (rfl) ?_
        have hb7 : 0 ≤ (v3 t 1) ∧ (v3 t 1) ≤ 940 := hH3.rg ht (by decide) rfl
        refine r_sipush (pc := 11) hX 6 rfl (by decide) ?_
        first | refine r_icmp_ge (pc := 14) hX 7 (tgt := 46) rfl (by decide) (⟨by omega, by omega⟩) (⟨by omega, by omega⟩) (fun h14 => ?_) (fun h14 => ?_) | refine r_icmp_ge_any (pc := 14) hX 7 (tgt := 46) rfl (by decide) ?_ ?_
        · exact absurd h14 (by omega)
        · refine t_getR (q := (ρ t 0)) (pc := 17) hX 8 rfl rfl rfl fl_X8_11 rfl (hH3.kd ht (by decide)) (rfl) ?_
          have hw17_ : ω (ρ t 0) = 3 := hH.rf ht (by decide) rfl
          refine t_getI (y := (v3 t 1)) (pc := 21) hX 10 rfl rfl rfl fl_X8_15 rfl (hH3.kd ht (by decide)) (rfl) ?_
          refine r_iload_n (pc := 25) hX 12 rfl rfl ?_
          refine r_iload_n (pc := 26) hX 13 rfl rfl ?_
          refine r_ishrE (pc := 27) hX 14 rfl ?_
          refine r_i2bE (pc := 28) hX 15 rfl ?_
          have hb28 := byI_b (shI x s)
          refine e_bast (n := 940) (pc := 29) hX 16 rfl (hH3.kd hw17_ (by decide)) (hH3.ln hw17_ (by decide)) (hH3.g4 hw17_ (by decide)) (by omega) (by omega) ⟨by omega, by omega⟩ ?_
          have hH_29 : HT ω (up v3 (ρ t 0) (v3 t 1) (byI (shI x s))) ρ Z := hH3.up0 hw17_ (by decide) rfl
          refine r_aload_n (pc := 30) hX 17 rfl rfl ?_
          refine r_dup (pc := 31) hX 18 rfl (show (2 : Nat) ≠ 1 by decide) ?_
          refine e_getI (y := (v3 t 1)) (pc := 32) hX 19 rfl fl_X8_15 rfl (hH_29.kd ht (by decide)) ((up_r (rne ht hw17_ (by decide))).trans (rfl)) ?_
          refine r_iconst (pc := 35) hX 20 rfl ?_
          refine r_iadd (pc := 36) hX 21 rfl ?_
          refine r_putI (pc := 37) hX 22 rfl fl_X8_15 rfl (fun _ h => by cases h; rfl) (hH_29.kd ht (by decide)) (hH_29.g4 ht (by decide)) ?_
          have hH_37 : HT ω (up (up v3 (ρ t 0) (v3 t 1) (byI (shI x s))) t 1 ((v3 t 1) + 1)) ρ Z := hH_29.upR ht (by decide) rfl (by omega) (by omega)
          show wp g X F_X8_append 0 0 40 [(2, t), (0, x), (0, s)] [] (up (up v3 (ρ t 0) (v3 t 1) (byI (shI x s))) t 1 ((v3 t 1) + 1)) ρ Z
          refine r_iinc (ls' := [(2, t), (0, x), (0, (s + (-8)))]) (pc := 40) hX 23 rfl rfl (by decide) rfl ?_
          refine r_goto (pc := 43) hX 24 (tgt := 3) rfl (by decide) ?_
          exact (ih3 (s + (-8)) (up (up v3 (ρ t 0) (v3 t 1) (byI (shI x s))) t 1 ((v3 t 1) + 1)) (((hfr3).up (r := (ρ t 0)) hw17_ (by decide)).up (r := t) ht (by decide)) (hH_37) (by rw [(show (up (up v3 (ρ t 0) (v3 t 1) (byI (shI x s))) t 1 ((v3 t 1) + 1)) t 1 = ((v3 t 1) + 1) from up_s _ _ _ _)]; omega) (by
          rw [(show (up (up v3 (ρ t 0) (v3 t 1) (byI (shI x s))) t 1 ((v3 t 1) + 1)) t 1 = ((v3 t 1) + 1) from up_s _ _ _ _), up_f (rne hwB ht (by decide)), up_row, show (v3 t 1 + 1 - v t 1).toNat = (v3 t 1 - v t 1).toNat + 1 by omega]
          exact apn_s ib (by omega) (by omega)) (fun j hj => by rw [up_k hj, up_r (rne ht hwB (by decide))]; exact ij j hj) (by omega))
  exact (L3 _ 24 v (FrW.rf) (hH) (by omega) (by rw [show (v t 1 - v t 1).toNat = 0 by omega]; rfl) (fun _ _ => rfl) (Nat.lt_succ_self _))
set_option maxHeartbeats 4000000 in
set_option maxRecDepth 100000 in
theorem c_X11_feedF (g : Gp) (ω : Rw) (v ρ : Mv) (Z : Mz) (hH : HT ω v ρ Z) (t : Int) (ht : ω t = 1) (a : Int) (b : Int) (c : Int) (d : Int) (e : Int)  : Ok g 2 0 0 F_X11_feed [(2, t), (0, a), (0, b), (0, c), (0, d), (0, e)] v ρ Z (fun o9 v' ρ' Z' => ρ = ρ' ∧ Z = Z' ∧ FrW ω [2, 3] v v' ∧ HT ω v' ρ Z ∧ ∃ r : Int, o9 = some (0, r) ∧ ((v (ρ t 0) 1 ≤ 920 ∧ r = v (ρ t 0) 1 + 20 ∧ v' (ρ t 0) 1 = v (ρ t 0) 1 + 20 ∨ 920 < v (ρ t 0) 1 ∧ r = -1 ∧ v' (ρ t 0) 1 = v (ρ t 0) 1)) ∧ ((r = -1 ∧ v' (ρ (ρ t 0) 0) = v (ρ (ρ t 0) 0) ∨ r = v (ρ t 0) 1 + 20 ∧ v' (ρ (ρ t 0) 0) = ap5 (v (ρ (ρ t 0) 0)) (v (ρ t 0) 1) a b c d e))) := by
  refine Ok.of mo_X11_feed (Nat.le_of_ble_eq_true rfl) ?_
  intro X hX hRm hxn hQ
  show wp g X F_X11_feed 0 0 0 [(2, t), (0, a), (0, b), (0, c), (0, d), (0, e)] [] v ρ Z
  have hwT : ω (ρ t 4) = 22 := hH.rf ht (by decide) rfl
  have hwR : ω (ρ (ρ t 4) 0) = 5 := hH.rf hwT (by decide) rfl
  have hgR8 : 0 ≤ v (ρ (ρ t 4) 0) 8 ∧ v (ρ (ρ t 4) 0) 8 ≤ 4 := hH.rg hwR (by decide) rfl
  have hgR9 : 0 ≤ v (ρ (ρ t 4) 0) 9 ∧ v (ρ (ρ t 4) 0) 9 ≤ 3 := hH.rg hwR (by decide) rfl
  have hgR10 : 0 ≤ v (ρ (ρ t 4) 0) 10 ∧ v (ρ (ρ t 4) 0) 10 ≤ 3 := hH.rg hwR (by decide) rfl
  have hwX : ω (ρ t 0) = 2 := hH.rf ht (by decide) rfl
  have hgL : 0 ≤ v (ρ t 0) 1 ∧ v (ρ t 0) 1 ≤ 940 := hH.rg hwX (by decide) rfl
  refine t_getR (q := (ρ t 0)) (pc := 0) hX 0 rfl rfl rfl fl_X11_12 rfl (hH.kd ht (by decide)) (rfl) ?_
  have hw0_ : ω (ρ t 0) = 2 := hH.rf ht (by decide) rfl
  refine r_bipush (pc := 4) hX 2 rfl (by decide) ?_
  refine r_callV (as := [(0, 20)]) (st := []) (K := 8) (pc := 6) hX 3 rfl mo_X8_hasRoom ml_X11_115 im_X8_hasRoom se_X8_hasRoom (c_X8_hasRoom g ω v ρ Z hH (ρ t 0) hw0_ (20) (by omega)) rfl rfl rfl (hH.kd hw0_ (by decide)) (by rw [hRm]; exact ⟨by decide, by decide⟩) (by rw [hRm]; exact ⟨by decide, by decide⟩) (Nat.le_of_ble_eq_true rfl) (fun o6 v6 ρv6 Zv6 hq6 _ => ?_)
  obtain ⟨rfl, rfl, rfl, r6, rfl, hq6⟩ := hq6
  show wp g X F_X11_feed 0 0 9 [(2, t), (0, a), (0, b), (0, c), (0, d), (0, e)] [(0, r6)] v ρ Z
  first | refine r_if_ne (pc := 9) hX 4 (tgt := 14) rfl (by decide) (⟨by omega, by omega⟩) (fun h9 => ?_) (fun h9 => ?_) | refine r_if_ne_any (pc := 9) hX 4 (tgt := 14) rfl (by decide) ?_ ?_
  · refine t_getR (q := (ρ t 0)) (pc := 14) hX 7 rfl rfl rfl fl_X11_12 rfl (hH.kd ht (by decide)) (rfl) ?_
    refine r_iload_n (pc := 18) hX 9 rfl rfl ?_
    refine r_callV (as := [(0, a)]) (st := []) (K := 8) (pc := 19) hX 10 rfl mo_X8_append ml_X11_119 im_X8_append se_X8_append (c_X8_appendF g ω v ρ Z hH (ρ t 0) hw0_ (a) (by omega)) rfl rfl rfl (hH.kd hw0_ (by decide)) (by rw [hRm]; exact ⟨by decide, by decide⟩) (by rw [hRm]; exact ⟨by decide, by decide⟩) (Nat.le_of_ble_eq_true rfl) (fun o19 v19 ρv19 Zv19 hq19 _ => ?_)
    obtain ⟨rfl, rfl, hfr19, hH19, rfl, hq19⟩ := hq19
    show wp g X F_X11_feed 0 0 22 [(2, t), (0, a), (0, b), (0, c), (0, d), (0, e)] [] v19 ρ Z
    refine t_getR (q := (ρ t 0)) (pc := 22) hX 11 rfl rfl rfl fl_X11_12 rfl (hH19.kd ht (by decide)) (rfl) ?_
    refine r_iload_n (pc := 26) hX 13 rfl rfl ?_
    refine r_callV (as := [(0, b)]) (st := []) (K := 8) (pc := 27) hX 14 rfl mo_X8_append ml_X11_119 im_X8_append se_X8_append (c_X8_appendF g ω v19 ρ Z hH19 (ρ t 0) hw0_ (b) (by omega)) rfl rfl rfl (hH19.kd hw0_ (by decide)) (by rw [hRm]; exact ⟨by decide, by decide⟩) (by rw [hRm]; exact ⟨by decide, by decide⟩) (Nat.le_of_ble_eq_true rfl) (fun o27 v27 ρv27 Zv27 hq27 _ => ?_)
    obtain ⟨rfl, rfl, hfr27, hH27, rfl, hq27⟩ := hq27
    show wp g X F_X11_feed 0 0 30 [(2, t), (0, a), (0, b), (0, c), (0, d), (0, e)] [] v27 ρ Z
    refine t_getR (q := (ρ t 0)) (pc := 30) hX 15 rfl rfl rfl fl_X11_12 rfl (hH27.kd ht (by decide)) (rfl) ?_
    refine r_iload_n (pc := 34) hX 17 rfl rfl ?_
    refine r_callV (as := [(0, c)]) (st := []) (K := 8) (pc := 35) hX 18 rfl mo_X8_append ml_X11_119 im_X8_append se_X8_append (c_X8_appendF g ω v27 ρ Z hH27 (ρ t 0) hw0_ (c) (by omega)) rfl rfl rfl (hH27.kd hw0_ (by decide)) (by rw [hRm]; exact ⟨by decide, by decide⟩) (by rw [hRm]; exact ⟨by decide, by decide⟩) (Nat.le_of_ble_eq_true rfl) (fun o35 v35 ρv35 Zv35 hq35 _ => ?_)
    obtain ⟨rfl, rfl, hfr35, hH35, rfl, hq35⟩ := hq35
    show wp g X F_X11_feed 0 0 38 [(2, t), (0, a), (0, b), (0, c), (0, d), (0, e)] [] v35 ρ Z
    refine t_getR (q := (ρ t 0)) (pc := 38) hX 19 rfl rfl rfl fl_X11_12 rfl (hH35.kd ht (by decide)) (rfl) ?_
    refine r_iload (pc := 42) hX 21 rfl rfl ?_
    refine r_callV (as := [(0, d)]) (st := []) (K := 8) (pc := 44) hX 22 rfl mo_X8_append ml_X11_119 im_X8_append se_X8_append (c_X8_appendF g ω v35 ρ Z hH35 (ρ t 0) hw0_ (d) (by omega)) rfl rfl rfl (hH35.kd hw0_ (by decide)) (by rw [hRm]; exact ⟨by decide, by decide⟩) (by rw [hRm]; exact ⟨by decide, by decide⟩) (Nat.le_of_ble_eq_true rfl) (fun o44 v44 ρv44 Zv44 hq44 _ => ?_)
    obtain ⟨rfl, rfl, hfr44, hH44, rfl, hq44⟩ := hq44
    show wp g X F_X11_feed 0 0 47 [(2, t), (0, a), (0, b), (0, c), (0, d), (0, e)] [] v44 ρ Z
    refine t_getR (q := (ρ t 0)) (pc := 47) hX 23 rfl rfl rfl fl_X11_12 rfl (hH44.kd ht (by decide)) (rfl) ?_
    refine r_iload (pc := 51) hX 25 rfl rfl ?_
    refine r_callV (as := [(0, e)]) (st := []) (K := 8) (pc := 53) hX 26 rfl mo_X8_append ml_X11_119 im_X8_append se_X8_append (c_X8_appendF g ω v44 ρ Z hH44 (ρ t 0) hw0_ (e) (by omega)) rfl rfl rfl (hH44.kd hw0_ (by decide)) (by rw [hRm]; exact ⟨by decide, by decide⟩) (by rw [hRm]; exact ⟨by decide, by decide⟩) (Nat.le_of_ble_eq_true rfl) (fun o53 v53 ρv53 Zv53 hq53 _ => ?_)
    obtain ⟨rfl, rfl, hfr53, hH53, rfl, hq53⟩ := hq53
    show wp g X F_X11_feed 0 0 56 [(2, t), (0, a), (0, b), (0, c), (0, d), (0, e)] [] v53 ρ Z
    refine t_getR (q := (ρ t 0)) (pc := 56) hX 27 rfl rfl rfl fl_X11_12 rfl (hH53.kd ht (by decide)) (rfl) ?_
    refine e_getI (y := (v53 (ρ t 0) 1)) (pc := 60) hX 29 rfl fl_X11_123 rfl (hH53.kd hw0_ (by decide)) (rfl) ?_
    have hb60 : 0 ≤ (v53 (ρ t 0) 1) ∧ (v53 (ρ t 0) 1) ≤ 940 := hH53.rg hw0_ (by decide) rfl
    exact r_iret (pc := 63) hX 30 hQ rfl rfl (Nat.le_of_ble_eq_true rfl) (Nat.le_of_ble_eq_true rfl) ⟨rfl, rfl, (((((FrW.rf).tr hfr19 (by decide)).tr hfr27 (by decide)).tr hfr35 (by decide)).tr hfr44 (by decide)).tr hfr53 (by decide), hH53, (v53 (ρ t 0) 1), rfl, (by omega), (by
        refine Or.inr ⟨by omega, ?_⟩
        have e2 : v19 (ρ t 0) 1 = v (ρ t 0) 1 + 4 := by omega
        have e3 : v27 (ρ t 0) 1 = v (ρ t 0) 1 + 8 := by omega
        have e4 : v35 (ρ t 0) 1 = v (ρ t 0) 1 + 12 := by omega
        have e5 : v44 (ρ t 0) 1 = v (ρ t 0) 1 + 16 := by omega
        rw [hq53.2.1, hq44.2.1, hq35.2.1, hq27.2.1, hq19.2.1, e2, e3, e4, e5]
        rfl)⟩
  · refine r_iconst (pc := 12) hX 5 rfl ?_
    exact r_iret (pc := 13) hX 6 hQ rfl rfl (Nat.le_of_ble_eq_true rfl) (Nat.le_of_ble_eq_true rfl) ⟨rfl, rfl, FrW.rf, hH, (-1), rfl, (by omega), (Or.inl ⟨rfl, rfl⟩)⟩
set_option maxHeartbeats 4000000 in
set_option maxRecDepth 100000 in
theorem c_X11_restoreF (g : Gp) (ω : Rw) (v ρ : Mv) (Z : Mz) (hH : HT ω v ρ Z) (t : Int) (ht : ω t = 1) (k : Int) (hkr : inR k) : Ok g 3 0 0 F_X11_restore [(2, t), (0, k)] v ρ Z (fun o9 v' ρ' Z' => Z = Z' ∧ FrW ω [22, 23, 24, 25, 26, 27] v v' ∧ FrW ω [1, 22] ρ ρ' ∧ HT ω v' ρ' Z ∧ ∃ r : Int, o9 = some (0, r) ∧ ((r = 1 ∧ 0 ≤ k ∧ k ≤ 1 ∧ v (ρ t 13) k ≠ 0 ∨ r = 0 ∧ (k < 0 ∨ 1 < k ∨ v (ρ t 13) k = 0))) ∧ (ρ' t 0 = ρ t 0 ∧ ρ' t 13 = ρ t 13) ∧ (ρ' t 1 = ρ t 1)) := by
  refine Ok.of mo_X11_restore (Nat.le_of_ble_eq_true rfl) ?_
  intro X hX hRm hxn hQ
  show wp g X F_X11_restore 0 0 0 [(2, t), (0, k)] [] v ρ Z
  have hwT : ω (ρ t 4) = 22 := hH.rf ht (by decide) rfl
  have hwR : ω (ρ (ρ t 4) 0) = 5 := hH.rf hwT (by decide) rfl
  have hgR8 : 0 ≤ v (ρ (ρ t 4) 0) 8 ∧ v (ρ (ρ t 4) 0) 8 ≤ 4 := hH.rg hwR (by decide) rfl
  have hgR9 : 0 ≤ v (ρ (ρ t 4) 0) 9 ∧ v (ρ (ρ t 4) 0) 9 ≤ 3 := hH.rg hwR (by decide) rfl
  have hgR10 : 0 ≤ v (ρ (ρ t 4) 0) 10 ∧ v (ρ (ρ t 4) 0) 10 ≤ 3 := hH.rg hwR (by decide) rfl
  have hwX : ω (ρ t 0) = 2 := hH.rf ht (by decide) rfl
  have hgL : 0 ≤ v (ρ t 0) 1 ∧ v (ρ t 0) 1 ≤ 940 := hH.rg hwX (by decide) rfl
  refine r_iload_n (pc := 0) hX 0 rfl rfl ?_
  have L18 : (k < 0 ∨ 1 < k ∨ v (ρ t 13) k = 0) → wp g X F_X11_restore 0 0 18 [(2, t), (0, k)] [] v ρ Z := by
    intro i18
    refine r_iconst (pc := 18) hX 10 rfl ?_
    exact r_zret (pc := 19) hX 11 hQ rfl rfl ⟨by omega, by omega⟩ (Nat.le_of_ble_eq_true rfl) (Nat.le_of_ble_eq_true rfl) ⟨rfl, FrW.rf, FrW.rf, hH, 0, rfl, (by omega), (⟨rfl, rfl⟩), (rfl)⟩
  first | refine r_if_lt (pc := 1) hX 1 (tgt := 18) rfl (by decide) (⟨by omega, by omega⟩) (fun h1 => ?_) (fun h1 => ?_) | refine r_if_lt_any (pc := 1) hX 1 (tgt := 18) rfl (by decide) ?_ ?_
  · exact (L18  (by omega) )
  · refine r_iload_n (pc := 4) hX 2 rfl rfl ?_
    refine r_iconst (pc := 5) hX 3 rfl ?_
    first | refine r_icmp_ge (pc := 6) hX 4 (tgt := 18) rfl (by decide) (⟨by omega, by omega⟩) (⟨by omega, by omega⟩) (fun h6 => ?_) (fun h6 => ?_) | refine r_icmp_ge_any (pc := 6) hX 4 (tgt := 18) rfl (by decide) ?_ ?_
    · exact (L18  (by omega) )
    · refine t_getR (q := (ρ t 13)) (pc := 9) hX 5 rfl rfl rfl fl_X11_101 rfl (hH.kd ht (by decide)) (rfl) ?_
      have hw9_ : ω (ρ t 13) = 62 := hH.rf ht (by decide) rfl
      refine r_iload_n (pc := 13) hX 7 rfl rfl ?_
      refine e_zald (y := (v (ρ t 13) k)) (n := 2) (pc := 14) hX 8 rfl (hH.kd hw9_ (by decide)) (hH.ln hw9_ (by decide)) (by omega) (by omega) (rfl) (fun hb14a hb14b => ?_)
      first | refine r_if_ne (pc := 15) hX 9 (tgt := 20) rfl (by decide) (⟨by omega, by omega⟩) (fun h15 => ?_) (fun h15 => ?_) | refine r_if_ne_any (pc := 15) hX 9 (tgt := 20) rfl (by decide) ?_ ?_
      · refine t_getR (q := (ρ t 4)) (pc := 20) hX 12 rfl rfl rfl fl_X11_47 rfl (hH.kd ht (by decide)) (rfl) ?_
        have hw20_ : ω (ρ t 4) = 22 := hH.rf ht (by decide) rfl
        refine t_getR (q := (ρ t 11)) (pc := 24) hX 14 rfl rfl rfl fl_X11_91 rfl (hH.kd ht (by decide)) (rfl) ?_
        have hw24_ : ω (ρ t 11) = 60 := hH.rf ht (by decide) rfl
        refine r_iload_n (pc := 28) hX 16 rfl rfl ?_
        refine r_aald (q := (ρ (ρ t 11) k)) (pc := 29) hX 17 17 rfl (hH.kd hw24_ (by decide)) (by decide) (by decide) rfl rfl (by omega) (by rw [show Z.2.1 (ρ t 11) = 2 from (hH.ln hw24_ (by decide))]; omega) (rfl) ?_
        have hw29_ : ω (ρ (ρ t 11) k) = 66 := hH.rf hw24_ (by decide) (rf60 ⟨by omega, by omega⟩)
        refine r_callV (as := [(2, (ρ (ρ t 11) k))]) (st := []) (K := 9) (pc := 30) hX 18 rfl mo_X9_copyFrom ml_X11_364 im_X9_copyFrom se_X9_copyFrom (c_X9_copyFrom g ω v ρ Z hH (ρ t 4) hw20_ (ρ (ρ t 11) k) hw29_ ) rfl rfl rfl (hH.kd hw20_ (by decide)) (by rw [hRm]; exact ⟨by decide, by decide⟩) (by rw [hRm]; exact ⟨by decide, by decide⟩) (Nat.le_of_ble_eq_true rfl) (fun o30 v30 ρv30 Zv30 hq30 _ => ?_)
        obtain ⟨rfl, hfr30, hfrR30, hH30, rfl, hq30⟩ := hq30
        show wp g X F_X11_restore 0 0 33 [(2, t), (0, k)] [] v30 ρv30 Z
        refine r_aload_n (pc := 33) hX 19 rfl rfl ?_
        refine t_getR (q := (ρ t 12)) (pc := 34) hX 20 rfl rfl rfl fl_X11_97 rfl (hH30.kd ht (by decide)) ((hfrR30.at ht (by decide) 12).trans (rfl)) ?_
        have hw34_ : ω (ρ t 12) = 61 := hH.rf ht (by decide) rfl
        refine r_iload_n (pc := 38) hX 22 rfl rfl ?_
        refine r_aald (q := (ρ (ρ t 12) k)) (pc := 39) hX 23 18 rfl (hH30.kd hw34_ (by decide)) (by decide) (by decide) rfl rfl (by omega) (by rw [show Z.2.1 (ρ t 12) = 2 from (hH30.ln hw34_ (by decide))]; omega) ((hfrR30.at hw34_ (by decide) k).trans (rfl)) ?_
        have hw39_ : (ρ (ρ t 12) k) < 0 ∨ ω (ρ (ρ t 12) k) = 19 := hH.rn hw34_ (by decide) (rn61 ⟨by omega, by omega⟩)
        refine r_putR (pc := 40) hX 24 rfl fl_X11_140 rfl (fun _ h => by cases h; rfl) (hH30.kd ht (by decide)) (hH30.g4 ht (by decide)) ?_
        have hH_40 : HT ω v30 (up ρv30 t 17 (ρ (ρ t 12) k)) Z := hH30.un ht rfl (hw39_) rfl
        show wp g X F_X11_restore 0 0 43 [(2, t), (0, k)] [] v30 (up ρv30 t 17 (ρ (ρ t 12) k)) Z
        refine t_getR (q := (ρ t 6)) (pc := 43) hX 25 rfl rfl rfl fl_X11_61 rfl (hH_40.kd ht (by decide)) ((up_k (by decide)).trans ((hfrR30.at ht (by decide) 6).trans (rfl))) ?_
        have hw43_ : ω (ρ t 6) = 27 := hH.rf ht (by decide) rfl
        refine r_callV (as := []) (st := []) (K := 3) (pc := 47) hX 27 rfl mo_X3_forget ml_X11_137 im_X3_forget se_X3_forget (c_X3_forget g ω v30 (up ρv30 t 17 (ρ (ρ t 12) k)) Z hH_40 (ρ t 6) hw43_ ) rfl rfl rfl (hH_40.kd hw43_ (by decide)) (by rw [hRm]; exact ⟨by decide, by decide⟩) (by rw [hRm]; exact ⟨by decide, by decide⟩) (Nat.le_of_ble_eq_true rfl) (fun o47 v47 ρv47 Zv47 hq47 _ => ?_)
        obtain ⟨rfl, rfl, hfr47, hH47, rfl, hq47⟩ := hq47
        show wp g X F_X11_restore 0 0 50 [(2, t), (0, k)] [] v47 (up ρv30 t 17 (ρ (ρ t 12) k)) Z
        refine r_iconst (pc := 50) hX 28 rfl ?_
        exact r_zret (pc := 51) hX 29 hQ rfl rfl ⟨by omega, by omega⟩ (Nat.le_of_ble_eq_true rfl) (Nat.le_of_ble_eq_true rfl) ⟨rfl, ((FrW.rf).tr hfr30 (by decide)).tr hfr47 (by decide), ((FrW.rf).tr hfrR30 (by decide)).up (r := t) ht (by decide), hH47, 1, rfl, (by omega), (⟨(up_k (by decide)).trans (hfrR30.at ht (by decide) 0), (up_k (by decide)).trans (hfrR30.at ht (by decide) 13)⟩), ((up_k (by decide)).trans (hfrR30.at ht (by decide) 1))⟩
      · exact (L18  (by omega) )
set_option maxHeartbeats 4000000 in
set_option maxRecDepth 100000 in
theorem c_X11_sentenceF (g : Gp) (ω : Rw) (v ρ : Mv) (Z : Mz) (hH : HT ω v ρ Z) (t : Int) (ht : ω t = 1)  : Ok g 27 4 125 F_X11_sentence [(2, t)] v ρ Z (fun o9 v' ρ' Z' => ∃ ω' : Rw, OmX Z.2.2 ω ω' ∧ ZzX Z.2.2 Z Z' ∧ FrB Z.2.2 ω [2, 19, 20] v v' ∧ FrB Z.2.2 ω [1, 21] ρ ρ' ∧ HT ω' v' ρ' Z' ∧ ∃ r : Int, o9 = some (0, r) ∧ (v' (ρ' t 0) 1 = 0) ∧ (ρ' t 0 = ρ t 0 ∧ ρ' t 13 = ρ t 13) ∧ (ρ' t 1 = ρ t 1)) := by
  refine Ok.of mo_X11_sentence (Nat.le_of_ble_eq_true rfl) ?_
  intro X hX hRm hxn hQ
  show wp g X F_X11_sentence 0 0 0 [(2, t), (3, 0)] [] v ρ Z
  have htz := hH.lt ht (by decide)
  have ht0 := ht
  refine t_getR (q := (ρ t 3)) (pc := 0) hX 0 rfl rfl rfl fl_X11_35 rfl (hH.kd ht (by decide)) (rfl) ?_
  have hw0_ : ω (ρ t 3) = 21 := hH.rf ht (by decide) rfl
  refine t_getR (q := (ρ t 4)) (pc := 4) hX 2 rfl rfl rfl fl_X11_47 rfl (hH.kd ht (by decide)) (rfl) ?_
  have hw4_ : ω (ρ t 4) = 22 := hH.rf ht (by decide) rfl
  refine r_getR (q := (ρ (ρ t 4) 0)) (pc := 8) hX 4 rfl fl_X11_51 rfl (hH.kd hw4_ (by decide)) (rfl) ?_
  have hw8_ : ω (ρ (ρ t 4) 0) = 5 := hH.rf hw4_ (by decide) rfl
  refine r_callV (as := [(2, (ρ (ρ t 4) 0))]) (st := []) (K := 7) (pc := 11) hX 5 rfl mo_X7_read ml_X11_373 im_X7_read se_X7_read (c_X7_read g ω v ρ Z hH (ρ t 3) hw0_ (ρ (ρ t 4) 0) hw8_ ) rfl rfl rfl (hH.kd hw0_ (by decide)) (by rw [hRm]; exact ⟨by decide, by decide⟩) (by rw [hRm]; exact ⟨by decide, by decide⟩) (Nat.le_of_ble_eq_true rfl) (fun o11 v11 ρv11 Zv11 hq11 _ => ?_)
  obtain ⟨ωv11, homv11, hzzv11, hfr11, hfrR11, hH11, r11, rfl, hq11⟩ := hq11
  replace ht : ωv11 t = 1 := (homv11 t (hH.lt ht (by decide))).trans ht
  replace hw0_ : ωv11 (ρ t 3) = 21 := (homv11 (ρ t 3) (hH.lt hw0_ (by decide))).trans hw0_
  replace hw4_ : ωv11 (ρ t 4) = 22 := (homv11 (ρ t 4) (hH.lt hw4_ (by decide))).trans hw4_
  replace hw8_ : ωv11 (ρ (ρ t 4) 0) = 5 := (homv11 (ρ (ρ t 4) 0) (hH.lt hw8_ (by decide))).trans hw8_
  show wp g X F_X11_sentence 4 125 14 [(2, t), (3, 0)] [(2, r11)] v11 ρv11 Zv11
  refine r_astore_n (ls' := [(2, t), (2, r11)]) (pc := 14) hX 6 rfl (by decide) rfl ?_
  refine t_getR (q := (ρv11 t 0)) (pc := 15) hX 7 rfl rfl rfl fl_X11_12 rfl (hH11.kd ht (by decide)) (rfl) ?_
  have hw15_ : ωv11 (ρv11 t 0) = 2 := hH11.rf ht (by decide) rfl
  refine r_iconst (pc := 19) hX 9 rfl ?_
  refine r_putI (pc := 20) hX 10 rfl fl_X11_123 rfl (fun _ h => by cases h; rfl) (hH11.kd hw15_ (by decide)) (hH11.g4 hw15_ (by decide)) ?_
  have hH_20 : HT ωv11 (up v11 (ρv11 t 0) 1 0) ρv11 Zv11 := hH11.upR hw15_ (by decide) rfl (by omega) (by omega)
  show wp g X F_X11_sentence 4 125 23 [(2, t), (2, r11)] [] (up v11 (ρv11 t 0) 1 0) ρv11 Zv11
  refine r_aload_n (pc := 23) hX 11 rfl rfl ?_
  refine r_ifnonnull (pc := 24) hX 12 (tgt := 37) rfl (by decide) (fun h24 => ?_) (fun h24 => ?_)
  · have hwf1_ : ωv11 r11 = 19 := hq11.resolve_left (by omega)
    refine r_aload_n (pc := 37) hX 19 rfl rfl ?_
    refine r_aload_n (pc := 38) hX 20 rfl rfl ?_
    refine r_putR (pc := 39) hX 21 rfl fl_X11_140 rfl (fun _ h => by cases h; rfl) (hH_20.kd ht (by decide)) (hH_20.g4 ht (by decide)) ?_
    have hH_39 : HT ωv11 (up v11 (ρv11 t 0) 1 0) (up ρv11 t 17 r11) Zv11 := hH_20.un ht rfl (Or.inr hwf1_) rfl
    show wp g X F_X11_sentence 4 125 42 [(2, t), (2, r11)] [] (up v11 (ρv11 t 0) 1 0) (up ρv11 t 17 r11) Zv11
    refine r_aload_n (pc := 42) hX 22 rfl rfl ?_
    refine e_getI (y := (v11 r11 4)) (pc := 43) hX 23 rfl fl_X11_376 rfl (hH_39.kd hwf1_ (by decide)) ((up_k (by decide)).trans (rfl)) ?_
    have hb43 : 0 ≤ (v11 r11 4) ∧ (v11 r11 4) ≤ 20 := hH11.rg hwf1_ (by decide) rfl
    exact r_iret (pc := 46) hX 24 hQ rfl rfl (Nat.le_of_ble_eq_true rfl) (Nat.le_of_ble_eq_true rfl) ⟨ωv11, (OmX.tr OmX.rf homv11 (by first | exact Int.le_refl _ | omega)), (ZzX.tr ZzX.rf hzzv11 (by first | exact Int.le_refl _ | omega)), ((FrB.rf).trB OmX.rf hfr11 (by first | exact Int.le_refl _ | omega) (by decide)).up (r := (ρv11 t 0)) (OmX.tr OmX.rf homv11 (by first | exact Int.le_refl _ | omega)) hw15_ (by decide), ((FrB.rf).trB OmX.rf hfrR11 (by first | exact Int.le_refl _ | omega) (by decide)).up (r := t) (OmX.tr OmX.rf homv11 (by first | exact Int.le_refl _ | omega)) ht (by decide), hH_39, (v11 r11 4), rfl, (by rw [show (up ρv11 t 17 r11) t 0 = ρv11 t 0 from up_k (by decide)]; exact up_s _ _ _ _), (⟨by rw [up_k (by decide), hfrR11 t htz (by rw [ht0]; decide)], by rw [up_k (by decide), hfrR11 t htz (by rw [ht0]; decide)]⟩), (by rw [up_k (by decide), hfrR11 t htz (by rw [ht0]; decide)])⟩
  · refine r_iconst (pc := 27) hX 13 rfl ?_
    refine t_getR (q := (ρv11 t 0)) (pc := 28) hX 14 rfl rfl rfl fl_X11_12 rfl (hH_20.kd ht (by decide)) (rfl) ?_
    refine e_getI (y := (v11 (ρv11 t 0) 10)) (pc := 32) hX 16 rfl fl_X11_131 rfl (hH_20.kd hw15_ (by decide)) ((up_k (by decide)).trans (rfl)) ?_
    have hb32 : 0 ≤ (v11 (ρv11 t 0) 10) ∧ (v11 (ρv11 t 0) 10) ≤ 1000 := hH11.rg hw15_ (by decide) rfl
    refine r_isub (pc := 35) hX 17 rfl ?_
    exact r_iret (pc := 36) hX 18 hQ rfl rfl (Nat.le_of_ble_eq_true rfl) (Nat.le_of_ble_eq_true rfl) ⟨ωv11, (OmX.tr OmX.rf homv11 (by first | exact Int.le_refl _ | omega)), (ZzX.tr ZzX.rf hzzv11 (by first | exact Int.le_refl _ | omega)), ((FrB.rf).trB OmX.rf hfr11 (by first | exact Int.le_refl _ | omega) (by decide)).up (r := (ρv11 t 0)) (OmX.tr OmX.rf homv11 (by first | exact Int.le_refl _ | omega)) hw15_ (by decide), (FrB.rf).trB OmX.rf hfrR11 (by first | exact Int.le_refl _ | omega) (by decide), hH_20, ((-1) - (v11 (ρv11 t 0) 10)), rfl, (up_s _ _ _ _), (⟨by rw [hfrR11 t htz (by rw [ht0]; decide)], by rw [hfrR11 t htz (by rw [ht0]; decide)]⟩), (by rw [hfrR11 t htz (by rw [ht0]; decide)])⟩
