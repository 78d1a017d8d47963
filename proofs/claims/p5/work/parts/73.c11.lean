set_option maxHeartbeats 4000000 in
set_option maxRecDepth 100000 in
theorem c_X11_feed (g : Gp) (ω : Rw) (v ρ : Mv) (Z : Mz) (hH : HT ω v ρ Z) (t : Int) (ht : ω t = 1) (a : Int) (b : Int) (c : Int) (d : Int) (e : Int)  : Ok g 2 0 0 F_X11_feed [(2, t), (0, a), (0, b), (0, c), (0, d), (0, e)] v ρ Z (fun o9 v' ρ' Z' => ρ = ρ' ∧ Z = Z' ∧ FrW ω [2, 3] v v' ∧ HT ω v' ρ Z ∧ ∃ r : Int, o9 = some (0, r) ∧ ((v (ρ t 0) 1 ≤ 920 ∧ r = v (ρ t 0) 1 + 20 ∧ v' (ρ t 0) 1 = v (ρ t 0) 1 + 20 ∨ 920 < v (ρ t 0) 1 ∧ r = -1 ∧ v' (ρ t 0) 1 = v (ρ t 0) 1))) := by
  refine Ok.of mo_X11_feed (Nat.le_of_ble_eq_true rfl) ?_
  intro X hX hRm hxn hQ
  show wp g X F_X11_feed 0 0 0 [(2, t), (0, a), (0, b), (0, c), (0, d), (0, e)] [] v ρ Z
  have hwT : ω (ρ t 4) = 22 := hH.rf ht (by decide) rfl
  have hwR : ω (ρ (ρ t 4) 0) = 5 := hH.rf hwT (by decide) rfl
  have hgR8 : 0 ≤ v (ρ (ρ t 4) 0) 8 ∧ v (ρ (ρ t 4) 0) 8 ≤ 4 := hH.rg hwR (by decide) rfl
  have hgR9 : 0 ≤ v (ρ (ρ t 4) 0) 9 ∧ v (ρ (ρ t 4) 0) 9 ≤ 3 := hH.rg hwR (by decide) rfl
  have hgR10 : 0 ≤ v (ρ (ρ t 4) 0) 10 ∧ v (ρ (ρ t 4) 0) 10 ≤ 3 := hH.rg hwR (by decide) rfl
  have hwX : ω (ρ t 0) = 2 := hH.rf ht (by decide) rfl
  have hgL : 0 ≤ v (ρ t 0) 1 ∧ v (ρ t 0) 1 ≤ 940 := hH.rg hwX (by decide) rfl
  refine t_getR (q := (ρ t 0)) (pc := 0) hX 0 rfl rfl rfl fl_X11_12 rfl (hH.kd ht (by decide)) (rfl) ?_
  have hw0_ : ω (ρ t 0) = 2 := hH.rf ht (by decide) rfl
  refine r_bipush (pc := 4) hX 2 rfl (by decide) ?_
  refine r_callV (as := [(0, 20)]) (st := []) (K := 8) (pc := 6) hX 3 rfl mo_X8_hasRoom ml_X11_115 im_X8_hasRoom se_X8_hasRoom (c_X8_hasRoom g ω v ρ Z hH (ρ t 0) hw0_ (20) (by omega)) rfl rfl rfl (hH.kd hw0_ (by decide)) (by rw [hRm]; exact ⟨by decide, by decide⟩) (by rw [hRm]; exact ⟨by decide, by decide⟩) (Nat.le_of_ble_eq_true rfl) (fun o6 v6 ρv6 Zv6 hq6 _ => ?_)
  obtain ⟨rfl, rfl, rfl, r6, rfl, hq6⟩ := hq6
  show wp g X F_X11_feed 0 0 9 [(2, t), (0, a), (0, b), (0, c), (0, d), (0, e)] [(0, r6)] v ρ Z
  first | refine r_if_ne (pc := 9) hX 4 (tgt := 14) rfl (by decide) (⟨by omega, by omega⟩) (fun h9 => ?_) (fun h9 => ?_) | refine r_if_ne_any (pc := 9) hX 4 (tgt := 14) rfl (by decide) ?_ ?_
  · refine t_getR (q := (ρ t 0)) (pc := 14) hX 7 rfl rfl rfl fl_X11_12 rfl (hH.kd ht (by decide)) (rfl) ?_
    refine r_iload_n (pc := 18) hX 9 rfl rfl ?_
    refine r_callV (as := [(0, a)]) (st := []) (K := 8) (pc := 19) hX 10 rfl mo_X8_append ml_X11_119 im_X8_append se_X8_append (c_X8_append g ω v ρ Z hH (ρ t 0) hw0_ (a) ) rfl rfl rfl (hH.kd hw0_ (by decide)) (by rw [hRm]; exact ⟨by decide, by decide⟩) (by rw [hRm]; exact ⟨by decide, by decide⟩) (Nat.le_of_ble_eq_true rfl) (fun o19 v19 ρv19 Zv19 hq19 _ => ?_)
    obtain ⟨rfl, rfl, hfr19, hH19, rfl, hq19⟩ := hq19
    show wp g X F_X11_feed 0 0 22 [(2, t), (0, a), (0, b), (0, c), (0, d), (0, e)] [] v19 ρ Z
    refine t_getR (q := (ρ t 0)) (pc := 22) hX 11 rfl rfl rfl fl_X11_12 rfl (hH19.kd ht (by decide)) (rfl) ?_
    refine r_iload_n (pc := 26) hX 13 rfl rfl ?_
    refine r_callV (as := [(0, b)]) (st := []) (K := 8) (pc := 27) hX 14 rfl mo_X8_append ml_X11_119 im_X8_append se_X8_append (c_X8_append g ω v19 ρ Z hH19 (ρ t 0) hw0_ (b) ) rfl rfl rfl (hH19.kd hw0_ (by decide)) (by rw [hRm]; exact ⟨by decide, by decide⟩) (by rw [hRm]; exact ⟨by decide, by decide⟩) (Nat.le_of_ble_eq_true rfl) (fun o27 v27 ρv27 Zv27 hq27 _ => ?_)
    obtain ⟨rfl, rfl, hfr27, hH27, rfl, hq27⟩ := hq27
    show wp g X F_X11_feed 0 0 30 [(2, t), (0, a), (0, b), (0, c), (0, d), (0, e)] [] v27 ρ Z
    refine t_getR (q := (ρ t 0)) (pc := 30) hX 15 rfl rfl rfl fl_X11_12 rfl (hH27.kd ht (by decide)) (rfl) ?_
    refine r_iload_n (pc := 34) hX 17 rfl rfl ?_
    refine r_callV (as := [(0, c)]) (st := []) (K := 8) (pc := 35) hX 18 rfl mo_X8_append ml_X11_119 im_X8_append se_X8_append (c_X8_append g ω v27 ρ Z hH27 (ρ t 0) hw0_ (c) ) rfl rfl rfl (hH27.kd hw0_ (by decide)) (by rw [hRm]; exact ⟨by decide, by decide⟩) (by rw [hRm]; exact ⟨by decide, by decide⟩) (Nat.le_of_ble_eq_true rfl) (fun o35 v35 ρv35 Zv35 hq35 _ => ?_)
    obtain ⟨rfl, rfl, hfr35, hH35, rfl, hq35⟩ := hq35
    show wp g X F_X11_feed 0 0 38 [(2, t), (0, a), (0, b), (0, c), (0, d), (0, e)] [] v35 ρ Z
    refine t_getR (q := (ρ t 0)) (pc := 38) hX 19 rfl rfl rfl fl_X11_12 rfl (hH35.kd ht (by decide)) (rfl) ?_
    refine r_iload (pc := 42) hX 21 rfl rfl ?_
    refine r_callV (as := [(0, d)]) (st := []) (K := 8) (pc := 44) hX 22 rfl mo_X8_append ml_X11_119 im_X8_append se_X8_append (c_X8_append g ω v35 ρ Z hH35 (ρ t 0) hw0_ (d) ) rfl rfl rfl (hH35.kd hw0_ (by decide)) (by rw [hRm]; exact ⟨by decide, by decide⟩) (by rw [hRm]; exact ⟨by decide, by decide⟩) (Nat.le_of_ble_eq_true rfl) (fun o44 v44 ρv44 Zv44 hq44 _ => ?_)
    obtain ⟨rfl, rfl, hfr44, hH44, rfl, hq44⟩ := hq44
    show wp g X F_X11_feed 0 0 47 [(2, t), (0, a), (0, b), (0, c), (0, d), (0, e)] [] v44 ρ Z
    refine t_getR (q := (ρ t 0)) (pc := 47) hX 23 rfl rfl rfl fl_X11_12 rfl (hH44.kd ht (by decide)) (rfl) ?_
    refine r_iload (pc := 51) hX 25 rfl rfl ?_
    refine r_callV (as := [(0, e)]) (st := []) (K := 8) (pc := 53) hX 26 rfl mo_X8_append ml_X11_119 im_X8_append se_X8_append (c_X8_append g ω v44 ρ Z hH44 (ρ t 0) hw0_ (e) ) rfl rfl rfl (hH44.kd hw0_ (by decide)) (by rw [hRm]; exact ⟨by decide, by decide⟩) (by rw [hRm]; exact ⟨by decide, by decide⟩) (Nat.le_of_ble_eq_true rfl) (fun o53 v53 ρv53 Zv53 hq53 _ => ?_)
    obtain ⟨rfl, rfl, hfr53, hH53, rfl, hq53⟩ := hq53
    show wp g X F_X11_feed 0 0 56 [(2, t), (0, a), (0, b), (0, c), (0, d), (0, e)] [] v53 ρ Z
    refine t_getR (q := (ρ t 0)) (pc := 56) hX 27 rfl rfl rfl fl_X11_12 rfl (hH53.kd ht (by decide)) (rfl) ?_
    refine e_getI (y := (v53 (ρ t 0) 1)) (pc := 60) hX 29 rfl fl_X11_123 rfl (hH53.kd hw0_ (by decide)) (rfl) ?_
    have hb60 : 0 ≤ (v53 (ρ t 0) 1) ∧ (v53 (ρ t 0) 1) ≤ 940 := hH53.rg hw0_ (by decide) rfl
    exact r_iret (pc := 63) hX 30 hQ rfl rfl (Nat.le_of_ble_eq_true rfl) (Nat.le_of_ble_eq_true rfl) ⟨rfl, rfl, (((((FrW.rf).tr hfr19 (by decide)).tr hfr27 (by decide)).tr hfr35 (by decide)).tr hfr44 (by decide)).tr hfr53 (by decide), hH53, (v53 (ρ t 0) 1), rfl, (by omega)⟩
  · refine r_iconst (pc := 12) hX 5 rfl ?_
    exact r_iret (pc := 13) hX 6 hQ rfl rfl (Nat.le_of_ble_eq_true rfl) (Nat.le_of_ble_eq_true rfl) ⟨rfl, rfl, FrW.rf, hH, (-1), rfl, (by omega)⟩
set_option maxHeartbeats 4000000 in
set_option maxRecDepth 100000 in
theorem c_X11_end (g : Gp) (ω : Rw) (v ρ : Mv) (Z : Mz) (hH : HT ω v ρ Z) (t : Int) (ht : ω t = 1) (n : Int) (hnr : inR n) : Ok g 1 0 0 F_X11_end [(2, t), (0, n)] v ρ Z (fun o9 v' ρ' Z' => ρ = ρ' ∧ Z = Z' ∧ FrW ω [2] v v' ∧ HT ω v' ρ Z ∧ ∃ r : Int, o9 = some (0, r) ∧ ((r = 1 ∧ 0 ≤ n ∧ n ≤ v (ρ t 0) 1 ∧ v' (ρ t 0) 1 = n ∨ r = 0 ∧ (n < 0 ∨ v (ρ t 0) 1 < n) ∧ v' (ρ t 0) 1 = v (ρ t 0) 1))) := by
  refine Ok.of mo_X11_end (Nat.le_of_ble_eq_true rfl) ?_
  intro X hX hRm hxn hQ
  show wp g X F_X11_end 0 0 0 [(2, t), (0, n)] [] v ρ Z
  have hwT : ω (ρ t 4) = 22 := hH.rf ht (by decide) rfl
  have hwR : ω (ρ (ρ t 4) 0) = 5 := hH.rf hwT (by decide) rfl
  have hgR8 : 0 ≤ v (ρ (ρ t 4) 0) 8 ∧ v (ρ (ρ t 4) 0) 8 ≤ 4 := hH.rg hwR (by decide) rfl
  have hgR9 : 0 ≤ v (ρ (ρ t 4) 0) 9 ∧ v (ρ (ρ t 4) 0) 9 ≤ 3 := hH.rg hwR (by decide) rfl
  have hgR10 : 0 ≤ v (ρ (ρ t 4) 0) 10 ∧ v (ρ (ρ t 4) 0) 10 ≤ 3 := hH.rg hwR (by decide) rfl
  have hwX : ω (ρ t 0) = 2 := hH.rf ht (by decide) rfl
  have hgL : 0 ≤ v (ρ t 0) 1 ∧ v (ρ t 0) 1 ≤ 940 := hH.rg hwX (by decide) rfl
  refine r_iload_n (pc := 0) hX 0 rfl rfl ?_
  first | refine r_if_lt (pc := 1) hX 1 (tgt := 15) rfl (by decide) (⟨by omega, by omega⟩) (fun h1 => ?_) (fun h1 => ?_) | refine r_if_lt_any (pc := 1) hX 1 (tgt := 15) rfl (by decide) ?_ ?_
  · refine r_iconst (pc := 15) hX 7 rfl ?_
    exact r_zret (pc := 16) hX 8 hQ rfl rfl ⟨by omega, by omega⟩ (Nat.le_of_ble_eq_true rfl) (Nat.le_of_ble_eq_true rfl) ⟨rfl, rfl, FrW.rf, hH, 0, rfl, (by omega)⟩
  · refine r_iload_n (pc := 4) hX 2 rfl rfl ?_
    refine t_getR (q := (ρ t 0)) (pc := 5) hX 3 rfl rfl rfl fl_X11_12 rfl (hH.kd ht (by decide)) (rfl) ?_
    have hw5_ : ω (ρ t 0) = 2 := hH.rf ht (by decide) rfl
    refine e_getI (y := (v (ρ t 0) 1)) (pc := 9) hX 5 rfl fl_X11_123 rfl (hH.kd hw5_ (by decide)) (rfl) ?_
    have hb9 : 0 ≤ (v (ρ t 0) 1) ∧ (v (ρ t 0) 1) ≤ 940 := hH.rg hw5_ (by decide) rfl
    first | refine r_icmp_le (pc := 12) hX 6 (tgt := 17) rfl (by decide) (⟨by omega, by omega⟩) (⟨by omega, by omega⟩) (fun h12 => ?_) (fun h12 => ?_) | refine r_icmp_le_any (pc := 12) hX 6 (tgt := 17) rfl (by decide) ?_ ?_
    · refine t_getR (q := (ρ t 0)) (pc := 17) hX 9 rfl rfl rfl fl_X11_12 rfl (hH.kd ht (by decide)) (rfl) ?_
      refine r_iload_n (pc := 21) hX 11 rfl rfl ?_
      refine r_putI (pc := 22) hX 12 rfl fl_X11_123 rfl (fun _ h => by cases h; rfl) (hH.kd hw5_ (by decide)) (hH.g4 hw5_ (by decide)) ?_
      have hH_22 : HT ω (up v (ρ t 0) 1 n) ρ Z := hH.upR hw5_ (by decide) rfl (by omega) (by omega)
      show wp g X F_X11_end 0 0 25 [(2, t), (0, n)] [] (up v (ρ t 0) 1 n) ρ Z
      refine r_iconst (pc := 25) hX 13 rfl ?_
      show wp g X F_X11_end 0 0 26 [(2, t), (0, n)] [(0, 1)] (up v (ρ t 0) 1 n) ρ Z
      exact r_zret (pc := 26) hX 14 hQ rfl rfl ⟨by omega, by omega⟩ (Nat.le_of_ble_eq_true rfl) (Nat.le_of_ble_eq_true rfl) ⟨rfl, rfl, (FrW.rf).up (r := (ρ t 0)) hw5_ (by decide), hH_22, 1, rfl, (Or.inl ⟨rfl, by omega, by omega, by rw [(show (up v (ρ t 0) 1 n) (ρ t 0) 1 = n from up_s _ _ _ _)]⟩)⟩
    · refine r_iconst (pc := 15) hX 7 rfl ?_
      exact r_zret (pc := 16) hX 8 hQ rfl rfl ⟨by omega, by omega⟩ (Nat.le_of_ble_eq_true rfl) (Nat.le_of_ble_eq_true rfl) ⟨rfl, rfl, FrW.rf, hH, 0, rfl, (by omega)⟩
set_option maxHeartbeats 4000000 in
set_option maxRecDepth 100000 in
theorem c_X11_fault (g : Gp) (ω : Rw) (v ρ : Mv) (Z : Mz) (hH : HT ω v ρ Z) (t : Int) (ht : ω t = 1)  : Ok g 1 0 0 F_X11_fault [(2, t)] v ρ Z (fun o9 v' ρ' Z' => ρ = ρ' ∧ Z = Z' ∧ v = v' ∧ ∃ r : Int, o9 = some (0, r) ∧ True) := by
  refine Ok.of mo_X11_fault (Nat.le_of_ble_eq_true rfl) ?_
  intro X hX hRm hxn hQ
  show wp g X F_X11_fault 0 0 0 [(2, t)] [] v ρ Z
  have hwT : ω (ρ t 4) = 22 := hH.rf ht (by decide) rfl
  have hwR : ω (ρ (ρ t 4) 0) = 5 := hH.rf hwT (by decide) rfl
  have hgR8 : 0 ≤ v (ρ (ρ t 4) 0) 8 ∧ v (ρ (ρ t 4) 0) 8 ≤ 4 := hH.rg hwR (by decide) rfl
  have hgR9 : 0 ≤ v (ρ (ρ t 4) 0) 9 ∧ v (ρ (ρ t 4) 0) 9 ≤ 3 := hH.rg hwR (by decide) rfl
  have hgR10 : 0 ≤ v (ρ (ρ t 4) 0) 10 ∧ v (ρ (ρ t 4) 0) 10 ≤ 3 := hH.rg hwR (by decide) rfl
  have hwX : ω (ρ t 0) = 2 := hH.rf ht (by decide) rfl
  have hgL : 0 ≤ v (ρ t 0) 1 ∧ v (ρ t 0) 1 ≤ 940 := hH.rg hwX (by decide) rfl
  refine t_getR (q := (ρ t 0)) (pc := 0) hX 0 rfl rfl rfl fl_X11_12 rfl (hH.kd ht (by decide)) (rfl) ?_
  have hw0_ : ω (ρ t 0) = 2 := hH.rf ht (by decide) rfl
  refine e_getI (y := (v (ρ t 0) 9)) (pc := 4) hX 2 rfl fl_X11_147 rfl (hH.kd hw0_ (by decide)) (rfl) ?_
  have hb4 : 0 ≤ (v (ρ t 0) 9) ∧ (v (ρ t 0) 9) ≤ 4 := hH.rg hw0_ (by decide) rfl
  exact r_iret (pc := 7) hX 3 hQ rfl rfl (Nat.le_of_ble_eq_true rfl) (Nat.le_of_ble_eq_true rfl) ⟨rfl, rfl, rfl, (v (ρ t 0) 9), rfl, trivial⟩
set_option maxHeartbeats 4000000 in
set_option maxRecDepth 100000 in
theorem c_X11_colour (g : Gp) (ω : Rw) (v ρ : Mv) (Z : Mz) (hH : HT ω v ρ Z) (t : Int) (ht : ω t = 1) (c : Int) (w : Int) (hcr : inR c) (hwr : inR w) : Ok g 2 0 0 F_X11_colour [(2, t), (0, c), (0, w)] v ρ Z (fun o9 v' ρ' Z' => ρ = ρ' ∧ Z = Z' ∧ v = v' ∧ ∃ r : Int, o9 = some (0, r) ∧ True) := by
  refine Ok.of mo_X11_colour (Nat.le_of_ble_eq_true rfl) ?_
  intro X hX hRm hxn hQ
  show wp g X F_X11_colour 0 0 0 [(2, t), (0, c), (0, w)] [] v ρ Z
  have hwT : ω (ρ t 4) = 22 := hH.rf ht (by decide) rfl
  have hwR : ω (ρ (ρ t 4) 0) = 5 := hH.rf hwT (by decide) rfl
  have hgR8 : 0 ≤ v (ρ (ρ t 4) 0) 8 ∧ v (ρ (ρ t 4) 0) 8 ≤ 4 := hH.rg hwR (by decide) rfl
  have hgR9 : 0 ≤ v (ρ (ρ t 4) 0) 9 ∧ v (ρ (ρ t 4) 0) 9 ≤ 3 := hH.rg hwR (by decide) rfl
  have hgR10 : 0 ≤ v (ρ (ρ t 4) 0) 10 ∧ v (ρ (ρ t 4) 0) 10 ≤ 3 := hH.rg hwR (by decide) rfl
  have hwX : ω (ρ t 0) = 2 := hH.rf ht (by decide) rfl
  have hgL : 0 ≤ v (ρ t 0) 1 ∧ v (ρ t 0) 1 ≤ 940 := hH.rg hwX (by decide) rfl
  refine t_getR (q := (ρ t 4)) (pc := 0) hX 0 rfl rfl rfl fl_X11_47 rfl (hH.kd ht (by decide)) (rfl) ?_
  have hw0_ : ω (ρ t 4) = 22 := hH.rf ht (by decide) rfl
  refine r_getR (q := (ρ (ρ t 4) 0)) (pc := 4) hX 2 rfl fl_X11_51 rfl (hH.kd hw0_ (by decide)) (rfl) ?_
  have hw4_ : ω (ρ (ρ t 4) 0) = 5 := hH.rf hw0_ (by decide) rfl
  refine r_iload_n (pc := 7) hX 3 rfl rfl ?_
  refine r_callV (as := [(0, c)]) (st := []) (K := 4) (pc := 8) hX 4 rfl mo_X4_hasColour ml_X11_150 im_X4_hasColour se_X4_hasColour (c_X4_hasColour g ω v ρ Z hH (ρ (ρ t 4) 0) hw4_ (c) (by omega)) rfl rfl rfl (hH.kd hw4_ (by decide)) (by rw [hRm]; exact ⟨by decide, by decide⟩) (by rw [hRm]; exact ⟨by decide, by decide⟩) (Nat.le_of_ble_eq_true rfl) (fun o8 v8 ρv8 Zv8 hq8 _ => ?_)
  obtain ⟨rfl, rfl, rfl, r8, rfl, hq8⟩ := hq8
  show wp g X F_X11_colour 0 0 11 [(2, t), (0, c), (0, w)] [(0, r8)] v ρ Z
  first | refine r_if_ne (pc := 11) hX 5 (tgt := 16) rfl (by decide) (⟨by omega, by omega⟩) (fun h11 => ?_) (fun h11 => ?_) | refine r_if_ne_any (pc := 11) hX 5 (tgt := 16) rfl (by decide) ?_ ?_
  · refine r_iload_n (pc := 16) hX 8 rfl rfl ?_
    have hsw17 : w < 0 ∨ 3 < w ∨ w = 0 ∨ w = 1 ∨ w = 2 ∨ w = 3 := by omega
    rcases hsw17 with hsw17 | hsw17 | hsw17 | hsw17 | hsw17 | hsw17
    · refine r_tsOut (pc := 17) hX 9 (tgt := 100) rfl ⟨by omega, by omega⟩ (by omega) (by decide) ?_
      refine r_iconst (pc := 100) hX 38 rfl ?_
      exact r_iret (pc := 101) hX 39 hQ rfl rfl (Nat.le_of_ble_eq_true rfl) (Nat.le_of_ble_eq_true rfl) ⟨rfl, rfl, rfl, (-1), rfl, trivial⟩
    · refine r_tsOut (pc := 17) hX 9 (tgt := 100) rfl ⟨by omega, by omega⟩ (by omega) (by decide) ?_
      refine r_iconst (pc := 100) hX 38 rfl ?_
      exact r_iret (pc := 101) hX 39 hQ rfl rfl (Nat.le_of_ble_eq_true rfl) (Nat.le_of_ble_eq_true rfl) ⟨rfl, rfl, rfl, (-1), rfl, trivial⟩
    · refine r_tsIn (x := w) (pc := 17) hX 9 (tgt := 48) rfl ⟨by omega, by omega⟩ (by omega) (by omega) (by rw [hsw17]; rfl) (by decide) ?_
      refine t_getR (q := (ρ t 4)) (pc := 48) hX 10 rfl rfl rfl fl_X11_47 rfl (hH.kd ht (by decide)) (rfl) ?_
      refine r_getR (q := (ρ (ρ t 4) 0)) (pc := 52) hX 12 rfl fl_X11_51 rfl (hH.kd hw0_ (by decide)) (rfl) ?_
      refine r_getR (q := (ρ (ρ (ρ t 4) 0) 1)) (pc := 55) hX 13 rfl fl_X11_153 rfl (hH.kd hw4_ (by decide)) (rfl) ?_
      have hw55_ : ω (ρ (ρ (ρ t 4) 0) 1) = 9 := hH.rf hw4_ (by decide) rfl
      refine r_iload_n (pc := 58) hX 14 rfl rfl ?_
      refine e_iald (y := (v (ρ (ρ (ρ t 4) 0) 1) c)) (n := 5) (pc := 59) hX 15 rfl (hH.kd hw55_ (by decide)) (hH.ln hw55_ (by decide)) (by omega) (by omega) (rfl) ?_
      have hb59 : 0 ≤ (v (ρ (ρ (ρ t 4) 0) 1) c) ∧ (v (ρ (ρ (ρ t 4) 0) 1) c) ≤ 3 := hH.rg hw55_ (by decide) rfl
      exact r_iret (pc := 60) hX 16 hQ rfl rfl (Nat.le_of_ble_eq_true rfl) (Nat.le_of_ble_eq_true rfl) ⟨rfl, rfl, rfl, (v (ρ (ρ (ρ t 4) 0) 1) c), rfl, trivial⟩
    · refine r_tsIn (x := w) (pc := 17) hX 9 (tgt := 61) rfl ⟨by omega, by omega⟩ (by omega) (by omega) (by rw [hsw17]; rfl) (by decide) ?_
      refine t_getR (q := (ρ t 4)) (pc := 61) hX 17 rfl rfl rfl fl_X11_47 rfl (hH.kd ht (by decide)) (rfl) ?_
      refine r_getR (q := (ρ (ρ t 4) 0)) (pc := 65) hX 19 rfl fl_X11_51 rfl (hH.kd hw0_ (by decide)) (rfl) ?_
      refine r_getR (q := (ρ (ρ (ρ t 4) 0) 2)) (pc := 68) hX 20 rfl fl_X11_156 rfl (hH.kd hw4_ (by decide)) (rfl) ?_
      have hw68_ : ω (ρ (ρ (ρ t 4) 0) 2) = 10 := hH.rf hw4_ (by decide) rfl
      refine r_iload_n (pc := 71) hX 21 rfl rfl ?_
      refine e_zald (y := (v (ρ (ρ (ρ t 4) 0) 2) c)) (n := 5) (pc := 72) hX 22 rfl (hH.kd hw68_ (by decide)) (hH.ln hw68_ (by decide)) (by omega) (by omega) (rfl) (fun hb72a hb72b => ?_)
      first | refine r_if_eq (pc := 73) hX 23 (tgt := 80) rfl (by decide) (⟨by omega, by omega⟩) (fun h73 => ?_) (fun h73 => ?_) | refine r_if_eq_any (pc := 73) hX 23 (tgt := 80) rfl (by decide) ?_ ?_
      · refine r_iconst (pc := 80) hX 26 rfl ?_
        exact r_iret (pc := 81) hX 27 hQ rfl rfl (Nat.le_of_ble_eq_true rfl) (Nat.le_of_ble_eq_true rfl) ⟨rfl, rfl, rfl, 0, rfl, trivial⟩
      · refine r_iconst (pc := 76) hX 24 rfl ?_
        refine r_goto (pc := 77) hX 25 (tgt := 81) rfl (by decide) ?_
        exact r_iret (pc := 81) hX 27 hQ rfl rfl (Nat.le_of_ble_eq_true rfl) (Nat.le_of_ble_eq_true rfl) ⟨rfl, rfl, rfl, 1, rfl, trivial⟩
    · refine r_tsIn (x := w) (pc := 17) hX 9 (tgt := 82) rfl ⟨by omega, by omega⟩ (by omega) (by omega) (by rw [hsw17]; rfl) (by decide) ?_
      refine t_getR (q := (ρ t 4)) (pc := 82) hX 28 rfl rfl rfl fl_X11_47 rfl (hH.kd ht (by decide)) (rfl) ?_
      refine r_iload_n (pc := 86) hX 30 rfl rfl ?_
      refine r_callV (as := [(0, c)]) (st := []) (K := 9) (pc := 87) hX 31 rfl mo_X9_holderOf ml_X11_159 im_X9_holderOf se_X9_holderOf (c_X9_holderOf g ω v ρ Z hH (ρ t 4) hw0_ (c) (by omega)) rfl rfl rfl (hH.kd hw0_ (by decide)) (by rw [hRm]; exact ⟨by decide, by decide⟩) (by rw [hRm]; exact ⟨by decide, by decide⟩) (Nat.le_of_ble_eq_true rfl) (fun o87 v87 ρv87 Zv87 hq87 _ => ?_)
      obtain ⟨rfl, rfl, rfl, r87, rfl, hq87⟩ := hq87
      have hw87_ : ω (ρ (ρ t 4) 4) = 24 := hH.rf hw0_ (by decide) rfl
      show wp g X F_X11_colour 0 0 90 [(2, t), (0, c), (0, w)] [(0, r87)] v ρ Z
      exact r_iret (pc := 90) hX 32 hQ rfl rfl (Nat.le_of_ble_eq_true rfl) (Nat.le_of_ble_eq_true rfl) ⟨rfl, rfl, rfl, r87, rfl, trivial⟩
    · refine r_tsIn (x := w) (pc := 17) hX 9 (tgt := 91) rfl ⟨by omega, by omega⟩ (by omega) (by omega) (by rw [hsw17]; rfl) (by decide) ?_
      refine t_getR (q := (ρ t 4)) (pc := 91) hX 33 rfl rfl rfl fl_X11_47 rfl (hH.kd ht (by decide)) (rfl) ?_
      refine r_iload_n (pc := 95) hX 35 rfl rfl ?_
      refine r_callV (as := [(0, c)]) (st := []) (K := 9) (pc := 96) hX 36 rfl mo_X9_timesCame ml_X11_163 im_X9_timesCame se_X9_timesCame (c_X9_timesCame g ω v ρ Z hH (ρ t 4) hw0_ (c) ) rfl rfl rfl (hH.kd hw0_ (by decide)) (by rw [hRm]; exact ⟨by decide, by decide⟩) (by rw [hRm]; exact ⟨by decide, by decide⟩) (Nat.le_of_ble_eq_true rfl) (fun o96 v96 ρv96 Zv96 hq96 _ => ?_)
      obtain ⟨rfl, rfl, rfl, r96, rfl, hq96⟩ := hq96
      show wp g X F_X11_colour 0 0 99 [(2, t), (0, c), (0, w)] [(0, r96)] v ρ Z
      exact r_iret (pc := 99) hX 37 hQ rfl rfl (Nat.le_of_ble_eq_true rfl) (Nat.le_of_ble_eq_true rfl) ⟨rfl, rfl, rfl, r96, rfl, trivial⟩
  · refine r_iconst (pc := 14) hX 6 rfl ?_
    exact r_iret (pc := 15) hX 7 hQ rfl rfl (Nat.le_of_ble_eq_true rfl) (Nat.le_of_ble_eq_true rfl) ⟨rfl, rfl, rfl, (-1), rfl, trivial⟩
set_option maxHeartbeats 4000000 in
set_option maxRecDepth 100000 in
theorem c_X11_land (g : Gp) (ω : Rw) (v ρ : Mv) (Z : Mz) (hH : HT ω v ρ Z) (t : Int) (ht : ω t = 1) (l : Int) (c : Int) (hlr : inR l) (hcr : inR c) : Ok g 3 0 0 F_X11_land [(2, t), (0, l), (0, c)] v ρ Z (fun o9 v' ρ' Z' => ρ = ρ' ∧ Z = Z' ∧ v = v' ∧ ∃ r : Int, o9 = some (0, r) ∧ True) := by
  refine Ok.of mo_X11_land (Nat.le_of_ble_eq_true rfl) ?_
  intro X hX hRm hxn hQ
  show wp g X F_X11_land 0 0 0 [(2, t), (0, l), (0, c)] [] v ρ Z
  have hwT : ω (ρ t 4) = 22 := hH.rf ht (by decide) rfl
  have hwR : ω (ρ (ρ t 4) 0) = 5 := hH.rf hwT (by decide) rfl
  have hgR8 : 0 ≤ v (ρ (ρ t 4) 0) 8 ∧ v (ρ (ρ t 4) 0) 8 ≤ 4 := hH.rg hwR (by decide) rfl
  have hgR9 : 0 ≤ v (ρ (ρ t 4) 0) 9 ∧ v (ρ (ρ t 4) 0) 9 ≤ 3 := hH.rg hwR (by decide) rfl
  have hgR10 : 0 ≤ v (ρ (ρ t 4) 0) 10 ∧ v (ρ (ρ t 4) 0) 10 ≤ 3 := hH.rg hwR (by decide) rfl
  have hwX : ω (ρ t 0) = 2 := hH.rf ht (by decide) rfl
  have hgL : 0 ≤ v (ρ t 0) 1 ∧ v (ρ t 0) 1 ≤ 940 := hH.rg hwX (by decide) rfl
  refine t_getR (q := (ρ t 4)) (pc := 0) hX 0 rfl rfl rfl fl_X11_47 rfl (hH.kd ht (by decide)) (rfl) ?_
  have hw0_ : ω (ρ t 4) = 22 := hH.rf ht (by decide) rfl
  refine r_getR (q := (ρ (ρ t 4) 0)) (pc := 4) hX 2 rfl fl_X11_51 rfl (hH.kd hw0_ (by decide)) (rfl) ?_
  have hw4_ : ω (ρ (ρ t 4) 0) = 5 := hH.rf hw0_ (by decide) rfl
  refine r_iload_n (pc := 7) hX 3 rfl rfl ?_
  refine r_callV (as := [(0, l)]) (st := []) (K := 4) (pc := 8) hX 4 rfl mo_X4_hasLand ml_X11_166 im_X4_hasLand se_X4_hasLand (c_X4_hasLand g ω v ρ Z hH (ρ (ρ t 4) 0) hw4_ (l) (by omega)) rfl rfl rfl (hH.kd hw4_ (by decide)) (by rw [hRm]; exact ⟨by decide, by decide⟩) (by rw [hRm]; exact ⟨by decide, by decide⟩) (Nat.le_of_ble_eq_true rfl) (fun o8 v8 ρv8 Zv8 hq8 _ => ?_)
  obtain ⟨rfl, rfl, rfl, r8, rfl, hq8⟩ := hq8
  show wp g X F_X11_land 0 0 11 [(2, t), (0, l), (0, c)] [(0, r8)] v ρ Z
  have L28 : wp g X F_X11_land 0 0 28 [(2, t), (0, l), (0, c)] [] v ρ Z := by
    refine r_iconst (pc := 28) hX 12 rfl ?_
    exact r_iret (pc := 29) hX 13 hQ rfl rfl (Nat.le_of_ble_eq_true rfl) (Nat.le_of_ble_eq_true rfl) ⟨rfl, rfl, rfl, (-1), rfl, trivial⟩
  first | refine r_if_eq (pc := 11) hX 5 (tgt := 28) rfl (by decide) (⟨by omega, by omega⟩) (fun h11 => ?_) (fun h11 => ?_) | refine r_if_eq_any (pc := 11) hX 5 (tgt := 28) rfl (by decide) ?_ ?_
  · exact (L28   )
  · refine t_getR (q := (ρ t 4)) (pc := 14) hX 6 rfl rfl rfl fl_X11_47 rfl (hH.kd ht (by decide)) (rfl) ?_
    refine r_getR (q := (ρ (ρ t 4) 0)) (pc := 18) hX 8 rfl fl_X11_51 rfl (hH.kd hw0_ (by decide)) (rfl) ?_
    refine r_iload_n (pc := 21) hX 9 rfl rfl ?_
    refine r_callV (as := [(0, c)]) (st := []) (K := 4) (pc := 22) hX 10 rfl mo_X4_hasKind ml_X11_169 im_X4_hasKind se_X4_hasKind (c_X4_hasKind g ω v ρ Z hH (ρ (ρ t 4) 0) hw4_ (c) (by omega)) rfl rfl rfl (hH.kd hw4_ (by decide)) (by rw [hRm]; exact ⟨by decide, by decide⟩) (by rw [hRm]; exact ⟨by decide, by decide⟩) (Nat.le_of_ble_eq_true rfl) (fun o22 v22 ρv22 Zv22 hq22 _ => ?_)
    obtain ⟨rfl, rfl, rfl, r22, rfl, hq22⟩ := hq22
    show wp g X F_X11_land 0 0 25 [(2, t), (0, l), (0, c)] [(0, r22)] v ρ Z
    first | refine r_if_ne (pc := 25) hX 11 (tgt := 30) rfl (by decide) (⟨by omega, by omega⟩) (fun h25 => ?_) (fun h25 => ?_) | refine r_if_ne_any (pc := 25) hX 11 (tgt := 30) rfl (by decide) ?_ ?_
    · refine t_getR (q := (ρ t 4)) (pc := 30) hX 14 rfl rfl rfl fl_X11_47 rfl (hH.kd ht (by decide)) (rfl) ?_
      refine r_getR (q := (ρ (ρ t 4) 0)) (pc := 34) hX 16 rfl fl_X11_51 rfl (hH.kd hw0_ (by decide)) (rfl) ?_
      refine r_getR (q := (ρ (ρ (ρ t 4) 0) 5)) (pc := 37) hX 17 rfl fl_X11_172 rfl (hH.kd hw4_ (by decide)) (rfl) ?_
      have hw37_ : ω (ρ (ρ (ρ t 4) 0) 5) = 12 := hH.rf hw4_ (by decide) rfl
      refine r_iload_n (pc := 40) hX 18 rfl rfl ?_
      refine r_aald (q := (ρ (ρ (ρ (ρ t 4) 0) 5) l)) (pc := 41) hX 19 19 rfl (hH.kd hw37_ (by decide)) (by decide) (by decide) rfl rfl (by omega) (by rw [show Z.2.1 (ρ (ρ (ρ t 4) 0) 5) = 3 from (hH.ln hw37_ (by decide))]; omega) (rfl) ?_
      have hw41_ : ω (ρ (ρ (ρ (ρ t 4) 0) 5) l) = 13 := hH.rf hw37_ (by decide) (rf12 ⟨by omega, by omega⟩)
      refine r_iload_n (pc := 42) hX 20 rfl rfl ?_
      refine r_callS (as := [(0, c)]) (st := [(2, (ρ (ρ (ρ (ρ t 4) 0) 5) l))]) (pc := 43) hX 21 rfl mo_X11_kindOf ml_X11_176 stt_X11_kindOf (c_X11_kindOf g ω v ρ Z hH (c) (by omega)) rfl (by rw [hRm]; exact ⟨by decide, by decide⟩) (by rw [hRm]; exact ⟨by decide, by decide⟩) (Nat.le_of_ble_eq_true rfl) (fun o43 v43 ρv43 Zv43 hq43 _ => ?_)
      obtain ⟨rfl, rfl, rfl, r43, rfl, hq43⟩ := hq43
      show wp g X F_X11_land 0 0 46 [(2, t), (0, l), (0, c)] [(0, r43), (2, (ρ (ρ (ρ (ρ t 4) 0) 5) l))] v ρ Z
      refine e_iald (y := (v (ρ (ρ (ρ (ρ t 4) 0) 5) l) r43)) (n := 5) (pc := 46) hX 22 rfl (hH.kd hw41_ (by decide)) (hH.ln hw41_ (by decide)) (by omega) (by omega) (rfl) ?_
      have hb46 : 0 ≤ (v (ρ (ρ (ρ (ρ t 4) 0) 5) l) r43) ∧ (v (ρ (ρ (ρ (ρ t 4) 0) 5) l) r43) ≤ 12 := hH.rg hw41_ (by decide) rfl
      exact r_iret (pc := 47) hX 23 hQ rfl rfl (Nat.le_of_ble_eq_true rfl) (Nat.le_of_ble_eq_true rfl) ⟨rfl, rfl, rfl, (v (ρ (ρ (ρ (ρ t 4) 0) 5) l) r43), rfl, trivial⟩
    · exact (L28   )
set_option maxHeartbeats 4000000 in
set_option maxRecDepth 100000 in
theorem c_X11_now (g : Gp) (ω : Rw) (v ρ : Mv) (Z : Mz) (hH : HT ω v ρ Z) (t : Int) (ht : ω t = 1) (w : Int) (hwr : inR w) : Ok g 4 0 0 F_X11_now [(2, t), (0, w)] v ρ Z (fun o9 v' ρ' Z' => ρ = ρ' ∧ Z = Z' ∧ v = v' ∧ ∃ r : Int, o9 = some (0, r) ∧ True) := by
  refine Ok.of mo_X11_now (Nat.le_of_ble_eq_true rfl) ?_
  intro X hX hRm hxn hQ
  show wp g X F_X11_now 0 0 0 [(2, t), (0, w)] [] v ρ Z
  have hwT : ω (ρ t 4) = 22 := hH.rf ht (by decide) rfl
  have hwR : ω (ρ (ρ t 4) 0) = 5 := hH.rf hwT (by decide) rfl
  have hgR8 : 0 ≤ v (ρ (ρ t 4) 0) 8 ∧ v (ρ (ρ t 4) 0) 8 ≤ 4 := hH.rg hwR (by decide) rfl
  have hgR9 : 0 ≤ v (ρ (ρ t 4) 0) 9 ∧ v (ρ (ρ t 4) 0) 9 ≤ 3 := hH.rg hwR (by decide) rfl
  have hgR10 : 0 ≤ v (ρ (ρ t 4) 0) 10 ∧ v (ρ (ρ t 4) 0) 10 ≤ 3 := hH.rg hwR (by decide) rfl
  have hwX : ω (ρ t 0) = 2 := hH.rf ht (by decide) rfl
  have hgL : 0 ≤ v (ρ t 0) 1 ∧ v (ρ t 0) 1 ≤ 940 := hH.rg hwX (by decide) rfl
  refine r_iload_n (pc := 0) hX 0 rfl rfl ?_
  have hsw1 : w < 0 ∨ 4 < w ∨ w = 0 ∨ w = 1 ∨ w = 2 ∨ w = 3 ∨ w = 4 := by omega
  rcases hsw1 with hsw1 | hsw1 | hsw1 | hsw1 | hsw1 | hsw1 | hsw1
  · refine r_tsOut (pc := 1) hX 1 (tgt := 85) rfl ⟨by omega, by omega⟩ (by omega) (by decide) ?_
    refine r_iconst (pc := 85) hX 27 rfl ?_
    exact r_iret (pc := 86) hX 28 hQ rfl rfl (Nat.le_of_ble_eq_true rfl) (Nat.le_of_ble_eq_true rfl) ⟨rfl, rfl, rfl, (-1), rfl, trivial⟩
  · refine r_tsOut (pc := 1) hX 1 (tgt := 85) rfl ⟨by omega, by omega⟩ (by omega) (by decide) ?_
    refine r_iconst (pc := 85) hX 27 rfl ?_
    exact r_iret (pc := 86) hX 28 hQ rfl rfl (Nat.le_of_ble_eq_true rfl) (Nat.le_of_ble_eq_true rfl) ⟨rfl, rfl, rfl, (-1), rfl, trivial⟩
  · refine r_tsIn (x := w) (pc := 1) hX 1 (tgt := 36) rfl ⟨by omega, by omega⟩ (by omega) (by omega) (by rw [hsw1]; rfl) (by decide) ?_
    refine t_getR (q := (ρ t 4)) (pc := 36) hX 2 rfl rfl rfl fl_X11_47 rfl (hH.kd ht (by decide)) (rfl) ?_
    have hw36_ : ω (ρ t 4) = 22 := hH.rf ht (by decide) rfl
    refine e_getI (y := (v (ρ t 4) 2)) (pc := 40) hX 4 rfl fl_X11_197 rfl (hH.kd hw36_ (by decide)) (rfl) ?_
    have hb40 : 0 ≤ (v (ρ t 4) 2) ∧ (v (ρ t 4) 2) ≤ 12 := hH.rg hw36_ (by decide) rfl
    exact r_iret (pc := 43) hX 5 hQ rfl rfl (Nat.le_of_ble_eq_true rfl) (Nat.le_of_ble_eq_true rfl) ⟨rfl, rfl, rfl, (v (ρ t 4) 2), rfl, trivial⟩
  · refine r_tsIn (x := w) (pc := 1) hX 1 (tgt := 44) rfl ⟨by omega, by omega⟩ (by omega) (by omega) (by rw [hsw1]; rfl) (by decide) ?_
    refine t_getR (q := (ρ t 4)) (pc := 44) hX 6 rfl rfl rfl fl_X11_47 rfl (hH.kd ht (by decide)) (rfl) ?_
    have hw44_ : ω (ρ t 4) = 22 := hH.rf ht (by decide) rfl
    refine r_callV (as := []) (st := []) (K := 9) (pc := 48) hX 8 rfl mo_X9_isOver ml_X11_200 im_X9_isOver se_X9_isOver (c_X9_isOver g ω v ρ Z hH (ρ t 4) hw44_ ) rfl rfl rfl (hH.kd hw44_ (by decide)) (by rw [hRm]; exact ⟨by decide, by decide⟩) (by rw [hRm]; exact ⟨by decide, by decide⟩) (Nat.le_of_ble_eq_true rfl) (fun o48 v48 ρv48 Zv48 hq48 _ => ?_)
    obtain ⟨rfl, rfl, rfl, r48, rfl, hq48⟩ := hq48
    have hw48_ : ω (ρ (ρ t 4) 0) = 5 := hH.rf hw44_ (by decide) rfl
    have hwf1_ : ω (ρ (ρ t 4) 6) = 26 := hH.rf hw44_ (by decide) rfl
    show wp g X F_X11_now 0 0 51 [(2, t), (0, w)] [(0, r48)] v ρ Z
    first | refine r_if_eq (pc := 51) hX 9 (tgt := 58) rfl (by decide) (⟨by omega, by omega⟩) (fun h51 => ?_) (fun h51 => ?_) | refine r_if_eq_any (pc := 51) hX 9 (tgt := 58) rfl (by decide) ?_ ?_
    · refine r_iconst (pc := 58) hX 12 rfl ?_
      exact r_iret (pc := 59) hX 13 hQ rfl rfl (Nat.le_of_ble_eq_true rfl) (Nat.le_of_ble_eq_true rfl) ⟨rfl, rfl, rfl, 0, rfl, trivial⟩
    · refine r_iconst (pc := 54) hX 10 rfl ?_
      refine r_goto (pc := 55) hX 11 (tgt := 59) rfl (by decide) ?_
      exact r_iret (pc := 59) hX 13 hQ rfl rfl (Nat.le_of_ble_eq_true rfl) (Nat.le_of_ble_eq_true rfl) ⟨rfl, rfl, rfl, 1, rfl, trivial⟩
  · refine r_tsIn (x := w) (pc := 1) hX 1 (tgt := 60) rfl ⟨by omega, by omega⟩ (by omega) (by omega) (by rw [hsw1]; rfl) (by decide) ?_
    refine t_getR (q := (ρ t 4)) (pc := 60) hX 14 rfl rfl rfl fl_X11_47 rfl (hH.kd ht (by decide)) (rfl) ?_
    have hw60_ : ω (ρ t 4) = 22 := hH.rf ht (by decide) rfl
    refine r_callV (as := []) (st := []) (K := 9) (pc := 64) hX 16 rfl mo_X9_winner ml_X11_204 im_X9_winner se_X9_winner (c_X9_winner g ω v ρ Z hH (ρ t 4) hw60_ ) rfl rfl rfl (hH.kd hw60_ (by decide)) (by rw [hRm]; exact ⟨by decide, by decide⟩) (by rw [hRm]; exact ⟨by decide, by decide⟩) (Nat.le_of_ble_eq_true rfl) (fun o64 v64 ρv64 Zv64 hq64 _ => ?_)
    obtain ⟨rfl, rfl, rfl, r64, rfl, hq64⟩ := hq64
    show wp g X F_X11_now 0 0 67 [(2, t), (0, w)] [(0, r64)] v ρ Z
    exact r_iret (pc := 67) hX 17 hQ rfl rfl (Nat.le_of_ble_eq_true rfl) (Nat.le_of_ble_eq_true rfl) ⟨rfl, rfl, rfl, r64, rfl, trivial⟩
  · refine r_tsIn (x := w) (pc := 1) hX 1 (tgt := 68) rfl ⟨by omega, by omega⟩ (by omega) (by omega) (by rw [hsw1]; rfl) (by decide) ?_
    refine t_getR (q := (ρ t 4)) (pc := 68) hX 18 rfl rfl rfl fl_X11_47 rfl (hH.kd ht (by decide)) (rfl) ?_
    have hw68_ : ω (ρ t 4) = 22 := hH.rf ht (by decide) rfl
    refine r_callV (as := []) (st := []) (K := 9) (pc := 72) hX 20 rfl mo_X9_leader ml_X11_208 im_X9_leader se_X9_leader (c_X9_leader g ω v ρ Z hH (ρ t 4) hw68_ ) rfl rfl rfl (hH.kd hw68_ (by decide)) (by rw [hRm]; exact ⟨by decide, by decide⟩) (by rw [hRm]; exact ⟨by decide, by decide⟩) (Nat.le_of_ble_eq_true rfl) (fun o72 v72 ρv72 Zv72 hq72 _ => ?_)
    obtain ⟨rfl, rfl, rfl, r72, rfl, hq72⟩ := hq72
    show wp g X F_X11_now 0 0 75 [(2, t), (0, w)] [(0, r72)] v ρ Z
    exact r_iret (pc := 75) hX 21 hQ rfl rfl (Nat.le_of_ble_eq_true rfl) (Nat.le_of_ble_eq_true rfl) ⟨rfl, rfl, rfl, r72, rfl, trivial⟩
  · refine r_tsIn (x := w) (pc := 1) hX 1 (tgt := 76) rfl ⟨by omega, by omega⟩ (by omega) (by omega) (by rw [hsw1]; rfl) (by decide) ?_
    refine t_getR (q := (ρ t 4)) (pc := 76) hX 22 rfl rfl rfl fl_X11_47 rfl (hH.kd ht (by decide)) (rfl) ?_
    have hw76_ : ω (ρ t 4) = 22 := hH.rf ht (by decide) rfl
    refine r_iconst (pc := 80) hX 24 rfl ?_
    refine r_callV (as := [(0, (-1))]) (st := []) (K := 9) (pc := 81) hX 25 rfl mo_X9_timesCame ml_X11_163 im_X9_timesCame se_X9_timesCame (c_X9_timesCame g ω v ρ Z hH (ρ t 4) hw76_ ((-1)) ) rfl rfl rfl (hH.kd hw76_ (by decide)) (by rw [hRm]; exact ⟨by decide, by decide⟩) (by rw [hRm]; exact ⟨by decide, by decide⟩) (Nat.le_of_ble_eq_true rfl) (fun o81 v81 ρv81 Zv81 hq81 _ => ?_)
    obtain ⟨rfl, rfl, rfl, r81, rfl, hq81⟩ := hq81
    show wp g X F_X11_now 0 0 84 [(2, t), (0, w)] [(0, r81)] v ρ Z
    exact r_iret (pc := 84) hX 26 hQ rfl rfl (Nat.le_of_ble_eq_true rfl) (Nat.le_of_ble_eq_true rfl) ⟨rfl, rfl, rfl, r81, rfl, trivial⟩
set_option maxHeartbeats 4000000 in
set_option maxRecDepth 100000 in
theorem c_X11_take (g : Gp) (ω : Rw) (v ρ : Mv) (Z : Mz) (hH : HT ω v ρ Z) (t : Int) (ht : ω t = 1) (p : Int) (c : Int) (hpr : inR p) (hcr : inR c) : Ok g 4 0 0 F_X11_take [(2, t), (0, p), (0, c)] v ρ Z (fun o9 v' ρ' Z' => Z = Z' ∧ FrW ω [22, 24, 27, 66, 67, 68, 69, 70] v v' ∧ FrW ω [28, 66] ρ ρ' ∧ HT ω v' ρ' Z ∧ ∃ r : Int, o9 = some (0, r) ∧ True) := by
  refine Ok.of mo_X11_take (Nat.le_of_ble_eq_true rfl) ?_
  intro X hX hRm hxn hQ
  show wp g X F_X11_take 0 0 0 [(2, t), (0, p), (0, c), (3, 0)] [] v ρ Z
  have hwT : ω (ρ t 4) = 22 := hH.rf ht (by decide) rfl
  have hwR : ω (ρ (ρ t 4) 0) = 5 := hH.rf hwT (by decide) rfl
  have hgR8 : 0 ≤ v (ρ (ρ t 4) 0) 8 ∧ v (ρ (ρ t 4) 0) 8 ≤ 4 := hH.rg hwR (by decide) rfl
  have hgR9 : 0 ≤ v (ρ (ρ t 4) 0) 9 ∧ v (ρ (ρ t 4) 0) 9 ≤ 3 := hH.rg hwR (by decide) rfl
  have hgR10 : 0 ≤ v (ρ (ρ t 4) 0) 10 ∧ v (ρ (ρ t 4) 0) 10 ≤ 3 := hH.rg hwR (by decide) rfl
  have hwX : ω (ρ t 0) = 2 := hH.rf ht (by decide) rfl
  have hgL : 0 ≤ v (ρ t 0) 1 ∧ v (ρ t 0) 1 ≤ 940 := hH.rg hwX (by decide) rfl
  refine t_getR (q := (ρ t 4)) (pc := 0) hX 0 rfl rfl rfl fl_X11_47 rfl (hH.kd ht (by decide)) (rfl) ?_
  have hw0_ : ω (ρ t 4) = 22 := hH.rf ht (by decide) rfl
  refine r_getR (q := (ρ (ρ t 4) 0)) (pc := 4) hX 2 rfl fl_X11_51 rfl (hH.kd hw0_ (by decide)) (rfl) ?_
  have hw4_ : ω (ρ (ρ t 4) 0) = 5 := hH.rf hw0_ (by decide) rfl
  refine r_iload_n (pc := 7) hX 3 rfl rfl ?_
  refine r_callV (as := [(0, p)]) (st := []) (K := 4) (pc := 8) hX 4 rfl mo_X4_hasPlayer ml_X11_211 im_X4_hasPlayer se_X4_hasPlayer (c_X4_hasPlayer g ω v ρ Z hH (ρ (ρ t 4) 0) hw4_ (p) (by omega)) rfl rfl rfl (hH.kd hw4_ (by decide)) (by rw [hRm]; exact ⟨by decide, by decide⟩) (by rw [hRm]; exact ⟨by decide, by decide⟩) (Nat.le_of_ble_eq_true rfl) (fun o8 v8 ρv8 Zv8 hq8 _ => ?_)
  obtain ⟨rfl, rfl, rfl, r8, rfl, hq8⟩ := hq8
  show wp g X F_X11_take 0 0 11 [(2, t), (0, p), (0, c), (3, 0)] [(0, r8)] v ρ Z
  have L28 : wp g X F_X11_take 0 0 28 [(2, t), (0, p), (0, c), (3, 0)] [] v ρ Z := by
    refine r_iconst (pc := 28) hX 12 rfl ?_
    exact r_iret (pc := 29) hX 13 hQ rfl rfl (Nat.le_of_ble_eq_true rfl) (Nat.le_of_ble_eq_true rfl) ⟨rfl, FrW.rf, FrW.rf, hH, (-1), rfl, trivial⟩
  first | refine r_if_eq (pc := 11) hX 5 (tgt := 28) rfl (by decide) (⟨by omega, by omega⟩) (fun h11 => ?_) (fun h11 => ?_) | refine r_if_eq_any (pc := 11) hX 5 (tgt := 28) rfl (by decide) ?_ ?_
  · exact (L28   )
  · refine t_getR (q := (ρ t 4)) (pc := 14) hX 6 rfl rfl rfl fl_X11_47 rfl (hH.kd ht (by decide)) (rfl) ?_
    refine r_getR (q := (ρ (ρ t 4) 0)) (pc := 18) hX 8 rfl fl_X11_51 rfl (hH.kd hw0_ (by decide)) (rfl) ?_
    refine r_iload_n (pc := 21) hX 9 rfl rfl ?_
    refine r_callV (as := [(0, c)]) (st := []) (K := 4) (pc := 22) hX 10 rfl mo_X4_hasColour ml_X11_150 im_X4_hasColour se_X4_hasColour (c_X4_hasColour g ω v ρ Z hH (ρ (ρ t 4) 0) hw4_ (c) (by omega)) rfl rfl rfl (hH.kd hw4_ (by decide)) (by rw [hRm]; exact ⟨by decide, by decide⟩) (by rw [hRm]; exact ⟨by decide, by decide⟩) (Nat.le_of_ble_eq_true rfl) (fun o22 v22 ρv22 Zv22 hq22 _ => ?_)
    obtain ⟨rfl, rfl, rfl, r22, rfl, hq22⟩ := hq22
    show wp g X F_X11_take 0 0 25 [(2, t), (0, p), (0, c), (3, 0)] [(0, r22)] v ρ Z
    first | refine r_if_ne (pc := 25) hX 11 (tgt := 30) rfl (by decide) (⟨by omega, by omega⟩) (fun h25 => ?_) (fun h25 => ?_) | refine r_if_ne_any (pc := 25) hX 11 (tgt := 30) rfl (by decide) ?_ ?_
    · refine t_getR (q := (ρ t 4)) (pc := 30) hX 14 rfl rfl rfl fl_X11_47 rfl (hH.kd ht (by decide)) (rfl) ?_
      refine r_iload_n (pc := 34) hX 16 rfl rfl ?_
      refine r_iload_n (pc := 35) hX 17 rfl rfl ?_
      refine r_callV (as := [(0, p), (0, c)]) (st := []) (K := 9) (pc := 36) hX 18 rfl mo_X9_whyNotTake ml_X11_214 im_X9_whyNotTake se_X9_whyNotTake (c_X9_whyNotTake g ω v ρ Z hH (ρ t 4) hw0_ (p) (c) (by omega) (by omega)) rfl rfl rfl (hH.kd hw0_ (by decide)) (by rw [hRm]; exact ⟨by decide, by decide⟩) (by rw [hRm]; exact ⟨by decide, by decide⟩) (Nat.le_of_ble_eq_true rfl) (fun o36 v36 ρv36 Zv36 hq36 _ => ?_)
      obtain ⟨rfl, rfl, rfl, r36, rfl, hq36⟩ := hq36
      show wp g X F_X11_take 0 0 39 [(2, t), (0, p), (0, c), (3, 0)] [(0, r36)] v ρ Z
      refine r_istore_n (ls' := [(2, t), (0, p), (0, c), (0, r36)]) (pc := 39) hX 19 rfl (by decide) rfl ?_
      refine r_iload_n (pc := 40) hX 20 rfl rfl ?_
      have L64 : ∀ (v64 : Mv) (ρ64 : Mv) , (FrW ω [22, 24, 27, 66, 67, 68, 69, 70] v v64) → (FrW ω [28, 66] ρ ρ64) → (HT ω v64 ρ64 Z) → wp g X F_X11_take 0 0 64 [(2, t), (0, p), (0, c), (0, r36)] [] v64 ρ64 Z := by
        intro v64 ρ64 hfr64 hfrR64 hH64
        refine r_iload_n (pc := 64) hX 32 rfl rfl ?_
        exact r_iret (pc := 65) hX 33 hQ rfl rfl (Nat.le_of_ble_eq_true rfl) (Nat.le_of_ble_eq_true rfl) ⟨rfl, hfr64, hfrR64, hH64, r36, rfl, trivial⟩
      first | refine r_if_ne (pc := 41) hX 21 (tgt := 64) rfl (by decide) (⟨by omega, by omega⟩) (fun h41 => ?_) (fun h41 => ?_) | refine r_if_ne_any (pc := 41) hX 21 (tgt := 64) rfl (by decide) ?_ ?_
      · exact (L64  v ρ (FrW.rf) (FrW.rf) (hH) )
      · refine t_getR (q := (ρ t 6)) (pc := 44) hX 22 rfl rfl rfl fl_X11_61 rfl (hH.kd ht (by decide)) (rfl) ?_
        have hw44_ : ω (ρ t 6) = 27 := hH.rf ht (by decide) rfl
        refine t_getR (q := (ρ t 4)) (pc := 48) hX 24 rfl rfl rfl fl_X11_47 rfl (hH.kd ht (by decide)) (rfl) ?_
        refine r_callV (as := [(2, (ρ t 4))]) (st := []) (K := 3) (pc := 52) hX 26 rfl mo_X3_keep ml_X11_218 im_X3_keep se_X3_keep (c_X3_keep g ω v ρ Z hH (ρ t 6) hw44_ (ρ t 4) hw0_ ) rfl rfl rfl (hH.kd hw44_ (by decide)) (by rw [hRm]; exact ⟨by decide, by decide⟩) (by rw [hRm]; exact ⟨by decide, by decide⟩) (Nat.le_of_ble_eq_true rfl) (fun o52 v52 ρv52 Zv52 hq52 _ => ?_)
        obtain ⟨rfl, hfr52, hfrR52, hH52, rfl, hq52⟩ := hq52
        show wp g X F_X11_take 0 0 55 [(2, t), (0, p), (0, c), (0, r36)] [] v52 ρv52 Z
        refine t_getR (q := (ρ t 4)) (pc := 55) hX 27 rfl rfl rfl fl_X11_47 rfl (hH52.kd ht (by decide)) ((hfrR52.at ht (by decide) 4).trans (rfl)) ?_
        refine r_iload_n (pc := 59) hX 29 rfl rfl ?_
        refine r_iload_n (pc := 60) hX 30 rfl rfl ?_
        refine r_callV (as := [(0, p), (0, c)]) (st := []) (K := 9) (pc := 61) hX 31 rfl mo_X9_doTake ml_X11_222 im_X9_doTake se_X9_doTake (c_X9_doTake g ω v52 ρv52 Z hH52 (ρ t 4) hw0_ (p) (c) (by omega) (by omega)) rfl rfl rfl (hH52.kd hw0_ (by decide)) (by rw [hRm]; exact ⟨by decide, by decide⟩) (by rw [hRm]; exact ⟨by decide, by decide⟩) (Nat.le_of_ble_eq_true rfl) (fun o61 v61 ρv61 Zv61 hq61 _ => ?_)
        obtain ⟨rfl, rfl, hfr61, hH61, rfl, hq61⟩ := hq61
        show wp g X F_X11_take 0 0 64 [(2, t), (0, p), (0, c), (0, r36)] [] v61 ρv52 Z
        exact (L64  v61 ρv52 (((FrW.rf).tr hfr52 (by decide)).tr hfr61 (by decide)) ((FrW.rf).tr hfrR52 (by decide)) (hH61) )
    · exact (L28   )
set_option maxHeartbeats 4000000 in
set_option maxRecDepth 100000 in
theorem c_X11_turn (g : Gp) (ω : Rw) (v ρ : Mv) (Z : Mz) (hH : HT ω v ρ Z) (t : Int) (ht : ω t = 1) (p : Int) (c : Int) (hpr : inR p) (hcr : inR c) : Ok g 5 0 0 F_X11_turn [(2, t), (0, p), (0, c)] v ρ Z (fun o9 v' ρ' Z' => Z = Z' ∧ FrW ω [22, 24, 25, 27, 66, 67, 68, 69, 70] v v' ∧ FrW ω [28, 66] ρ ρ' ∧ HT ω v' ρ' Z ∧ ∃ r : Int, o9 = some (0, r) ∧ True) := by
  refine Ok.of mo_X11_turn (Nat.le_of_ble_eq_true rfl) ?_
  intro X hX hRm hxn hQ
  show wp g X F_X11_turn 0 0 0 [(2, t), (0, p), (0, c), (3, 0)] [] v ρ Z
  have hwT : ω (ρ t 4) = 22 := hH.rf ht (by decide) rfl
  have hwR : ω (ρ (ρ t 4) 0) = 5 := hH.rf hwT (by decide) rfl
  have hgR8 : 0 ≤ v (ρ (ρ t 4) 0) 8 ∧ v (ρ (ρ t 4) 0) 8 ≤ 4 := hH.rg hwR (by decide) rfl
  have hgR9 : 0 ≤ v (ρ (ρ t 4) 0) 9 ∧ v (ρ (ρ t 4) 0) 9 ≤ 3 := hH.rg hwR (by decide) rfl
  have hgR10 : 0 ≤ v (ρ (ρ t 4) 0) 10 ∧ v (ρ (ρ t 4) 0) 10 ≤ 3 := hH.rg hwR (by decide) rfl
  have hwX : ω (ρ t 0) = 2 := hH.rf ht (by decide) rfl
  have hgL : 0 ≤ v (ρ t 0) 1 ∧ v (ρ t 0) 1 ≤ 940 := hH.rg hwX (by decide) rfl
  refine t_getR (q := (ρ t 4)) (pc := 0) hX 0 rfl rfl rfl fl_X11_47 rfl (hH.kd ht (by decide)) (rfl) ?_
  have hw0_ : ω (ρ t 4) = 22 := hH.rf ht (by decide) rfl
  refine r_getR (q := (ρ (ρ t 4) 0)) (pc := 4) hX 2 rfl fl_X11_51 rfl (hH.kd hw0_ (by decide)) (rfl) ?_
  have hw4_ : ω (ρ (ρ t 4) 0) = 5 := hH.rf hw0_ (by decide) rfl
  refine r_iload_n (pc := 7) hX 3 rfl rfl ?_
  refine r_callV (as := [(0, p)]) (st := []) (K := 4) (pc := 8) hX 4 rfl mo_X4_hasPlayer ml_X11_211 im_X4_hasPlayer se_X4_hasPlayer (c_X4_hasPlayer g ω v ρ Z hH (ρ (ρ t 4) 0) hw4_ (p) (by omega)) rfl rfl rfl (hH.kd hw4_ (by decide)) (by rw [hRm]; exact ⟨by decide, by decide⟩) (by rw [hRm]; exact ⟨by decide, by decide⟩) (Nat.le_of_ble_eq_true rfl) (fun o8 v8 ρv8 Zv8 hq8 _ => ?_)
  obtain ⟨rfl, rfl, rfl, r8, rfl, hq8⟩ := hq8
  show wp g X F_X11_turn 0 0 11 [(2, t), (0, p), (0, c), (3, 0)] [(0, r8)] v ρ Z
  have L28 : wp g X F_X11_turn 0 0 28 [(2, t), (0, p), (0, c), (3, 0)] [] v ρ Z := by
    refine r_iconst (pc := 28) hX 12 rfl ?_
    exact r_iret (pc := 29) hX 13 hQ rfl rfl (Nat.le_of_ble_eq_true rfl) (Nat.le_of_ble_eq_true rfl) ⟨rfl, FrW.rf, FrW.rf, hH, (-1), rfl, trivial⟩
  first | refine r_if_eq (pc := 11) hX 5 (tgt := 28) rfl (by decide) (⟨by omega, by omega⟩) (fun h11 => ?_) (fun h11 => ?_) | refine r_if_eq_any (pc := 11) hX 5 (tgt := 28) rfl (by decide) ?_ ?_
  · exact (L28   )
  · refine t_getR (q := (ρ t 4)) (pc := 14) hX 6 rfl rfl rfl fl_X11_47 rfl (hH.kd ht (by decide)) (rfl) ?_
    refine r_getR (q := (ρ (ρ t 4) 0)) (pc := 18) hX 8 rfl fl_X11_51 rfl (hH.kd hw0_ (by decide)) (rfl) ?_
    refine r_iload_n (pc := 21) hX 9 rfl rfl ?_
    refine r_callV (as := [(0, c)]) (st := []) (K := 4) (pc := 22) hX 10 rfl mo_X4_hasColour ml_X11_150 im_X4_hasColour se_X4_hasColour (c_X4_hasColour g ω v ρ Z hH (ρ (ρ t 4) 0) hw4_ (c) (by omega)) rfl rfl rfl (hH.kd hw4_ (by decide)) (by rw [hRm]; exact ⟨by decide, by decide⟩) (by rw [hRm]; exact ⟨by decide, by decide⟩) (Nat.le_of_ble_eq_true rfl) (fun o22 v22 ρv22 Zv22 hq22 _ => ?_)
    obtain ⟨rfl, rfl, rfl, r22, rfl, hq22⟩ := hq22
    show wp g X F_X11_turn 0 0 25 [(2, t), (0, p), (0, c), (3, 0)] [(0, r22)] v ρ Z
    first | refine r_if_ne (pc := 25) hX 11 (tgt := 30) rfl (by decide) (⟨by omega, by omega⟩) (fun h25 => ?_) (fun h25 => ?_) | refine r_if_ne_any (pc := 25) hX 11 (tgt := 30) rfl (by decide) ?_ ?_
    · refine t_getR (q := (ρ t 4)) (pc := 30) hX 14 rfl rfl rfl fl_X11_47 rfl (hH.kd ht (by decide)) (rfl) ?_
      refine r_iload_n (pc := 34) hX 16 rfl rfl ?_
      refine r_iload_n (pc := 35) hX 17 rfl rfl ?_
      refine r_callV (as := [(0, p), (0, c)]) (st := []) (K := 9) (pc := 36) hX 18 rfl mo_X9_whyNotTurn ml_X11_226 im_X9_whyNotTurn se_X9_whyNotTurn (c_X9_whyNotTurn g ω v ρ Z hH (ρ t 4) hw0_ (p) (c) (by omega) (by omega)) rfl rfl rfl (hH.kd hw0_ (by decide)) (by rw [hRm]; exact ⟨by decide, by decide⟩) (by rw [hRm]; exact ⟨by decide, by decide⟩) (Nat.le_of_ble_eq_true rfl) (fun o36 v36 ρv36 Zv36 hq36 _ => ?_)
      obtain ⟨rfl, rfl, rfl, r36, rfl, hq36⟩ := hq36
      show wp g X F_X11_turn 0 0 39 [(2, t), (0, p), (0, c), (3, 0)] [(0, r36)] v ρ Z
      refine r_istore_n (ls' := [(2, t), (0, p), (0, c), (0, r36)]) (pc := 39) hX 19 rfl (by decide) rfl ?_
      refine r_iload_n (pc := 40) hX 20 rfl rfl ?_
      have L64 : ∀ (v64 : Mv) (ρ64 : Mv) , (FrW ω [22, 24, 25, 27, 66, 67, 68, 69, 70] v v64) → (FrW ω [28, 66] ρ ρ64) → (HT ω v64 ρ64 Z) → wp g X F_X11_turn 0 0 64 [(2, t), (0, p), (0, c), (0, r36)] [] v64 ρ64 Z := by
        intro v64 ρ64 hfr64 hfrR64 hH64
        refine r_iload_n (pc := 64) hX 32 rfl rfl ?_
        exact r_iret (pc := 65) hX 33 hQ rfl rfl (Nat.le_of_ble_eq_true rfl) (Nat.le_of_ble_eq_true rfl) ⟨rfl, hfr64, hfrR64, hH64, r36, rfl, trivial⟩
      first | refine r_if_ne (pc := 41) hX 21 (tgt := 64) rfl (by decide) (⟨by omega, by omega⟩) (fun h41 => ?_) (fun h41 => ?_) | refine r_if_ne_any (pc := 41) hX 21 (tgt := 64) rfl (by decide) ?_ ?_
      · exact (L64  v ρ (FrW.rf) (FrW.rf) (hH) )
      · refine t_getR (q := (ρ t 6)) (pc := 44) hX 22 rfl rfl rfl fl_X11_61 rfl (hH.kd ht (by decide)) (rfl) ?_
        have hw44_ : ω (ρ t 6) = 27 := hH.rf ht (by decide) rfl
        refine t_getR (q := (ρ t 4)) (pc := 48) hX 24 rfl rfl rfl fl_X11_47 rfl (hH.kd ht (by decide)) (rfl) ?_
        refine r_callV (as := [(2, (ρ t 4))]) (st := []) (K := 3) (pc := 52) hX 26 rfl mo_X3_keep ml_X11_218 im_X3_keep se_X3_keep (c_X3_keep g ω v ρ Z hH (ρ t 6) hw44_ (ρ t 4) hw0_ ) rfl rfl rfl (hH.kd hw44_ (by decide)) (by rw [hRm]; exact ⟨by decide, by decide⟩) (by rw [hRm]; exact ⟨by decide, by decide⟩) (Nat.le_of_ble_eq_true rfl) (fun o52 v52 ρv52 Zv52 hq52 _ => ?_)
        obtain ⟨rfl, hfr52, hfrR52, hH52, rfl, hq52⟩ := hq52
        show wp g X F_X11_turn 0 0 55 [(2, t), (0, p), (0, c), (0, r36)] [] v52 ρv52 Z
        refine t_getR (q := (ρ t 4)) (pc := 55) hX 27 rfl rfl rfl fl_X11_47 rfl (hH52.kd ht (by decide)) ((hfrR52.at ht (by decide) 4).trans (rfl)) ?_
        refine r_iload_n (pc := 59) hX 29 rfl rfl ?_
        refine r_iload_n (pc := 60) hX 30 rfl rfl ?_
        refine r_callV (as := [(0, p), (0, c)]) (st := []) (K := 9) (pc := 61) hX 31 rfl mo_X9_doTurn ml_X11_229 im_X9_doTurn se_X9_doTurn (c_X9_doTurn g ω v52 ρv52 Z hH52 (ρ t 4) hw0_ (p) (c) (by omega) (by omega)) rfl rfl rfl (hH52.kd hw0_ (by decide)) (by rw [hRm]; exact ⟨by decide, by decide⟩) (by rw [hRm]; exact ⟨by decide, by decide⟩) (Nat.le_of_ble_eq_true rfl) (fun o61 v61 ρv61 Zv61 hq61 _ => ?_)
        obtain ⟨rfl, rfl, hfr61, hH61, rfl, hq61⟩ := hq61
        show wp g X F_X11_turn 0 0 64 [(2, t), (0, p), (0, c), (0, r36)] [] v61 ρv52 Z
        exact (L64  v61 ρv52 (((FrW.rf).tr hfr52 (by decide)).tr hfr61 (by decide)) ((FrW.rf).tr hfrR52 (by decide)) (hH61) )
    · exact (L28   )
set_option maxHeartbeats 4000000 in
set_option maxRecDepth 100000 in
theorem c_X11_come (g : Gp) (ω : Rw) (v ρ : Mv) (Z : Mz) (hH : HT ω v ρ Z) (t : Int) (ht : ω t = 1) (c : Int) (hcr : inR c) : Ok g 5 0 0 F_X11_come [(2, t), (0, c)] v ρ Z (fun o9 v' ρ' Z' => Z = Z' ∧ FrW ω [22, 23, 26, 27, 66, 67, 68, 69, 70] v v' ∧ FrW ω [28, 66] ρ ρ' ∧ HT ω v' ρ' Z ∧ ∃ r : Int, o9 = some (0, r) ∧ True) := by
  refine Ok.of mo_X11_come (Nat.le_of_ble_eq_true rfl) ?_
  intro X hX hRm hxn hQ
  show wp g X F_X11_come 0 0 0 [(2, t), (0, c), (3, 0)] [] v ρ Z
  have hwT : ω (ρ t 4) = 22 := hH.rf ht (by decide) rfl
  have hwR : ω (ρ (ρ t 4) 0) = 5 := hH.rf hwT (by decide) rfl
  have hgR8 : 0 ≤ v (ρ (ρ t 4) 0) 8 ∧ v (ρ (ρ t 4) 0) 8 ≤ 4 := hH.rg hwR (by decide) rfl
  have hgR9 : 0 ≤ v (ρ (ρ t 4) 0) 9 ∧ v (ρ (ρ t 4) 0) 9 ≤ 3 := hH.rg hwR (by decide) rfl
  have hgR10 : 0 ≤ v (ρ (ρ t 4) 0) 10 ∧ v (ρ (ρ t 4) 0) 10 ≤ 3 := hH.rg hwR (by decide) rfl
  have hwX : ω (ρ t 0) = 2 := hH.rf ht (by decide) rfl
  have hgL : 0 ≤ v (ρ t 0) 1 ∧ v (ρ t 0) 1 ≤ 940 := hH.rg hwX (by decide) rfl
  refine t_getR (q := (ρ t 4)) (pc := 0) hX 0 rfl rfl rfl fl_X11_47 rfl (hH.kd ht (by decide)) (rfl) ?_
  have hw0_ : ω (ρ t 4) = 22 := hH.rf ht (by decide) rfl
  refine r_getR (q := (ρ (ρ t 4) 0)) (pc := 4) hX 2 rfl fl_X11_51 rfl (hH.kd hw0_ (by decide)) (rfl) ?_
  have hw4_ : ω (ρ (ρ t 4) 0) = 5 := hH.rf hw0_ (by decide) rfl
  refine r_iload_n (pc := 7) hX 3 rfl rfl ?_
  refine r_callV (as := [(0, c)]) (st := []) (K := 4) (pc := 8) hX 4 rfl mo_X4_hasKind ml_X11_169 im_X4_hasKind se_X4_hasKind (c_X4_hasKind g ω v ρ Z hH (ρ (ρ t 4) 0) hw4_ (c) (by omega)) rfl rfl rfl (hH.kd hw4_ (by decide)) (by rw [hRm]; exact ⟨by decide, by decide⟩) (by rw [hRm]; exact ⟨by decide, by decide⟩) (Nat.le_of_ble_eq_true rfl) (fun o8 v8 ρv8 Zv8 hq8 _ => ?_)
  obtain ⟨rfl, rfl, rfl, r8, rfl, hq8⟩ := hq8
  show wp g X F_X11_come 0 0 11 [(2, t), (0, c), (3, 0)] [(0, r8)] v ρ Z
  first | refine r_if_ne (pc := 11) hX 5 (tgt := 16) rfl (by decide) (⟨by omega, by omega⟩) (fun h11 => ?_) (fun h11 => ?_) | refine r_if_ne_any (pc := 11) hX 5 (tgt := 16) rfl (by decide) ?_ ?_
  · refine t_getR (q := (ρ t 4)) (pc := 16) hX 8 rfl rfl rfl fl_X11_47 rfl (hH.kd ht (by decide)) (rfl) ?_
    refine r_iload_n (pc := 20) hX 10 rfl rfl ?_
    refine r_callV (as := [(0, c)]) (st := []) (K := 9) (pc := 21) hX 11 rfl mo_X9_whyNotCome ml_X11_232 im_X9_whyNotCome se_X9_whyNotCome (c_X9_whyNotCome g ω v ρ Z hH (ρ t 4) hw0_ (c) (by omega)) rfl rfl rfl (hH.kd hw0_ (by decide)) (by rw [hRm]; exact ⟨by decide, by decide⟩) (by rw [hRm]; exact ⟨by decide, by decide⟩) (Nat.le_of_ble_eq_true rfl) (fun o21 v21 ρv21 Zv21 hq21 _ => ?_)
    obtain ⟨rfl, rfl, rfl, r21, rfl, hq21⟩ := hq21
    have hw21_ : ω (ρ (ρ t 4) 6) = 26 := hH.rf hw0_ (by decide) rfl
    show wp g X F_X11_come 0 0 24 [(2, t), (0, c), (3, 0)] [(0, r21)] v ρ Z
    refine r_istore_n (ls' := [(2, t), (0, c), (0, r21)]) (pc := 24) hX 12 rfl (by decide) rfl ?_
    refine r_iload_n (pc := 25) hX 13 rfl rfl ?_
    have L48 : ∀ (v48 : Mv) (ρ48 : Mv) , (FrW ω [22, 23, 26, 27, 66, 67, 68, 69, 70] v v48) → (FrW ω [28, 66] ρ ρ48) → (HT ω v48 ρ48 Z) → wp g X F_X11_come 0 0 48 [(2, t), (0, c), (0, r21)] [] v48 ρ48 Z := by
      intro v48 ρ48 hfr48 hfrR48 hH48
      refine r_iload_n (pc := 48) hX 24 rfl rfl ?_
      exact r_iret (pc := 49) hX 25 hQ rfl rfl (Nat.le_of_ble_eq_true rfl) (Nat.le_of_ble_eq_true rfl) ⟨rfl, hfr48, hfrR48, hH48, r21, rfl, trivial⟩
    first | refine r_if_ne (pc := 26) hX 14 (tgt := 48) rfl (by decide) (⟨by omega, by omega⟩) (fun h26 => ?_) (fun h26 => ?_) | refine r_if_ne_any (pc := 26) hX 14 (tgt := 48) rfl (by decide) ?_ ?_
    · exact (L48  v ρ (FrW.rf) (FrW.rf) (hH) )
    · refine t_getR (q := (ρ t 6)) (pc := 29) hX 15 rfl rfl rfl fl_X11_61 rfl (hH.kd ht (by decide)) (rfl) ?_
      have hw29_ : ω (ρ t 6) = 27 := hH.rf ht (by decide) rfl
      refine t_getR (q := (ρ t 4)) (pc := 33) hX 17 rfl rfl rfl fl_X11_47 rfl (hH.kd ht (by decide)) (rfl) ?_
      refine r_callV (as := [(2, (ρ t 4))]) (st := []) (K := 3) (pc := 37) hX 19 rfl mo_X3_keep ml_X11_218 im_X3_keep se_X3_keep (c_X3_keep g ω v ρ Z hH (ρ t 6) hw29_ (ρ t 4) hw0_ ) rfl rfl rfl (hH.kd hw29_ (by decide)) (by rw [hRm]; exact ⟨by decide, by decide⟩) (by rw [hRm]; exact ⟨by decide, by decide⟩) (Nat.le_of_ble_eq_true rfl) (fun o37 v37 ρv37 Zv37 hq37 _ => ?_)
      obtain ⟨rfl, hfr37, hfrR37, hH37, rfl, hq37⟩ := hq37
      show wp g X F_X11_come 0 0 40 [(2, t), (0, c), (0, r21)] [] v37 ρv37 Z
      refine t_getR (q := (ρ t 4)) (pc := 40) hX 20 rfl rfl rfl fl_X11_47 rfl (hH37.kd ht (by decide)) ((hfrR37.at ht (by decide) 4).trans (rfl)) ?_
      refine r_iload_n (pc := 44) hX 22 rfl rfl ?_
      refine r_callV (as := [(0, c)]) (st := []) (K := 9) (pc := 45) hX 23 rfl mo_X9_doCome ml_X11_235 im_X9_doCome se_X9_doCome (c_X9_doCome g ω v37 ρv37 Z hH37 (ρ t 4) hw0_ (c) (by omega) (by rw [show (ρv37 (ρ t 4) 0) = (ρ (ρ t 4) 0) from (hfrR37.at hw0_ (by decide) 0).trans (rfl)]; rw [show (v37 (ρ (ρ t 4) 0) 10) = (v (ρ (ρ t 4) 0) 10) from (hfr37.at hw4_ (by decide) 10).trans (rfl)]; rw [show (v37 (ρ (ρ t 4) 0) 11) = (v (ρ (ρ t 4) 0) 11) from (hfr37.at hw4_ (by decide) 11).trans (rfl)]; rw [show (ρv37 (ρ t 4) 6) = (ρ (ρ t 4) 6) from (hfrR37.at hw0_ (by decide) 6).trans (rfl)]; rw [show (v37 (ρ (ρ t 4) 6)) = (v (ρ (ρ t 4) 6)) from (hfr37.rw hw21_ (by decide)).trans (rfl)]; exact (hq21.2 (by omega)))) rfl rfl rfl (hH37.kd hw0_ (by decide)) (by rw [hRm]; exact ⟨by decide, by decide⟩) (by rw [hRm]; exact ⟨by decide, by decide⟩) (Nat.le_of_ble_eq_true rfl) (fun o45 v45 ρv45 Zv45 hq45 _ => ?_)
      obtain ⟨rfl, rfl, hfr45, hH45, rfl, hq45⟩ := hq45
      show wp g X F_X11_come 0 0 48 [(2, t), (0, c), (0, r21)] [] v45 ρv37 Z
      exact (L48  v45 ρv37 (((FrW.rf).tr hfr37 (by decide)).tr hfr45 (by decide)) ((FrW.rf).tr hfrR37 (by decide)) (hH45) )
  · refine r_iconst (pc := 14) hX 6 rfl ?_
    exact r_iret (pc := 15) hX 7 hQ rfl rfl (Nat.le_of_ble_eq_true rfl) (Nat.le_of_ble_eq_true rfl) ⟨rfl, FrW.rf, FrW.rf, hH, (-1), rfl, trivial⟩
set_option maxHeartbeats 4000000 in
set_option maxRecDepth 100000 in
theorem c_X11_undo (g : Gp) (ω : Rw) (v ρ : Mv) (Z : Mz) (hH : HT ω v ρ Z) (t : Int) (ht : ω t = 1)  : Ok g 4 0 0 F_X11_undo [(2, t)] v ρ Z (fun o9 v' ρ' Z' => Z = Z' ∧ FrW ω [22, 23, 24, 25, 26, 27] v v' ∧ FrW ω [22] ρ ρ' ∧ HT ω v' ρ' Z ∧ ∃ r : Int, o9 = some (0, r) ∧ True) := by
  refine Ok.of mo_X11_undo (Nat.le_of_ble_eq_true rfl) ?_
  intro X hX hRm hxn hQ
  show wp g X F_X11_undo 0 0 0 [(2, t)] [] v ρ Z
  have hwT : ω (ρ t 4) = 22 := hH.rf ht (by decide) rfl
  have hwR : ω (ρ (ρ t 4) 0) = 5 := hH.rf hwT (by decide) rfl
  have hgR8 : 0 ≤ v (ρ (ρ t 4) 0) 8 ∧ v (ρ (ρ t 4) 0) 8 ≤ 4 := hH.rg hwR (by decide) rfl
  have hgR9 : 0 ≤ v (ρ (ρ t 4) 0) 9 ∧ v (ρ (ρ t 4) 0) 9 ≤ 3 := hH.rg hwR (by decide) rfl
  have hgR10 : 0 ≤ v (ρ (ρ t 4) 0) 10 ∧ v (ρ (ρ t 4) 0) 10 ≤ 3 := hH.rg hwR (by decide) rfl
  have hwX : ω (ρ t 0) = 2 := hH.rf ht (by decide) rfl
  have hgL : 0 ≤ v (ρ t 0) 1 ∧ v (ρ t 0) 1 ≤ 940 := hH.rg hwX (by decide) rfl
  refine t_getR (q := (ρ t 6)) (pc := 0) hX 0 rfl rfl rfl fl_X11_61 rfl (hH.kd ht (by decide)) (rfl) ?_
  have hw0_ : ω (ρ t 6) = 27 := hH.rf ht (by decide) rfl
  refine t_getR (q := (ρ t 4)) (pc := 4) hX 2 rfl rfl rfl fl_X11_47 rfl (hH.kd ht (by decide)) (rfl) ?_
  have hw4_ : ω (ρ t 4) = 22 := hH.rf ht (by decide) rfl
  refine r_callV (as := [(2, (ρ t 4))]) (st := []) (K := 3) (pc := 8) hX 4 rfl mo_X3_recall ml_X11_238 im_X3_recall se_X3_recall (c_X3_recall g ω v ρ Z hH (ρ t 6) hw0_ (ρ t 4) hw4_ ) rfl rfl rfl (hH.kd hw0_ (by decide)) (by rw [hRm]; exact ⟨by decide, by decide⟩) (by rw [hRm]; exact ⟨by decide, by decide⟩) (Nat.le_of_ble_eq_true rfl) (fun o8 v8 ρv8 Zv8 hq8 _ => ?_)
  obtain ⟨rfl, hfr8, hfrR8, hH8, r8, rfl, hq8⟩ := hq8
  show wp g X F_X11_undo 0 0 11 [(2, t)] [(0, r8)] v8 ρv8 Z
  exact r_iret (pc := 11) hX 5 hQ rfl rfl (Nat.le_of_ble_eq_true rfl) (Nat.le_of_ble_eq_true rfl) ⟨rfl, (FrW.rf).tr hfr8 (by decide), (FrW.rf).tr hfrR8 (by decide), hH8, r8, rfl, trivial⟩
set_option maxHeartbeats 4000000 in
set_option maxRecDepth 100000 in
theorem c_X11_favourite (g : Gp) (ω : Rw) (v ρ : Mv) (Z : Mz) (hH : HT ω v ρ Z) (t : Int) (ht : ω t = 1)  : Ok g 6 0 0 F_X11_favourite [(2, t)] v ρ Z (fun o9 v' ρ' Z' => Z = Z' ∧ FrW ω [29, 30, 31, 32, 33, 34, 35, 36, 37, 38] v v' ∧ FrW ω [29] ρ ρ' ∧ HT ω v' ρ' Z ∧ ∃ r : Int, o9 = some (0, r) ∧ True) := by
  refine Ok.of mo_X11_favourite (Nat.le_of_ble_eq_true rfl) ?_
  intro X hX hRm hxn hQ
  show wp g X F_X11_favourite 0 0 0 [(2, t), (3, 0), (3, 0), (3, 0), (3, 0)] [] v ρ Z
  have hwT : ω (ρ t 4) = 22 := hH.rf ht (by decide) rfl
  have hwR : ω (ρ (ρ t 4) 0) = 5 := hH.rf hwT (by decide) rfl
  have hgR8 : 0 ≤ v (ρ (ρ t 4) 0) 8 ∧ v (ρ (ρ t 4) 0) 8 ≤ 4 := hH.rg hwR (by decide) rfl
  have hgR9 : 0 ≤ v (ρ (ρ t 4) 0) 9 ∧ v (ρ (ρ t 4) 0) 9 ≤ 3 := hH.rg hwR (by decide) rfl
  have hgR10 : 0 ≤ v (ρ (ρ t 4) 0) 10 ∧ v (ρ (ρ t 4) 0) 10 ≤ 3 := hH.rg hwR (by decide) rfl
  have hwX : ω (ρ t 0) = 2 := hH.rf ht (by decide) rfl
  have hgL : 0 ≤ v (ρ t 0) 1 ∧ v (ρ t 0) 1 ≤ 940 := hH.rg hwX (by decide) rfl
  refine t_getR (q := (ρ t 7)) (pc := 0) hX 0 rfl rfl rfl fl_X11_68 rfl (hH.kd ht (by decide)) (rfl) ?_
  have hw0_ : ω (ρ t 7) = 29 := hH.rf ht (by decide) rfl
  refine t_getR (q := (ρ t 4)) (pc := 4) hX 2 rfl rfl rfl fl_X11_47 rfl (hH.kd ht (by decide)) (rfl) ?_
  have hw4_ : ω (ρ t 4) = 22 := hH.rf ht (by decide) rfl
  refine r_callV (as := [(2, (ρ t 4))]) (st := []) (K := 2) (pc := 8) hX 4 rfl mo_X2_reckonFor ml_X11_245 im_X2_reckonFor se_X2_reckonFor (c_X2_reckonFor g ω v ρ Z hH (ρ t 7) hw0_ (ρ t 4) hw4_ ) rfl rfl rfl (hH.kd hw0_ (by decide)) (by rw [hRm]; exact ⟨by decide, by decide⟩) (by rw [hRm]; exact ⟨by decide, by decide⟩) (Nat.le_of_ble_eq_true rfl) (fun o8 v8 ρv8 Zv8 hq8 _ => ?_)
  obtain ⟨rfl, hfr8, hfrR8, hH8, rfl, hq8⟩ := hq8
  show wp g X F_X11_favourite 0 0 11 [(2, t), (3, 0), (3, 0), (3, 0), (3, 0)] [] v8 ρv8 Z
  refine r_iconst (pc := 11) hX 5 rfl ?_
  refine r_istore_n (ls' := [(2, t), (0, (-1)), (3, 0), (3, 0), (3, 0)]) (pc := 12) hX 6 rfl (by decide) rfl ?_
  refine r_ldc2 (y := (-1)) (pc := 13) hX 7 rfl kl_X11_282 (by decide) ?_
  refine r_lstore_n (ls' := [(2, t), (0, (-1)), (1, (-1)), (3, 0), (3, 0)]) (pc := 16) hX 8 rfl (by decide) rfl ?_
  refine r_iconst (pc := 17) hX 9 rfl ?_
  refine r_istore (ls' := [(2, t), (0, (-1)), (1, (-1)), (3, 0), (0, 0)]) (pc := 18) hX 10 rfl (by decide) rfl ?_
  have L20 : ∀ (n20 : Nat) (b m i : Int) , (0 ≤ i ∧ i ≤ 3) → (3 - i).toNat < n20 → wp g X F_X11_favourite 0 0 20 [(2, t), (0, b), (1, m), (3, 0), (0, i)] [] v8 ρv8 Z := by
    intro n20
    induction n20 with
    | zero => intro b m i ii hme20; exact absurd hme20 (Nat.not_lt_zero _)
    | succ n20 ih20 =>
      intro b m i ii hme20
      refine r_iload (pc := 20) hX 11 rfl rfl ?_
      refine t_getR (q := (ρ t 4)) (pc := 22) hX 12 rfl rfl rfl fl_X11_47 rfl (hH8.kd ht (by decide)) ((hfrR8.at ht (by decide) 4).trans (rfl)) ?_
      refine r_getR (q := (ρ (ρ t 4) 0)) (pc := 26) hX 14 rfl fl_X11_51 rfl (hH8.kd hw4_ (by decide)) ((hfrR8.at hw4_ (by decide) 0).trans (rfl)) ?_
      have hw26_ : ω (ρ (ρ t 4) 0) = 5 := hH.rf hw4_ (by decide) rfl
      refine e_getI (y := (v (ρ (ρ t 4) 0) 10)) (pc := 29) hX 15 rfl fl_X11_284 rfl (hH8.kd hw26_ (by decide)) ((hfr8.at hw26_ (by decide) 10).trans (rfl)) ?_
      have hb29 : 0 ≤ (v (ρ (ρ t 4) 0) 10) ∧ (v (ρ (ρ t 4) 0) 10) ≤ 3 := hH.rg hw26_ (by decide) rfl
      first | refine r_icmp_ge (pc := 32) hX 16 (tgt := 70) rfl (by decide) (⟨by omega, by omega⟩) (⟨by omega, by omega⟩) (fun h32 => ?_) (fun h32 => ?_) | refine r_icmp_ge_any (pc := 32) hX 16 (tgt := 70) rfl (by decide) ?_ ?_
      · refine r_iload_n (pc := 70) hX 35 rfl rfl ?_
        exact r_iret (pc := 71) hX 36 hQ rfl rfl (Nat.le_of_ble_eq_true rfl) (Nat.le_of_ble_eq_true rfl) ⟨rfl, (FrW.rf).tr hfr8 (by decide), (FrW.rf).tr hfrR8 (by decide), hH8, b, rfl, trivial⟩
      · refine t_getR (q := (ρ t 7)) (pc := 35) hX 17 rfl rfl rfl fl_X11_68 rfl (hH8.kd ht (by decide)) ((hfrR8.at ht (by decide) 7).trans (rfl)) ?_
        refine r_getR (q := (ρv8 (ρ t 7) 9)) (pc := 39) hX 19 rfl fl_X11_248 rfl (hH8.kd hw0_ (by decide)) (rfl) ?_
        have hw39_ : ω (ρv8 (ρ t 7) 9) = 33 := hH8.rf hw0_ (by decide) rfl
        refine r_iload (pc := 42) hX 20 rfl rfl ?_
        refine e_lald (y := (v8 (ρv8 (ρ t 7) 9) i)) (n := 3) (pc := 44) hX 21 rfl (hH8.kd hw39_ (by decide)) (hH8.ln hw39_ (by decide)) (by omega) (by omega) (rfl) ?_
        refine r_lload_n (pc := 45) hX 22 rfl rfl ?_
        refine r_lcmp_any (pc := 46) hX 23 rfl (fun z46 hz46a hz46b => ?_)
        have L64 : ∀ (b2 m2 : Int) , wp g X F_X11_favourite 0 0 64 [(2, t), (0, b2), (1, m2), (3, 0), (0, i)] [] v8 ρv8 Z := by
          intro b2 m2
          refine r_iinc (ls' := [(2, t), (0, b2), (1, m2), (3, 0), (0, (i + 1))]) (pc := 64) hX 33 rfl rfl (by decide) rfl ?_
          refine r_goto (pc := 67) hX 34 (tgt := 20) rfl (by decide) ?_
          exact (ih20 b2 m2 (i + 1) (by omega) (by omega))
        first | refine r_if_le (pc := 47) hX 24 (tgt := 64) rfl (by decide) (⟨by omega, by omega⟩) (fun h47 => ?_) (fun h47 => ?_) | refine r_if_le_any (pc := 47) hX 24 (tgt := 64) rfl (by decide) ?_ ?_
        · exact (L64 b m  )
        · refine t_getR (q := (ρ t 7)) (pc := 50) hX 25 rfl rfl rfl fl_X11_68 rfl (hH8.kd ht (by decide)) ((hfrR8.at ht (by decide) 7).trans (rfl)) ?_
          refine r_getR (q := (ρv8 (ρ t 7) 9)) (pc := 54) hX 27 rfl fl_X11_248 rfl (hH8.kd hw0_ (by decide)) (rfl) ?_
          refine r_iload (pc := 57) hX 28 rfl rfl ?_
          refine e_lald (y := (v8 (ρv8 (ρ t 7) 9) i)) (n := 3) (pc := 59) hX 29 rfl (hH8.kd hw39_ (by decide)) (hH8.ln hw39_ (by decide)) (by omega) (by omega) (rfl) ?_
          refine r_lstore_n (ls' := [(2, t), (0, b), (1, (v8 (ρv8 (ρ t 7) 9) i)), (3, 0), (0, i)]) (pc := 60) hX 30 rfl (by decide) rfl ?_
          refine r_iload (pc := 61) hX 31 rfl rfl ?_
          refine r_istore_n (ls' := [(2, t), (0, i), (1, (v8 (ρv8 (ρ t 7) 9) i)), (3, 0), (0, i)]) (pc := 63) hX 32 rfl (by decide) rfl ?_
          exact (L64 i (v8 (ρv8 (ρ t 7) 9) i)  )
  exact (L20 _ (-1) (-1) 0 (by omega) (Nat.lt_succ_self _))
set_option maxHeartbeats 4000000 in
set_option maxRecDepth 100000 in
theorem c_X11_chosen (g : Gp) (ω : Rw) (v ρ : Mv) (Z : Mz) (hH : HT ω v ρ Z) (t : Int) (ht : ω t = 1) (p : Int) (hpr : inR p) : Ok g 11 0 0 F_X11_chosen [(2, t), (0, p)] v ρ Z (fun o9 v' ρ' Z' => Z = Z' ∧ FrW ω [29, 30, 31, 32, 33, 34, 35, 36, 37, 38, 39, 41, 43, 44] v v' ∧ FrW ω [29] ρ ρ' ∧ HT ω v' ρ' Z ∧ ∃ r : Int, o9 = some (0, r) ∧ True) := by
  refine Ok.of mo_X11_chosen (Nat.le_of_ble_eq_true rfl) ?_
  intro X hX hRm hxn hQ
  show wp g X F_X11_chosen 0 0 0 [(2, t), (0, p)] [] v ρ Z
  have hwT : ω (ρ t 4) = 22 := hH.rf ht (by decide) rfl
  have hwR : ω (ρ (ρ t 4) 0) = 5 := hH.rf hwT (by decide) rfl
  have hgR8 : 0 ≤ v (ρ (ρ t 4) 0) 8 ∧ v (ρ (ρ t 4) 0) 8 ≤ 4 := hH.rg hwR (by decide) rfl
  have hgR9 : 0 ≤ v (ρ (ρ t 4) 0) 9 ∧ v (ρ (ρ t 4) 0) 9 ≤ 3 := hH.rg hwR (by decide) rfl
  have hgR10 : 0 ≤ v (ρ (ρ t 4) 0) 10 ∧ v (ρ (ρ t 4) 0) 10 ≤ 3 := hH.rg hwR (by decide) rfl
  have hwX : ω (ρ t 0) = 2 := hH.rf ht (by decide) rfl
  have hgL : 0 ≤ v (ρ t 0) 1 ∧ v (ρ t 0) 1 ≤ 940 := hH.rg hwX (by decide) rfl
  refine t_getR (q := (ρ t 4)) (pc := 0) hX 0 rfl rfl rfl fl_X11_47 rfl (hH.kd ht (by decide)) (rfl) ?_
  have hw0_ : ω (ρ t 4) = 22 := hH.rf ht (by decide) rfl
  refine r_getR (q := (ρ (ρ t 4) 0)) (pc := 4) hX 2 rfl fl_X11_51 rfl (hH.kd hw0_ (by decide)) (rfl) ?_
  have hw4_ : ω (ρ (ρ t 4) 0) = 5 := hH.rf hw0_ (by decide) rfl
  refine r_iload_n (pc := 7) hX 3 rfl rfl ?_
  refine r_callV (as := [(0, p)]) (st := []) (K := 4) (pc := 8) hX 4 rfl mo_X4_hasPlayer ml_X11_211 im_X4_hasPlayer se_X4_hasPlayer (c_X4_hasPlayer g ω v ρ Z hH (ρ (ρ t 4) 0) hw4_ (p) (by omega)) rfl rfl rfl (hH.kd hw4_ (by decide)) (by rw [hRm]; exact ⟨by decide, by decide⟩) (by rw [hRm]; exact ⟨by decide, by decide⟩) (Nat.le_of_ble_eq_true rfl) (fun o8 v8 ρv8 Zv8 hq8 _ => ?_)
  obtain ⟨rfl, rfl, rfl, r8, rfl, hq8⟩ := hq8
  show wp g X F_X11_chosen 0 0 11 [(2, t), (0, p)] [(0, r8)] v ρ Z
  first | refine r_if_ne (pc := 11) hX 5 (tgt := 16) rfl (by decide) (⟨by omega, by omega⟩) (fun h11 => ?_) (fun h11 => ?_) | refine r_if_ne_any (pc := 11) hX 5 (tgt := 16) rfl (by decide) ?_ ?_
  · refine t_getR (q := (ρ t 9)) (pc := 16) hX 8 rfl rfl rfl fl_X11_80 rfl (hH.kd ht (by decide)) (rfl) ?_
    have hw16_ : ω (ρ t 9) = 39 := hH.rf ht (by decide) rfl
    refine t_getR (q := (ρ t 4)) (pc := 20) hX 10 rfl rfl rfl fl_X11_47 rfl (hH.kd ht (by decide)) (rfl) ?_
    refine r_callV (as := [(2, (ρ t 4))]) (st := []) (K := 0) (pc := 24) hX 12 rfl mo_X0_reckonFor ml_X11_287 im_X0_reckonFor se_X0_reckonFor (c_X0_reckonFor g ω v ρ Z hH (ρ t 9) hw16_ (ρ t 4) hw0_ ) rfl rfl rfl (hH.kd hw16_ (by decide)) (by rw [hRm]; exact ⟨by decide, by decide⟩) (by rw [hRm]; exact ⟨by decide, by decide⟩) (Nat.le_of_ble_eq_true rfl) (fun o24 v24 ρv24 Zv24 hq24 _ => ?_)
    obtain ⟨rfl, hfr24, hfrR24, hH24, rfl, hq24⟩ := hq24
    show wp g X F_X11_chosen 0 0 27 [(2, t), (0, p)] [] v24 ρv24 Z
    refine t_getR (q := (ρ t 9)) (pc := 27) hX 13 rfl rfl rfl fl_X11_80 rfl (hH24.kd ht (by decide)) ((hfrR24.at ht (by decide) 9).trans (rfl)) ?_
    refine r_getR (q := (ρ (ρ t 9) 4)) (pc := 31) hX 15 rfl fl_X11_288 rfl (hH24.kd hw16_ (by decide)) ((hfrR24.at hw16_ (by decide) 4).trans (rfl)) ?_
    have hw31_ : ω (ρ (ρ t 9) 4) = 42 := hH.rf hw16_ (by decide) rfl
    refine r_iconst (pc := 34) hX 16 rfl ?_
    refine r_aald (q := (ρ (ρ (ρ t 9) 4) 0)) (pc := 35) hX 17 19 rfl (hH24.kd hw31_ (by decide)) (by decide) (by decide) rfl rfl (by omega) (by rw [show Z.2.1 (ρ (ρ t 9) 4) = 4 from (hH24.ln hw31_ (by decide))]; omega) ((hfrR24.at hw31_ (by decide) 0).trans (rfl)) ?_
    have hw35_ : ω (ρ (ρ (ρ t 9) 4) 0) = 43 := hH.rf hw31_ (by decide) (rf42 ⟨by omega, by omega⟩)
    refine r_iload_n (pc := 36) hX 18 rfl rfl ?_
    refine e_iald (y := (v24 (ρ (ρ (ρ t 9) 4) 0) p)) (n := 3) (pc := 37) hX 19 rfl (hH24.kd hw35_ (by decide)) (hH24.ln hw35_ (by decide)) (by omega) (by omega) (rfl) ?_
    have hb37 : (-1) ≤ (v24 (ρ (ρ (ρ t 9) 4) 0) p) ∧ (v24 (ρ (ρ (ρ t 9) 4) 0) p) ≤ 3 := hH24.rg hw35_ (by decide) rfl
    exact r_iret (pc := 38) hX 20 hQ rfl rfl (Nat.le_of_ble_eq_true rfl) (Nat.le_of_ble_eq_true rfl) ⟨rfl, (FrW.rf).tr hfr24 (by decide), (FrW.rf).tr hfrR24 (by decide), hH24, (v24 (ρ (ρ (ρ t 9) 4) 0) p), rfl, trivial⟩
  · refine r_iconst (pc := 14) hX 6 rfl ?_
    exact r_iret (pc := 15) hX 7 hQ rfl rfl (Nat.le_of_ble_eq_true rfl) (Nat.le_of_ble_eq_true rfl) ⟨rfl, FrW.rf, FrW.rf, hH, (-1), rfl, trivial⟩
set_option maxHeartbeats 4000000 in
set_option maxRecDepth 100000 in
theorem c_X11_which (g : Gp) (ω : Rw) (v ρ : Mv) (Z : Mz) (hH : HT ω v ρ Z) (t : Int) (ht : ω t = 1) (p : Int) (hpr : inR p) : Ok g 5 0 0 F_X11_which [(2, t), (0, p)] v ρ Z (fun o9 v' ρ' Z' => Z = Z' ∧ FrW ω [29, 30, 31, 32, 33, 34, 35, 36, 37, 38] v v' ∧ FrW ω [29] ρ ρ' ∧ HT ω v' ρ' Z ∧ ∃ r : Int, o9 = some (0, r) ∧ True) := by
  refine Ok.of mo_X11_which (Nat.le_of_ble_eq_true rfl) ?_
  intro X hX hRm hxn hQ
  show wp g X F_X11_which 0 0 0 [(2, t), (0, p), (3, 0), (3, 0), (3, 0), (3, 0)] [] v ρ Z
  have hwT : ω (ρ t 4) = 22 := hH.rf ht (by decide) rfl
  have hwR : ω (ρ (ρ t 4) 0) = 5 := hH.rf hwT (by decide) rfl
  have hgR8 : 0 ≤ v (ρ (ρ t 4) 0) 8 ∧ v (ρ (ρ t 4) 0) 8 ≤ 4 := hH.rg hwR (by decide) rfl
  have hgR9 : 0 ≤ v (ρ (ρ t 4) 0) 9 ∧ v (ρ (ρ t 4) 0) 9 ≤ 3 := hH.rg hwR (by decide) rfl
  have hgR10 : 0 ≤ v (ρ (ρ t 4) 0) 10 ∧ v (ρ (ρ t 4) 0) 10 ≤ 3 := hH.rg hwR (by decide) rfl
  have hwX : ω (ρ t 0) = 2 := hH.rf ht (by decide) rfl
  have hgL : 0 ≤ v (ρ t 0) 1 ∧ v (ρ t 0) 1 ≤ 940 := hH.rg hwX (by decide) rfl
  refine t_getR (q := (ρ t 4)) (pc := 0) hX 0 rfl rfl rfl fl_X11_47 rfl (hH.kd ht (by decide)) (rfl) ?_
  have hw0_ : ω (ρ t 4) = 22 := hH.rf ht (by decide) rfl
  refine r_getR (q := (ρ (ρ t 4) 0)) (pc := 4) hX 2 rfl fl_X11_51 rfl (hH.kd hw0_ (by decide)) (rfl) ?_
  have hw4_ : ω (ρ (ρ t 4) 0) = 5 := hH.rf hw0_ (by decide) rfl
  refine r_iload_n (pc := 7) hX 3 rfl rfl ?_
  refine r_callV (as := [(0, p)]) (st := []) (K := 4) (pc := 8) hX 4 rfl mo_X4_hasPlayer ml_X11_211 im_X4_hasPlayer se_X4_hasPlayer (c_X4_hasPlayer g ω v ρ Z hH (ρ (ρ t 4) 0) hw4_ (p) (by omega)) rfl rfl rfl (hH.kd hw4_ (by decide)) (by rw [hRm]; exact ⟨by decide, by decide⟩) (by rw [hRm]; exact ⟨by decide, by decide⟩) (Nat.le_of_ble_eq_true rfl) (fun o8 v8 ρv8 Zv8 hq8 _ => ?_)
  obtain ⟨rfl, rfl, rfl, r8, rfl, hq8⟩ := hq8
  show wp g X F_X11_which 0 0 11 [(2, t), (0, p), (3, 0), (3, 0), (3, 0), (3, 0)] [(0, r8)] v ρ Z
  have L24 : wp g X F_X11_which 0 0 24 [(2, t), (0, p), (3, 0), (3, 0), (3, 0), (3, 0)] [] v ρ Z := by
    refine r_iconst (pc := 24) hX 10 rfl ?_
    exact r_iret (pc := 25) hX 11 hQ rfl rfl (Nat.le_of_ble_eq_true rfl) (Nat.le_of_ble_eq_true rfl) ⟨rfl, FrW.rf, FrW.rf, hH, (-1), rfl, trivial⟩
  first | refine r_if_eq (pc := 11) hX 5 (tgt := 24) rfl (by decide) (⟨by omega, by omega⟩) (fun h11 => ?_) (fun h11 => ?_) | refine r_if_eq_any (pc := 11) hX 5 (tgt := 24) rfl (by decide) ?_ ?_
  · exact (L24   )
  · refine t_getR (q := (ρ t 4)) (pc := 14) hX 6 rfl rfl rfl fl_X11_47 rfl (hH.kd ht (by decide)) (rfl) ?_
    refine r_callV (as := []) (st := []) (K := 9) (pc := 18) hX 8 rfl mo_X9_isOver ml_X11_200 im_X9_isOver se_X9_isOver (c_X9_isOver g ω v ρ Z hH (ρ t 4) hw0_ ) rfl rfl rfl (hH.kd hw0_ (by decide)) (by rw [hRm]; exact ⟨by decide, by decide⟩) (by rw [hRm]; exact ⟨by decide, by decide⟩) (Nat.le_of_ble_eq_true rfl) (fun o18 v18 ρv18 Zv18 hq18 _ => ?_)
    obtain ⟨rfl, rfl, rfl, r18, rfl, hq18⟩ := hq18
    have hw18_ : ω (ρ (ρ t 4) 6) = 26 := hH.rf hw0_ (by decide) rfl
    show wp g X F_X11_which 0 0 21 [(2, t), (0, p), (3, 0), (3, 0), (3, 0), (3, 0)] [(0, r18)] v ρ Z
    first | refine r_if_eq (pc := 21) hX 9 (tgt := 26) rfl (by decide) (⟨by omega, by omega⟩) (fun h21 => ?_) (fun h21 => ?_) | refine r_if_eq_any (pc := 21) hX 9 (tgt := 26) rfl (by decide) ?_ ?_
    · refine r_iconst (pc := 26) hX 12 rfl ?_
      refine r_istore_n (ls' := [(2, t), (0, p), (0, (-1)), (3, 0), (3, 0), (3, 0)]) (pc := 27) hX 13 rfl (by decide) rfl ?_
      refine r_ldc2 (y := (-1)) (pc := 28) hX 14 rfl kl_X11_282 (by decide) ?_
      refine r_lstore_n (ls' := [(2, t), (0, p), (0, (-1)), (1, (-1)), (3, 0), (3, 0)]) (pc := 31) hX 15 rfl (by decide) rfl ?_
      refine r_iconst (pc := 32) hX 16 rfl ?_
      refine r_istore (ls' := [(2, t), (0, p), (0, (-1)), (1, (-1)), (3, 0), (0, 0)]) (pc := 33) hX 17 rfl (by decide) rfl ?_
      have L35 : ∀ (n35 : Nat) (b m c : Int) (v35 : Mv) (ρ35 : Mv) , (FrW ω [29, 30, 31, 32, 33, 34, 35, 36, 37, 38] v v35) → (FrW ω [29] ρ ρ35) → (HT ω v35 ρ35 Z) → (0 ≤ c ∧ c ≤ 4) → (4 - c).toNat < n35 → wp g X F_X11_which 0 0 35 [(2, t), (0, p), (0, b), (1, m), (3, 0), (0, c)] [] v35 ρ35 Z := by
        intro n35
        induction n35 with
        | zero => intro b m c v35 ρ35 hfr35 hfrR35 hH35 ic hme35; exact absurd hme35 (Nat.not_lt_zero _)
        | succ n35 ih35 =>
          intro b m c v35 ρ35 hfr35 hfrR35 hH35 ic hme35
          refine r_iload (pc := 35) hX 18 rfl rfl ?_
          refine t_getR (q := (ρ t 4)) (pc := 37) hX 19 rfl rfl rfl fl_X11_47 rfl (hH35.kd ht (by decide)) ((hfrR35.at ht (by decide) 4).trans (rfl)) ?_
          refine r_getR (q := (ρ (ρ t 4) 0)) (pc := 41) hX 21 rfl fl_X11_51 rfl (hH35.kd hw0_ (by decide)) ((hfrR35.at hw0_ (by decide) 0).trans (rfl)) ?_
          refine e_getI (y := (v (ρ (ρ t 4) 0) 8)) (pc := 44) hX 22 rfl fl_X11_295 rfl (hH35.kd hw4_ (by decide)) ((hfr35.at hw4_ (by decide) 8).trans (rfl)) ?_
          have hb44 : 0 ≤ (v (ρ (ρ t 4) 0) 8) ∧ (v (ρ (ρ t 4) 0) 8) ≤ 4 := hH.rg hw4_ (by decide) rfl
          first | refine r_icmp_ge (pc := 47) hX 23 (tgt := 133) rfl (by decide) (⟨by omega, by omega⟩) (⟨by omega, by omega⟩) (fun h47 => ?_) (fun h47 => ?_) | refine r_icmp_ge_any (pc := 47) hX 23 (tgt := 133) rfl (by decide) ?_ ?_
          · refine r_iload_n (pc := 133) hX 66 rfl rfl ?_
            exact r_iret (pc := 134) hX 67 hQ rfl rfl (Nat.le_of_ble_eq_true rfl) (Nat.le_of_ble_eq_true rfl) ⟨rfl, hfr35, hfrR35, hH35, b, rfl, trivial⟩
          · refine t_getR (q := (ρ t 4)) (pc := 50) hX 24 rfl rfl rfl fl_X11_47 rfl (hH35.kd ht (by decide)) ((hfrR35.at ht (by decide) 4).trans (rfl)) ?_
            refine r_iload (pc := 54) hX 26 rfl rfl ?_
            refine r_callV (as := [(0, c)]) (st := []) (K := 9) (pc := 56) hX 27 rfl mo_X9_holderOf ml_X11_159 im_X9_holderOf se_X9_holderOf (c_X9_holderOf g ω v35 ρ35 Z hH35 (ρ t 4) hw0_ (c) (by omega)) rfl rfl rfl (hH35.kd hw0_ (by decide)) (by rw [hRm]; exact ⟨by decide, by decide⟩) (by rw [hRm]; exact ⟨by decide, by decide⟩) (Nat.le_of_ble_eq_true rfl) (fun o56 v56 ρv56 Zv56 hq56 _ => ?_)
            obtain ⟨rfl, rfl, rfl, r56, rfl, hq56⟩ := hq56
            have hw56_ : ω (ρ (ρ t 4) 4) = 24 := hH.rf hw0_ (by decide) rfl
            try rw [show (ρ35 (ρ t 4) 0) = (ρ (ρ t 4) 0) from (hfrR35.at hw0_ (by decide) 0).trans (rfl)] at hq56
            try rw [show (v35 (ρ (ρ t 4) 0) 10) = (v (ρ (ρ t 4) 0) 10) from (hfr35.at hw4_ (by decide) 10).trans (rfl)] at hq56
            try rw [show (ρ35 (ρ t 4) 4) = (ρ (ρ t 4) 4) from (hfrR35.at hw0_ (by decide) 4).trans (rfl)] at hq56
            try rw [show (v35 (ρ (ρ t 4) 4)) = (v (ρ (ρ t 4) 4)) from (hfr35.rw hw56_ (by decide)).trans (rfl)] at hq56
            show wp g X F_X11_which 0 0 59 [(2, t), (0, p), (0, b), (1, m), (3, 0), (0, c)] [(0, r56)] v35 ρ35 Z
            refine r_iconst (pc := 59) hX 28 rfl ?_
            have L127 : ∀ (b2 m2 : Int) (v127 : Mv) (ρ127 : Mv) , (FrW ω [29, 30, 31, 32, 33, 34, 35, 36, 37, 38] v v127) → (FrW ω [29] ρ ρ127) → (HT ω v127 ρ127 Z) → wp g X F_X11_which 0 0 127 [(2, t), (0, p), (0, b2), (1, m2), (3, 0), (0, c)] [] v127 ρ127 Z := by
              intro b2 m2 v127 ρ127 hfr127 hfrR127 hH127
              refine r_iinc (ls' := [(2, t), (0, p), (0, b2), (1, m2), (3, 0), (0, (c + 1))]) (pc := 127) hX 64 rfl rfl (by decide) rfl ?_
              refine r_goto (pc := 130) hX 65 (tgt := 35) rfl (by decide) ?_
              exact (ih35 b2 m2 (c + 1) v127 ρ127 (hfr127) (hfrR127) (hH127) (by omega) (by omega))
            first | refine r_icmp_ne (pc := 60) hX 29 (tgt := 127) rfl (by decide) (⟨by omega, by omega⟩) (⟨by omega, by omega⟩) (fun h60 => ?_) (fun h60 => ?_) | refine r_icmp_ne_any (pc := 60) hX 29 (tgt := 127) rfl (by decide) ?_ ?_
            · exact (L127 b m v35 ρ35 (hfr35) (hfrR35) (hH35) )
            · refine t_getR (q := (ρ t 8)) (pc := 63) hX 30 rfl rfl rfl fl_X11_72 rfl (hH35.kd ht (by decide)) ((hfrR35.at ht (by decide) 8).trans (rfl)) ?_
              have hw63_ : ω (ρ t 8) = 29 := hH.rf ht (by decide) rfl
              refine t_getR (q := (ρ t 4)) (pc := 67) hX 32 rfl rfl rfl fl_X11_47 rfl (hH35.kd ht (by decide)) ((hfrR35.at ht (by decide) 4).trans (rfl)) ?_
              refine r_callV (as := [(2, (ρ t 4))]) (st := []) (K := 2) (pc := 71) hX 34 rfl mo_X2_setTo ml_X11_298 im_X2_setTo se_X2_setTo (c_X2_setTo g ω v35 ρ35 Z hH35 (ρ t 8) hw63_ (ρ t 4) hw0_ ) rfl rfl rfl (hH35.kd hw63_ (by decide)) (by rw [hRm]; exact ⟨by decide, by decide⟩) (by rw [hRm]; exact ⟨by decide, by decide⟩) (Nat.le_of_ble_eq_true rfl) (fun o71 v71 ρv71 Zv71 hq71 _ => ?_)
              obtain ⟨rfl, hfr71, hfrR71, hH71, rfl, hq71⟩ := hq71
              show wp g X F_X11_which 0 0 74 [(2, t), (0, p), (0, b), (1, m), (3, 0), (0, c)] [] v71 ρv71 Z
              refine t_getR (q := (ρ t 8)) (pc := 74) hX 35 rfl rfl rfl fl_X11_72 rfl (hH71.kd ht (by decide)) ((hfrR71.at ht (by decide) 8).trans ((hfrR35.at ht (by decide) 8).trans (rfl))) ?_
              refine r_iload_n (pc := 78) hX 37 rfl rfl ?_
              refine r_callV (as := [(0, p)]) (st := []) (K := 2) (pc := 79) hX 38 rfl mo_X2_dropAll ml_X11_301 im_X2_dropAll se_X2_dropAll (c_X2_dropAll g ω v71 ρv71 Z hH71 (ρ t 8) hw63_ (p) ) rfl rfl rfl (hH71.kd hw63_ (by decide)) (by rw [hRm]; exact ⟨by decide, by decide⟩) (by rw [hRm]; exact ⟨by decide, by decide⟩) (Nat.le_of_ble_eq_true rfl) (fun o79 v79 ρv79 Zv79 hq79 _ => ?_)
              obtain ⟨rfl, rfl, hfr79, hH79, rfl, hq79⟩ := hq79
              show wp g X F_X11_which 0 0 82 [(2, t), (0, p), (0, b), (1, m), (3, 0), (0, c)] [] v79 ρv71 Z
              refine t_getR (q := (ρ t 8)) (pc := 82) hX 39 rfl rfl rfl fl_X11_72 rfl (hH79.kd ht (by decide)) ((hfrR71.at ht (by decide) 8).trans ((hfrR35.at ht (by decide) 8).trans (rfl))) ?_
              refine r_getR (q := (ρv71 (ρ t 8) 2)) (pc := 86) hX 41 rfl fl_X11_304 rfl (hH79.kd hw63_ (by decide)) (rfl) ?_
              have hw86_ : ω (ρv71 (ρ t 8) 2) = 30 := hH71.rf hw63_ (by decide) rfl
              refine r_iload (pc := 89) hX 42 rfl rfl ?_
              refine r_iload_n (pc := 91) hX 43 rfl rfl ?_
              refine e_iast (n := 5) (pc := 92) hX 44 rfl (hH79.kd hw86_ (by decide)) (hH79.ln hw86_ (by decide)) (hH79.g4 hw86_ (by decide)) (by omega) (by omega) ?_
              have hH_92 : HT ω (up v79 (ρv71 (ρ t 8) 2) c p) ρv71 Z := hH79.upR hw86_ (by decide) rfl (by omega) (by omega)
              refine t_getR (q := (ρ t 8)) (pc := 93) hX 45 rfl rfl rfl fl_X11_72 rfl (hH_92.kd ht (by decide)) ((hfrR71.at ht (by decide) 8).trans ((hfrR35.at ht (by decide) 8).trans (rfl))) ?_
              refine r_callV (as := []) (st := []) (K := 2) (pc := 97) hX 47 rfl mo_X2_reckon ml_X11_307 im_X2_reckon se_X2_reckon (c_X2_reckon g ω (up v79 (ρv71 (ρ t 8) 2) c p) ρv71 Z hH_92 (ρ t 8) hw63_ ) rfl rfl rfl (hH_92.kd hw63_ (by decide)) (by rw [hRm]; exact ⟨by decide, by decide⟩) (by rw [hRm]; exact ⟨by decide, by decide⟩) (Nat.le_of_ble_eq_true rfl) (fun o97 v97 ρv97 Zv97 hq97 _ => ?_)
              obtain ⟨rfl, rfl, hfr97, hH97, rfl, hq97⟩ := hq97
              show wp g X F_X11_which 0 0 100 [(2, t), (0, p), (0, b), (1, m), (3, 0), (0, c)] [] v97 ρv71 Z
              refine t_getR (q := (ρ t 8)) (pc := 100) hX 48 rfl rfl rfl fl_X11_72 rfl (hH97.kd ht (by decide)) ((hfrR71.at ht (by decide) 8).trans ((hfrR35.at ht (by decide) 8).trans (rfl))) ?_
              refine r_getR (q := (ρv71 (ρ t 8) 9)) (pc := 104) hX 50 rfl fl_X11_248 rfl (hH97.kd hw63_ (by decide)) (rfl) ?_
              have hw104_ : ω (ρv71 (ρ t 8) 9) = 33 := hH71.rf hw63_ (by decide) rfl
              refine r_iload_n (pc := 107) hX 51 rfl rfl ?_
              refine e_lald (y := (v97 (ρv71 (ρ t 8) 9) p)) (n := 3) (pc := 108) hX 52 rfl (hH97.kd hw104_ (by decide)) (hH97.ln hw104_ (by decide)) (by omega) (by omega) (rfl) ?_
              refine r_lload_n (pc := 109) hX 53 rfl rfl ?_
              refine r_lcmp_any (pc := 110) hX 54 rfl (fun z110 hz110a hz110b => ?_)
              first | refine r_if_le (pc := 111) hX 55 (tgt := 127) rfl (by decide) (⟨by omega, by omega⟩) (fun h111 => ?_) (fun h111 => ?_) | refine r_if_le_any (pc := 111) hX 55 (tgt := 127) rfl (by decide) ?_ ?_
              · exact (L127 b m v97 ρv71 (((((hfr35).tr hfr71 (by decide)).tr hfr79 (by decide)).up (r := (ρv71 (ρ t 8) 2)) hw86_ (by decide)).tr hfr97 (by decide)) ((hfrR35).tr hfrR71 (by decide)) (hH97) )
              · refine t_getR (q := (ρ t 8)) (pc := 114) hX 56 rfl rfl rfl fl_X11_72 rfl (hH97.kd ht (by decide)) ((hfrR71.at ht (by decide) 8).trans ((hfrR35.at ht (by decide) 8).trans (rfl))) ?_
                refine r_getR (q := (ρv71 (ρ t 8) 9)) (pc := 118) hX 58 rfl fl_X11_248 rfl (hH97.kd hw63_ (by decide)) (rfl) ?_
                refine r_iload_n (pc := 121) hX 59 rfl rfl ?_
                refine e_lald (y := (v97 (ρv71 (ρ t 8) 9) p)) (n := 3) (pc := 122) hX 60 rfl (hH97.kd hw104_ (by decide)) (hH97.ln hw104_ (by decide)) (by omega) (by omega) (rfl) ?_
                refine r_lstore_n (ls' := [(2, t), (0, p), (0, b), (1, (v97 (ρv71 (ρ t 8) 9) p)), (3, 0), (0, c)]) (pc := 123) hX 61 rfl (by decide) rfl ?_
                refine r_iload (pc := 124) hX 62 rfl rfl ?_
                refine r_istore_n (ls' := [(2, t), (0, p), (0, c), (1, (v97 (ρv71 (ρ t 8) 9) p)), (3, 0), (0, c)]) (pc := 126) hX 63 rfl (by decide) rfl ?_
                exact (L127 c (v97 (ρv71 (ρ t 8) 9) p) v97 ρv71 (((((hfr35).tr hfr71 (by decide)).tr hfr79 (by decide)).up (r := (ρv71 (ρ t 8) 2)) hw86_ (by decide)).tr hfr97 (by decide)) ((hfrR35).tr hfrR71 (by decide)) (hH97) )
      exact (L35 _ (-1) (-1) 0 v ρ (FrW.rf) (FrW.rf) (hH) (by omega) (Nat.lt_succ_self _))
    · exact (L24   )
set_option maxHeartbeats 4000000 in
set_option maxRecDepth 100000 in
theorem c_X11_unlikeness (g : Gp) (ω : Rw) (v ρ : Mv) (Z : Mz) (hH : HT ω v ρ Z) (t : Int) (ht : ω t = 1)  : Ok g 1 0 0 F_X11_unlikeness [(2, t)] v ρ Z (fun o9 v' ρ' Z' => ρ = ρ' ∧ Z = Z' ∧ v = v' ∧ ∃ r : Int, o9 = some (1, r) ∧ True) := by
  refine Ok.of mo_X11_unlikeness (Nat.le_of_ble_eq_true rfl) ?_
  intro X hX hRm hxn hQ
  show wp g X F_X11_unlikeness 0 0 0 [(2, t)] [] v ρ Z
  have hwT : ω (ρ t 4) = 22 := hH.rf ht (by decide) rfl
  have hwR : ω (ρ (ρ t 4) 0) = 5 := hH.rf hwT (by decide) rfl
  have hgR8 : 0 ≤ v (ρ (ρ t 4) 0) 8 ∧ v (ρ (ρ t 4) 0) 8 ≤ 4 := hH.rg hwR (by decide) rfl
  have hgR9 : 0 ≤ v (ρ (ρ t 4) 0) 9 ∧ v (ρ (ρ t 4) 0) 9 ≤ 3 := hH.rg hwR (by decide) rfl
  have hgR10 : 0 ≤ v (ρ (ρ t 4) 0) 10 ∧ v (ρ (ρ t 4) 0) 10 ≤ 3 := hH.rg hwR (by decide) rfl
  have hwX : ω (ρ t 0) = 2 := hH.rf ht (by decide) rfl
  have hgL : 0 ≤ v (ρ t 0) 1 ∧ v (ρ t 0) 1 ≤ 940 := hH.rg hwX (by decide) rfl
  refine t_getR (q := (ρ t 8)) (pc := 0) hX 0 rfl rfl rfl fl_X11_72 rfl (hH.kd ht (by decide)) (rfl) ?_
  have hw0_ : ω (ρ t 8) = 29 := hH.rf ht (by decide) rfl
  refine r_getR (q := (ρ (ρ t 8) 9)) (pc := 4) hX 2 rfl fl_X11_248 rfl (hH.kd hw0_ (by decide)) (rfl) ?_
  have hw4_ : ω (ρ (ρ t 8) 9) = 33 := hH.rf hw0_ (by decide) rfl
  refine r_iconst (pc := 7) hX 3 rfl ?_
  refine e_lald (y := (v (ρ (ρ t 8) 9) 0)) (n := 3) (pc := 8) hX 4 rfl (hH.kd hw4_ (by decide)) (hH.ln hw4_ (by decide)) (by omega) (by omega) (rfl) ?_
  refine t_getR (q := (ρ t 8)) (pc := 9) hX 5 rfl rfl rfl fl_X11_72 rfl (hH.kd ht (by decide)) (rfl) ?_
  refine r_getR (q := (ρ (ρ t 8) 9)) (pc := 13) hX 7 rfl fl_X11_248 rfl (hH.kd hw0_ (by decide)) (rfl) ?_
  refine r_iconst (pc := 16) hX 8 rfl ?_
  refine e_lald (y := (v (ρ (ρ t 8) 9) 1)) (n := 3) (pc := 17) hX 9 rfl (hH.kd hw4_ (by decide)) (hH.ln hw4_ (by decide)) (by omega) (by omega) (rfl) ?_
  refine r_lsub (pc := 18) hX 10 rfl ?_
  refine r_mabs (pc := 19) hX 11 rfl ml_X11_391 (by rw [hRm]; exact ⟨by decide, by decide, by decide, by decide⟩) (Nat.le_of_ble_eq_true rfl) (fun z19 hz19 => ?_)
  exact r_lret (pc := 22) hX 12 hQ rfl rfl (Nat.le_of_ble_eq_true rfl) (Nat.le_of_ble_eq_true rfl) ⟨rfl, rfl, rfl, z19, rfl, trivial⟩
set_option maxHeartbeats 4000000 in
set_option maxRecDepth 100000 in
theorem c_X11_fair (g : Gp) (ω : Rw) (v ρ : Mv) (Z : Mz) (hH : HT ω v ρ Z) (t : Int) (ht : ω t = 1) (p : Int) (hpr : inR p) : Ok g 5 0 0 F_X11_fair [(2, t), (0, p)] v ρ Z (fun o9 v' ρ' Z' => Z = Z' ∧ FrW ω [29, 30, 31, 32, 33, 34, 35, 36, 37, 38] v v' ∧ FrW ω [29] ρ ρ' ∧ HT ω v' ρ' Z ∧ ∃ r : Int, o9 = some (0, r) ∧ True) := by
  refine Ok.of mo_X11_fair (Nat.le_of_ble_eq_true rfl) ?_
  intro X hX hRm hxn hQ
  show wp g X F_X11_fair 0 0 0 [(2, t), (0, p), (3, 0), (3, 0), (3, 0), (3, 0)] [] v ρ Z
  have hwT : ω (ρ t 4) = 22 := hH.rf ht (by decide) rfl
  have hwR : ω (ρ (ρ t 4) 0) = 5 := hH.rf hwT (by decide) rfl
  have hgR8 : 0 ≤ v (ρ (ρ t 4) 0) 8 ∧ v (ρ (ρ t 4) 0) 8 ≤ 4 := hH.rg hwR (by decide) rfl
  have hgR9 : 0 ≤ v (ρ (ρ t 4) 0) 9 ∧ v (ρ (ρ t 4) 0) 9 ≤ 3 := hH.rg hwR (by decide) rfl
  have hgR10 : 0 ≤ v (ρ (ρ t 4) 0) 10 ∧ v (ρ (ρ t 4) 0) 10 ≤ 3 := hH.rg hwR (by decide) rfl
  have hwX : ω (ρ t 0) = 2 := hH.rf ht (by decide) rfl
  have hgL : 0 ≤ v (ρ t 0) 1 ∧ v (ρ t 0) 1 ≤ 940 := hH.rg hwX (by decide) rfl
  refine t_getR (q := (ρ t 4)) (pc := 0) hX 0 rfl rfl rfl fl_X11_47 rfl (hH.kd ht (by decide)) (rfl) ?_
  have hw0_ : ω (ρ t 4) = 22 := hH.rf ht (by decide) rfl
  refine r_getR (q := (ρ (ρ t 4) 0)) (pc := 4) hX 2 rfl fl_X11_51 rfl (hH.kd hw0_ (by decide)) (rfl) ?_
  have hw4_ : ω (ρ (ρ t 4) 0) = 5 := hH.rf hw0_ (by decide) rfl
  refine r_iload_n (pc := 7) hX 3 rfl rfl ?_
  refine r_callV (as := [(0, p)]) (st := []) (K := 4) (pc := 8) hX 4 rfl mo_X4_hasPlayer ml_X11_211 im_X4_hasPlayer se_X4_hasPlayer (c_X4_hasPlayer g ω v ρ Z hH (ρ (ρ t 4) 0) hw4_ (p) (by omega)) rfl rfl rfl (hH.kd hw4_ (by decide)) (by rw [hRm]; exact ⟨by decide, by decide⟩) (by rw [hRm]; exact ⟨by decide, by decide⟩) (Nat.le_of_ble_eq_true rfl) (fun o8 v8 ρv8 Zv8 hq8 _ => ?_)
  obtain ⟨rfl, rfl, rfl, r8, rfl, hq8⟩ := hq8
  show wp g X F_X11_fair 0 0 11 [(2, t), (0, p), (3, 0), (3, 0), (3, 0), (3, 0)] [(0, r8)] v ρ Z
  have L28 : wp g X F_X11_fair 0 0 28 [(2, t), (0, p), (3, 0), (3, 0), (3, 0), (3, 0)] [] v ρ Z := by
    refine r_iconst (pc := 28) hX 12 rfl ?_
    exact r_iret (pc := 29) hX 13 hQ rfl rfl (Nat.le_of_ble_eq_true rfl) (Nat.le_of_ble_eq_true rfl) ⟨rfl, FrW.rf, FrW.rf, hH, (-1), rfl, trivial⟩
  first | refine r_if_eq (pc := 11) hX 5 (tgt := 28) rfl (by decide) (⟨by omega, by omega⟩) (fun h11 => ?_) (fun h11 => ?_) | refine r_if_eq_any (pc := 11) hX 5 (tgt := 28) rfl (by decide) ?_ ?_
  · exact (L28   )
  · refine t_getR (q := (ρ t 4)) (pc := 14) hX 6 rfl rfl rfl fl_X11_47 rfl (hH.kd ht (by decide)) (rfl) ?_
    refine r_getR (q := (ρ (ρ t 4) 0)) (pc := 18) hX 8 rfl fl_X11_51 rfl (hH.kd hw0_ (by decide)) (rfl) ?_
    refine e_getI (y := (v (ρ (ρ t 4) 0) 10)) (pc := 21) hX 9 rfl fl_X11_284 rfl (hH.kd hw4_ (by decide)) (rfl) ?_
    have hb21 : 0 ≤ (v (ρ (ρ t 4) 0) 10) ∧ (v (ρ (ρ t 4) 0) 10) ≤ 3 := hH.rg hw4_ (by decide) rfl
    refine r_iconst (pc := 24) hX 10 rfl ?_
    first | refine r_icmp_eq (pc := 25) hX 11 (tgt := 30) rfl (by decide) (⟨by omega, by omega⟩) (⟨by omega, by omega⟩) (fun h25 => ?_) (fun h25 => ?_) | refine r_icmp_eq_any (pc := 25) hX 11 (tgt := 30) rfl (by decide) ?_ ?_
    · refine r_iconst (pc := 30) hX 14 rfl ?_
      refine r_istore_n (ls' := [(2, t), (0, p), (0, (-1)), (3, 0), (3, 0), (3, 0)]) (pc := 31) hX 15 rfl (by decide) rfl ?_
      refine r_ldc2 (y := 9223372036854775807) (pc := 32) hX 16 rfl kl_X11_312 (by decide) ?_
      refine r_lstore_n (ls' := [(2, t), (0, p), (0, (-1)), (1, 9223372036854775807), (3, 0), (3, 0)]) (pc := 35) hX 17 rfl (by decide) rfl ?_
      refine r_iconst (pc := 36) hX 18 rfl ?_
      refine r_istore (ls' := [(2, t), (0, p), (0, (-1)), (1, 9223372036854775807), (3, 0), (0, 0)]) (pc := 37) hX 19 rfl (by decide) rfl ?_
      have L39 : ∀ (n39 : Nat) (b m i : Int) (v39 : Mv) (ρ39 : Mv) , (FrW ω [29, 30, 31, 32, 33, 34, 35, 36, 37, 38] v v39) → (FrW ω [29] ρ ρ39) → (HT ω v39 ρ39 Z) → (0 ≤ i ∧ i ≤ 9) → (9 - i).toNat < n39 → wp g X F_X11_fair 0 0 39 [(2, t), (0, p), (0, b), (1, m), (3, 0), (0, i)] [] v39 ρ39 Z := by
        intro n39
        induction n39 with
        | zero => intro b m i v39 ρ39 hfr39 hfrR39 hH39 ii hme39; exact absurd hme39 (Nat.not_lt_zero _)
        | succ n39 ih39 =>
          intro b m i v39 ρ39 hfr39 hfrR39 hH39 ii hme39
          refine r_iload (pc := 39) hX 20 rfl rfl ?_
          refine r_bipush (pc := 41) hX 21 rfl (by decide) ?_
          first | refine r_icmp_gt (pc := 43) hX 22 (tgt := 98) rfl (by decide) (⟨by omega, by omega⟩) (⟨by omega, by omega⟩) (fun h43 => ?_) (fun h43 => ?_) | refine r_icmp_gt_any (pc := 43) hX 22 (tgt := 98) rfl (by decide) ?_ ?_
          · refine r_iload_n (pc := 98) hX 49 rfl rfl ?_
            exact r_iret (pc := 99) hX 50 hQ rfl rfl (Nat.le_of_ble_eq_true rfl) (Nat.le_of_ble_eq_true rfl) ⟨rfl, hfr39, hfrR39, hH39, b, rfl, trivial⟩
          · refine t_getR (q := (ρ t 8)) (pc := 46) hX 23 rfl rfl rfl fl_X11_72 rfl (hH39.kd ht (by decide)) ((hfrR39.at ht (by decide) 8).trans (rfl)) ?_
            have hw46_ : ω (ρ t 8) = 29 := hH.rf ht (by decide) rfl
            refine t_getR (q := (ρ t 4)) (pc := 50) hX 25 rfl rfl rfl fl_X11_47 rfl (hH39.kd ht (by decide)) ((hfrR39.at ht (by decide) 4).trans (rfl)) ?_
            refine r_callV (as := [(2, (ρ t 4))]) (st := []) (K := 2) (pc := 54) hX 27 rfl mo_X2_setToBeginning ml_X11_314 im_X2_setToBeginning se_X2_setToBeginning (c_X2_setToBeginning g ω v39 ρ39 Z hH39 (ρ t 8) hw46_ (ρ t 4) hw0_ ) rfl rfl rfl (hH39.kd hw46_ (by decide)) (by rw [hRm]; exact ⟨by decide, by decide⟩) (by rw [hRm]; exact ⟨by decide, by decide⟩) (Nat.le_of_ble_eq_true rfl) (fun o54 v54 ρv54 Zv54 hq54 _ => ?_)
            obtain ⟨rfl, hfr54, hfrR54, hH54, rfl, hq54⟩ := hq54
            show wp g X F_X11_fair 0 0 57 [(2, t), (0, p), (0, b), (1, m), (3, 0), (0, i)] [] v54 ρv54 Z
            refine t_getR (q := (ρ t 8)) (pc := 57) hX 28 rfl rfl rfl fl_X11_72 rfl (hH54.kd ht (by decide)) ((hfrR54.at ht (by decide) 8).trans ((hfrR39.at ht (by decide) 8).trans (rfl))) ?_
            refine r_getR (q := (ρv54 (ρ t 8) 3)) (pc := 61) hX 30 rfl fl_X11_317 rfl (hH54.kd hw46_ (by decide)) (rfl) ?_
            have hw61_ : ω (ρv54 (ρ t 8) 3) = 31 := hH54.rf hw46_ (by decide) rfl
            refine r_iload_n (pc := 64) hX 31 rfl rfl ?_
            refine r_iload (pc := 65) hX 32 rfl rfl ?_
            refine e_iast (n := 3) (pc := 67) hX 33 rfl (hH54.kd hw61_ (by decide)) (hH54.ln hw61_ (by decide)) (hH54.g4 hw61_ (by decide)) (by omega) (by omega) ?_
            have hH_67 : HT ω (up v54 (ρv54 (ρ t 8) 3) p i) ρv54 Z := hH54.upR hw61_ (by decide) rfl (by omega) (by omega)
            refine t_getR (q := (ρ t 8)) (pc := 68) hX 34 rfl rfl rfl fl_X11_72 rfl (hH_67.kd ht (by decide)) ((hfrR54.at ht (by decide) 8).trans ((hfrR39.at ht (by decide) 8).trans (rfl))) ?_
            refine r_callV (as := []) (st := []) (K := 2) (pc := 72) hX 36 rfl mo_X2_reckon ml_X11_307 im_X2_reckon se_X2_reckon (c_X2_reckon g ω (up v54 (ρv54 (ρ t 8) 3) p i) ρv54 Z hH_67 (ρ t 8) hw46_ ) rfl rfl rfl (hH_67.kd hw46_ (by decide)) (by rw [hRm]; exact ⟨by decide, by decide⟩) (by rw [hRm]; exact ⟨by decide, by decide⟩) (Nat.le_of_ble_eq_true rfl) (fun o72 v72 ρv72 Zv72 hq72 _ => ?_)
            obtain ⟨rfl, rfl, hfr72, hH72, rfl, hq72⟩ := hq72
            show wp g X F_X11_fair 0 0 75 [(2, t), (0, p), (0, b), (1, m), (3, 0), (0, i)] [] v72 ρv54 Z
            refine r_aload_n (pc := 75) hX 37 rfl rfl ?_
            refine r_callV (as := []) (st := []) (K := 11) (pc := 76) hX 38 rfl mo_X11_unlikeness ml_X11_318 im_X11_unlikeness se_X11_unlikeness (c_X11_unlikeness g ω v72 ρv54 Z hH72 t ht ) rfl rfl rfl (hH72.kd ht (by decide)) (by rw [hRm]; exact ⟨by decide, by decide⟩) (by rw [hRm]; exact ⟨by decide, by decide⟩) (Nat.le_of_ble_eq_true rfl) (fun o76 v76 ρv76 Zv76 hq76 _ => ?_)
            obtain ⟨rfl, rfl, rfl, r76, rfl, hq76⟩ := hq76
            show wp g X F_X11_fair 0 0 79 [(2, t), (0, p), (0, b), (1, m), (3, 0), (0, i)] [(1, r76)] v72 ρv54 Z
            refine r_lload_n (pc := 79) hX 39 rfl rfl ?_
            refine r_lcmp_any (pc := 80) hX 40 rfl (fun z80 hz80a hz80b => ?_)
            have L92 : ∀ (b2 m2 : Int) (v92 : Mv) (ρ92 : Mv) , (FrW ω [29, 30, 31, 32, 33, 34, 35, 36, 37, 38] v v92) → (FrW ω [29] ρ ρ92) → (HT ω v92 ρ92 Z) → wp g X F_X11_fair 0 0 92 [(2, t), (0, p), (0, b2), (1, m2), (3, 0), (0, i)] [] v92 ρ92 Z := by
              intro b2 m2 v92 ρ92 hfr92 hfrR92 hH92
              refine r_iinc (ls' := [(2, t), (0, p), (0, b2), (1, m2), (3, 0), (0, (i + 1))]) (pc := 92) hX 47 rfl rfl (by decide) rfl ?_
              refine r_goto (pc := 95) hX 48 (tgt := 39) rfl (by decide) ?_
              exact (ih39 b2 m2 (i + 1) v92 ρ92 (hfr92) (hfrR92) (hH92) (by omega) (by omega))
            first | refine r_if_ge (pc := 81) hX 41 (tgt := 92) rfl (by decide) (⟨by omega, by omega⟩) (fun h81 => ?_) (fun h81 => ?_) | refine r_if_ge_any (pc := 81) hX 41 (tgt := 92) rfl (by decide) ?_ ?_
            · exact (L92 b m v72 ρv54 ((((hfr39).tr hfr54 (by decide)).up (r := (ρv54 (ρ t 8) 3)) hw61_ (by decide)).tr hfr72 (by decide)) ((hfrR39).tr hfrR54 (by decide)) (hH72) )
            · refine r_aload_n (pc := 84) hX 42 rfl rfl ?_
              refine r_callV (as := []) (st := []) (K := 11) (pc := 85) hX 43 rfl mo_X11_unlikeness ml_X11_318 im_X11_unlikeness se_X11_unlikeness (c_X11_unlikeness g ω v72 ρv54 Z hH72 t ht ) rfl rfl rfl (hH72.kd ht (by decide)) (by rw [hRm]; exact ⟨by decide, by decide⟩) (by rw [hRm]; exact ⟨by decide, by decide⟩) (Nat.le_of_ble_eq_true rfl) (fun o85 v85 ρv85 Zv85 hq85 _ => ?_)
              obtain ⟨rfl, rfl, rfl, r85, rfl, hq85⟩ := hq85
              show wp g X F_X11_fair 0 0 88 [(2, t), (0, p), (0, b), (1, m), (3, 0), (0, i)] [(1, r85)] v72 ρv54 Z
              refine r_lstore_n (ls' := [(2, t), (0, p), (0, b), (1, r85), (3, 0), (0, i)]) (pc := 88) hX 44 rfl (by decide) rfl ?_
              refine r_iload (pc := 89) hX 45 rfl rfl ?_
              refine r_istore_n (ls' := [(2, t), (0, p), (0, i), (1, r85), (3, 0), (0, i)]) (pc := 91) hX 46 rfl (by decide) rfl ?_
              exact (L92 i r85 v72 ρv54 ((((hfr39).tr hfr54 (by decide)).up (r := (ρv54 (ρ t 8) 3)) hw61_ (by decide)).tr hfr72 (by decide)) ((hfrR39).tr hfrR54 (by decide)) (hH72) )
      exact (L39 _ (-1) 9223372036854775807 0 v ρ (FrW.rf) (FrW.rf) (hH) (by omega) (Nat.lt_succ_self _))
    · exact (L28   )
set_option maxHeartbeats 4000000 in
set_option maxRecDepth 100000 in
theorem c_X11_goal (g : Gp) (ω : Rw) (v ρ : Mv) (Z : Mz) (hH : HT ω v ρ Z) (t : Int) (ht : ω t = 1)  : Ok g 5 0 0 F_X11_goal [(2, t)] v ρ Z (fun o9 v' ρ' Z' => Z = Z' ∧ FrW ω [29, 30, 31, 32, 33, 34, 35, 36, 37, 38] v v' ∧ FrW ω [29] ρ ρ' ∧ HT ω v' ρ' Z ∧ ∃ r : Int, o9 = some (0, r) ∧ True) := by
  refine Ok.of mo_X11_goal (Nat.le_of_ble_eq_true rfl) ?_
  intro X hX hRm hxn hQ
  show wp g X F_X11_goal 0 0 0 [(2, t), (3, 0), (3, 0), (3, 0), (3, 0)] [] v ρ Z
  have hwT : ω (ρ t 4) = 22 := hH.rf ht (by decide) rfl
  have hwR : ω (ρ (ρ t 4) 0) = 5 := hH.rf hwT (by decide) rfl
  have hgR8 : 0 ≤ v (ρ (ρ t 4) 0) 8 ∧ v (ρ (ρ t 4) 0) 8 ≤ 4 := hH.rg hwR (by decide) rfl
  have hgR9 : 0 ≤ v (ρ (ρ t 4) 0) 9 ∧ v (ρ (ρ t 4) 0) 9 ≤ 3 := hH.rg hwR (by decide) rfl
  have hgR10 : 0 ≤ v (ρ (ρ t 4) 0) 10 ∧ v (ρ (ρ t 4) 0) 10 ≤ 3 := hH.rg hwR (by decide) rfl
  have hwX : ω (ρ t 0) = 2 := hH.rf ht (by decide) rfl
  have hgL : 0 ≤ v (ρ t 0) 1 ∧ v (ρ t 0) 1 ≤ 940 := hH.rg hwX (by decide) rfl
  refine t_getR (q := (ρ t 4)) (pc := 0) hX 0 rfl rfl rfl fl_X11_47 rfl (hH.kd ht (by decide)) (rfl) ?_
  have hw0_ : ω (ρ t 4) = 22 := hH.rf ht (by decide) rfl
  refine r_getR (q := (ρ (ρ t 4) 0)) (pc := 4) hX 2 rfl fl_X11_51 rfl (hH.kd hw0_ (by decide)) (rfl) ?_
  have hw4_ : ω (ρ (ρ t 4) 0) = 5 := hH.rf hw0_ (by decide) rfl
  refine e_getI (y := (v (ρ (ρ t 4) 0) 10)) (pc := 7) hX 3 rfl fl_X11_284 rfl (hH.kd hw4_ (by decide)) (rfl) ?_
  have hb7 : 0 ≤ (v (ρ (ρ t 4) 0) 10) ∧ (v (ρ (ρ t 4) 0) 10) ≤ 3 := hH.rg hw4_ (by decide) rfl
  refine r_iconst (pc := 10) hX 4 rfl ?_
  first | refine r_icmp_eq (pc := 11) hX 5 (tgt := 16) rfl (by decide) (⟨by omega, by omega⟩) (⟨by omega, by omega⟩) (fun h11 => ?_) (fun h11 => ?_) | refine r_icmp_eq_any (pc := 11) hX 5 (tgt := 16) rfl (by decide) ?_ ?_
  · refine r_iconst (pc := 16) hX 8 rfl ?_
    refine r_istore_n (ls' := [(2, t), (0, (-1)), (3, 0), (3, 0), (3, 0)]) (pc := 17) hX 9 rfl (by decide) rfl ?_
    refine r_ldc2 (y := 9223372036854775807) (pc := 18) hX 10 rfl kl_X11_312 (by decide) ?_
    refine r_lstore_n (ls' := [(2, t), (0, (-1)), (1, 9223372036854775807), (3, 0), (3, 0)]) (pc := 21) hX 11 rfl (by decide) rfl ?_
    refine r_iconst (pc := 22) hX 12 rfl ?_
    refine r_istore (ls' := [(2, t), (0, (-1)), (1, 9223372036854775807), (3, 0), (0, 1)]) (pc := 23) hX 13 rfl (by decide) rfl ?_
    have L25 : ∀ (n25 : Nat) (b m i : Int) (v25 : Mv) (ρ25 : Mv) , (FrW ω [29, 30, 31, 32, 33, 34, 35, 36, 37, 38] v v25) → (FrW ω [29] ρ ρ25) → (HT ω v25 ρ25 Z) → (1 ≤ i ∧ i ≤ 10) → (10 - i).toNat < n25 → wp g X F_X11_goal 0 0 25 [(2, t), (0, b), (1, m), (3, 0), (0, i)] [] v25 ρ25 Z := by
      intro n25
      induction n25 with
      | zero => intro b m i v25 ρ25 hfr25 hfrR25 hH25 ii hme25; exact absurd hme25 (Nat.not_lt_zero _)
      | succ n25 ih25 =>
        intro b m i v25 ρ25 hfr25 hfrR25 hH25 ii hme25
        refine r_iload (pc := 25) hX 14 rfl rfl ?_
        refine r_bipush (pc := 27) hX 15 rfl (by decide) ?_
        first | refine r_icmp_gt (pc := 29) hX 16 (tgt := 82) rfl (by decide) (⟨by omega, by omega⟩) (⟨by omega, by omega⟩) (fun h29 => ?_) (fun h29 => ?_) | refine r_icmp_gt_any (pc := 29) hX 16 (tgt := 82) rfl (by decide) ?_ ?_
        · refine r_iload_n (pc := 82) hX 41 rfl rfl ?_
          exact r_iret (pc := 83) hX 42 hQ rfl rfl (Nat.le_of_ble_eq_true rfl) (Nat.le_of_ble_eq_true rfl) ⟨rfl, hfr25, hfrR25, hH25, b, rfl, trivial⟩
        · refine t_getR (q := (ρ t 8)) (pc := 32) hX 17 rfl rfl rfl fl_X11_72 rfl (hH25.kd ht (by decide)) ((hfrR25.at ht (by decide) 8).trans (rfl)) ?_
          have hw32_ : ω (ρ t 8) = 29 := hH.rf ht (by decide) rfl
          refine t_getR (q := (ρ t 4)) (pc := 36) hX 19 rfl rfl rfl fl_X11_47 rfl (hH25.kd ht (by decide)) ((hfrR25.at ht (by decide) 4).trans (rfl)) ?_
          refine r_callV (as := [(2, (ρ t 4))]) (st := []) (K := 2) (pc := 40) hX 21 rfl mo_X2_setToBeginning ml_X11_314 im_X2_setToBeginning se_X2_setToBeginning (c_X2_setToBeginning g ω v25 ρ25 Z hH25 (ρ t 8) hw32_ (ρ t 4) hw0_ ) rfl rfl rfl (hH25.kd hw32_ (by decide)) (by rw [hRm]; exact ⟨by decide, by decide⟩) (by rw [hRm]; exact ⟨by decide, by decide⟩) (Nat.le_of_ble_eq_true rfl) (fun o40 v40 ρv40 Zv40 hq40 _ => ?_)
          obtain ⟨rfl, hfr40, hfrR40, hH40, rfl, hq40⟩ := hq40
          show wp g X F_X11_goal 0 0 43 [(2, t), (0, b), (1, m), (3, 0), (0, i)] [] v40 ρv40 Z
          refine t_getR (q := (ρ t 8)) (pc := 43) hX 22 rfl rfl rfl fl_X11_72 rfl (hH40.kd ht (by decide)) ((hfrR40.at ht (by decide) 8).trans ((hfrR25.at ht (by decide) 8).trans (rfl))) ?_
          refine r_iload (pc := 47) hX 24 rfl rfl ?_
          refine r_putI (pc := 49) hX 25 rfl fl_X11_321 rfl (fun _ h => by cases h; rfl) (hH40.kd hw32_ (by decide)) (hH40.g4 hw32_ (by decide)) ?_
          have hH_49 : HT ω (up v40 (ρ t 8) 5 i) ρv40 Z := hH40.upR hw32_ (by decide) rfl (by omega) (by omega)
          show wp g X F_X11_goal 0 0 52 [(2, t), (0, b), (1, m), (3, 0), (0, i)] [] (up v40 (ρ t 8) 5 i) ρv40 Z
          refine t_getR (q := (ρ t 8)) (pc := 52) hX 26 rfl rfl rfl fl_X11_72 rfl (hH_49.kd ht (by decide)) ((hfrR40.at ht (by decide) 8).trans ((hfrR25.at ht (by decide) 8).trans (rfl))) ?_
          refine r_callV (as := []) (st := []) (K := 2) (pc := 56) hX 28 rfl mo_X2_reckon ml_X11_307 im_X2_reckon se_X2_reckon (c_X2_reckon g ω (up v40 (ρ t 8) 5 i) ρv40 Z hH_49 (ρ t 8) hw32_ ) rfl rfl rfl (hH_49.kd hw32_ (by decide)) (by rw [hRm]; exact ⟨by decide, by decide⟩) (by rw [hRm]; exact ⟨by decide, by decide⟩) (Nat.le_of_ble_eq_true rfl) (fun o56 v56 ρv56 Zv56 hq56 _ => ?_)
          obtain ⟨rfl, rfl, hfr56, hH56, rfl, hq56⟩ := hq56
          show wp g X F_X11_goal 0 0 59 [(2, t), (0, b), (1, m), (3, 0), (0, i)] [] v56 ρv40 Z
          refine r_aload_n (pc := 59) hX 29 rfl rfl ?_
          refine r_callV (as := []) (st := []) (K := 11) (pc := 60) hX 30 rfl mo_X11_unlikeness ml_X11_318 im_X11_unlikeness se_X11_unlikeness (c_X11_unlikeness g ω v56 ρv40 Z hH56 t ht ) rfl rfl rfl (hH56.kd ht (by decide)) (by rw [hRm]; exact ⟨by decide, by decide⟩) (by rw [hRm]; exact ⟨by decide, by decide⟩) (Nat.le_of_ble_eq_true rfl) (fun o60 v60 ρv60 Zv60 hq60 _ => ?_)
          obtain ⟨rfl, rfl, rfl, r60, rfl, hq60⟩ := hq60
          show wp g X F_X11_goal 0 0 63 [(2, t), (0, b), (1, m), (3, 0), (0, i)] [(1, r60)] v56 ρv40 Z
          refine r_lload_n (pc := 63) hX 31 rfl rfl ?_
          refine r_lcmp_any (pc := 64) hX 32 rfl (fun z64 hz64a hz64b => ?_)
          have L76 : ∀ (b2 m2 : Int) (v76 : Mv) (ρ76 : Mv) , (FrW ω [29, 30, 31, 32, 33, 34, 35, 36, 37, 38] v v76) → (FrW ω [29] ρ ρ76) → (HT ω v76 ρ76 Z) → wp g X F_X11_goal 0 0 76 [(2, t), (0, b2), (1, m2), (3, 0), (0, i)] [] v76 ρ76 Z := by
            intro b2 m2 v76 ρ76 hfr76 hfrR76 hH76
            refine r_iinc (ls' := [(2, t), (0, b2), (1, m2), (3, 0), (0, (i + 1))]) (pc := 76) hX 39 rfl rfl (by decide) rfl ?_
            refine r_goto (pc := 79) hX 40 (tgt := 25) rfl (by decide) ?_
            exact (ih25 b2 m2 (i + 1) v76 ρ76 (hfr76) (hfrR76) (hH76) (by omega) (by omega))
          first | refine r_if_ge (pc := 65) hX 33 (tgt := 76) rfl (by decide) (⟨by omega, by omega⟩) (fun h65 => ?_) (fun h65 => ?_) | refine r_if_ge_any (pc := 65) hX 33 (tgt := 76) rfl (by decide) ?_ ?_
          · exact (L76 b m v56 ρv40 ((((hfr25).tr hfr40 (by decide)).up (r := (ρ t 8)) hw32_ (by decide)).tr hfr56 (by decide)) ((hfrR25).tr hfrR40 (by decide)) (hH56) )
          · refine r_aload_n (pc := 68) hX 34 rfl rfl ?_
            refine r_callV (as := []) (st := []) (K := 11) (pc := 69) hX 35 rfl mo_X11_unlikeness ml_X11_318 im_X11_unlikeness se_X11_unlikeness (c_X11_unlikeness g ω v56 ρv40 Z hH56 t ht ) rfl rfl rfl (hH56.kd ht (by decide)) (by rw [hRm]; exact ⟨by decide, by decide⟩) (by rw [hRm]; exact ⟨by decide, by decide⟩) (Nat.le_of_ble_eq_true rfl) (fun o69 v69 ρv69 Zv69 hq69 _ => ?_)
            obtain ⟨rfl, rfl, rfl, r69, rfl, hq69⟩ := hq69
            show wp g X F_X11_goal 0 0 72 [(2, t), (0, b), (1, m), (3, 0), (0, i)] [(1, r69)] v56 ρv40 Z
            refine r_lstore_n (ls' := [(2, t), (0, b), (1, r69), (3, 0), (0, i)]) (pc := 72) hX 36 rfl (by decide) rfl ?_
            refine r_iload (pc := 73) hX 37 rfl rfl ?_
            refine r_istore_n (ls' := [(2, t), (0, i), (1, r69), (3, 0), (0, i)]) (pc := 75) hX 38 rfl (by decide) rfl ?_
            exact (L76 i r69 v56 ρv40 ((((hfr25).tr hfr40 (by decide)).up (r := (ρ t 8)) hw32_ (by decide)).tr hfr56 (by decide)) ((hfrR25).tr hfrR40 (by decide)) (hH56) )
    exact (L25 _ (-1) 9223372036854775807 1 v ρ (FrW.rf) (FrW.rf) (hH) (by omega) (Nat.lt_succ_self _))
  · refine r_iconst (pc := 14) hX 6 rfl ?_
    exact r_iret (pc := 15) hX 7 hQ rfl rfl (Nat.le_of_ble_eq_true rfl) (Nat.le_of_ble_eq_true rfl) ⟨rfl, FrW.rf, FrW.rf, hH, (-1), rfl, trivial⟩
set_option maxHeartbeats 4000000 in
set_option maxRecDepth 100000 in
theorem c_X11_best (g : Gp) (ω : Rw) (v ρ : Mv) (Z : Mz) (hH : HT ω v ρ Z) (t : Int) (ht : ω t = 1) (p : Int) (hpr : inR p) : Ok g 7 0 0 F_X11_best [(2, t), (0, p)] v ρ Z (fun o9 v' ρ' Z' => Z = Z' ∧ FrW ω [45, 46, 47, 48, 49, 50, 51, 52, 53, 55, 56, 57, 59] v v' ∧ FrW ω [45] ρ ρ' ∧ HT ω v' ρ' Z ∧ ∃ r : Int, o9 = some (0, r) ∧ True) := by
  refine Ok.of mo_X11_best (Nat.le_of_ble_eq_true rfl) ?_
  intro X hX hRm hxn hQ
  show wp g X F_X11_best 0 0 0 [(2, t), (0, p)] [] v ρ Z
  have hwT : ω (ρ t 4) = 22 := hH.rf ht (by decide) rfl
  have hwR : ω (ρ (ρ t 4) 0) = 5 := hH.rf hwT (by decide) rfl
  have hgR8 : 0 ≤ v (ρ (ρ t 4) 0) 8 ∧ v (ρ (ρ t 4) 0) 8 ≤ 4 := hH.rg hwR (by decide) rfl
  have hgR9 : 0 ≤ v (ρ (ρ t 4) 0) 9 ∧ v (ρ (ρ t 4) 0) 9 ≤ 3 := hH.rg hwR (by decide) rfl
  have hgR10 : 0 ≤ v (ρ (ρ t 4) 0) 10 ∧ v (ρ (ρ t 4) 0) 10 ≤ 3 := hH.rg hwR (by decide) rfl
  have hwX : ω (ρ t 0) = 2 := hH.rf ht (by decide) rfl
  have hgL : 0 ≤ v (ρ t 0) 1 ∧ v (ρ t 0) 1 ≤ 940 := hH.rg hwX (by decide) rfl
  refine t_getR (q := (ρ t 4)) (pc := 0) hX 0 rfl rfl rfl fl_X11_47 rfl (hH.kd ht (by decide)) (rfl) ?_
  have hw0_ : ω (ρ t 4) = 22 := hH.rf ht (by decide) rfl
  refine r_getR (q := (ρ (ρ t 4) 0)) (pc := 4) hX 2 rfl fl_X11_51 rfl (hH.kd hw0_ (by decide)) (rfl) ?_
  have hw4_ : ω (ρ (ρ t 4) 0) = 5 := hH.rf hw0_ (by decide) rfl
  refine r_iload_n (pc := 7) hX 3 rfl rfl ?_
  refine r_callV (as := [(0, p)]) (st := []) (K := 4) (pc := 8) hX 4 rfl mo_X4_hasPlayer ml_X11_211 im_X4_hasPlayer se_X4_hasPlayer (c_X4_hasPlayer g ω v ρ Z hH (ρ (ρ t 4) 0) hw4_ (p) (by omega)) rfl rfl rfl (hH.kd hw4_ (by decide)) (by rw [hRm]; exact ⟨by decide, by decide⟩) (by rw [hRm]; exact ⟨by decide, by decide⟩) (Nat.le_of_ble_eq_true rfl) (fun o8 v8 ρv8 Zv8 hq8 _ => ?_)
  obtain ⟨rfl, rfl, rfl, r8, rfl, hq8⟩ := hq8
  show wp g X F_X11_best 0 0 11 [(2, t), (0, p)] [(0, r8)] v ρ Z
  have L25 : wp g X F_X11_best 0 0 25 [(2, t), (0, p)] [] v ρ Z := by
    refine r_iconst (pc := 25) hX 11 rfl ?_
    exact r_iret (pc := 26) hX 12 hQ rfl rfl (Nat.le_of_ble_eq_true rfl) (Nat.le_of_ble_eq_true rfl) ⟨rfl, FrW.rf, FrW.rf, hH, (-1), rfl, trivial⟩
  first | refine r_if_eq (pc := 11) hX 5 (tgt := 25) rfl (by decide) (⟨by omega, by omega⟩) (fun h11 => ?_) (fun h11 => ?_) | refine r_if_eq_any (pc := 11) hX 5 (tgt := 25) rfl (by decide) ?_ ?_
  · exact (L25   )
  · refine t_getR (q := (ρ t 4)) (pc := 14) hX 6 rfl rfl rfl fl_X11_47 rfl (hH.kd ht (by decide)) (rfl) ?_
    refine r_iload_n (pc := 18) hX 8 rfl rfl ?_
    refine r_callV (as := [(0, p)]) (st := []) (K := 9) (pc := 19) hX 9 rfl mo_X9_mayTurn ml_X11_324 im_X9_mayTurn se_X9_mayTurn (c_X9_mayTurn g ω v ρ Z hH (ρ t 4) hw0_ (p) (by omega)) rfl rfl rfl (hH.kd hw0_ (by decide)) (by rw [hRm]; exact ⟨by decide, by decide⟩) (by rw [hRm]; exact ⟨by decide, by decide⟩) (Nat.le_of_ble_eq_true rfl) (fun o19 v19 ρv19 Zv19 hq19 _ => ?_)
    obtain ⟨rfl, rfl, rfl, r19, rfl, hq19⟩ := hq19
    have hw19_ : ω (ρ (ρ t 4) 6) = 26 := hH.rf hw0_ (by decide) rfl
    show wp g X F_X11_best 0 0 22 [(2, t), (0, p)] [(0, r19)] v ρ Z
    first | refine r_if_ne (pc := 22) hX 10 (tgt := 27) rfl (by decide) (⟨by omega, by omega⟩) (fun h22 => ?_) (fun h22 => ?_) | refine r_if_ne_any (pc := 22) hX 10 (tgt := 27) rfl (by decide) ?_ ?_
    · refine t_getR (q := (ρ t 10)) (pc := 27) hX 13 rfl rfl rfl fl_X11_87 rfl (hH.kd ht (by decide)) (rfl) ?_
      have hw27_ : ω (ρ t 10) = 45 := hH.rf ht (by decide) rfl
      refine t_getR (q := (ρ t 4)) (pc := 31) hX 15 rfl rfl rfl fl_X11_47 rfl (hH.kd ht (by decide)) (rfl) ?_
      refine r_iload_n (pc := 35) hX 17 rfl rfl ?_
      refine r_callV (as := [(2, (ρ t 4)), (0, p)]) (st := []) (K := 10) (pc := 36) hX 18 rfl mo_X10_reckonFor ml_X11_331 im_X10_reckonFor se_X10_reckonFor (c_X10_reckonFor g ω v ρ Z hH (ρ t 10) hw27_ (ρ t 4) hw0_ (p) (by omega) (by omega) (by exact (hq19.2 (by omega)))) rfl rfl rfl (hH.kd hw27_ (by decide)) (by rw [hRm]; exact ⟨by decide, by decide⟩) (by rw [hRm]; exact ⟨by decide, by decide⟩) (Nat.le_of_ble_eq_true rfl) (fun o36 v36 ρv36 Zv36 hq36 _ => ?_)
      obtain ⟨rfl, hfr36, hfrR36, hH36, rfl, hq36⟩ := hq36
      show wp g X F_X11_best 0 0 39 [(2, t), (0, p)] [] v36 ρv36 Z
      refine t_getR (q := (ρ t 10)) (pc := 39) hX 19 rfl rfl rfl fl_X11_87 rfl (hH36.kd ht (by decide)) ((hfrR36.at ht (by decide) 10).trans (rfl)) ?_
      refine e_getI (y := (v36 (ρ t 10) 5)) (pc := 43) hX 21 rfl fl_X11_338 rfl (hH36.kd hw27_ (by decide)) (rfl) ?_
      have hb43 : (-1) ≤ (v36 (ρ t 10) 5) ∧ (v36 (ρ t 10) 5) ≤ 3 := hH36.rg hw27_ (by decide) rfl
      exact r_iret (pc := 46) hX 22 hQ rfl rfl (Nat.le_of_ble_eq_true rfl) (Nat.le_of_ble_eq_true rfl) ⟨rfl, (FrW.rf).tr hfr36 (by decide), (FrW.rf).tr hfrR36 (by decide), hH36, (v36 (ρ t 10) 5), rfl, trivial⟩
    · exact (L25   )
set_option maxHeartbeats 4000000 in
set_option maxRecDepth 100000 in
theorem c_X11_colourIn (g : Gp) (ω : Rw) (v ρ : Mv) (Z : Mz) (hH : HT ω v ρ Z) (w : Int) (p : Int)  : Ok g 1 0 0 F_X11_colourIn [(0, w), (0, p)] v ρ Z (fun o9 v' ρ' Z' => ρ = ρ' ∧ Z = Z' ∧ v = v' ∧ ∃ r : Int, o9 = some (0, r) ∧ (0 ≤ r ∧ r ≤ 3)) := by
  refine Ok.of mo_X11_colourIn (Nat.le_of_ble_eq_true rfl) ?_
  intro X hX hRm hxn hQ
  show wp g X F_X11_colourIn 0 0 0 [(0, w), (0, p)] [] v ρ Z
  refine r_iload_n (pc := 0) hX 0 rfl rfl ?_
  refine r_iconst (pc := 1) hX 1 rfl ?_
  refine r_iconst (pc := 2) hX 2 rfl ?_
  refine r_iload_n (pc := 3) hX 3 rfl rfl ?_
  refine r_isub (pc := 4) hX 4 rfl ?_
  refine r_imul (pc := 5) hX 5 rfl ?_
  refine r_ishr_any (pc := 6) hX 6 rfl (fun z6 hz6 => ?_)
  refine r_iconst (pc := 7) hX 7 rfl ?_
  refine r_iandm (pc := 8) hX 8 2 rfl (by decide) (by decide) (m := 4) (by decide) ?_
  exact r_iret (pc := 9) hX 9 hQ rfl rfl (Nat.le_of_ble_eq_true rfl) (Nat.le_of_ble_eq_true rfl) ⟨rfl, rfl, rfl, (z6 % 4), rfl, (by omega)⟩
set_option maxHeartbeats 4000000 in
set_option maxRecDepth 100000 in
theorem c_X11_scoreBy (g : Gp) (ω : Rw) (v ρ : Mv) (Z : Mz) (hH : HT ω v ρ Z) (t : Int) (ht : ω t = 1) (p : Int) (c : Int) (hp : 0 ≤ p ∧ p ≤ 2) (hc : 0 ≤ c ∧ c ≤ 3) : Ok g 2 0 0 F_X11_scoreBy [(2, t), (0, p), (0, c)] v ρ Z (fun o9 v' ρ' Z' => ρ = ρ' ∧ Z = Z' ∧ v = v' ∧ ∃ r : Int, o9 = some (0, r) ∧ True) := by
  refine Ok.of mo_X11_scoreBy (Nat.le_of_ble_eq_true rfl) ?_
  intro X hX hRm hxn hQ
  show wp g X F_X11_scoreBy 0 0 0 [(2, t), (0, p), (0, c)] [] v ρ Z
  have hwT : ω (ρ t 4) = 22 := hH.rf ht (by decide) rfl
  have hwR : ω (ρ (ρ t 4) 0) = 5 := hH.rf hwT (by decide) rfl
  have hgR8 : 0 ≤ v (ρ (ρ t 4) 0) 8 ∧ v (ρ (ρ t 4) 0) 8 ≤ 4 := hH.rg hwR (by decide) rfl
  have hgR9 : 0 ≤ v (ρ (ρ t 4) 0) 9 ∧ v (ρ (ρ t 4) 0) 9 ≤ 3 := hH.rg hwR (by decide) rfl
  have hgR10 : 0 ≤ v (ρ (ρ t 4) 0) 10 ∧ v (ρ (ρ t 4) 0) 10 ≤ 3 := hH.rg hwR (by decide) rfl
  have hwX : ω (ρ t 0) = 2 := hH.rf ht (by decide) rfl
  have hgL : 0 ≤ v (ρ t 0) 1 ∧ v (ρ t 0) 1 ≤ 940 := hH.rg hwX (by decide) rfl
  refine t_getR (q := (ρ t 4)) (pc := 0) hX 0 rfl rfl rfl fl_X11_47 rfl (hH.kd ht (by decide)) (rfl) ?_
  have hw0_ : ω (ρ t 4) = 22 := hH.rf ht (by decide) rfl
  refine r_getR (q := (ρ (ρ t 4) 0)) (pc := 4) hX 2 rfl fl_X11_51 rfl (hH.kd hw0_ (by decide)) (rfl) ?_
  have hw4_ : ω (ρ (ρ t 4) 0) = 5 := hH.rf hw0_ (by decide) rfl
  refine r_getR (q := (ρ (ρ (ρ t 4) 0) 7)) (pc := 7) hX 3 rfl fl_X11_185 rfl (hH.kd hw4_ (by decide)) (rfl) ?_
  have hw7_ : ω (ρ (ρ (ρ t 4) 0) 7) = 14 := hH.rf hw4_ (by decide) rfl
  refine r_iload_n (pc := 10) hX 4 rfl rfl ?_
  refine e_iald (y := (v (ρ (ρ (ρ t 4) 0) 7) p)) (n := 3) (pc := 11) hX 5 rfl (hH.kd hw7_ (by decide)) (hH.ln hw7_ (by decide)) (by omega) (by omega) (rfl) ?_
  have hb11 : 0 ≤ (v (ρ (ρ (ρ t 4) 0) 7) p) ∧ (v (ρ (ρ (ρ t 4) 0) 7) p) ≤ 8 := hH.rg hw7_ (by decide) rfl
  refine t_getR (q := (ρ t 4)) (pc := 12) hX 6 rfl rfl rfl fl_X11_47 rfl (hH.kd ht (by decide)) (rfl) ?_
  refine r_getR (q := (ρ (ρ t 4) 0)) (pc := 16) hX 8 rfl fl_X11_51 rfl (hH.kd hw0_ (by decide)) (rfl) ?_
  refine r_getR (q := (ρ (ρ (ρ t 4) 0) 1)) (pc := 19) hX 9 rfl fl_X11_153 rfl (hH.kd hw4_ (by decide)) (rfl) ?_
  have hw19_ : ω (ρ (ρ (ρ t 4) 0) 1) = 9 := hH.rf hw4_ (by decide) rfl
  refine r_iload_n (pc := 22) hX 10 rfl rfl ?_
  refine e_iald (y := (v (ρ (ρ (ρ t 4) 0) 1) c)) (n := 5) (pc := 23) hX 11 rfl (hH.kd hw19_ (by decide)) (hH.ln hw19_ (by decide)) (by omega) (by omega) (rfl) ?_
  have hb23 : 0 ≤ (v (ρ (ρ (ρ t 4) 0) 1) c) ∧ (v (ρ (ρ (ρ t 4) 0) 1) c) ≤ 3 := hH.rg hw19_ (by decide) rfl
  refine t_getR (q := (ρ t 4)) (pc := 24) hX 12 rfl rfl rfl fl_X11_47 rfl (hH.kd ht (by decide)) (rfl) ?_
  refine r_iload_n (pc := 28) hX 14 rfl rfl ?_
  refine r_callV (as := [(0, c)]) (st := [(0, (v (ρ (ρ (ρ t 4) 0) 1) c)), (0, (v (ρ (ρ (ρ t 4) 0) 7) p))]) (K := 9) (pc := 29) hX 15 rfl mo_X9_timesCame ml_X11_163 im_X9_timesCame se_X9_timesCame (c_X9_timesCame g ω v ρ Z hH (ρ t 4) hw0_ (c) ) rfl rfl rfl (hH.kd hw0_ (by decide)) (by rw [hRm]; exact ⟨by decide, by decide⟩) (by rw [hRm]; exact ⟨by decide, by decide⟩) (Nat.le_of_ble_eq_true rfl) (fun o29 v29 ρv29 Zv29 hq29 _ => ?_)
  obtain ⟨rfl, rfl, rfl, r29, rfl, hq29⟩ := hq29
  show wp g X F_X11_scoreBy 0 0 32 [(2, t), (0, p), (0, c)] [(0, r29), (0, (v (ρ (ρ (ρ t 4) 0) 1) c)), (0, (v (ρ (ρ (ρ t 4) 0) 7) p))] v ρ Z
  refine r_imul (pc := 32) hX 16 rfl ?_
  refine r_iadd (pc := 33) hX 17 rfl ?_
  exact r_iret (pc := 34) hX 18 hQ rfl rfl (Nat.le_of_ble_eq_true rfl) (Nat.le_of_ble_eq_true rfl) ⟨rfl, rfl, rfl, ((v (ρ (ρ (ρ t 4) 0) 7) p) + ((v (ρ (ρ (ρ t 4) 0) 1) c) * r29)), rfl, trivial⟩
set_option maxHeartbeats 4000000 in
set_option maxRecDepth 100000 in
theorem c_X11_explains (g : Gp) (ω : Rw) (v ρ : Mv) (Z : Mz) (hH : HT ω v ρ Z) (t : Int) (ht : ω t = 1) (w : Int)  : Ok g 3 0 0 F_X11_explains [(2, t), (0, w)] v ρ Z (fun o9 v' ρ' Z' => ρ = ρ' ∧ Z = Z' ∧ v = v' ∧ ∃ r : Int, o9 = some (0, r) ∧ (0 ≤ r ∧ r ≤ 1)) := by
  refine Ok.of mo_X11_explains (Nat.le_of_ble_eq_true rfl) ?_
  intro X hX hRm hxn hQ
  show wp g X F_X11_explains 0 0 0 [(2, t), (0, w), (3, 0), (3, 0), (3, 0)] [] v ρ Z
  have hwT : ω (ρ t 4) = 22 := hH.rf ht (by decide) rfl
  have hwR : ω (ρ (ρ t 4) 0) = 5 := hH.rf hwT (by decide) rfl
  have hgR8 : 0 ≤ v (ρ (ρ t 4) 0) 8 ∧ v (ρ (ρ t 4) 0) 8 ≤ 4 := hH.rg hwR (by decide) rfl
  have hgR9 : 0 ≤ v (ρ (ρ t 4) 0) 9 ∧ v (ρ (ρ t 4) 0) 9 ≤ 3 := hH.rg hwR (by decide) rfl
  have hgR10 : 0 ≤ v (ρ (ρ t 4) 0) 10 ∧ v (ρ (ρ t 4) 0) 10 ≤ 3 := hH.rg hwR (by decide) rfl
  have hwX : ω (ρ t 0) = 2 := hH.rf ht (by decide) rfl
  have hgL : 0 ≤ v (ρ t 0) 1 ∧ v (ρ t 0) 1 ≤ 940 := hH.rg hwX (by decide) rfl
  refine r_iconst (pc := 0) hX 0 rfl ?_
  refine r_istore_n (ls' := [(2, t), (0, w), (0, 0), (3, 0), (3, 0)]) (pc := 1) hX 1 rfl (by decide) rfl ?_
  refine r_iconst (pc := 2) hX 2 rfl ?_
  refine r_istore_n (ls' := [(2, t), (0, w), (0, 0), (0, 0), (3, 0)]) (pc := 3) hX 3 rfl (by decide) rfl ?_
  have L4 : ∀ (n4 : Nat) (u p : Int) , (0 ≤ p ∧ p ≤ 3) → (3 - p).toNat < n4 → wp g X F_X11_explains 0 0 4 [(2, t), (0, w), (0, u), (0, p), (3, 0)] [] v ρ Z := by
    intro n4
    induction n4 with
    | zero => intro u p ip hme4; exact absurd hme4 (Nat.not_lt_zero _)
    | succ n4 ih4 =>
      intro u p ip hme4
      refine r_iload_n (pc := 4) hX 4 rfl rfl ?_
      refine r_iconst (pc := 5) hX 5 rfl ?_
      first | refine r_icmp_ge (pc := 6) hX 6 (tgt := 93) rfl (by decide) (⟨by omega, by omega⟩) (⟨by omega, by omega⟩) (fun h6 => ?_) (fun h6 => ?_) | refine r_icmp_ge_any (pc := 6) hX 6 (tgt := 93) rfl (by decide) ?_ ?_
      · refine r_iconst (pc := 93) hX 53 rfl ?_
        exact r_zret (pc := 94) hX 54 hQ rfl rfl ⟨by omega, by omega⟩ (Nat.le_of_ble_eq_true rfl) (Nat.le_of_ble_eq_true rfl) ⟨rfl, rfl, rfl, 1, rfl, (by omega)⟩
      · refine r_iload_n (pc := 9) hX 7 rfl rfl ?_
        refine r_iload_n (pc := 10) hX 8 rfl rfl ?_
        refine r_callS (as := [(0, w), (0, p)]) (st := []) (pc := 11) hX 9 rfl mo_X11_colourIn ml_X11_407 stt_X11_colourIn (c_X11_colourIn g ω v ρ Z hH (w) (p) ) rfl (by rw [hRm]; exact ⟨by decide, by decide⟩) (by rw [hRm]; exact ⟨by decide, by decide⟩) (Nat.le_of_ble_eq_true rfl) (fun o11 v11 ρv11 Zv11 hq11 _ => ?_)
        obtain ⟨rfl, rfl, rfl, r11, rfl, hq11⟩ := hq11
        show wp g X F_X11_explains 0 0 14 [(2, t), (0, w), (0, u), (0, p), (3, 0)] [(0, r11)] v ρ Z
        refine r_istore (ls' := [(2, t), (0, w), (0, u), (0, p), (0, r11)]) (pc := 14) hX 10 rfl (by decide) rfl ?_
        refine r_iload_n (pc := 16) hX 11 rfl rfl ?_
        refine t_getR (q := (ρ t 4)) (pc := 17) hX 12 rfl rfl rfl fl_X11_47 rfl (hH.kd ht (by decide)) (rfl) ?_
        have hw17_ : ω (ρ t 4) = 22 := hH.rf ht (by decide) rfl
        refine r_getR (q := (ρ (ρ t 4) 0)) (pc := 21) hX 14 rfl fl_X11_51 rfl (hH.kd hw17_ (by decide)) (rfl) ?_
        have hw21_ : ω (ρ (ρ t 4) 0) = 5 := hH.rf hw17_ (by decide) rfl
        refine e_getI (y := (v (ρ (ρ t 4) 0) 10)) (pc := 24) hX 15 rfl fl_X11_284 rfl (hH.kd hw21_ (by decide)) (rfl) ?_
        have hb24 : 0 ≤ (v (ρ (ρ t 4) 0) 10) ∧ (v (ρ (ρ t 4) 0) 10) ≤ 3 := hH.rg hw21_ (by decide) rfl
        have L87 : ∀ (u2 : Int) , wp g X F_X11_explains 0 0 87 [(2, t), (0, w), (0, u2), (0, p), (3, 0)] [] v ρ Z := by
          intro u2
          refine r_iinc (ls' := [(2, t), (0, w), (0, u2), (0, (p + 1)), (3, 0)]) (pc := 87) hX 51 rfl rfl (by decide) rfl ?_
          refine r_goto (pc := 90) hX 52 (tgt := 4) rfl (by decide) ?_
          exact (ih4 u2 (p + 1) (by omega) (by omega))
        first | refine r_icmp_lt (pc := 27) hX 16 (tgt := 37) rfl (by decide) (⟨by omega, by omega⟩) (⟨by omega, by omega⟩) (fun h27 => ?_) (fun h27 => ?_) | refine r_icmp_lt_any (pc := 27) hX 16 (tgt := 37) rfl (by decide) ?_ ?_
        · refine t_getR (q := (ρ t 4)) (pc := 37) hX 21 rfl rfl rfl fl_X11_47 rfl (hH.kd ht (by decide)) (rfl) ?_
          refine r_getR (q := (ρ (ρ t 4) 0)) (pc := 41) hX 23 rfl fl_X11_51 rfl (hH.kd hw17_ (by decide)) (rfl) ?_
          refine r_iload (pc := 44) hX 24 rfl rfl ?_
          refine r_callV (as := [(0, r11)]) (st := []) (K := 4) (pc := 46) hX 25 rfl mo_X4_hasColour ml_X11_150 im_X4_hasColour se_X4_hasColour (c_X4_hasColour g ω v ρ Z hH (ρ (ρ t 4) 0) hw21_ (r11) (by omega)) rfl rfl rfl (hH.kd hw21_ (by decide)) (by rw [hRm]; exact ⟨by decide, by decide⟩) (by rw [hRm]; exact ⟨by decide, by decide⟩) (Nat.le_of_ble_eq_true rfl) (fun o46 v46 ρv46 Zv46 hq46 _ => ?_)
          obtain ⟨rfl, rfl, rfl, r46, rfl, hq46⟩ := hq46
          show wp g X F_X11_explains 0 0 49 [(2, t), (0, w), (0, u), (0, p), (0, r11)] [(0, r46)] v ρ Z
          have L78 : wp g X F_X11_explains 0 0 78 [(2, t), (0, w), (0, u), (0, p), (0, r11)] [] v ρ Z := by
            refine r_iconst (pc := 78) hX 43 rfl ?_
            exact r_zret (pc := 79) hX 44 hQ rfl rfl ⟨by omega, by omega⟩ (Nat.le_of_ble_eq_true rfl) (Nat.le_of_ble_eq_true rfl) ⟨rfl, rfl, rfl, 0, rfl, (by omega)⟩
          first | refine r_if_eq (pc := 49) hX 26 (tgt := 78) rfl (by decide) (⟨by omega, by omega⟩) (fun h49 => ?_) (fun h49 => ?_) | refine r_if_eq_any (pc := 49) hX 26 (tgt := 78) rfl (by decide) ?_ ?_
          · exact (L78   )
          · refine r_iload_n (pc := 52) hX 27 rfl rfl ?_
            refine r_iload (pc := 53) hX 28 rfl rfl ?_
            refine r_ishr_any (pc := 55) hX 29 rfl (fun z55 hz55 => ?_)
            refine r_iconst (pc := 56) hX 30 rfl ?_
            refine r_iandm (pc := 57) hX 31 1 rfl (by decide) (by decide) (m := 2) (by decide) ?_
            refine r_iconst (pc := 58) hX 32 rfl ?_
            first | refine r_icmp_eq (pc := 59) hX 33 (tgt := 78) rfl (by decide) (⟨by omega, by omega⟩) (⟨by omega, by omega⟩) (fun h59 => ?_) (fun h59 => ?_) | refine r_icmp_eq_any (pc := 59) hX 33 (tgt := 78) rfl (by decide) ?_ ?_
            · exact (L78   )
            · refine t_getR (q := (ρ t 15)) (pc := 62) hX 34 rfl rfl rfl fl_X11_109 rfl (hH.kd ht (by decide)) (rfl) ?_
              have hw62_ : ω (ρ t 15) = 64 := hH.rf ht (by decide) rfl
              refine r_iload_n (pc := 66) hX 36 rfl rfl ?_
              refine e_iald (y := (v (ρ t 15) p)) (n := 3) (pc := 67) hX 37 rfl (hH.kd hw62_ (by decide)) (hH.ln hw62_ (by decide)) (by omega) (by omega) (rfl) ?_
              refine r_aload_n (pc := 68) hX 38 rfl rfl ?_
              refine r_iload_n (pc := 69) hX 39 rfl rfl ?_
              refine r_iload (pc := 70) hX 40 rfl rfl ?_
              refine r_callV (as := [(0, p), (0, r11)]) (st := [(0, (v (ρ t 15) p))]) (K := 11) (pc := 72) hX 41 rfl mo_X11_scoreBy ml_X11_410 im_X11_scoreBy se_X11_scoreBy (c_X11_scoreBy g ω v ρ Z hH t ht (p) (r11) (by omega) (by omega)) rfl rfl rfl (hH.kd ht (by decide)) (by rw [hRm]; exact ⟨by decide, by decide⟩) (by rw [hRm]; exact ⟨by decide, by decide⟩) (Nat.le_of_ble_eq_true rfl) (fun o72 v72 ρv72 Zv72 hq72 _ => ?_)
              obtain ⟨rfl, rfl, rfl, r72, rfl, hq72⟩ := hq72
              show wp g X F_X11_explains 0 0 75 [(2, t), (0, w), (0, u), (0, p), (0, r11)] [(0, r72), (0, (v (ρ t 15) p))] v ρ Z
              first | refine r_icmp_eq (pc := 75) hX 42 (tgt := 80) rfl (by decide) (⟨by omega, by omega⟩) (⟨by omega, by omega⟩) (fun h75 => ?_) (fun h75 => ?_) | refine r_icmp_eq_any (pc := 75) hX 42 (tgt := 80) rfl (by decide) ?_ ?_
              · refine r_iload_n (pc := 80) hX 45 rfl rfl ?_
                refine r_iconst (pc := 81) hX 46 rfl ?_
                refine r_iload (pc := 82) hX 47 rfl rfl ?_
                refine r_ishl_any (pc := 84) hX 48 rfl (fun z84 hz84 => ?_)
                refine r_ior_any (pc := 85) hX 49 rfl (fun z85 hz85 => ?_)
                refine r_istore_n (ls' := [(2, t), (0, w), (0, z85), (0, p), (0, r11)]) (pc := 86) hX 50 rfl (by decide) rfl ?_
                refine r_wk (ls' := [(2, t), (0, w), (0, z85), (0, p), (3, 0)]) ⟨Or.inr rfl, Or.inr rfl, Or.inr rfl, Or.inr rfl, Or.inl rfl, trivial⟩ ?_
                exact (L87 z85  )
              · exact (L78   )
        · refine r_iload (pc := 30) hX 17 rfl rfl ?_
          first | refine r_if_eq (pc := 32) hX 18 (tgt := 87) rfl (by decide) (⟨by omega, by omega⟩) (fun h32 => ?_) (fun h32 => ?_) | refine r_if_eq_any (pc := 32) hX 18 (tgt := 87) rfl (by decide) ?_ ?_
          · refine r_wk (ls' := [(2, t), (0, w), (0, u), (0, p), (3, 0)]) ⟨Or.inr rfl, Or.inr rfl, Or.inr rfl, Or.inr rfl, Or.inl rfl, trivial⟩ ?_
            exact (L87 u  )
          · refine r_iconst (pc := 35) hX 19 rfl ?_
            exact r_zret (pc := 36) hX 20 hQ rfl rfl ⟨by omega, by omega⟩ (Nat.le_of_ble_eq_true rfl) (Nat.le_of_ble_eq_true rfl) ⟨rfl, rfl, rfl, 0, rfl, (by omega)⟩
  exact (L4 _ 0 0 (by omega) (Nat.lt_succ_self _))
set_option maxHeartbeats 4000000 in
set_option maxRecDepth 100000 in
theorem c_X11_keepWay (g : Gp) (ω : Rw) (v ρ : Mv) (Z : Mz) (hH : HT ω v ρ Z) (t : Int) (ht : ω t = 1) (w : Int)  : Ok g 2 0 0 F_X11_keepWay [(2, t), (0, w)] v ρ Z (fun o9 v' ρ' Z' => ρ = ρ' ∧ Z = Z' ∧ FrW ω [63] v v' ∧ HT ω v' ρ Z ∧ o9 = none ∧ True) := by
  refine Ok.of mo_X11_keepWay (Nat.le_of_ble_eq_true rfl) ?_
  intro X hX hRm hxn hQ
  show wp g X F_X11_keepWay 0 0 0 [(2, t), (0, w), (3, 0)] [] v ρ Z
  have hwT : ω (ρ t 4) = 22 := hH.rf ht (by decide) rfl
  have hwR : ω (ρ (ρ t 4) 0) = 5 := hH.rf hwT (by decide) rfl
  have hgR8 : 0 ≤ v (ρ (ρ t 4) 0) 8 ∧ v (ρ (ρ t 4) 0) 8 ≤ 4 := hH.rg hwR (by decide) rfl
  have hgR9 : 0 ≤ v (ρ (ρ t 4) 0) 9 ∧ v (ρ (ρ t 4) 0) 9 ≤ 3 := hH.rg hwR (by decide) rfl
  have hgR10 : 0 ≤ v (ρ (ρ t 4) 0) 10 ∧ v (ρ (ρ t 4) 0) 10 ≤ 3 := hH.rg hwR (by decide) rfl
  have hwX : ω (ρ t 0) = 2 := hH.rf ht (by decide) rfl
  have hgL : 0 ≤ v (ρ t 0) 1 ∧ v (ρ t 0) 1 ≤ 940 := hH.rg hwX (by decide) rfl
  refine r_iconst (pc := 0) hX 0 rfl ?_
  refine r_istore_n (ls' := [(2, t), (0, w), (0, 0)]) (pc := 1) hX 1 rfl (by decide) rfl ?_
  have L2 : ∀ (n2 : Nat) (p : Int) (v2 : Mv) , (FrW ω [63] v v2) → (HT ω v2 ρ Z) → (0 ≤ p ∧ p ≤ 3) → (3 - p).toNat < n2 → wp g X F_X11_keepWay 0 0 2 [(2, t), (0, w), (0, p)] [] v2 ρ Z := by
    intro n2
    induction n2 with
    | zero => intro p v2 hfr2 hH2 ip hme2; exact absurd hme2 (Nat.not_lt_zero _)
    | succ n2 ih2 =>
      intro p v2 hfr2 hH2 ip hme2
      refine r_iload_n (pc := 2) hX 2 rfl rfl ?_
      refine r_iconst (pc := 3) hX 3 rfl ?_
      first | refine r_icmp_ge (pc := 4) hX 4 (tgt := 42) rfl (by decide) (⟨by omega, by omega⟩) (⟨by omega, by omega⟩) (fun h4 => ?_) (fun h4 => ?_) | refine r_icmp_ge_any (pc := 4) hX 4 (tgt := 42) rfl (by decide) ?_ ?_
      · exact r_vret (pc := 42) hX 22 hQ rfl rfl (Nat.le_of_ble_eq_true rfl) (Nat.le_of_ble_eq_true rfl) ⟨rfl, rfl, hfr2, hH2, rfl, trivial⟩
      · refine t_getR (q := (ρ t 14)) (pc := 7) hX 5 rfl rfl rfl fl_X11_105 rfl (hH2.kd ht (by decide)) (rfl) ?_
        have hw7_ : ω (ρ t 14) = 63 := hH.rf ht (by decide) rfl
        refine r_iload_n (pc := 11) hX 7 rfl rfl ?_
        refine r_iload_n (pc := 12) hX 8 rfl rfl ?_
        refine t_getR (q := (ρ t 4)) (pc := 13) hX 9 rfl rfl rfl fl_X11_47 rfl (hH2.kd ht (by decide)) (rfl) ?_
        have hw13_ : ω (ρ t 4) = 22 := hH.rf ht (by decide) rfl
        refine r_getR (q := (ρ (ρ t 4) 0)) (pc := 17) hX 11 rfl fl_X11_51 rfl (hH2.kd hw13_ (by decide)) (rfl) ?_
        have hw17_ : ω (ρ (ρ t 4) 0) = 5 := hH.rf hw13_ (by decide) rfl
        refine e_getI (y := (v (ρ (ρ t 4) 0) 10)) (pc := 20) hX 12 rfl fl_X11_284 rfl (hH2.kd hw17_ (by decide)) ((hfr2.at hw17_ (by decide) 10).trans (rfl)) ?_
        have hb20 : 0 ≤ (v (ρ (ρ t 4) 0) 10) ∧ (v (ρ (ρ t 4) 0) 10) ≤ 3 := hH.rg hw17_ (by decide) rfl
        have L35 : ∀ (x : Int) , wp g X F_X11_keepWay 0 0 35 [(2, t), (0, w), (0, p)] [(0, x), (0, p), (2, (ρ t 14))] v2 ρ Z := by
          intro x
          refine e_iast (n := 3) (pc := 35) hX 19 rfl (hH2.kd hw7_ (by decide)) (hH2.ln hw7_ (by decide)) (hH2.g4 hw7_ (by decide)) (by omega) (by omega) ?_
          have hH_35 : HT ω (up v2 (ρ t 14) p x) ρ Z := hH2.up0 hw7_ (by decide) rfl
          refine r_iinc (ls' := [(2, t), (0, w), (0, (p + 1))]) (pc := 36) hX 20 rfl rfl (by decide) rfl ?_
          refine r_goto (pc := 39) hX 21 (tgt := 2) rfl (by decide) ?_
          exact (ih2 (p + 1) (up v2 (ρ t 14) p x) ((hfr2).up (r := (ρ t 14)) hw7_ (by decide)) (hH_35) (by omega) (by omega))
        first | refine r_icmp_ge (pc := 23) hX 13 (tgt := 34) rfl (by decide) (⟨by omega, by omega⟩) (⟨by omega, by omega⟩) (fun h23 => ?_) (fun h23 => ?_) | refine r_icmp_ge_any (pc := 23) hX 13 (tgt := 34) rfl (by decide) ?_ ?_
        · refine r_iconst (pc := 34) hX 18 rfl ?_
          exact (L35 (-1)  )
        · refine r_iload_n (pc := 26) hX 14 rfl rfl ?_
          refine r_iload_n (pc := 27) hX 15 rfl rfl ?_
          refine r_callS (as := [(0, w), (0, p)]) (st := [(0, p), (2, (ρ t 14))]) (pc := 28) hX 16 rfl mo_X11_colourIn ml_X11_407 stt_X11_colourIn (c_X11_colourIn g ω v2 ρ Z hH2 (w) (p) ) rfl (by rw [hRm]; exact ⟨by decide, by decide⟩) (by rw [hRm]; exact ⟨by decide, by decide⟩) (Nat.le_of_ble_eq_true rfl) (fun o28 v28 ρv28 Zv28 hq28 _ => ?_)
          obtain ⟨rfl, rfl, rfl, r28, rfl, hq28⟩ := hq28
          show wp g X F_X11_keepWay 0 0 31 [(2, t), (0, w), (0, p)] [(0, r28), (0, p), (2, (ρ t 14))] v2 ρ Z
          refine r_goto (pc := 31) hX 17 (tgt := 35) rfl (by decide) ?_
          exact (L35 r28  )
  exact (L2 _ 0 v (FrW.rf) (hH) (by omega) (Nat.lt_succ_self _))
set_option maxHeartbeats 4000000 in
set_option maxRecDepth 100000 in
theorem c_X11_countWays (g : Gp) (ω : Rw) (v ρ : Mv) (Z : Mz) (hH : HT ω v ρ Z) (t : Int) (ht : ω t = 1)  : Ok g 4 0 0 F_X11_countWays [(2, t)] v ρ Z (fun o9 v' ρ' Z' => ρ = ρ' ∧ Z = Z' ∧ FrW ω [63] v v' ∧ HT ω v' ρ Z ∧ ∃ r : Int, o9 = some (0, r) ∧ True) := by
  refine Ok.of mo_X11_countWays (Nat.le_of_ble_eq_true rfl) ?_
  intro X hX hRm hxn hQ
  show wp g X F_X11_countWays 0 0 0 [(2, t), (3, 0), (3, 0)] [] v ρ Z
  have hwT : ω (ρ t 4) = 22 := hH.rf ht (by decide) rfl
  have hwR : ω (ρ (ρ t 4) 0) = 5 := hH.rf hwT (by decide) rfl
  have hgR8 : 0 ≤ v (ρ (ρ t 4) 0) 8 ∧ v (ρ (ρ t 4) 0) 8 ≤ 4 := hH.rg hwR (by decide) rfl
  have hgR9 : 0 ≤ v (ρ (ρ t 4) 0) 9 ∧ v (ρ (ρ t 4) 0) 9 ≤ 3 := hH.rg hwR (by decide) rfl
  have hgR10 : 0 ≤ v (ρ (ρ t 4) 0) 10 ∧ v (ρ (ρ t 4) 0) 10 ≤ 3 := hH.rg hwR (by decide) rfl
  have hwX : ω (ρ t 0) = 2 := hH.rf ht (by decide) rfl
  have hgL : 0 ≤ v (ρ t 0) 1 ∧ v (ρ t 0) 1 ≤ 940 := hH.rg hwX (by decide) rfl
  refine r_iconst (pc := 0) hX 0 rfl ?_
  refine r_istore_n (ls' := [(2, t), (0, 0), (3, 0)]) (pc := 1) hX 1 rfl (by decide) rfl ?_
  refine r_iconst (pc := 2) hX 2 rfl ?_
  refine r_istore_n (ls' := [(2, t), (0, 0), (0, 0)]) (pc := 3) hX 3 rfl (by decide) rfl ?_
  have L4 : ∀ (n4 : Nat) (n w : Int) (v4 : Mv) , (FrW ω [63] v v4) → (HT ω v4 ρ Z) → (0 ≤ w ∧ w ≤ 64 ∧ 0 ≤ n ∧ n ≤ w) → (64 - w).toNat < n4 → wp g X F_X11_countWays 0 0 4 [(2, t), (0, n), (0, w)] [] v4 ρ Z := by
    intro n4
    induction n4 with
    | zero => intro n w v4 hfr4 hH4 iw hme4; exact absurd hme4 (Nat.not_lt_zero _)
    | succ n4 ih4 =>
      intro n w v4 hfr4 hH4 iw hme4
      refine r_iload_n (pc := 4) hX 4 rfl rfl ?_
      refine r_bipush (pc := 5) hX 5 rfl (by decide) ?_
      first | refine r_icmp_ge (pc := 7) hX 6 (tgt := 36) rfl (by decide) (⟨by omega, by omega⟩) (⟨by omega, by omega⟩) (fun h7 => ?_) (fun h7 => ?_) | refine r_icmp_ge_any (pc := 7) hX 6 (tgt := 36) rfl (by decide) ?_ ?_
      · refine r_iload_n (pc := 36) hX 19 rfl rfl ?_
        exact r_iret (pc := 37) hX 20 hQ rfl rfl (Nat.le_of_ble_eq_true rfl) (Nat.le_of_ble_eq_true rfl) ⟨rfl, rfl, hfr4, hH4, n, rfl, trivial⟩
      · refine r_aload_n (pc := 10) hX 7 rfl rfl ?_
        refine r_iload_n (pc := 11) hX 8 rfl rfl ?_
        refine r_callV (as := [(0, w)]) (st := []) (K := 11) (pc := 12) hX 9 rfl mo_X11_explains ml_X11_401 im_X11_explains se_X11_explains (c_X11_explains g ω v4 ρ Z hH4 t ht (w) ) rfl rfl rfl (hH4.kd ht (by decide)) (by rw [hRm]; exact ⟨by decide, by decide⟩) (by rw [hRm]; exact ⟨by decide, by decide⟩) (Nat.le_of_ble_eq_true rfl) (fun o12 v12 ρv12 Zv12 hq12 _ => ?_)
        obtain ⟨rfl, rfl, rfl, r12, rfl, hq12⟩ := hq12
        show wp g X F_X11_countWays 0 0 15 [(2, t), (0, n), (0, w)] [(0, r12)] v4 ρ Z
        have L30 : ∀ (n2 : Int) (v30 : Mv) , (FrW ω [63] v v30) → (HT ω v30 ρ Z) → (0 ≤ n2 ∧ n2 ≤ w + 1) → wp g X F_X11_countWays 0 0 30 [(2, t), (0, n2), (0, w)] [] v30 ρ Z := by
          intro n2 v30 hfr30 hH30 i2
          refine r_iinc (ls' := [(2, t), (0, n2), (0, (w + 1))]) (pc := 30) hX 17 rfl rfl (by decide) rfl ?_
          refine r_goto (pc := 33) hX 18 (tgt := 4) rfl (by decide) ?_
          exact (ih4 n2 (w + 1) v30 (hfr30) (hH30) (by omega) (by omega))
        first | refine r_if_eq (pc := 15) hX 10 (tgt := 30) rfl (by decide) (⟨by omega, by omega⟩) (fun h15 => ?_) (fun h15 => ?_) | refine r_if_eq_any (pc := 15) hX 10 (tgt := 30) rfl (by decide) ?_ ?_
        · exact (L30 n v4 (hfr4) (hH4) (by omega) )
        · refine r_iload_n (pc := 18) hX 11 rfl rfl ?_
          have L27 : ∀ (v27 : Mv) , (FrW ω [63] v v27) → (HT ω v27 ρ Z) → wp g X F_X11_countWays 0 0 27 [(2, t), (0, n), (0, w)] [] v27 ρ Z := by
            intro v27 hfr27 hH27
            refine r_iinc (ls' := [(2, t), (0, (n + 1)), (0, w)]) (pc := 27) hX 16 rfl rfl (by decide) rfl ?_
            exact (L30 (n + 1) v27 (hfr27) (hH27) (by omega) )
          first | refine r_if_ne (pc := 19) hX 12 (tgt := 27) rfl (by decide) (⟨by omega, by omega⟩) (fun h19 => ?_) (fun h19 => ?_) | refine r_if_ne_any (pc := 19) hX 12 (tgt := 27) rfl (by decide) ?_ ?_
          · exact (L27  v4 (hfr4) (hH4) )
          · refine r_aload_n (pc := 22) hX 13 rfl rfl ?_
            refine r_iload_n (pc := 23) hX 14 rfl rfl ?_
            refine r_callV (as := [(0, w)]) (st := []) (K := 11) (pc := 24) hX 15 rfl mo_X11_keepWay ml_X11_404 im_X11_keepWay se_X11_keepWay (c_X11_keepWay g ω v4 ρ Z hH4 t ht (w) ) rfl rfl rfl (hH4.kd ht (by decide)) (by rw [hRm]; exact ⟨by decide, by decide⟩) (by rw [hRm]; exact ⟨by decide, by decide⟩) (Nat.le_of_ble_eq_true rfl) (fun o24 v24 ρv24 Zv24 hq24 _ => ?_)
            obtain ⟨rfl, rfl, hfr24, hH24, rfl, hq24⟩ := hq24
            show wp g X F_X11_countWays 0 0 27 [(2, t), (0, n), (0, w)] [] v24 ρ Z
            exact (L27  v24 ((hfr4).tr hfr24 (by decide)) (hH24) )
  exact (L4 _ 0 0 v (FrW.rf) (hH) (by omega) (Nat.lt_succ_self _))
set_option maxHeartbeats 4000000 in
set_option maxRecDepth 100000 in
theorem c_X11_scores (g : Gp) (ω : Rw) (v ρ : Mv) (Z : Mz) (hH : HT ω v ρ Z) (t : Int) (ht : ω t = 1)  : Ok g 5 0 0 F_X11_scores [(2, t)] v ρ Z (fun o9 v' ρ' Z' => ρ = ρ' ∧ Z = Z' ∧ FrW ω [2, 63, 64] v v' ∧ HT ω v' ρ Z ∧ ∃ r : Int, o9 = some (0, r) ∧ (v' (ρ t 0) 1 = 0)) := by
  refine Ok.of mo_X11_scores (Nat.le_of_ble_eq_true rfl) ?_
  intro X hX hRm hxn hQ
  show wp g X F_X11_scores 0 0 0 [(2, t), (3, 0), (3, 0), (3, 0)] [] v ρ Z
  have hwT : ω (ρ t 4) = 22 := hH.rf ht (by decide) rfl
  have hwR : ω (ρ (ρ t 4) 0) = 5 := hH.rf hwT (by decide) rfl
  have hgR8 : 0 ≤ v (ρ (ρ t 4) 0) 8 ∧ v (ρ (ρ t 4) 0) 8 ≤ 4 := hH.rg hwR (by decide) rfl
  have hgR9 : 0 ≤ v (ρ (ρ t 4) 0) 9 ∧ v (ρ (ρ t 4) 0) 9 ≤ 3 := hH.rg hwR (by decide) rfl
  have hgR10 : 0 ≤ v (ρ (ρ t 4) 0) 10 ∧ v (ρ (ρ t 4) 0) 10 ≤ 3 := hH.rg hwR (by decide) rfl
  have hwX : ω (ρ t 0) = 2 := hH.rf ht (by decide) rfl
  have hgL : 0 ≤ v (ρ t 0) 1 ∧ v (ρ t 0) 1 ≤ 940 := hH.rg hwX (by decide) rfl
  refine t_getR (q := (ρ t 4)) (pc := 0) hX 0 rfl rfl rfl fl_X11_47 rfl (hH.kd ht (by decide)) (rfl) ?_
  have hw0_ : ω (ρ t 4) = 22 := hH.rf ht (by decide) rfl
  refine r_getR (q := (ρ (ρ t 4) 0)) (pc := 4) hX 2 rfl fl_X11_51 rfl (hH.kd hw0_ (by decide)) (rfl) ?_
  have hw4_ : ω (ρ (ρ t 4) 0) = 5 := hH.rf hw0_ (by decide) rfl
  refine e_getI (y := (v (ρ (ρ t 4) 0) 10)) (pc := 7) hX 3 rfl fl_X11_284 rfl (hH.kd hw4_ (by decide)) (rfl) ?_
  have hb7 : 0 ≤ (v (ρ (ρ t 4) 0) 10) ∧ (v (ρ (ρ t 4) 0) 10) ≤ 3 := hH.rg hw4_ (by decide) rfl
  refine r_istore_n (ls' := [(2, t), (0, (v (ρ (ρ t 4) 0) 10)), (3, 0), (3, 0)]) (pc := 10) hX 4 rfl (by decide) rfl ?_
  refine r_iload_n (pc := 11) hX 5 rfl rfl ?_
  have L31 : ∀ (k : Int) , (0 ≤ k ∧ k ≤ 1) → wp g X F_X11_scores 0 0 31 [(2, t), (0, (v (ρ (ρ t 4) 0) 10)), (3, 0), (3, 0)] [(0, k)] v ρ Z := by
    intro k ik
    refine r_istore_n (ls' := [(2, t), (0, (v (ρ (ρ t 4) 0) 10)), (0, k), (3, 0)]) (pc := 31) hX 15 rfl (by decide) rfl ?_
    refine r_iconst (pc := 32) hX 16 rfl ?_
    refine r_istore_n (ls' := [(2, t), (0, (v (ρ (ρ t 4) 0) 10)), (0, k), (0, 0)]) (pc := 33) hX 17 rfl (by decide) rfl ?_
    have L34 : ∀ (n34 : Nat) (p : Int) (v34 : Mv) , (FrW ω [2, 63, 64] v v34) → (HT ω v34 ρ Z) → (0 ≤ p ∧ p ≤ 3) → (3 - p).toNat < n34 → wp g X F_X11_scores 0 0 34 [(2, t), (0, (v (ρ (ρ t 4) 0) 10)), (0, k), (0, p)] [] v34 ρ Z := by
      intro n34
      induction n34 with
      | zero => intro p v34 hfr34 hH34 ip hme34; exact absurd hme34 (Nat.not_lt_zero _)
      | succ n34 ih34 =>
        intro p v34 hfr34 hH34 ip hme34
        refine r_iload_n (pc := 34) hX 18 rfl rfl ?_
        refine r_iconst (pc := 35) hX 19 rfl ?_
        first | refine r_icmp_ge (pc := 36) hX 20 (tgt := 59) rfl (by decide) (⟨by omega, by omega⟩) (⟨by omega, by omega⟩) (fun h36 => ?_) (fun h36 => ?_) | refine r_icmp_ge_any (pc := 36) hX 20 (tgt := 59) rfl (by decide) ?_ ?_
        · refine t_getR (q := (ρ t 0)) (pc := 59) hX 31 rfl rfl rfl fl_X11_12 rfl (hH34.kd ht (by decide)) (rfl) ?_
          have hw59_ : ω (ρ t 0) = 2 := hH.rf ht (by decide) rfl
          refine r_iconst (pc := 63) hX 33 rfl ?_
          refine r_putI (pc := 64) hX 34 rfl fl_X11_123 rfl (fun _ h => by cases h; rfl) (hH34.kd hw59_ (by decide)) (hH34.g4 hw59_ (by decide)) ?_
          have hH_64 : HT ω (up v34 (ρ t 0) 1 0) ρ Z := hH34.upR hw59_ (by decide) rfl (by omega) (by omega)
          show wp g X F_X11_scores 0 0 67 [(2, t), (0, (v (ρ (ρ t 4) 0) 10)), (0, k), (0, p)] [] (up v34 (ρ t 0) 1 0) ρ Z
          refine r_iload_n (pc := 67) hX 35 rfl rfl ?_
          first | refine r_if_eq (pc := 68) hX 36 (tgt := 78) rfl (by decide) (⟨by omega, by omega⟩) (fun h68 => ?_) (fun h68 => ?_) | refine r_if_eq_any (pc := 68) hX 36 (tgt := 78) rfl (by decide) ?_ ?_
          · refine r_iconst (pc := 78) hX 40 rfl ?_
            exact r_iret (pc := 79) hX 41 hQ rfl rfl (Nat.le_of_ble_eq_true rfl) (Nat.le_of_ble_eq_true rfl) ⟨rfl, rfl, (hfr34).up (r := (ρ t 0)) hw59_ (by decide), hH_64, (-1), rfl, ((up_s _ _ _ _).trans (by omega))⟩
          · refine r_aload_n (pc := 71) hX 37 rfl rfl ?_
            refine r_callV (as := []) (st := []) (K := 11) (pc := 72) hX 38 rfl mo_X11_countWays ml_X11_344 im_X11_countWays se_X11_countWays (c_X11_countWays g ω (up v34 (ρ t 0) 1 0) ρ Z hH_64 t ht ) rfl rfl rfl (hH_64.kd ht (by decide)) (by rw [hRm]; exact ⟨by decide, by decide⟩) (by rw [hRm]; exact ⟨by decide, by decide⟩) (Nat.le_of_ble_eq_true rfl) (fun o72 v72 ρv72 Zv72 hq72 _ => ?_)
            obtain ⟨rfl, rfl, hfr72, hH72, r72, rfl, hq72⟩ := hq72
            show wp g X F_X11_scores 0 0 75 [(2, t), (0, (v (ρ (ρ t 4) 0) 10)), (0, k), (0, p)] [(0, r72)] v72 ρ Z
            refine r_goto (pc := 75) hX 39 (tgt := 79) rfl (by decide) ?_
            exact r_iret (pc := 79) hX 41 hQ rfl rfl (Nat.le_of_ble_eq_true rfl) (Nat.le_of_ble_eq_true rfl) ⟨rfl, rfl, ((hfr34).up (r := (ρ t 0)) hw59_ (by decide)).tr hfr72 (by decide), hH72, r72, rfl, (((hfr72.at hw59_ (by decide) 1).trans (up_s _ _ _ _)).trans (by omega))⟩
        · refine t_getR (q := (ρ t 15)) (pc := 39) hX 21 rfl rfl rfl fl_X11_109 rfl (hH34.kd ht (by decide)) (rfl) ?_
          have hw39_ : ω (ρ t 15) = 64 := hH.rf ht (by decide) rfl
          refine r_iload_n (pc := 43) hX 23 rfl rfl ?_
          refine t_getR (q := (ρ t 0)) (pc := 44) hX 24 rfl rfl rfl fl_X11_12 rfl (hH34.kd ht (by decide)) (rfl) ?_
          have hw44_ : ω (ρ t 0) = 2 := hH.rf ht (by decide) rfl
          refine r_iload_n (pc := 48) hX 26 rfl rfl ?_
          refine r_callV (as := [(0, p)]) (st := [(0, p), (2, (ρ t 15))]) (K := 8) (pc := 49) hX 27 rfl mo_X8_byteAt ml_X11_341 im_X8_byteAt se_X8_byteAt (c_X8_byteAt g ω v34 ρ Z hH34 (ρ t 0) hw44_ (p) (by omega)) rfl rfl rfl (hH34.kd hw44_ (by decide)) (by rw [hRm]; exact ⟨by decide, by decide⟩) (by rw [hRm]; exact ⟨by decide, by decide⟩) (Nat.le_of_ble_eq_true rfl) (fun o49 v49 ρv49 Zv49 hq49 _ => ?_)
          obtain ⟨rfl, rfl, rfl, r49, rfl, hq49⟩ := hq49
          show wp g X F_X11_scores 0 0 52 [(2, t), (0, (v (ρ (ρ t 4) 0) 10)), (0, k), (0, p)] [(0, r49), (0, p), (2, (ρ t 15))] v34 ρ Z
          refine e_iast (n := 3) (pc := 52) hX 28 rfl (hH34.kd hw39_ (by decide)) (hH34.ln hw39_ (by decide)) (hH34.g4 hw39_ (by decide)) (by omega) (by omega) ?_
          have hH_52 : HT ω (up v34 (ρ t 15) p r49) ρ Z := hH34.up0 hw39_ (by decide) rfl
          refine r_iinc (ls' := [(2, t), (0, (v (ρ (ρ t 4) 0) 10)), (0, k), (0, (p + 1))]) (pc := 53) hX 29 rfl rfl (by decide) rfl ?_
          refine r_goto (pc := 56) hX 30 (tgt := 34) rfl (by decide) ?_
          exact (ih34 (p + 1) (up v34 (ρ t 15) p r49) ((hfr34).up (r := (ρ t 15)) hw39_ (by decide)) (hH_52) (by omega) (by omega))
    exact (L34 _ 0 v (FrW.rf) (hH) (by omega) (Nat.lt_succ_self _))
  first | refine r_if_le (pc := 12) hX 6 (tgt := 30) rfl (by decide) (⟨by omega, by omega⟩) (fun h12 => ?_) (fun h12 => ?_) | refine r_if_le_any (pc := 12) hX 6 (tgt := 30) rfl (by decide) ?_ ?_
  · refine r_iconst (pc := 30) hX 14 rfl ?_
    exact (L31 0 (by omega) )
  · refine t_getR (q := (ρ t 0)) (pc := 15) hX 7 rfl rfl rfl fl_X11_12 rfl (hH.kd ht (by decide)) (rfl) ?_
    have hw15_ : ω (ρ t 0) = 2 := hH.rf ht (by decide) rfl
    refine e_getI (y := (v (ρ t 0) 1)) (pc := 19) hX 9 rfl fl_X11_123 rfl (hH.kd hw15_ (by decide)) (rfl) ?_
    have hb19 : 0 ≤ (v (ρ t 0) 1) ∧ (v (ρ t 0) 1) ≤ 940 := hH.rg hw15_ (by decide) rfl
    refine r_iload_n (pc := 22) hX 10 rfl rfl ?_
    first | refine r_icmp_ne (pc := 23) hX 11 (tgt := 30) rfl (by decide) (⟨by omega, by omega⟩) (⟨by omega, by omega⟩) (fun h23 => ?_) (fun h23 => ?_) | refine r_icmp_ne_any (pc := 23) hX 11 (tgt := 30) rfl (by decide) ?_ ?_
    · refine r_iconst (pc := 30) hX 14 rfl ?_
      exact (L31 0 (by omega) )
    · refine r_iconst (pc := 26) hX 12 rfl ?_
      refine r_goto (pc := 27) hX 13 (tgt := 31) rfl (by decide) ?_
      exact (L31 1 (by omega) )
set_option maxHeartbeats 4000000 in
set_option maxRecDepth 100000 in
theorem c_X11_took (g : Gp) (ω : Rw) (v ρ : Mv) (Z : Mz) (hH : HT ω v ρ Z) (t : Int) (ht : ω t = 1) (p : Int) (hpr : inR p) : Ok g 2 0 0 F_X11_took [(2, t), (0, p)] v ρ Z (fun o9 v' ρ' Z' => ρ = ρ' ∧ Z = Z' ∧ v = v' ∧ ∃ r : Int, o9 = some (0, r) ∧ True) := by
  refine Ok.of mo_X11_took (Nat.le_of_ble_eq_true rfl) ?_
  intro X hX hRm hxn hQ
  show wp g X F_X11_took 0 0 0 [(2, t), (0, p)] [] v ρ Z
  have hwT : ω (ρ t 4) = 22 := hH.rf ht (by decide) rfl
  have hwR : ω (ρ (ρ t 4) 0) = 5 := hH.rf hwT (by decide) rfl
  have hgR8 : 0 ≤ v (ρ (ρ t 4) 0) 8 ∧ v (ρ (ρ t 4) 0) 8 ≤ 4 := hH.rg hwR (by decide) rfl
  have hgR9 : 0 ≤ v (ρ (ρ t 4) 0) 9 ∧ v (ρ (ρ t 4) 0) 9 ≤ 3 := hH.rg hwR (by decide) rfl
  have hgR10 : 0 ≤ v (ρ (ρ t 4) 0) 10 ∧ v (ρ (ρ t 4) 0) 10 ≤ 3 := hH.rg hwR (by decide) rfl
  have hwX : ω (ρ t 0) = 2 := hH.rf ht (by decide) rfl
  have hgL : 0 ≤ v (ρ t 0) 1 ∧ v (ρ t 0) 1 ≤ 940 := hH.rg hwX (by decide) rfl
  refine t_getR (q := (ρ t 4)) (pc := 0) hX 0 rfl rfl rfl fl_X11_47 rfl (hH.kd ht (by decide)) (rfl) ?_
  have hw0_ : ω (ρ t 4) = 22 := hH.rf ht (by decide) rfl
  refine r_getR (q := (ρ (ρ t 4) 0)) (pc := 4) hX 2 rfl fl_X11_51 rfl (hH.kd hw0_ (by decide)) (rfl) ?_
  have hw4_ : ω (ρ (ρ t 4) 0) = 5 := hH.rf hw0_ (by decide) rfl
  refine r_iload_n (pc := 7) hX 3 rfl rfl ?_
  refine r_callV (as := [(0, p)]) (st := []) (K := 4) (pc := 8) hX 4 rfl mo_X4_hasPlayer ml_X11_211 im_X4_hasPlayer se_X4_hasPlayer (c_X4_hasPlayer g ω v ρ Z hH (ρ (ρ t 4) 0) hw4_ (p) (by omega)) rfl rfl rfl (hH.kd hw4_ (by decide)) (by rw [hRm]; exact ⟨by decide, by decide⟩) (by rw [hRm]; exact ⟨by decide, by decide⟩) (Nat.le_of_ble_eq_true rfl) (fun o8 v8 ρv8 Zv8 hq8 _ => ?_)
  obtain ⟨rfl, rfl, rfl, r8, rfl, hq8⟩ := hq8
  show wp g X F_X11_took 0 0 11 [(2, t), (0, p)] [(0, r8)] v ρ Z
  first | refine r_if_eq (pc := 11) hX 5 (tgt := 23) rfl (by decide) (⟨by omega, by omega⟩) (fun h11 => ?_) (fun h11 => ?_) | refine r_if_eq_any (pc := 11) hX 5 (tgt := 23) rfl (by decide) ?_ ?_
  · refine r_iconst (pc := 23) hX 11 rfl ?_
    exact r_iret (pc := 24) hX 12 hQ rfl rfl (Nat.le_of_ble_eq_true rfl) (Nat.le_of_ble_eq_true rfl) ⟨rfl, rfl, rfl, (-1), rfl, trivial⟩
  · refine t_getR (q := (ρ t 14)) (pc := 14) hX 6 rfl rfl rfl fl_X11_105 rfl (hH.kd ht (by decide)) (rfl) ?_
    have hw14_ : ω (ρ t 14) = 63 := hH.rf ht (by decide) rfl
    refine r_iload_n (pc := 18) hX 8 rfl rfl ?_
    refine e_iald (y := (v (ρ t 14) p)) (n := 3) (pc := 19) hX 9 rfl (hH.kd hw14_ (by decide)) (hH.ln hw14_ (by decide)) (by omega) (by omega) (rfl) ?_
    refine r_goto (pc := 20) hX 10 (tgt := 24) rfl (by decide) ?_
    exact r_iret (pc := 24) hX 12 hQ rfl rfl (Nat.le_of_ble_eq_true rfl) (Nat.le_of_ble_eq_true rfl) ⟨rfl, rfl, rfl, (v (ρ t 14) p), rfl, trivial⟩
set_option maxHeartbeats 4000000 in
set_option maxRecDepth 100000 in
theorem c_X11_car (g : Gp) (ω : Rw) (v ρ : Mv) (Z : Mz) (hH : HT ω v ρ Z) (t : Int) (ht : ω t = 1) (k : Int) (hkr : inR k) : Ok g 1 0 0 F_X11_car [(2, t), (0, k)] v ρ Z (fun o9 v' ρ' Z' => ρ = ρ' ∧ Z = Z' ∧ v = v' ∧ ∃ r : Int, o9 = some (0, r) ∧ True) := by
  refine Ok.of mo_X11_car (Nat.le_of_ble_eq_true rfl) ?_
  intro X hX hRm hxn hQ
  show wp g X F_X11_car 0 0 0 [(2, t), (0, k)] [] v ρ Z
  have hwT : ω (ρ t 4) = 22 := hH.rf ht (by decide) rfl
  have hwR : ω (ρ (ρ t 4) 0) = 5 := hH.rf hwT (by decide) rfl
  have hgR8 : 0 ≤ v (ρ (ρ t 4) 0) 8 ∧ v (ρ (ρ t 4) 0) 8 ≤ 4 := hH.rg hwR (by decide) rfl
  have hgR9 : 0 ≤ v (ρ (ρ t 4) 0) 9 ∧ v (ρ (ρ t 4) 0) 9 ≤ 3 := hH.rg hwR (by decide) rfl
  have hgR10 : 0 ≤ v (ρ (ρ t 4) 0) 10 ∧ v (ρ (ρ t 4) 0) 10 ≤ 3 := hH.rg hwR (by decide) rfl
  have hwX : ω (ρ t 0) = 2 := hH.rf ht (by decide) rfl
  have hgL : 0 ≤ v (ρ t 0) 1 ∧ v (ρ t 0) 1 ≤ 940 := hH.rg hwX (by decide) rfl
  refine r_iload_n (pc := 0) hX 0 rfl rfl ?_
  have L15 : wp g X F_X11_car 0 0 15 [(2, t), (0, k)] [] v ρ Z := by
    refine r_bipush (pc := 15) hX 7 rfl (by decide) ?_
    refine r_goto (pc := 17) hX 8 (tgt := 29) rfl (by decide) ?_
    exact r_iret (pc := 29) hX 14 hQ rfl rfl (Nat.le_of_ble_eq_true rfl) (Nat.le_of_ble_eq_true rfl) ⟨rfl, rfl, rfl, (-2), rfl, trivial⟩
  first | refine r_if_lt (pc := 1) hX 1 (tgt := 15) rfl (by decide) (⟨by omega, by omega⟩) (fun h1 => ?_) (fun h1 => ?_) | refine r_if_lt_any (pc := 1) hX 1 (tgt := 15) rfl (by decide) ?_ ?_
  · exact (L15   )
  · refine r_iload_n (pc := 4) hX 2 rfl rfl ?_
    refine t_getR (q := (ρ t 4)) (pc := 5) hX 3 rfl rfl rfl fl_X11_47 rfl (hH.kd ht (by decide)) (rfl) ?_
    have hw5_ : ω (ρ t 4) = 22 := hH.rf ht (by decide) rfl
    refine e_getI (y := (v (ρ t 4) 2)) (pc := 9) hX 5 rfl fl_X11_197 rfl (hH.kd hw5_ (by decide)) (rfl) ?_
    have hb9 : 0 ≤ (v (ρ t 4) 2) ∧ (v (ρ t 4) 2) ≤ 12 := hH.rg hw5_ (by decide) rfl
    first | refine r_icmp_lt (pc := 12) hX 6 (tgt := 20) rfl (by decide) (⟨by omega, by omega⟩) (⟨by omega, by omega⟩) (fun h12 => ?_) (fun h12 => ?_) | refine r_icmp_lt_any (pc := 12) hX 6 (tgt := 20) rfl (by decide) ?_ ?_
    · refine t_getR (q := (ρ t 4)) (pc := 20) hX 9 rfl rfl rfl fl_X11_47 rfl (hH.kd ht (by decide)) (rfl) ?_
      refine r_getR (q := (ρ (ρ t 4) 3)) (pc := 24) hX 11 rfl fl_X11_347 rfl (hH.kd hw5_ (by decide)) (rfl) ?_
      have hw24_ : ω (ρ (ρ t 4) 3) = 23 := hH.rf hw5_ (by decide) rfl
      refine r_iload_n (pc := 27) hX 12 rfl rfl ?_
      refine e_iald (y := (v (ρ (ρ t 4) 3) k)) (n := 12) (pc := 28) hX 13 rfl (hH.kd hw24_ (by decide)) (hH.ln hw24_ (by decide)) (by omega) (by omega) (rfl) ?_
      have hb28 : (-1) ≤ (v (ρ (ρ t 4) 3) k) ∧ (v (ρ (ρ t 4) 3) k) ≤ 3 := hH.rg hw24_ (by decide) rfl
      exact r_iret (pc := 29) hX 14 hQ rfl rfl (Nat.le_of_ble_eq_true rfl) (Nat.le_of_ble_eq_true rfl) ⟨rfl, rfl, rfl, (v (ρ (ρ t 4) 3) k), rfl, trivial⟩
    · exact (L15   )
set_option maxHeartbeats 4000000 in
set_option maxRecDepth 100000 in
theorem c_X11_row (g : Gp) (ω : Rw) (v ρ : Mv) (Z : Mz) (hH : HT ω v ρ Z) (t : Int) (ht : ω t = 1)  : Ok g 2 0 0 F_X11_row [(2, t)] v ρ Z (fun o9 v' ρ' Z' => ρ = ρ' ∧ Z = Z' ∧ v = v' ∧ ∃ r : Int, o9 = some (0, r) ∧ True) := by
  refine Ok.of mo_X11_row (Nat.le_of_ble_eq_true rfl) ?_
  intro X hX hRm hxn hQ
  show wp g X F_X11_row 0 0 0 [(2, t)] [] v ρ Z
  have hwT : ω (ρ t 4) = 22 := hH.rf ht (by decide) rfl
  have hwR : ω (ρ (ρ t 4) 0) = 5 := hH.rf hwT (by decide) rfl
  have hgR8 : 0 ≤ v (ρ (ρ t 4) 0) 8 ∧ v (ρ (ρ t 4) 0) 8 ≤ 4 := hH.rg hwR (by decide) rfl
  have hgR9 : 0 ≤ v (ρ (ρ t 4) 0) 9 ∧ v (ρ (ρ t 4) 0) 9 ≤ 3 := hH.rg hwR (by decide) rfl
  have hgR10 : 0 ≤ v (ρ (ρ t 4) 0) 10 ∧ v (ρ (ρ t 4) 0) 10 ≤ 3 := hH.rg hwR (by decide) rfl
  have hwX : ω (ρ t 0) = 2 := hH.rf ht (by decide) rfl
  have hgL : 0 ≤ v (ρ t 0) 1 ∧ v (ρ t 0) 1 ≤ 940 := hH.rg hwX (by decide) rfl
  refine t_getR (q := (ρ t 4)) (pc := 0) hX 0 rfl rfl rfl fl_X11_47 rfl (hH.kd ht (by decide)) (rfl) ?_
  have hw0_ : ω (ρ t 4) = 22 := hH.rf ht (by decide) rfl
  refine r_callV (as := []) (st := []) (K := 9) (pc := 4) hX 2 rfl mo_X9_longestRow ml_X11_349 im_X9_longestRow se_X9_longestRow (c_X9_longestRow g ω v ρ Z hH (ρ t 4) hw0_ ) rfl rfl rfl (hH.kd hw0_ (by decide)) (by rw [hRm]; exact ⟨by decide, by decide⟩) (by rw [hRm]; exact ⟨by decide, by decide⟩) (Nat.le_of_ble_eq_true rfl) (fun o4 v4 ρv4 Zv4 hq4 _ => ?_)
  obtain ⟨rfl, rfl, rfl, r4, rfl, hq4⟩ := hq4
  show wp g X F_X11_row 0 0 7 [(2, t)] [(0, r4)] v ρ Z
  exact r_iret (pc := 7) hX 3 hQ rfl rfl (Nat.le_of_ble_eq_true rfl) (Nat.le_of_ble_eq_true rfl) ⟨rfl, rfl, rfl, r4, rfl, trivial⟩
set_option maxHeartbeats 4000000 in
set_option maxRecDepth 100000 in
theorem c_X11_drawn (g : Gp) (ω : Rw) (v ρ : Mv) (Z : Mz) (hH : HT ω v ρ Z) (t : Int) (ht : ω t = 1) (s : Int)  : Ok g 5 0 0 F_X11_drawn [(2, t), (0, s)] v ρ Z (fun o9 v' ρ' Z' => Z = Z' ∧ FrW ω [22, 23, 26, 27, 66, 67, 68, 69, 70] v v' ∧ FrW ω [28, 66] ρ ρ' ∧ HT ω v' ρ' Z ∧ ∃ r : Int, o9 = some (0, r) ∧ True) := by
  refine Ok.of mo_X11_drawn (Nat.le_of_ble_eq_true rfl) ?_
  intro X hX hRm hxn hQ
  show wp g X F_X11_drawn 0 0 0 [(2, t), (0, s)] [] v ρ Z
  have hwT : ω (ρ t 4) = 22 := hH.rf ht (by decide) rfl
  have hwR : ω (ρ (ρ t 4) 0) = 5 := hH.rf hwT (by decide) rfl
  have hgR8 : 0 ≤ v (ρ (ρ t 4) 0) 8 ∧ v (ρ (ρ t 4) 0) 8 ≤ 4 := hH.rg hwR (by decide) rfl
  have hgR9 : 0 ≤ v (ρ (ρ t 4) 0) 9 ∧ v (ρ (ρ t 4) 0) 9 ≤ 3 := hH.rg hwR (by decide) rfl
  have hgR10 : 0 ≤ v (ρ (ρ t 4) 0) 10 ∧ v (ρ (ρ t 4) 0) 10 ≤ 3 := hH.rg hwR (by decide) rfl
  have hwX : ω (ρ t 0) = 2 := hH.rf ht (by decide) rfl
  have hgL : 0 ≤ v (ρ t 0) 1 ∧ v (ρ t 0) 1 ≤ 940 := hH.rg hwX (by decide) rfl
  refine t_getR (q := (ρ t 4)) (pc := 0) hX 0 rfl rfl rfl fl_X11_47 rfl (hH.kd ht (by decide)) (rfl) ?_
  have hw0_ : ω (ρ t 4) = 22 := hH.rf ht (by decide) rfl
  refine r_callV (as := []) (st := []) (K := 9) (pc := 4) hX 2 rfl mo_X9_isOver ml_X11_200 im_X9_isOver se_X9_isOver (c_X9_isOver g ω v ρ Z hH (ρ t 4) hw0_ ) rfl rfl rfl (hH.kd hw0_ (by decide)) (by rw [hRm]; exact ⟨by decide, by decide⟩) (by rw [hRm]; exact ⟨by decide, by decide⟩) (Nat.le_of_ble_eq_true rfl) (fun o4 v4 ρv4 Zv4 hq4 _ => ?_)
  obtain ⟨rfl, rfl, rfl, r4, rfl, hq4⟩ := hq4
  have hw4_ : ω (ρ (ρ t 4) 0) = 5 := hH.rf hw0_ (by decide) rfl
  have hwf1_ : ω (ρ (ρ t 4) 6) = 26 := hH.rf hw0_ (by decide) rfl
  show wp g X F_X11_drawn 0 0 7 [(2, t), (0, s)] [(0, r4)] v ρ Z
  have L23 : wp g X F_X11_drawn 0 0 23 [(2, t), (0, s)] [] v ρ Z := by
    refine r_bipush (pc := 23) hX 9 rfl (by decide) ?_
    exact r_iret (pc := 25) hX 10 hQ rfl rfl (Nat.le_of_ble_eq_true rfl) (Nat.le_of_ble_eq_true rfl) ⟨rfl, FrW.rf, FrW.rf, hH, (-2), rfl, trivial⟩
  first | refine r_if_ne (pc := 7) hX 3 (tgt := 23) rfl (by decide) (⟨by omega, by omega⟩) (fun h7 => ?_) (fun h7 => ?_) | refine r_if_ne_any (pc := 7) hX 3 (tgt := 23) rfl (by decide) ?_ ?_
  · exact (L23   )
  · refine t_getR (q := (ρ t 4)) (pc := 10) hX 4 rfl rfl rfl fl_X11_47 rfl (hH.kd ht (by decide)) (rfl) ?_
    refine r_getR (q := (ρ (ρ t 4) 0)) (pc := 14) hX 6 rfl fl_X11_51 rfl (hH.kd hw0_ (by decide)) (rfl) ?_
    refine e_getI (y := (v (ρ (ρ t 4) 0) 9)) (pc := 17) hX 7 rfl fl_X11_358 rfl (hH.kd hw4_ (by decide)) (rfl) ?_
    have hb17 : 0 ≤ (v (ρ (ρ t 4) 0) 9) ∧ (v (ρ (ρ t 4) 0) 9) ≤ 3 := hH.rg hw4_ (by decide) rfl
    first | refine r_if_ne (pc := 20) hX 8 (tgt := 26) rfl (by decide) (⟨by omega, by omega⟩) (fun h20 => ?_) (fun h20 => ?_) | refine r_if_ne_any (pc := 20) hX 8 (tgt := 26) rfl (by decide) ?_ ?_
    · refine t_getR (q := (ρ t 6)) (pc := 26) hX 11 rfl rfl rfl fl_X11_61 rfl (hH.kd ht (by decide)) (rfl) ?_
      have hw26_ : ω (ρ t 6) = 27 := hH.rf ht (by decide) rfl
      refine t_getR (q := (ρ t 4)) (pc := 30) hX 13 rfl rfl rfl fl_X11_47 rfl (hH.kd ht (by decide)) (rfl) ?_
      refine r_callV (as := [(2, (ρ t 4))]) (st := []) (K := 3) (pc := 34) hX 15 rfl mo_X3_keep ml_X11_218 im_X3_keep se_X3_keep (c_X3_keep g ω v ρ Z hH (ρ t 6) hw26_ (ρ t 4) hw0_ ) rfl rfl rfl (hH.kd hw26_ (by decide)) (by rw [hRm]; exact ⟨by decide, by decide⟩) (by rw [hRm]; exact ⟨by decide, by decide⟩) (Nat.le_of_ble_eq_true rfl) (fun o34 v34 ρv34 Zv34 hq34 _ => ?_)
      obtain ⟨rfl, hfr34, hfrR34, hH34, rfl, hq34⟩ := hq34
      show wp g X F_X11_drawn 0 0 37 [(2, t), (0, s)] [] v34 ρv34 Z
      refine t_getR (q := (ρ t 4)) (pc := 37) hX 16 rfl rfl rfl fl_X11_47 rfl (hH34.kd ht (by decide)) ((hfrR34.at ht (by decide) 4).trans (rfl)) ?_
      refine r_iload_n (pc := 41) hX 18 rfl rfl ?_
      refine r_callV (as := [(0, s)]) (st := []) (K := 9) (pc := 42) hX 19 rfl mo_X9_driveOn ml_X11_361 im_X9_driveOn se_X9_driveOn (c_X9_driveOn g ω v34 ρv34 Z hH34 (ρ t 4) hw0_ (s) ) rfl rfl rfl (hH34.kd hw0_ (by decide)) (by rw [hRm]; exact ⟨by decide, by decide⟩) (by rw [hRm]; exact ⟨by decide, by decide⟩) (Nat.le_of_ble_eq_true rfl) (fun o42 v42 ρv42 Zv42 hq42 _ => ?_)
      obtain ⟨rfl, rfl, hfr42, hH42, rfl, hq42⟩ := hq42
      show wp g X F_X11_drawn 0 0 45 [(2, t), (0, s)] [] v42 ρv34 Z
      refine t_getR (q := (ρ t 4)) (pc := 45) hX 20 rfl rfl rfl fl_X11_47 rfl (hH42.kd ht (by decide)) ((hfrR34.at ht (by decide) 4).trans (rfl)) ?_
      refine r_callV (as := []) (st := []) (K := 9) (pc := 49) hX 22 rfl mo_X9_winner ml_X11_204 im_X9_winner se_X9_winner (c_X9_winner g ω v42 ρv34 Z hH42 (ρ t 4) hw0_ ) rfl rfl rfl (hH42.kd hw0_ (by decide)) (by rw [hRm]; exact ⟨by decide, by decide⟩) (by rw [hRm]; exact ⟨by decide, by decide⟩) (Nat.le_of_ble_eq_true rfl) (fun o49 v49 ρv49 Zv49 hq49 _ => ?_)
      obtain ⟨rfl, rfl, rfl, r49, rfl, hq49⟩ := hq49
      show wp g X F_X11_drawn 0 0 52 [(2, t), (0, s)] [(0, r49)] v42 ρv34 Z
      exact r_iret (pc := 52) hX 23 hQ rfl rfl (Nat.le_of_ble_eq_true rfl) (Nat.le_of_ble_eq_true rfl) ⟨rfl, ((FrW.rf).tr hfr34 (by decide)).tr hfr42 (by decide), (FrW.rf).tr hfrR34 (by decide), hH42, r49, rfl, trivial⟩
    · exact (L23   )
set_option maxHeartbeats 4000000 in
set_option maxRecDepth 100000 in
theorem c_X11_wins (g : Gp) (ω : Rw) (v ρ : Mv) (Z : Mz) (hH : HT ω v ρ Z) (t : Int) (ht : ω t = 1) (p : Int) (n : Int) (s : Int) (hpr : inR p) (hnr : inR n) : Ok g 5 0 0 F_X11_wins [(2, t), (0, p), (0, n), (0, s)] v ρ Z (fun o9 v' ρ' Z' => Z = Z' ∧ FrW ω [66, 67, 68, 69, 70] v v' ∧ FrW ω [66] ρ ρ' ∧ HT ω v' ρ' Z ∧ ∃ r : Int, o9 = some (0, r) ∧ True) := by
  refine Ok.of mo_X11_wins (Nat.le_of_ble_eq_true rfl) ?_
  intro X hX hRm hxn hQ
  show wp g X F_X11_wins 0 0 0 [(2, t), (0, p), (0, n), (0, s), (3, 0), (3, 0), (3, 0)] [] v ρ Z
  have hwT : ω (ρ t 4) = 22 := hH.rf ht (by decide) rfl
  have hwR : ω (ρ (ρ t 4) 0) = 5 := hH.rf hwT (by decide) rfl
  have hgR8 : 0 ≤ v (ρ (ρ t 4) 0) 8 ∧ v (ρ (ρ t 4) 0) 8 ≤ 4 := hH.rg hwR (by decide) rfl
  have hgR9 : 0 ≤ v (ρ (ρ t 4) 0) 9 ∧ v (ρ (ρ t 4) 0) 9 ≤ 3 := hH.rg hwR (by decide) rfl
  have hgR10 : 0 ≤ v (ρ (ρ t 4) 0) 10 ∧ v (ρ (ρ t 4) 0) 10 ≤ 3 := hH.rg hwR (by decide) rfl
  have hwX : ω (ρ t 0) = 2 := hH.rf ht (by decide) rfl
  have hgL : 0 ≤ v (ρ t 0) 1 ∧ v (ρ t 0) 1 ≤ 940 := hH.rg hwX (by decide) rfl
  refine t_getR (q := (ρ t 4)) (pc := 0) hX 0 rfl rfl rfl fl_X11_47 rfl (hH.kd ht (by decide)) (rfl) ?_
  have hw0_ : ω (ρ t 4) = 22 := hH.rf ht (by decide) rfl
  refine r_getR (q := (ρ (ρ t 4) 0)) (pc := 4) hX 2 rfl fl_X11_51 rfl (hH.kd hw0_ (by decide)) (rfl) ?_
  have hw4_ : ω (ρ (ρ t 4) 0) = 5 := hH.rf hw0_ (by decide) rfl
  refine r_iload_n (pc := 7) hX 3 rfl rfl ?_
  refine r_callV (as := [(0, p)]) (st := []) (K := 4) (pc := 8) hX 4 rfl mo_X4_hasPlayer ml_X11_211 im_X4_hasPlayer se_X4_hasPlayer (c_X4_hasPlayer g ω v ρ Z hH (ρ (ρ t 4) 0) hw4_ (p) (by omega)) rfl rfl rfl (hH.kd hw4_ (by decide)) (by rw [hRm]; exact ⟨by decide, by decide⟩) (by rw [hRm]; exact ⟨by decide, by decide⟩) (Nat.le_of_ble_eq_true rfl) (fun o8 v8 ρv8 Zv8 hq8 _ => ?_)
  obtain ⟨rfl, rfl, rfl, r8, rfl, hq8⟩ := hq8
  show wp g X F_X11_wins 0 0 11 [(2, t), (0, p), (0, n), (0, s), (3, 0), (3, 0), (3, 0)] [(0, r8)] v ρ Z
  have L30 : ∀ (k : Int) , (k = 0 ∨ k = 1 ∧ 1 ≤ n ∧ n ≤ 60) → wp g X F_X11_wins 0 0 30 [(2, t), (0, p), (0, n), (0, s), (3, 0), (3, 0), (3, 0)] [(0, k)] v ρ Z := by
    intro k ik
    refine r_istore (ls' := [(2, t), (0, p), (0, n), (0, s), (0, k), (3, 0), (3, 0)]) (pc := 30) hX 15 rfl (by decide) rfl ?_
    refine r_iload (pc := 32) hX 16 rfl rfl ?_
    have L60 : wp g X F_X11_wins 0 0 60 [(2, t), (0, p), (0, n), (0, s), (0, k), (3, 0), (3, 0)] [] v ρ Z := by
      refine r_iconst (pc := 60) hX 27 rfl ?_
      exact r_iret (pc := 61) hX 28 hQ rfl rfl (Nat.le_of_ble_eq_true rfl) (Nat.le_of_ble_eq_true rfl) ⟨rfl, FrW.rf, FrW.rf, hH, (-1), rfl, trivial⟩
    first | refine r_if_eq (pc := 34) hX 17 (tgt := 60) rfl (by decide) (⟨by omega, by omega⟩) (fun h34 => ?_) (fun h34 => ?_) | refine r_if_eq_any (pc := 34) hX 17 (tgt := 60) rfl (by decide) ?_ ?_
    · exact (L60   )
    · refine t_getR (q := (ρ t 4)) (pc := 37) hX 18 rfl rfl rfl fl_X11_47 rfl (hH.kd ht (by decide)) (rfl) ?_
      refine r_callV (as := []) (st := []) (K := 9) (pc := 41) hX 20 rfl mo_X9_isOver ml_X11_200 im_X9_isOver se_X9_isOver (c_X9_isOver g ω v ρ Z hH (ρ t 4) hw0_ ) rfl rfl rfl (hH.kd hw0_ (by decide)) (by rw [hRm]; exact ⟨by decide, by decide⟩) (by rw [hRm]; exact ⟨by decide, by decide⟩) (Nat.le_of_ble_eq_true rfl) (fun o41 v41 ρv41 Zv41 hq41 _ => ?_)
      obtain ⟨rfl, rfl, rfl, r41, rfl, hq41⟩ := hq41
      have hw41_ : ω (ρ (ρ t 4) 6) = 26 := hH.rf hw0_ (by decide) rfl
      show wp g X F_X11_wins 0 0 44 [(2, t), (0, p), (0, n), (0, s), (0, k), (3, 0), (3, 0)] [(0, r41)] v ρ Z
      first | refine r_if_ne (pc := 44) hX 21 (tgt := 60) rfl (by decide) (⟨by omega, by omega⟩) (fun h44 => ?_) (fun h44 => ?_) | refine r_if_ne_any (pc := 44) hX 21 (tgt := 60) rfl (by decide) ?_ ?_
      · exact (L60   )
      · refine t_getR (q := (ρ t 4)) (pc := 47) hX 22 rfl rfl rfl fl_X11_47 rfl (hH.kd ht (by decide)) (rfl) ?_
        refine r_getR (q := (ρ (ρ t 4) 0)) (pc := 51) hX 24 rfl fl_X11_51 rfl (hH.kd hw0_ (by decide)) (rfl) ?_
        refine e_getI (y := (v (ρ (ρ t 4) 0) 9)) (pc := 54) hX 25 rfl fl_X11_358 rfl (hH.kd hw4_ (by decide)) (rfl) ?_
        have hb54 : 0 ≤ (v (ρ (ρ t 4) 0) 9) ∧ (v (ρ (ρ t 4) 0) 9) ≤ 3 := hH.rg hw4_ (by decide) rfl
        first | refine r_if_ne (pc := 57) hX 26 (tgt := 62) rfl (by decide) (⟨by omega, by omega⟩) (fun h57 => ?_) (fun h57 => ?_) | refine r_if_ne_any (pc := 57) hX 26 (tgt := 62) rfl (by decide) ?_ ?_
        · refine r_iconst (pc := 62) hX 29 rfl ?_
          refine r_istore (ls' := [(2, t), (0, p), (0, n), (0, s), (0, k), (0, 0), (3, 0)]) (pc := 63) hX 30 rfl (by decide) rfl ?_
          refine r_iconst (pc := 65) hX 31 rfl ?_
          refine r_istore (ls' := [(2, t), (0, p), (0, n), (0, s), (0, k), (0, 0), (0, 0)]) (pc := 66) hX 32 rfl (by decide) rfl ?_
          have L68 : ∀ (n68 : Nat) (w i : Int) (v68 : Mv) (ρ68 : Mv) , (FrW ω [66, 67, 68, 69, 70] v v68) → (FrW ω [66] ρ ρ68) → (HT ω v68 ρ68 Z) → (0 ≤ i ∧ i ≤ 60 ∧ 0 ≤ w ∧ w ≤ i) → (60 - i).toNat < n68 → wp g X F_X11_wins 0 0 68 [(2, t), (0, p), (0, n), (0, s), (0, k), (0, w), (0, i)] [] v68 ρ68 Z := by
            intro n68
            induction n68 with
            | zero => intro w i v68 ρ68 hfr68 hfrR68 hH68 ii hme68; exact absurd hme68 (Nat.not_lt_zero _)
            | succ n68 ih68 =>
              intro w i v68 ρ68 hfr68 hfrR68 hH68 ii hme68
              refine r_iload (pc := 68) hX 33 rfl rfl ?_
              refine r_iload_n (pc := 70) hX 34 rfl rfl ?_
              first | refine r_icmp_ge (pc := 71) hX 35 (tgt := 116) rfl (by decide) (⟨by omega, by omega⟩) (⟨by omega, by omega⟩) (fun h71 => ?_) (fun h71 => ?_) | refine r_icmp_ge_any (pc := 71) hX 35 (tgt := 116) rfl (by decide) ?_ ?_
              · refine r_iload (pc := 116) hX 55 rfl rfl ?_
                exact r_iret (pc := 118) hX 56 hQ rfl rfl (Nat.le_of_ble_eq_true rfl) (Nat.le_of_ble_eq_true rfl) ⟨rfl, hfr68, hfrR68, hH68, w, rfl, trivial⟩
              · refine t_getR (q := (ρ t 5)) (pc := 74) hX 36 rfl rfl rfl fl_X11_55 rfl (hH68.kd ht (by decide)) ((hfrR68.at ht (by decide) 5).trans (rfl)) ?_
                have hw74_ : ω (ρ t 5) = 66 := hH.rf ht (by decide) rfl
                refine t_getR (q := (ρ t 4)) (pc := 78) hX 38 rfl rfl rfl fl_X11_47 rfl (hH68.kd ht (by decide)) ((hfrR68.at ht (by decide) 4).trans (rfl)) ?_
                refine r_callV (as := [(2, (ρ t 4))]) (st := []) (K := 9) (pc := 82) hX 40 rfl mo_X9_copyFrom ml_X11_364 im_X9_copyFrom se_X9_copyFrom (c_X9_copyFromB g ω v68 ρ68 Z hH68 (ρ t 5) hw74_ (ρ t 4) hw0_ ) rfl rfl rfl (hH68.kd hw74_ (by decide)) (by rw [hRm]; exact ⟨by decide, by decide⟩) (by rw [hRm]; exact ⟨by decide, by decide⟩) (Nat.le_of_ble_eq_true rfl) (fun o82 v82 ρv82 Zv82 hq82 _ => ?_)
                obtain ⟨rfl, hfr82, hfrR82, hH82, rfl, hq82⟩ := hq82
                show wp g X F_X11_wins 0 0 85 [(2, t), (0, p), (0, n), (0, s), (0, k), (0, w), (0, i)] [] v82 ρv82 Z
                refine t_getR (q := (ρ t 5)) (pc := 85) hX 41 rfl rfl rfl fl_X11_55 rfl (hH82.kd ht (by decide)) ((hfrR82.at ht (by decide) 5).trans ((hfrR68.at ht (by decide) 5).trans (rfl))) ?_
                refine r_iload_n (pc := 89) hX 43 rfl rfl ?_
                refine r_iload (pc := 90) hX 44 rfl rfl ?_
                refine r_iadd (pc := 92) hX 45 rfl ?_
                refine r_callV (as := [(0, (s + i))]) (st := []) (K := 9) (pc := 93) hX 46 rfl mo_X9_driveOn ml_X11_361 im_X9_driveOn se_X9_driveOn (c_X9_driveOnB g ω v82 ρv82 Z hH82 (ρ t 5) hw74_ ((s + i)) ) rfl rfl rfl (hH82.kd hw74_ (by decide)) (by rw [hRm]; exact ⟨by decide, by decide⟩) (by rw [hRm]; exact ⟨by decide, by decide⟩) (Nat.le_of_ble_eq_true rfl) (fun o93 v93 ρv93 Zv93 hq93 _ => ?_)
                obtain ⟨rfl, rfl, hfr93, hH93, rfl, hq93⟩ := hq93
                show wp g X F_X11_wins 0 0 96 [(2, t), (0, p), (0, n), (0, s), (0, k), (0, w), (0, i)] [] v93 ρv82 Z
                refine t_getR (q := (ρ t 5)) (pc := 96) hX 47 rfl rfl rfl fl_X11_55 rfl (hH93.kd ht (by decide)) ((hfrR82.at ht (by decide) 5).trans ((hfrR68.at ht (by decide) 5).trans (rfl))) ?_
                refine r_callV (as := []) (st := []) (K := 9) (pc := 100) hX 49 rfl mo_X9_winner ml_X11_204 im_X9_winner se_X9_winner (c_X9_winnerB g ω v93 ρv82 Z hH93 (ρ t 5) hw74_ ) rfl rfl rfl (hH93.kd hw74_ (by decide)) (by rw [hRm]; exact ⟨by decide, by decide⟩) (by rw [hRm]; exact ⟨by decide, by decide⟩) (Nat.le_of_ble_eq_true rfl) (fun o100 v100 ρv100 Zv100 hq100 _ => ?_)
                obtain ⟨rfl, rfl, rfl, r100, rfl, hq100⟩ := hq100
                show wp g X F_X11_wins 0 0 103 [(2, t), (0, p), (0, n), (0, s), (0, k), (0, w), (0, i)] [(0, r100)] v93 ρv82 Z
                refine r_iload_n (pc := 103) hX 50 rfl rfl ?_
                have L110 : ∀ (w2 : Int) , (0 ≤ w2 ∧ w2 ≤ i + 1) → wp g X F_X11_wins 0 0 110 [(2, t), (0, p), (0, n), (0, s), (0, k), (0, w2), (0, i)] [] v93 ρv82 Z := by
                  intro w2 iw
                  refine r_iinc (ls' := [(2, t), (0, p), (0, n), (0, s), (0, k), (0, w2), (0, (i + 1))]) (pc := 110) hX 53 rfl rfl (by decide) rfl ?_
                  refine r_goto (pc := 113) hX 54 (tgt := 68) rfl (by decide) ?_
                  exact (ih68 w2 (i + 1) v93 ρv82 (((hfr68).tr hfr82 (by decide)).tr hfr93 (by decide)) ((hfrR68).tr hfrR82 (by decide)) (hH93) (by omega) (by omega))
                first | refine r_icmp_ne (pc := 104) hX 51 (tgt := 110) rfl (by decide) (⟨by omega, by omega⟩) (⟨by omega, by omega⟩) (fun h104 => ?_) (fun h104 => ?_) | refine r_icmp_ne_any (pc := 104) hX 51 (tgt := 110) rfl (by decide) ?_ ?_
                · exact (L110 w (by omega) )
                · refine r_iinc (ls' := [(2, t), (0, p), (0, n), (0, s), (0, k), (0, (w + 1)), (0, i)]) (pc := 107) hX 52 rfl rfl (by decide) rfl ?_
                  exact (L110 (w + 1) (by omega) )
          exact (L68 _ 0 0 v ρ (FrW.rf) (FrW.rf) (hH) (by omega) (Nat.lt_succ_self _))
        · exact (L60   )
  first | refine r_if_eq (pc := 11) hX 5 (tgt := 29) rfl (by decide) (⟨by omega, by omega⟩) (fun h11 => ?_) (fun h11 => ?_) | refine r_if_eq_any (pc := 11) hX 5 (tgt := 29) rfl (by decide) ?_ ?_
  · refine r_iconst (pc := 29) hX 14 rfl ?_
    exact (L30 0 (by omega) )
  · refine r_iload_n (pc := 14) hX 6 rfl rfl ?_
    refine r_iconst (pc := 15) hX 7 rfl ?_
    first | refine r_icmp_lt (pc := 16) hX 8 (tgt := 29) rfl (by decide) (⟨by omega, by omega⟩) (⟨by omega, by omega⟩) (fun h16 => ?_) (fun h16 => ?_) | refine r_icmp_lt_any (pc := 16) hX 8 (tgt := 29) rfl (by decide) ?_ ?_
    · refine r_iconst (pc := 29) hX 14 rfl ?_
      exact (L30 0 (by omega) )
    · refine r_iload_n (pc := 19) hX 9 rfl rfl ?_
      refine r_bipush (pc := 20) hX 10 rfl (by decide) ?_
      first | refine r_icmp_gt (pc := 22) hX 11 (tgt := 29) rfl (by decide) (⟨by omega, by omega⟩) (⟨by omega, by omega⟩) (fun h22 => ?_) (fun h22 => ?_) | refine r_icmp_gt_any (pc := 22) hX 11 (tgt := 29) rfl (by decide) ?_ ?_
      · refine r_iconst (pc := 29) hX 14 rfl ?_
        exact (L30 0 (by omega) )
      · refine r_iconst (pc := 25) hX 12 rfl ?_
        refine r_goto (pc := 26) hX 13 (tgt := 30) rfl (by decide) ?_
        exact (L30 1 (by omega) )
set_option maxHeartbeats 4000000 in
set_option maxRecDepth 100000 in
theorem c_X11_liveLog (g : Gp) (ω : Rw) (v ρ : Mv) (Z : Mz) (hH : HT ω v ρ Z) (t : Int) (ht : ω t = 1) (o : Int) (ho : ω o = 22) (hlg : LgO (v (ρ (ρ t 2) 1)) (v (ρ (ρ t 2) 2)) (v (ρ t 2) 4)) : Ok g 6 0 0 F_X11_liveLog [(2, t), (2, o)] v ρ Z (fun o9 v' ρ' Z' => ρ = ρ' ∧ Z = Z' ∧ FrW ω [22, 23, 24, 25, 26, 65] v v' ∧ HT ω v' ρ Z ∧ ∃ r : Int, o9 = some (0, r) ∧ True) := by
  refine Ok.of mo_X11_liveLog (Nat.le_of_ble_eq_true rfl) ?_
  intro X hX hRm hxn hQ
  show wp g X F_X11_liveLog 0 0 0 [(2, t), (2, o), (3, 0), (3, 0), (3, 0)] [] v ρ Z
  have hwT : ω (ρ t 4) = 22 := hH.rf ht (by decide) rfl
  have hwR : ω (ρ (ρ t 4) 0) = 5 := hH.rf hwT (by decide) rfl
  have hgR8 : 0 ≤ v (ρ (ρ t 4) 0) 8 ∧ v (ρ (ρ t 4) 0) 8 ≤ 4 := hH.rg hwR (by decide) rfl
  have hgR9 : 0 ≤ v (ρ (ρ t 4) 0) 9 ∧ v (ρ (ρ t 4) 0) 9 ≤ 3 := hH.rg hwR (by decide) rfl
  have hgR10 : 0 ≤ v (ρ (ρ t 4) 0) 10 ∧ v (ρ (ρ t 4) 0) 10 ≤ 3 := hH.rg hwR (by decide) rfl
  have hwX : ω (ρ t 0) = 2 := hH.rf ht (by decide) rfl
  have hgL : 0 ≤ v (ρ t 0) 1 ∧ v (ρ t 0) 1 ≤ 940 := hH.rg hwX (by decide) rfl
  refine r_iconst (pc := 0) hX 0 rfl ?_
  refine r_istore_n (ls' := [(2, t), (2, o), (0, 0), (3, 0), (3, 0)]) (pc := 1) hX 1 rfl (by decide) rfl ?_
  refine r_iconst (pc := 2) hX 2 rfl ?_
  refine r_istore_n (ls' := [(2, t), (2, o), (0, 0), (0, 0), (3, 0)]) (pc := 3) hX 3 rfl (by decide) rfl ?_
  refine r_iconst (pc := 4) hX 4 rfl ?_
  refine r_istore (ls' := [(2, t), (2, o), (0, 0), (0, 0), (0, 0)]) (pc := 5) hX 5 rfl (by decide) rfl ?_
  have L7 : ∀ (n7 : Nat) (y n i : Int) (v7 : Mv) , (FrW ω [22, 23, 24, 25, 26, 65] v v7) → (HT ω v7 ρ Z) → (0 ≤ i ∧ i ≤ 40 ∧ 0 ≤ n ∧ n ≤ i ∧ 0 ≤ y ∧ y ≤ 30) → (40 - i).toNat < n7 → wp g X F_X11_liveLog 0 0 7 [(2, t), (2, o), (0, y), (0, n), (0, i)] [] v7 ρ Z := by
    intro n7
    induction n7 with
    | zero => intro y n i v7 hfr7 hH7 ii hme7; exact absurd hme7 (Nat.not_lt_zero _)
    | succ n7 ih7 =>
      intro y n i v7 hfr7 hH7 ii hme7
      refine r_iload (pc := 7) hX 6 rfl rfl ?_
      refine t_getR (q := (ρ t 2)) (pc := 9) hX 7 rfl rfl rfl fl_X11_28 rfl (hH7.kd ht (by decide)) (rfl) ?_
      have hw9_ : ω (ρ t 2) = 15 := hH.rf ht (by decide) rfl
      refine e_getI (y := (v (ρ t 2) 4)) (pc := 13) hX 9 rfl fl_X11_413 rfl (hH7.kd hw9_ (by decide)) ((hfr7.at hw9_ (by decide) 4).trans (rfl)) ?_
      have hb13 : 0 ≤ (v (ρ t 2) 4) ∧ (v (ρ t 2) 4) ≤ 40 := hH.rg hw9_ (by decide) rfl
      have L47 : wp g X F_X11_liveLog 0 0 47 [(2, t), (2, o), (0, y), (0, n), (0, i)] [] v7 ρ Z := by
        refine t_getR (q := (ρ t 16)) (pc := 47) hX 24 rfl rfl rfl fl_X11_112 rfl (hH7.kd ht (by decide)) (rfl) ?_
        have hw47_ : ω (ρ t 16) = 65 := hH.rf ht (by decide) rfl
        refine r_iconst (pc := 51) hX 26 rfl ?_
        refine r_iload_n (pc := 52) hX 27 rfl rfl ?_
        refine e_iast (n := 4) (pc := 53) hX 28 rfl (hH7.kd hw47_ (by decide)) (hH7.ln hw47_ (by decide)) (hH7.g4 hw47_ (by decide)) (by omega) (by omega) ?_
        have hH_53 : HT ω (up v7 (ρ t 16) 0 y) ρ Z := hH7.up0 hw47_ (by decide) rfl
        refine t_getR (q := (ρ t 16)) (pc := 54) hX 29 rfl rfl rfl fl_X11_112 rfl (hH_53.kd ht (by decide)) (rfl) ?_
        refine r_iconst (pc := 58) hX 31 rfl ?_
        refine r_iload_n (pc := 59) hX 32 rfl rfl ?_
        refine e_iast (n := 4) (pc := 60) hX 33 rfl (hH_53.kd hw47_ (by decide)) (hH_53.ln hw47_ (by decide)) (hH_53.g4 hw47_ (by decide)) (by omega) (by omega) ?_
        have hH_60 : HT ω (up (up v7 (ρ t 16) 0 y) (ρ t 16) 1 n) ρ Z := hH_53.up0 hw47_ (by decide) rfl
        refine t_getR (q := (ρ t 16)) (pc := 61) hX 34 rfl rfl rfl fl_X11_112 rfl (hH_60.kd ht (by decide)) (rfl) ?_
        refine r_iconst (pc := 65) hX 36 rfl ?_
        refine r_aload_n (pc := 66) hX 37 rfl rfl ?_
        refine e_getI (y := (v7 o 2)) (pc := 67) hX 38 rfl fl_X11_197 rfl (hH_60.kd ho (by decide)) ((up_k (by decide)).trans ((up_k (by decide)).trans (rfl))) ?_
        have hb67 : 0 ≤ (v7 o 2) ∧ (v7 o 2) ≤ 12 := hH7.rg ho (by decide) rfl
        refine e_iast (n := 4) (pc := 70) hX 39 rfl (hH_60.kd hw47_ (by decide)) (hH_60.ln hw47_ (by decide)) (hH_60.g4 hw47_ (by decide)) (by omega) (by omega) ?_
        have hH_70 : HT ω (up (up (up v7 (ρ t 16) 0 y) (ρ t 16) 1 n) (ρ t 16) 2 (v7 o 2)) ρ Z := hH_60.up0 hw47_ (by decide) rfl
        refine t_getR (q := (ρ t 16)) (pc := 71) hX 40 rfl rfl rfl fl_X11_112 rfl (hH_70.kd ht (by decide)) (rfl) ?_
        refine r_iconst (pc := 75) hX 42 rfl ?_
        refine r_aload_n (pc := 76) hX 43 rfl rfl ?_
        refine r_callV (as := []) (st := [(0, 3), (2, (ρ t 16))]) (K := 9) (pc := 77) hX 44 rfl mo_X9_winner ml_X11_204 im_X9_winner se_X9_winner (c_X9_winner g ω (up (up (up v7 (ρ t 16) 0 y) (ρ t 16) 1 n) (ρ t 16) 2 (v7 o 2)) ρ Z hH_70 o ho ) rfl rfl rfl (hH_70.kd ho (by decide)) (by rw [hRm]; exact ⟨by decide, by decide⟩) (by rw [hRm]; exact ⟨by decide, by decide⟩) (Nat.le_of_ble_eq_true rfl) (fun o77 v77 ρv77 Zv77 hq77 _ => ?_)
        obtain ⟨rfl, rfl, rfl, r77, rfl, hq77⟩ := hq77
        show wp g X F_X11_liveLog 0 0 80 [(2, t), (2, o), (0, y), (0, n), (0, i)] [(0, r77), (0, 3), (2, (ρ t 16))] (up (up (up v7 (ρ t 16) 0 y) (ρ t 16) 1 n) (ρ t 16) 2 (v7 o 2)) ρ Z
        refine e_iast (n := 4) (pc := 80) hX 45 rfl (hH_70.kd hw47_ (by decide)) (hH_70.ln hw47_ (by decide)) (hH_70.g4 hw47_ (by decide)) (by omega) (by omega) ?_
        have hH_80 : HT ω (up (up (up (up v7 (ρ t 16) 0 y) (ρ t 16) 1 n) (ρ t 16) 2 (v7 o 2)) (ρ t 16) 3 r77) ρ Z := hH_70.up0 hw47_ (by decide) rfl
        refine r_iload_n (pc := 81) hX 46 rfl rfl ?_
        first | refine r_if_ne (pc := 82) hX 47 (tgt := 89) rfl (by decide) (⟨by omega, by omega⟩) (fun h82 => ?_) (fun h82 => ?_) | refine r_if_ne_any (pc := 82) hX 47 (tgt := 89) rfl (by decide) ?_ ?_
        · refine r_iload_n (pc := 89) hX 50 rfl rfl ?_
          exact r_iret (pc := 90) hX 51 hQ rfl rfl (Nat.le_of_ble_eq_true rfl) (Nat.le_of_ble_eq_true rfl) ⟨rfl, rfl, ((((hfr7).up (r := (ρ t 16)) hw47_ (by decide)).up (r := (ρ t 16)) hw47_ (by decide)).up (r := (ρ t 16)) hw47_ (by decide)).up (r := (ρ t 16)) hw47_ (by decide), hH_80, n, rfl, trivial⟩
        · refine r_iconst (pc := 85) hX 48 rfl ?_
          refine r_goto (pc := 86) hX 49 (tgt := 90) rfl (by decide) ?_
          exact r_iret (pc := 90) hX 51 hQ rfl rfl (Nat.le_of_ble_eq_true rfl) (Nat.le_of_ble_eq_true rfl) ⟨rfl, rfl, ((((hfr7).up (r := (ρ t 16)) hw47_ (by decide)).up (r := (ρ t 16)) hw47_ (by decide)).up (r := (ρ t 16)) hw47_ (by decide)).up (r := (ρ t 16)) hw47_ (by decide), hH_80, (-1), rfl, trivial⟩
      first | refine r_icmp_ge (pc := 16) hX 10 (tgt := 47) rfl (by decide) (⟨by omega, by omega⟩) (⟨by omega, by omega⟩) (fun h16 => ?_) (fun h16 => ?_) | refine r_icmp_ge_any (pc := 16) hX 10 (tgt := 47) rfl (by decide) ?_ ?_
      · exact (L47   )
      · refine r_iload_n (pc := 19) hX 11 rfl rfl ?_
        first | refine r_if_ne (pc := 20) hX 12 (tgt := 47) rfl (by decide) (⟨by omega, by omega⟩) (fun h20 => ?_) (fun h20 => ?_) | refine r_if_ne_any (pc := 20) hX 12 (tgt := 47) rfl (by decide) ?_ ?_
        · exact (L47   )
        · refine t_getR (q := (ρ t 2)) (pc := 23) hX 13 rfl rfl rfl fl_X11_28 rfl (hH7.kd ht (by decide)) (rfl) ?_
          refine r_iload (pc := 27) hX 15 rfl rfl ?_
          refine r_aload_n (pc := 29) hX 16 rfl rfl ?_
          have hw30_ : ω (ρ (ρ t 2) 1) = 16 := hH.rf hw9_ (by decide) rfl
          have hwf1_ : ω (ρ (ρ t 2) 2) = 17 := hH.rf hw9_ (by decide) rfl
          refine r_callV (as := [(0, i), (2, o)]) (st := []) (K := 1) (pc := 30) hX 17 rfl mo_X1_live ml_X11_414 im_X1_live se_X1_live (c_X1_live g ω v7 ρ Z hH7 (ρ t 2) hw9_ (i) o ho (by omega) (by rw [show (v7 (ρ t 2) 4) = (v (ρ t 2) 4) from (hfr7.at hw9_ (by decide) 4).trans (rfl)]; rw [show (v7 (ρ (ρ t 2) 1)) = (v (ρ (ρ t 2) 1)) from (hfr7.rw hw30_ (by decide)).trans (rfl)]; rw [show (v7 (ρ (ρ t 2) 2)) = (v (ρ (ρ t 2) 2)) from (hfr7.rw hwf1_ (by decide)).trans (rfl)]; exact hlg)) rfl rfl rfl (hH7.kd hw9_ (by decide)) (by rw [hRm]; exact ⟨by decide, by decide⟩) (by rw [hRm]; exact ⟨by decide, by decide⟩) (Nat.le_of_ble_eq_true rfl) (fun o30 v30 ρv30 Zv30 hq30 _ => ?_)
          obtain ⟨rfl, rfl, hfr30, hH30, r30, rfl, hq30⟩ := hq30
          show wp g X F_X11_liveLog 0 0 33 [(2, t), (2, o), (0, y), (0, n), (0, i)] [(0, r30)] v30 ρ Z
          refine r_istore_n (ls' := [(2, t), (2, o), (0, r30), (0, n), (0, i)]) (pc := 33) hX 18 rfl (by decide) rfl ?_
          refine r_iload_n (pc := 34) hX 19 rfl rfl ?_
          have L41 : ∀ (n2 : Int) , (0 ≤ n2 ∧ n2 ≤ i + 1) → wp g X F_X11_liveLog 0 0 41 [(2, t), (2, o), (0, r30), (0, n2), (0, i)] [] v30 ρ Z := by
            intro n2 i2
            refine r_iinc (ls' := [(2, t), (2, o), (0, r30), (0, n2), (0, (i + 1))]) (pc := 41) hX 22 rfl rfl (by decide) rfl ?_
            refine r_goto (pc := 44) hX 23 (tgt := 7) rfl (by decide) ?_
            exact (ih7 r30 n2 (i + 1) v30 ((hfr7).tr hfr30 (by decide)) (hH30) (by omega) (by omega))
          first | refine r_if_ne (pc := 35) hX 20 (tgt := 41) rfl (by decide) (⟨by omega, by omega⟩) (fun h35 => ?_) (fun h35 => ?_) | refine r_if_ne_any (pc := 35) hX 20 (tgt := 41) rfl (by decide) ?_ ?_
          · exact (L41 n (by omega) )
          · refine r_iinc (ls' := [(2, t), (2, o), (0, r30), (0, (n + 1)), (0, i)]) (pc := 38) hX 21 rfl rfl (by decide) rfl ?_
            exact (L41 (n + 1) (by omega) )
  exact (L7 _ 0 0 0 v (FrW.rf) (hH) (by omega) (Nat.lt_succ_self _))
set_option maxHeartbeats 4000000 in
set_option maxRecDepth 100000 in
theorem c_X11_liveLogB (g : Gp) (ω : Rw) (v ρ : Mv) (Z : Mz) (hH : HT ω v ρ Z) (t : Int) (ht : ω t = 1) (o : Int) (ho : ω o = 66) (hlg : LgO (v (ρ (ρ t 2) 1)) (v (ρ (ρ t 2) 2)) (v (ρ t 2) 4)) : Ok g 6 0 0 F_X11_liveLog [(2, t), (2, o)] v ρ Z (fun o9 v' ρ' Z' => ρ = ρ' ∧ Z = Z' ∧ FrW ω [65, 66, 67, 68, 69, 70] v v' ∧ HT ω v' ρ Z ∧ ∃ r : Int, o9 = some (0, r) ∧ True) := by
  refine Ok.of mo_X11_liveLog (Nat.le_of_ble_eq_true rfl) ?_
  intro X hX hRm hxn hQ
  show wp g X F_X11_liveLog 0 0 0 [(2, t), (2, o), (3, 0), (3, 0), (3, 0)] [] v ρ Z
  have hwT : ω (ρ t 4) = 22 := hH.rf ht (by decide) rfl
  have hwR : ω (ρ (ρ t 4) 0) = 5 := hH.rf hwT (by decide) rfl
  have hgR8 : 0 ≤ v (ρ (ρ t 4) 0) 8 ∧ v (ρ (ρ t 4) 0) 8 ≤ 4 := hH.rg hwR (by decide) rfl
  have hgR9 : 0 ≤ v (ρ (ρ t 4) 0) 9 ∧ v (ρ (ρ t 4) 0) 9 ≤ 3 := hH.rg hwR (by decide) rfl
  have hgR10 : 0 ≤ v (ρ (ρ t 4) 0) 10 ∧ v (ρ (ρ t 4) 0) 10 ≤ 3 := hH.rg hwR (by decide) rfl
  have hwX : ω (ρ t 0) = 2 := hH.rf ht (by decide) rfl
  have hgL : 0 ≤ v (ρ t 0) 1 ∧ v (ρ t 0) 1 ≤ 940 := hH.rg hwX (by decide) rfl
  refine r_iconst (pc := 0) hX 0 rfl ?_
  refine r_istore_n (ls' := [(2, t), (2, o), (0, 0), (3, 0), (3, 0)]) (pc := 1) hX 1 rfl (by decide) rfl ?_
  refine r_iconst (pc := 2) hX 2 rfl ?_
  refine r_istore_n (ls' := [(2, t), (2, o), (0, 0), (0, 0), (3, 0)]) (pc := 3) hX 3 rfl (by decide) rfl ?_
  refine r_iconst (pc := 4) hX 4 rfl ?_
  refine r_istore (ls' := [(2, t), (2, o), (0, 0), (0, 0), (0, 0)]) (pc := 5) hX 5 rfl (by decide) rfl ?_
  have L7 : ∀ (n7 : Nat) (y n i : Int) (v7 : Mv) , (FrW ω [65, 66, 67, 68, 69, 70] v v7) → (HT ω v7 ρ Z) → (0 ≤ i ∧ i ≤ 40 ∧ 0 ≤ n ∧ n ≤ i ∧ 0 ≤ y ∧ y ≤ 30) → (40 - i).toNat < n7 → wp g X F_X11_liveLog 0 0 7 [(2, t), (2, o), (0, y), (0, n), (0, i)] [] v7 ρ Z := by
    intro n7
    induction n7 with
    | zero => intro y n i v7 hfr7 hH7 ii hme7; exact absurd hme7 (Nat.not_lt_zero _)
    | succ n7 ih7 =>
      intro y n i v7 hfr7 hH7 ii hme7
      refine r_iload (pc := 7) hX 6 rfl rfl ?_
      refine t_getR (q := (ρ t 2)) (pc := 9) hX 7 rfl rfl rfl fl_X11_28 rfl (hH7.kd ht (by decide)) (rfl) ?_
      have hw9_ : ω (ρ t 2) = 15 := hH.rf ht (by decide) rfl
      refine e_getI (y := (v (ρ t 2) 4)) (pc := 13) hX 9 rfl fl_X11_413 rfl (hH7.kd hw9_ (by decide)) ((hfr7.at hw9_ (by decide) 4).trans (rfl)) ?_
      have hb13 : 0 ≤ (v (ρ t 2) 4) ∧ (v (ρ t 2) 4) ≤ 40 := hH.rg hw9_ (by decide) rfl
      have L47 : wp g X F_X11_liveLog 0 0 47 [(2, t), (2, o), (0, y), (0, n), (0, i)] [] v7 ρ Z := by
        refine t_getR (q := (ρ t 16)) (pc := 47) hX 24 rfl rfl rfl fl_X11_112 rfl (hH7.kd ht (by decide)) (rfl) ?_
        have hw47_ : ω (ρ t 16) = 65 := hH.rf ht (by decide) rfl
        refine r_iconst (pc := 51) hX 26 rfl ?_
        refine r_iload_n (pc := 52) hX 27 rfl rfl ?_
        refine e_iast (n := 4) (pc := 53) hX 28 rfl (hH7.kd hw47_ (by decide)) (hH7.ln hw47_ (by decide)) (hH7.g4 hw47_ (by decide)) (by omega) (by omega) ?_
        have hH_53 : HT ω (up v7 (ρ t 16) 0 y) ρ Z := hH7.up0 hw47_ (by decide) rfl
        refine t_getR (q := (ρ t 16)) (pc := 54) hX 29 rfl rfl rfl fl_X11_112 rfl (hH_53.kd ht (by decide)) (rfl) ?_
        refine r_iconst (pc := 58) hX 31 rfl ?_
        refine r_iload_n (pc := 59) hX 32 rfl rfl ?_
        refine e_iast (n := 4) (pc := 60) hX 33 rfl (hH_53.kd hw47_ (by decide)) (hH_53.ln hw47_ (by decide)) (hH_53.g4 hw47_ (by decide)) (by omega) (by omega) ?_
        have hH_60 : HT ω (up (up v7 (ρ t 16) 0 y) (ρ t 16) 1 n) ρ Z := hH_53.up0 hw47_ (by decide) rfl
        refine t_getR (q := (ρ t 16)) (pc := 61) hX 34 rfl rfl rfl fl_X11_112 rfl (hH_60.kd ht (by decide)) (rfl) ?_
        refine r_iconst (pc := 65) hX 36 rfl ?_
        refine r_aload_n (pc := 66) hX 37 rfl rfl ?_
        refine e_getI (y := (v7 o 2)) (pc := 67) hX 38 rfl fl_X11_197 rfl (hH_60.kd ho (by decide)) ((up_k (by decide)).trans ((up_k (by decide)).trans (rfl))) ?_
        have hb67 : 0 ≤ (v7 o 2) ∧ (v7 o 2) ≤ 12 := hH7.rg ho (by decide) rfl
        refine e_iast (n := 4) (pc := 70) hX 39 rfl (hH_60.kd hw47_ (by decide)) (hH_60.ln hw47_ (by decide)) (hH_60.g4 hw47_ (by decide)) (by omega) (by omega) ?_
        have hH_70 : HT ω (up (up (up v7 (ρ t 16) 0 y) (ρ t 16) 1 n) (ρ t 16) 2 (v7 o 2)) ρ Z := hH_60.up0 hw47_ (by decide) rfl
        refine t_getR (q := (ρ t 16)) (pc := 71) hX 40 rfl rfl rfl fl_X11_112 rfl (hH_70.kd ht (by decide)) (rfl) ?_
        refine r_iconst (pc := 75) hX 42 rfl ?_
        refine r_aload_n (pc := 76) hX 43 rfl rfl ?_
        refine r_callV (as := []) (st := [(0, 3), (2, (ρ t 16))]) (K := 9) (pc := 77) hX 44 rfl mo_X9_winner ml_X11_204 im_X9_winner se_X9_winner (c_X9_winnerB g ω (up (up (up v7 (ρ t 16) 0 y) (ρ t 16) 1 n) (ρ t 16) 2 (v7 o 2)) ρ Z hH_70 o ho ) rfl rfl rfl (hH_70.kd ho (by decide)) (by rw [hRm]; exact ⟨by decide, by decide⟩) (by rw [hRm]; exact ⟨by decide, by decide⟩) (Nat.le_of_ble_eq_true rfl) (fun o77 v77 ρv77 Zv77 hq77 _ => ?_)
        obtain ⟨rfl, rfl, rfl, r77, rfl, hq77⟩ := hq77
        show wp g X F_X11_liveLog 0 0 80 [(2, t), (2, o), (0, y), (0, n), (0, i)] [(0, r77), (0, 3), (2, (ρ t 16))] (up (up (up v7 (ρ t 16) 0 y) (ρ t 16) 1 n) (ρ t 16) 2 (v7 o 2)) ρ Z
        refine e_iast (n := 4) (pc := 80) hX 45 rfl (hH_70.kd hw47_ (by decide)) (hH_70.ln hw47_ (by decide)) (hH_70.g4 hw47_ (by decide)) (by omega) (by omega) ?_
        have hH_80 : HT ω (up (up (up (up v7 (ρ t 16) 0 y) (ρ t 16) 1 n) (ρ t 16) 2 (v7 o 2)) (ρ t 16) 3 r77) ρ Z := hH_70.up0 hw47_ (by decide) rfl
        refine r_iload_n (pc := 81) hX 46 rfl rfl ?_
        first | refine r_if_ne (pc := 82) hX 47 (tgt := 89) rfl (by decide) (⟨by omega, by omega⟩) (fun h82 => ?_) (fun h82 => ?_) | refine r_if_ne_any (pc := 82) hX 47 (tgt := 89) rfl (by decide) ?_ ?_
        · refine r_iload_n (pc := 89) hX 50 rfl rfl ?_
          exact r_iret (pc := 90) hX 51 hQ rfl rfl (Nat.le_of_ble_eq_true rfl) (Nat.le_of_ble_eq_true rfl) ⟨rfl, rfl, ((((hfr7).up (r := (ρ t 16)) hw47_ (by decide)).up (r := (ρ t 16)) hw47_ (by decide)).up (r := (ρ t 16)) hw47_ (by decide)).up (r := (ρ t 16)) hw47_ (by decide), hH_80, n, rfl, trivial⟩
        · refine r_iconst (pc := 85) hX 48 rfl ?_
          refine r_goto (pc := 86) hX 49 (tgt := 90) rfl (by decide) ?_
          exact r_iret (pc := 90) hX 51 hQ rfl rfl (Nat.le_of_ble_eq_true rfl) (Nat.le_of_ble_eq_true rfl) ⟨rfl, rfl, ((((hfr7).up (r := (ρ t 16)) hw47_ (by decide)).up (r := (ρ t 16)) hw47_ (by decide)).up (r := (ρ t 16)) hw47_ (by decide)).up (r := (ρ t 16)) hw47_ (by decide), hH_80, (-1), rfl, trivial⟩
      first | refine r_icmp_ge (pc := 16) hX 10 (tgt := 47) rfl (by decide) (⟨by omega, by omega⟩) (⟨by omega, by omega⟩) (fun h16 => ?_) (fun h16 => ?_) | refine r_icmp_ge_any (pc := 16) hX 10 (tgt := 47) rfl (by decide) ?_ ?_
      · exact (L47   )
      · refine r_iload_n (pc := 19) hX 11 rfl rfl ?_
        first | refine r_if_ne (pc := 20) hX 12 (tgt := 47) rfl (by decide) (⟨by omega, by omega⟩) (fun h20 => ?_) (fun h20 => ?_) | refine r_if_ne_any (pc := 20) hX 12 (tgt := 47) rfl (by decide) ?_ ?_
        · exact (L47   )
        · refine t_getR (q := (ρ t 2)) (pc := 23) hX 13 rfl rfl rfl fl_X11_28 rfl (hH7.kd ht (by decide)) (rfl) ?_
          refine r_iload (pc := 27) hX 15 rfl rfl ?_
          refine r_aload_n (pc := 29) hX 16 rfl rfl ?_
          have hw30_ : ω (ρ (ρ t 2) 1) = 16 := hH.rf hw9_ (by decide) rfl
          have hwf1_ : ω (ρ (ρ t 2) 2) = 17 := hH.rf hw9_ (by decide) rfl
          refine r_callV (as := [(0, i), (2, o)]) (st := []) (K := 1) (pc := 30) hX 17 rfl mo_X1_live ml_X11_414 im_X1_live se_X1_live (c_X1_liveB g ω v7 ρ Z hH7 (ρ t 2) hw9_ (i) o ho (by omega) (by rw [show (v7 (ρ t 2) 4) = (v (ρ t 2) 4) from (hfr7.at hw9_ (by decide) 4).trans (rfl)]; rw [show (v7 (ρ (ρ t 2) 1)) = (v (ρ (ρ t 2) 1)) from (hfr7.rw hw30_ (by decide)).trans (rfl)]; rw [show (v7 (ρ (ρ t 2) 2)) = (v (ρ (ρ t 2) 2)) from (hfr7.rw hwf1_ (by decide)).trans (rfl)]; exact hlg)) rfl rfl rfl (hH7.kd hw9_ (by decide)) (by rw [hRm]; exact ⟨by decide, by decide⟩) (by rw [hRm]; exact ⟨by decide, by decide⟩) (Nat.le_of_ble_eq_true rfl) (fun o30 v30 ρv30 Zv30 hq30 _ => ?_)
          obtain ⟨rfl, rfl, hfr30, hH30, r30, rfl, hq30⟩ := hq30
          show wp g X F_X11_liveLog 0 0 33 [(2, t), (2, o), (0, y), (0, n), (0, i)] [(0, r30)] v30 ρ Z
          refine r_istore_n (ls' := [(2, t), (2, o), (0, r30), (0, n), (0, i)]) (pc := 33) hX 18 rfl (by decide) rfl ?_
          refine r_iload_n (pc := 34) hX 19 rfl rfl ?_
          have L41 : ∀ (n2 : Int) , (0 ≤ n2 ∧ n2 ≤ i + 1) → wp g X F_X11_liveLog 0 0 41 [(2, t), (2, o), (0, r30), (0, n2), (0, i)] [] v30 ρ Z := by
            intro n2 i2
            refine r_iinc (ls' := [(2, t), (2, o), (0, r30), (0, n2), (0, (i + 1))]) (pc := 41) hX 22 rfl rfl (by decide) rfl ?_
            refine r_goto (pc := 44) hX 23 (tgt := 7) rfl (by decide) ?_
            exact (ih7 r30 n2 (i + 1) v30 ((hfr7).tr hfr30 (by decide)) (hH30) (by omega) (by omega))
          first | refine r_if_ne (pc := 35) hX 20 (tgt := 41) rfl (by decide) (⟨by omega, by omega⟩) (fun h35 => ?_) (fun h35 => ?_) | refine r_if_ne_any (pc := 35) hX 20 (tgt := 41) rfl (by decide) ?_ ?_
          · exact (L41 n (by omega) )
          · refine r_iinc (ls' := [(2, t), (2, o), (0, r30), (0, (n + 1)), (0, i)]) (pc := 38) hX 21 rfl rfl (by decide) rfl ?_
            exact (L41 (n + 1) (by omega) )
  exact (L7 _ 0 0 0 v (FrW.rf) (hH) (by omega) (Nat.lt_succ_self _))
set_option maxHeartbeats 4000000 in
set_option maxRecDepth 100000 in
theorem c_X11_log (g : Gp) (ω : Rw) (v ρ : Mv) (Z : Mz) (hH : HT ω v ρ Z) (t : Int) (ht : ω t = 1) (a : Int) (har : inR a) : Ok g 10 0 0 F_X11_log [(2, t), (0, a)] v ρ Z (fun o9 v' ρ' Z' => Z = Z' ∧ FrW ω [2, 15, 16, 17, 18, 22, 23, 24, 25, 26, 27, 65, 66, 67, 68, 69, 70] v v' ∧ FrW ω [28, 66] ρ ρ' ∧ HT ω v' ρ' Z ∧ ∃ r : Int, o9 = some (0, r) ∧ ((0 ≤ a ∧ a ≤ 1 ∧ v' (ρ t 0) 1 = 0 ∨ (a < 0 ∨ 1 < a) ∧ v' (ρ t 0) 1 = v (ρ t 0) 1))) := by
  refine Ok.of mo_X11_log (Nat.le_of_ble_eq_true rfl) ?_
  intro X hX hRm hxn hQ
  show wp g X F_X11_log 0 0 0 [(2, t), (0, a), (3, 0)] [] v ρ Z
  have hwT : ω (ρ t 4) = 22 := hH.rf ht (by decide) rfl
  have hwR : ω (ρ (ρ t 4) 0) = 5 := hH.rf hwT (by decide) rfl
  have hgR8 : 0 ≤ v (ρ (ρ t 4) 0) 8 ∧ v (ρ (ρ t 4) 0) 8 ≤ 4 := hH.rg hwR (by decide) rfl
  have hgR9 : 0 ≤ v (ρ (ρ t 4) 0) 9 ∧ v (ρ (ρ t 4) 0) 9 ≤ 3 := hH.rg hwR (by decide) rfl
  have hgR10 : 0 ≤ v (ρ (ρ t 4) 0) 10 ∧ v (ρ (ρ t 4) 0) 10 ≤ 3 := hH.rg hwR (by decide) rfl
  have hwX : ω (ρ t 0) = 2 := hH.rf ht (by decide) rfl
  have hgL : 0 ≤ v (ρ t 0) 1 ∧ v (ρ t 0) 1 ≤ 940 := hH.rg hwX (by decide) rfl
  refine r_iload_n (pc := 0) hX 0 rfl rfl ?_
  have L13 : (a = 0 ∨ a = 1) → wp g X F_X11_log 0 0 13 [(2, t), (0, a), (3, 0)] [] v ρ Z := by
    intro i13
    refine t_getR (q := (ρ t 2)) (pc := 13) hX 7 rfl rfl rfl fl_X11_28 rfl (hH.kd ht (by decide)) (rfl) ?_
    have hw13_ : ω (ρ t 2) = 15 := hH.rf ht (by decide) rfl
    refine t_getR (q := (ρ t 4)) (pc := 17) hX 9 rfl rfl rfl fl_X11_47 rfl (hH.kd ht (by decide)) (rfl) ?_
    have hw17_ : ω (ρ t 4) = 22 := hH.rf ht (by decide) rfl
    refine r_getR (q := (ρ (ρ t 4) 0)) (pc := 21) hX 11 rfl fl_X11_51 rfl (hH.kd hw17_ (by decide)) (rfl) ?_
    have hw21_ : ω (ρ (ρ t 4) 0) = 5 := hH.rf hw17_ (by decide) rfl
    refine r_callV (as := [(2, (ρ (ρ t 4) 0))]) (st := []) (K := 1) (pc := 24) hX 12 rfl mo_X1_read ml_X11_367 im_X1_read se_X1_read (c_X1_read g ω v ρ Z hH (ρ t 2) hw13_ (ρ (ρ t 4) 0) hw21_ ) rfl rfl rfl (hH.kd hw13_ (by decide)) (by rw [hRm]; exact ⟨by decide, by decide⟩) (by rw [hRm]; exact ⟨by decide, by decide⟩) (Nat.le_of_ble_eq_true rfl) (fun o24 v24 ρv24 Zv24 hq24 _ => ?_)
    obtain ⟨rfl, rfl, hfr24, hH24, r24, rfl, hq24⟩ := hq24
    have hw24_ : ω (ρ (ρ t 2) 0) = 2 := hH.rf hw13_ (by decide) rfl
    show wp g X F_X11_log 0 0 27 [(2, t), (0, a), (3, 0)] [(0, r24)] v24 ρ Z
    have hlg24 := hq24.2.1
    refine r_istore_n (ls' := [(2, t), (0, a), (0, r24)]) (pc := 27) hX 13 rfl (by decide) rfl ?_
    refine t_getR (q := (ρ t 0)) (pc := 28) hX 14 rfl rfl rfl fl_X11_12 rfl (hH24.kd ht (by decide)) (rfl) ?_
    have hw28_ : ω (ρ t 0) = 2 := hH.rf ht (by decide) rfl
    refine r_iconst (pc := 32) hX 16 rfl ?_
    refine r_putI (pc := 33) hX 17 rfl fl_X11_123 rfl (fun _ h => by cases h; rfl) (hH24.kd hw28_ (by decide)) (hH24.g4 hw28_ (by decide)) ?_
    have hH_33 : HT ω (up v24 (ρ t 0) 1 0) ρ Z := hH24.upR hw28_ (by decide) rfl (by omega) (by omega)
    show wp g X F_X11_log 0 0 36 [(2, t), (0, a), (0, r24)] [] (up v24 (ρ t 0) 1 0) ρ Z
    refine r_iload_n (pc := 36) hX 18 rfl rfl ?_
    first | refine r_if_ne (pc := 37) hX 19 (tgt := 51) rfl (by decide) (⟨by omega, by omega⟩) (fun h37 => ?_) (fun h37 => ?_) | refine r_if_ne_any (pc := 37) hX 19 (tgt := 51) rfl (by decide) ?_ ?_
    · refine r_iload_n (pc := 51) hX 26 rfl rfl ?_
      first | refine r_if_ne (pc := 52) hX 27 (tgt := 75) rfl (by decide) (⟨by omega, by omega⟩) (fun h52 => ?_) (fun h52 => ?_) | refine r_if_ne_any (pc := 52) hX 27 (tgt := 75) rfl (by decide) ?_ ?_
      · refine t_getR (q := (ρ t 6)) (pc := 75) hX 38 rfl rfl rfl fl_X11_61 rfl (hH_33.kd ht (by decide)) (rfl) ?_
        have hw75_ : ω (ρ t 6) = 27 := hH.rf ht (by decide) rfl
        refine t_getR (q := (ρ t 4)) (pc := 79) hX 40 rfl rfl rfl fl_X11_47 rfl (hH_33.kd ht (by decide)) (rfl) ?_
        refine r_callV (as := [(2, (ρ t 4))]) (st := []) (K := 3) (pc := 83) hX 42 rfl mo_X3_keep ml_X11_218 im_X3_keep se_X3_keep (c_X3_keep g ω (up v24 (ρ t 0) 1 0) ρ Z hH_33 (ρ t 6) hw75_ (ρ t 4) hw17_ ) rfl rfl rfl (hH_33.kd hw75_ (by decide)) (by rw [hRm]; exact ⟨by decide, by decide⟩) (by rw [hRm]; exact ⟨by decide, by decide⟩) (Nat.le_of_ble_eq_true rfl) (fun o83 v83 ρv83 Zv83 hq83 _ => ?_)
        obtain ⟨rfl, hfr83, hfrR83, hH83, rfl, hq83⟩ := hq83
        show wp g X F_X11_log 0 0 86 [(2, t), (0, a), (0, r24)] [] v83 ρv83 Z
        refine r_aload_n (pc := 86) hX 43 rfl rfl ?_
        refine t_getR (q := (ρ t 4)) (pc := 87) hX 44 rfl rfl rfl fl_X11_47 rfl (hH83.kd ht (by decide)) ((hfrR83.at ht (by decide) 4).trans (rfl)) ?_
        have hw91_ : ω (ρ (ρ t 2) 1) = 16 := hH.rf hw13_ (by decide) rfl
        have hwf1_ : ω (ρ (ρ t 2) 2) = 17 := hH.rf hw13_ (by decide) rfl
        refine r_callV (as := [(2, (ρ t 4))]) (st := []) (K := 11) (pc := 91) hX 46 rfl mo_X11_liveLog ml_X11_370 im_X11_liveLog se_X11_liveLog (c_X11_liveLog g ω v83 ρv83 Z hH83 t ht (ρ t 4) hw17_ (by rw [show (ρv83 t 2) = (ρ t 2) from (hfrR83.at ht (by decide) 2).trans (rfl)]; rw [show (v83 (ρ t 2) 4) = (v24 (ρ t 2) 4) from (hfr83.at hw13_ (by decide) 4).trans ((up_k (by decide)).trans (rfl))]; rw [show (ρv83 (ρ t 2) 1) = (ρ (ρ t 2) 1) from (hfrR83.at hw13_ (by decide) 1).trans (rfl)]; rw [show (v83 (ρ (ρ t 2) 1)) = (v24 (ρ (ρ t 2) 1)) from (hfr83.rw hw91_ (by decide)).trans ((up_f (rne hw91_ hw28_ (by decide))).trans (rfl))]; rw [show (ρv83 (ρ t 2) 2) = (ρ (ρ t 2) 2) from (hfrR83.at hw13_ (by decide) 2).trans (rfl)]; rw [show (v83 (ρ (ρ t 2) 2)) = (v24 (ρ (ρ t 2) 2)) from (hfr83.rw hwf1_ (by decide)).trans ((up_f (rne hwf1_ hw28_ (by decide))).trans (rfl))]; exact (hlg24 (by omega)))) rfl rfl rfl (hH83.kd ht (by decide)) (by rw [hRm]; exact ⟨by decide, by decide⟩) (by rw [hRm]; exact ⟨by decide, by decide⟩) (Nat.le_of_ble_eq_true rfl) (fun o91 v91 ρv91 Zv91 hq91 _ => ?_)
        obtain ⟨rfl, rfl, hfr91, hH91, r91, rfl, hq91⟩ := hq91
        show wp g X F_X11_log 0 0 94 [(2, t), (0, a), (0, r24)] [(0, r91)] v91 ρv83 Z
        exact r_iret (pc := 94) hX 47 hQ rfl rfl (Nat.le_of_ble_eq_true rfl) (Nat.le_of_ble_eq_true rfl) ⟨rfl, ((((FrW.rf).tr hfr24 (by decide)).up (r := (ρ t 0)) hw28_ (by decide)).tr hfr83 (by decide)).tr hfr91 (by decide), (FrW.rf).tr hfrR83 (by decide), hH91, r91, rfl, (Or.inl ⟨by omega, by omega, (show v91 (ρ t 0) 1 = 0 from (hfr91.at hw28_ (by decide) 1).trans ((hfr83.at hw28_ (by decide) 1).trans (up_s _ _ _ _)))⟩)⟩
      · refine t_getR (q := (ρ t 5)) (pc := 55) hX 28 rfl rfl rfl fl_X11_55 rfl (hH_33.kd ht (by decide)) (rfl) ?_
        have hw55_ : ω (ρ t 5) = 66 := hH.rf ht (by decide) rfl
        refine t_getR (q := (ρ t 4)) (pc := 59) hX 30 rfl rfl rfl fl_X11_47 rfl (hH_33.kd ht (by decide)) (rfl) ?_
        refine r_callV (as := [(2, (ρ t 4))]) (st := []) (K := 9) (pc := 63) hX 32 rfl mo_X9_copyFrom ml_X11_364 im_X9_copyFrom se_X9_copyFrom (c_X9_copyFromB g ω (up v24 (ρ t 0) 1 0) ρ Z hH_33 (ρ t 5) hw55_ (ρ t 4) hw17_ ) rfl rfl rfl (hH_33.kd hw55_ (by decide)) (by rw [hRm]; exact ⟨by decide, by decide⟩) (by rw [hRm]; exact ⟨by decide, by decide⟩) (Nat.le_of_ble_eq_true rfl) (fun o63 v63 ρv63 Zv63 hq63 _ => ?_)
        obtain ⟨rfl, hfr63, hfrR63, hH63, rfl, hq63⟩ := hq63
        show wp g X F_X11_log 0 0 66 [(2, t), (0, a), (0, r24)] [] v63 ρv63 Z
        refine r_aload_n (pc := 66) hX 33 rfl rfl ?_
        refine t_getR (q := (ρ t 5)) (pc := 67) hX 34 rfl rfl rfl fl_X11_55 rfl (hH63.kd ht (by decide)) ((hfrR63.at ht (by decide) 5).trans (rfl)) ?_
        have hw71_ : ω (ρ (ρ t 2) 1) = 16 := hH.rf hw13_ (by decide) rfl
        have hwf2_ : ω (ρ (ρ t 2) 2) = 17 := hH.rf hw13_ (by decide) rfl
        refine r_callV (as := [(2, (ρ t 5))]) (st := []) (K := 11) (pc := 71) hX 36 rfl mo_X11_liveLog ml_X11_370 im_X11_liveLog se_X11_liveLog (c_X11_liveLogB g ω v63 ρv63 Z hH63 t ht (ρ t 5) hw55_ (by rw [show (ρv63 t 2) = (ρ t 2) from (hfrR63.at ht (by decide) 2).trans (rfl)]; rw [show (v63 (ρ t 2) 4) = (v24 (ρ t 2) 4) from (hfr63.at hw13_ (by decide) 4).trans ((up_k (by decide)).trans (rfl))]; rw [show (ρv63 (ρ t 2) 1) = (ρ (ρ t 2) 1) from (hfrR63.at hw13_ (by decide) 1).trans (rfl)]; rw [show (v63 (ρ (ρ t 2) 1)) = (v24 (ρ (ρ t 2) 1)) from (hfr63.rw hw71_ (by decide)).trans ((up_f (rne hw71_ hw28_ (by decide))).trans (rfl))]; rw [show (ρv63 (ρ t 2) 2) = (ρ (ρ t 2) 2) from (hfrR63.at hw13_ (by decide) 2).trans (rfl)]; rw [show (v63 (ρ (ρ t 2) 2)) = (v24 (ρ (ρ t 2) 2)) from (hfr63.rw hwf2_ (by decide)).trans ((up_f (rne hwf2_ hw28_ (by decide))).trans (rfl))]; exact (hlg24 (by omega)))) rfl rfl rfl (hH63.kd ht (by decide)) (by rw [hRm]; exact ⟨by decide, by decide⟩) (by rw [hRm]; exact ⟨by decide, by decide⟩) (Nat.le_of_ble_eq_true rfl) (fun o71 v71 ρv71 Zv71 hq71 _ => ?_)
        obtain ⟨rfl, rfl, hfr71, hH71, r71, rfl, hq71⟩ := hq71
        show wp g X F_X11_log 0 0 74 [(2, t), (0, a), (0, r24)] [(0, r71)] v71 ρv63 Z
        exact r_iret (pc := 74) hX 37 hQ rfl rfl (Nat.le_of_ble_eq_true rfl) (Nat.le_of_ble_eq_true rfl) ⟨rfl, ((((FrW.rf).tr hfr24 (by decide)).up (r := (ρ t 0)) hw28_ (by decide)).tr hfr63 (by decide)).tr hfr71 (by decide), (FrW.rf).tr hfrR63 (by decide), hH71, r71, rfl, (Or.inl ⟨by omega, by omega, (show v71 (ρ t 0) 1 = 0 from (hfr71.at hw28_ (by decide) 1).trans ((hfr63.at hw28_ (by decide) 1).trans (up_s _ _ _ _)))⟩)⟩
    · refine r_bipush (pc := 40) hX 20 rfl (by decide) ?_
      refine t_getR (q := (ρ t 0)) (pc := 42) hX 21 rfl rfl rfl fl_X11_12 rfl (hH_33.kd ht (by decide)) (rfl) ?_
      refine e_getI (y := (v24 (ρ t 0) 10)) (pc := 46) hX 23 rfl fl_X11_131 rfl (hH_33.kd hw28_ (by decide)) ((up_k (by decide)).trans (rfl)) ?_
      have hb46 : 0 ≤ (v24 (ρ t 0) 10) ∧ (v24 (ρ t 0) 10) ≤ 1000 := hH24.rg hw28_ (by decide) rfl
      refine r_isub (pc := 49) hX 24 rfl ?_
      exact r_iret (pc := 50) hX 25 hQ rfl rfl (Nat.le_of_ble_eq_true rfl) (Nat.le_of_ble_eq_true rfl) ⟨rfl, ((FrW.rf).tr hfr24 (by decide)).up (r := (ρ t 0)) hw28_ (by decide), FrW.rf, hH_33, ((-2) - (v24 (ρ t 0) 10)), rfl, (Or.inl ⟨by omega, by omega, (show (up v24 (ρ t 0) 1 0) (ρ t 0) 1 = 0 from up_s _ _ _ _)⟩)⟩
  first | refine r_if_eq (pc := 1) hX 1 (tgt := 13) rfl (by decide) (⟨by omega, by omega⟩) (fun h1 => ?_) (fun h1 => ?_) | refine r_if_eq_any (pc := 1) hX 1 (tgt := 13) rfl (by decide) ?_ ?_
  · exact (L13  (by omega) )
  · refine r_iload_n (pc := 4) hX 2 rfl rfl ?_
    refine r_iconst (pc := 5) hX 3 rfl ?_
    first | refine r_icmp_eq (pc := 6) hX 4 (tgt := 13) rfl (by decide) (⟨by omega, by omega⟩) (⟨by omega, by omega⟩) (fun h6 => ?_) (fun h6 => ?_) | refine r_icmp_eq_any (pc := 6) hX 4 (tgt := 13) rfl (by decide) ?_ ?_
    · exact (L13  (by omega) )
    · refine r_sipush (pc := 9) hX 5 rfl (by decide) ?_
      exact r_iret (pc := 12) hX 6 hQ rfl rfl (Nat.le_of_ble_eq_true rfl) (Nat.le_of_ble_eq_true rfl) ⟨rfl, FrW.rf, FrW.rf, hH, (-1000), rfl, (Or.inr ⟨by omega, rfl⟩)⟩
set_option maxHeartbeats 4000000 in
set_option maxRecDepth 100000 in
theorem c_X11_logged (g : Gp) (ω : Rw) (v ρ : Mv) (Z : Mz) (hH : HT ω v ρ Z) (t : Int) (ht : ω t = 1) (w : Int) (hwr : inR w) : Ok g 1 0 0 F_X11_logged [(2, t), (0, w)] v ρ Z (fun o9 v' ρ' Z' => ρ = ρ' ∧ Z = Z' ∧ v = v' ∧ ∃ r : Int, o9 = some (0, r) ∧ True) := by
  refine Ok.of mo_X11_logged (Nat.le_of_ble_eq_true rfl) ?_
  intro X hX hRm hxn hQ
  show wp g X F_X11_logged 0 0 0 [(2, t), (0, w)] [] v ρ Z
  have hwT : ω (ρ t 4) = 22 := hH.rf ht (by decide) rfl
  have hwR : ω (ρ (ρ t 4) 0) = 5 := hH.rf hwT (by decide) rfl
  have hgR8 : 0 ≤ v (ρ (ρ t 4) 0) 8 ∧ v (ρ (ρ t 4) 0) 8 ≤ 4 := hH.rg hwR (by decide) rfl
  have hgR9 : 0 ≤ v (ρ (ρ t 4) 0) 9 ∧ v (ρ (ρ t 4) 0) 9 ≤ 3 := hH.rg hwR (by decide) rfl
  have hgR10 : 0 ≤ v (ρ (ρ t 4) 0) 10 ∧ v (ρ (ρ t 4) 0) 10 ≤ 3 := hH.rg hwR (by decide) rfl
  have hwX : ω (ρ t 0) = 2 := hH.rf ht (by decide) rfl
  have hgL : 0 ≤ v (ρ t 0) 1 ∧ v (ρ t 0) 1 ≤ 940 := hH.rg hwX (by decide) rfl
  refine r_iload_n (pc := 0) hX 0 rfl rfl ?_
  have L13 : wp g X F_X11_logged 0 0 13 [(2, t), (0, w)] [] v ρ Z := by
    refine r_iconst (pc := 13) hX 7 rfl ?_
    refine r_goto (pc := 14) hX 8 (tgt := 23) rfl (by decide) ?_
    exact r_iret (pc := 23) hX 13 hQ rfl rfl (Nat.le_of_ble_eq_true rfl) (Nat.le_of_ble_eq_true rfl) ⟨rfl, rfl, rfl, (-1), rfl, trivial⟩
  first | refine r_if_lt (pc := 1) hX 1 (tgt := 13) rfl (by decide) (⟨by omega, by omega⟩) (fun h1 => ?_) (fun h1 => ?_) | refine r_if_lt_any (pc := 1) hX 1 (tgt := 13) rfl (by decide) ?_ ?_
  · exact (L13   )
  · refine r_iload_n (pc := 4) hX 2 rfl rfl ?_
    refine t_getR (q := (ρ t 16)) (pc := 5) hX 3 rfl rfl rfl fl_X11_112 rfl (hH.kd ht (by decide)) (rfl) ?_
    have hw5_ : ω (ρ t 16) = 65 := hH.rf ht (by decide) rfl
    refine r_alen (pc := 9) hX 5 13 rfl (hH.kd hw5_ (by decide)) (by decide) (by decide) (fun _ _ => ?_)
    rw [show Z.2.1 (ρ t 16) = 4 from (hH.ln hw5_ (by decide))]
    first | refine r_icmp_lt (pc := 10) hX 6 (tgt := 17) rfl (by decide) (⟨by omega, by omega⟩) (⟨by omega, by omega⟩) (fun h10 => ?_) (fun h10 => ?_) | refine r_icmp_lt_any (pc := 10) hX 6 (tgt := 17) rfl (by decide) ?_ ?_
    · refine t_getR (q := (ρ t 16)) (pc := 17) hX 9 rfl rfl rfl fl_X11_112 rfl (hH.kd ht (by decide)) (rfl) ?_
      refine r_iload_n (pc := 21) hX 11 rfl rfl ?_
      refine e_iald (y := (v (ρ t 16) w)) (n := 4) (pc := 22) hX 12 rfl (hH.kd hw5_ (by decide)) (hH.ln hw5_ (by decide)) (by omega) (by omega) (rfl) ?_
      exact r_iret (pc := 23) hX 13 hQ rfl rfl (Nat.le_of_ble_eq_true rfl) (Nat.le_of_ble_eq_true rfl) ⟨rfl, rfl, rfl, (v (ρ t 16) w), rfl, trivial⟩
    · exact (L13   )
set_option maxHeartbeats 4000000 in
set_option maxRecDepth 100000 in
theorem c_X11_said (g : Gp) (ω : Rw) (v ρ : Mv) (Z : Mz) (hH : HT ω v ρ Z) (t : Int) (ht : ω t = 1) (k : Int) (hkr : inR k) : Ok g 6 0 0 F_X11_said [(2, t), (0, k)] v ρ Z (fun o9 v' ρ' Z' => ρ = ρ' ∧ Z = Z' ∧ v = v' ∧ ∃ r : Int, o9 = some (0, r) ∧ True) := by
  refine Ok.of mo_X11_said (Nat.le_of_ble_eq_true rfl) ?_
  intro X hX hRm hxn hQ
  show wp g X F_X11_said 0 0 0 [(2, t), (0, k), (3, 0), (3, 0), (3, 0)] [] v ρ Z
  have hwT : ω (ρ t 4) = 22 := hH.rf ht (by decide) rfl
  have hwR : ω (ρ (ρ t 4) 0) = 5 := hH.rf hwT (by decide) rfl
  have hgR8 : 0 ≤ v (ρ (ρ t 4) 0) 8 ∧ v (ρ (ρ t 4) 0) 8 ≤ 4 := hH.rg hwR (by decide) rfl
  have hgR9 : 0 ≤ v (ρ (ρ t 4) 0) 9 ∧ v (ρ (ρ t 4) 0) 9 ≤ 3 := hH.rg hwR (by decide) rfl
  have hgR10 : 0 ≤ v (ρ (ρ t 4) 0) 10 ∧ v (ρ (ρ t 4) 0) 10 ≤ 3 := hH.rg hwR (by decide) rfl
  have hwX : ω (ρ t 0) = 2 := hH.rf ht (by decide) rfl
  have hgL : 0 ≤ v (ρ t 0) 1 ∧ v (ρ t 0) 1 ≤ 940 := hH.rg hwX (by decide) rfl
  refine t_getR (q := (ρ t 17)) (pc := 0) hX 0 rfl rfl rfl fl_X11_140 rfl (hH.kd ht (by decide)) (rfl) ?_
  have hw0_ : (ρ t 17) < 0 ∨ ω (ρ t 17) = 19 := hH.rn ht (by decide) rfl
  refine r_astore_n (ls' := [(2, t), (0, k), (2, (ρ t 17)), (3, 0), (3, 0)]) (pc := 4) hX 2 rfl (by decide) rfl ?_
  refine r_aload_n (pc := 5) hX 3 rfl rfl ?_
  refine r_ifnonnull (pc := 6) hX 4 (tgt := 11) rfl (by decide) (fun h6 => ?_) (fun h6 => ?_)
  · have hwf1_ : ω (ρ t 17) = 19 := hw0_.resolve_left (by omega)
    refine r_iconst (pc := 11) hX 7 rfl ?_
    refine r_istore_n (ls' := [(2, t), (0, k), (2, (ρ t 17)), (0, 0), (3, 0)]) (pc := 12) hX 8 rfl (by decide) rfl ?_
    refine r_iconst (pc := 13) hX 9 rfl ?_
    refine r_istore (ls' := [(2, t), (0, k), (2, (ρ t 17)), (0, 0), (0, 0)]) (pc := 14) hX 10 rfl (by decide) rfl ?_
    have L16 : ∀ (n16 : Nat) (n i : Int) , (0 ≤ i ∧ i ≤ 3 ∧ 0 ≤ n ∧ n ≤ i) → (3 - i).toNat < n16 → wp g X F_X11_said 0 0 16 [(2, t), (0, k), (2, (ρ t 17)), (0, n), (0, i)] [] v ρ Z := by
      intro n16
      induction n16 with
      | zero => intro n i ii hme16; exact absurd hme16 (Nat.not_lt_zero _)
      | succ n16 ih16 =>
        intro n i ii hme16
        refine r_iload (pc := 16) hX 11 rfl rfl ?_
        refine t_getR (q := (ρ t 4)) (pc := 18) hX 12 rfl rfl rfl fl_X11_47 rfl (hH.kd ht (by decide)) (rfl) ?_
        have hw18_ : ω (ρ t 4) = 22 := hH.rf ht (by decide) rfl
        refine r_getR (q := (ρ (ρ t 4) 0)) (pc := 22) hX 14 rfl fl_X11_51 rfl (hH.kd hw18_ (by decide)) (rfl) ?_
        have hw22_ : ω (ρ (ρ t 4) 0) = 5 := hH.rf hw18_ (by decide) rfl
        refine e_getI (y := (v (ρ (ρ t 4) 0) 10)) (pc := 25) hX 15 rfl fl_X11_284 rfl (hH.kd hw22_ (by decide)) (rfl) ?_
        have hb25 : 0 ≤ (v (ρ (ρ t 4) 0) 10) ∧ (v (ρ (ρ t 4) 0) 10) ≤ 3 := hH.rg hw22_ (by decide) rfl
        first | refine r_icmp_ge (pc := 28) hX 16 (tgt := 61) rfl (by decide) (⟨by omega, by omega⟩) (⟨by omega, by omega⟩) (fun h28 => ?_) (fun h28 => ?_) | refine r_icmp_ge_any (pc := 28) hX 16 (tgt := 61) rfl (by decide) ?_ ?_
        · refine r_iload_n (pc := 61) hX 31 rfl rfl ?_
          refine r_iconst (pc := 62) hX 32 rfl ?_
          first | refine r_icmp_ne (pc := 63) hX 33 (tgt := 70) rfl (by decide) (⟨by omega, by omega⟩) (⟨by omega, by omega⟩) (fun h63 => ?_) (fun h63 => ?_) | refine r_icmp_ne_any (pc := 63) hX 33 (tgt := 70) rfl (by decide) ?_ ?_
          · refine r_iconst (pc := 70) hX 36 rfl ?_
            exact r_iret (pc := 71) hX 37 hQ rfl rfl (Nat.le_of_ble_eq_true rfl) (Nat.le_of_ble_eq_true rfl) ⟨rfl, rfl, rfl, (-1), rfl, trivial⟩
          · refine r_iload_n (pc := 66) hX 34 rfl rfl ?_
            refine r_goto (pc := 67) hX 35 (tgt := 71) rfl (by decide) ?_
            exact r_iret (pc := 71) hX 37 hQ rfl rfl (Nat.le_of_ble_eq_true rfl) (Nat.le_of_ble_eq_true rfl) ⟨rfl, rfl, rfl, n, rfl, trivial⟩
        · refine r_aload_n (pc := 31) hX 17 rfl rfl ?_
          refine t_getR (q := (ρ t 4)) (pc := 32) hX 18 rfl rfl rfl fl_X11_47 rfl (hH.kd ht (by decide)) (rfl) ?_
          refine r_iload (pc := 36) hX 20 rfl rfl ?_
          refine r_callV (as := [(2, (ρ t 4)), (0, i)]) (st := []) (K := 6) (pc := 38) hX 21 rfl mo_X6_holdsFor ml_X11_379 im_X6_holdsFor se_X6_holdsFor (c_X6_holdsFor g ω v ρ Z hH (ρ t 17) hwf1_ (ρ t 4) hw18_ (i) (by omega)) rfl rfl rfl (hH.kd hwf1_ (by decide)) (by rw [hRm]; exact ⟨by decide, by decide⟩) (by rw [hRm]; exact ⟨by decide, by decide⟩) (Nat.le_of_ble_eq_true rfl) (fun o38 v38 ρv38 Zv38 hq38 _ => ?_)
          obtain ⟨rfl, rfl, rfl, r38, rfl, hq38⟩ := hq38
          show wp g X F_X11_said 0 0 41 [(2, t), (0, k), (2, (ρ t 17)), (0, n), (0, i)] [(0, r38)] v ρ Z
          have L55 : ∀ (n2 : Int) , (0 ≤ n2 ∧ n2 ≤ i + 1) → wp g X F_X11_said 0 0 55 [(2, t), (0, k), (2, (ρ t 17)), (0, n2), (0, i)] [] v ρ Z := by
            intro n2 i2
            refine r_iinc (ls' := [(2, t), (0, k), (2, (ρ t 17)), (0, n2), (0, (i + 1))]) (pc := 55) hX 29 rfl rfl (by decide) rfl ?_
            refine r_goto (pc := 58) hX 30 (tgt := 16) rfl (by decide) ?_
            exact (ih16 n2 (i + 1) (by omega) (by omega))
          first | refine r_if_eq (pc := 41) hX 22 (tgt := 55) rfl (by decide) (⟨by omega, by omega⟩) (fun h41 => ?_) (fun h41 => ?_) | refine r_if_eq_any (pc := 41) hX 22 (tgt := 55) rfl (by decide) ?_ ?_
          · exact (L55 n (by omega) )
          · refine r_iload_n (pc := 44) hX 23 rfl rfl ?_
            refine r_iload_n (pc := 45) hX 24 rfl rfl ?_
            first | refine r_icmp_ne (pc := 46) hX 25 (tgt := 52) rfl (by decide) (⟨by omega, by omega⟩) (⟨by omega, by omega⟩) (fun h46 => ?_) (fun h46 => ?_) | refine r_icmp_ne_any (pc := 46) hX 25 (tgt := 52) rfl (by decide) ?_ ?_
            · refine r_iinc (ls' := [(2, t), (0, k), (2, (ρ t 17)), (0, (n + 1)), (0, i)]) (pc := 52) hX 28 rfl rfl (by decide) rfl ?_
              exact (L55 (n + 1) (by omega) )
            · refine r_iload (pc := 49) hX 26 rfl rfl ?_
              exact r_iret (pc := 51) hX 27 hQ rfl rfl (Nat.le_of_ble_eq_true rfl) (Nat.le_of_ble_eq_true rfl) ⟨rfl, rfl, rfl, i, rfl, trivial⟩
    exact (L16 _ 0 0 (by omega) (Nat.lt_succ_self _))
  · refine r_iconst (pc := 9) hX 5 rfl ?_
    exact r_iret (pc := 10) hX 6 hQ rfl rfl (Nat.le_of_ble_eq_true rfl) (Nat.le_of_ble_eq_true rfl) ⟨rfl, rfl, rfl, (-1), rfl, trivial⟩
set_option maxHeartbeats 4000000 in
set_option maxRecDepth 100000 in
theorem c_X11_image (g : Gp) (ω : Rw) (v ρ : Mv) (Z : Mz) (hH : HT ω v ρ Z) (t : Int) (ht : ω t = 1) (k : Int) (hkr : inR k) : Ok g 3 0 0 F_X11_image [(2, t), (0, k)] v ρ Z (fun o9 v' ρ' Z' => Z = Z' ∧ FrW ω [62, 66, 67, 68, 69, 70] v v' ∧ FrW ω [61, 66] ρ ρ' ∧ HT ω v' ρ' Z ∧ ∃ r : Int, o9 = some (0, r) ∧ ((r = 1 ∧ 0 ≤ k ∧ k ≤ 1 ∨ r = 0 ∧ (k < 0 ∨ 1 < k))) ∧ ((r = 1 → v' (ρ t 13) k = 1)) ∧ ((∀ j, (r = 1 → j ≠ k) → v' (ρ t 13) j = v (ρ t 13) j))) := by
  refine Ok.of mo_X11_image (Nat.le_of_ble_eq_true rfl) ?_
  intro X hX hRm hxn hQ
  show wp g X F_X11_image 0 0 0 [(2, t), (0, k)] [] v ρ Z
  have hwT : ω (ρ t 4) = 22 := hH.rf ht (by decide) rfl
  have hwR : ω (ρ (ρ t 4) 0) = 5 := hH.rf hwT (by decide) rfl
  have hgR8 : 0 ≤ v (ρ (ρ t 4) 0) 8 ∧ v (ρ (ρ t 4) 0) 8 ≤ 4 := hH.rg hwR (by decide) rfl
  have hgR9 : 0 ≤ v (ρ (ρ t 4) 0) 9 ∧ v (ρ (ρ t 4) 0) 9 ≤ 3 := hH.rg hwR (by decide) rfl
  have hgR10 : 0 ≤ v (ρ (ρ t 4) 0) 10 ∧ v (ρ (ρ t 4) 0) 10 ≤ 3 := hH.rg hwR (by decide) rfl
  have hwX : ω (ρ t 0) = 2 := hH.rf ht (by decide) rfl
  have hgL : 0 ≤ v (ρ t 0) 1 ∧ v (ρ t 0) 1 ≤ 940 := hH.rg hwX (by decide) rfl
  have hw13 : ω (ρ t 13) = 62 := hH.rf ht (by decide) rfl
  refine r_iload_n (pc := 0) hX 0 rfl rfl ?_
  have L9 : (k < 0 ∨ 1 < k) → wp g X F_X11_image 0 0 9 [(2, t), (0, k)] [] v ρ Z := by
    intro i9
    refine r_iconst (pc := 9) hX 5 rfl ?_
    exact r_zret (pc := 10) hX 6 hQ rfl rfl ⟨by omega, by omega⟩ (Nat.le_of_ble_eq_true rfl) (Nat.le_of_ble_eq_true rfl) ⟨rfl, FrW.rf, FrW.rf, hH, 0, rfl, (by omega), (fun e => by omega), (fun _ _ => rfl)⟩
  first | refine r_if_lt (pc := 1) hX 1 (tgt := 9) rfl (by decide) (⟨by omega, by omega⟩) (fun h1 => ?_) (fun h1 => ?_) | refine r_if_lt_any (pc := 1) hX 1 (tgt := 9) rfl (by decide) ?_ ?_
  · exact (L9  (by omega) )
  · refine r_iload_n (pc := 4) hX 2 rfl rfl ?_
    refine r_iconst (pc := 5) hX 3 rfl ?_
    first | refine r_icmp_lt (pc := 6) hX 4 (tgt := 11) rfl (by decide) (⟨by omega, by omega⟩) (⟨by omega, by omega⟩) (fun h6 => ?_) (fun h6 => ?_) | refine r_icmp_lt_any (pc := 6) hX 4 (tgt := 11) rfl (by decide) ?_ ?_
    · refine t_getR (q := (ρ t 11)) (pc := 11) hX 7 rfl rfl rfl fl_X11_91 rfl (hH.kd ht (by decide)) (rfl) ?_
      have hw11_ : ω (ρ t 11) = 60 := hH.rf ht (by decide) rfl
      refine r_iload_n (pc := 15) hX 9 rfl rfl ?_
      refine r_aald (q := (ρ (ρ t 11) k)) (pc := 16) hX 10 17 rfl (hH.kd hw11_ (by decide)) (by decide) (by decide) rfl rfl (by omega) (by rw [show Z.2.1 (ρ t 11) = 2 from (hH.ln hw11_ (by decide))]; omega) (rfl) ?_
      have hw16_ : ω (ρ (ρ t 11) k) = 66 := hH.rf hw11_ (by decide) (rf60 ⟨by omega, by omega⟩)
      refine t_getR (q := (ρ t 4)) (pc := 17) hX 11 rfl rfl rfl fl_X11_47 rfl (hH.kd ht (by decide)) (rfl) ?_
      have hw17_ : ω (ρ t 4) = 22 := hH.rf ht (by decide) rfl
      refine r_callV (as := [(2, (ρ t 4))]) (st := []) (K := 9) (pc := 21) hX 13 rfl mo_X9_copyFrom ml_X11_364 im_X9_copyFrom se_X9_copyFrom (c_X9_copyFromB g ω v ρ Z hH (ρ (ρ t 11) k) hw16_ (ρ t 4) hw17_ ) rfl rfl rfl (hH.kd hw16_ (by decide)) (by rw [hRm]; exact ⟨by decide, by decide⟩) (by rw [hRm]; exact ⟨by decide, by decide⟩) (Nat.le_of_ble_eq_true rfl) (fun o21 v21 ρv21 Zv21 hq21 _ => ?_)
      obtain ⟨rfl, hfr21, hfrR21, hH21, rfl, hq21⟩ := hq21
      show wp g X F_X11_image 0 0 24 [(2, t), (0, k)] [] v21 ρv21 Z
      refine t_getR (q := (ρ t 12)) (pc := 24) hX 14 rfl rfl rfl fl_X11_97 rfl (hH21.kd ht (by decide)) ((hfrR21.at ht (by decide) 12).trans (rfl)) ?_
      have hw24_ : ω (ρ t 12) = 61 := hH.rf ht (by decide) rfl
      refine r_iload_n (pc := 28) hX 16 rfl rfl ?_
      refine t_getR (q := (ρ t 17)) (pc := 29) hX 17 rfl rfl rfl fl_X11_140 rfl (hH21.kd ht (by decide)) ((hfrR21.at ht (by decide) 17).trans (rfl)) ?_
      have hw29_ : (ρ t 17) < 0 ∨ ω (ρ t 17) = 19 := hH.rn ht (by decide) rfl
      refine r_aast (pc := 33) hX 19 18 6 rfl (hH21.kd hw24_ (by decide)) (by decide) (by decide) rfl rfl (hH21.g4 hw24_ (by decide)) (by omega) (by rw [show Z.2.1 (ρ t 12) = 2 from (hH21.ln hw24_ (by decide))]; omega) (hw29_.imp id (fun h => hH21.kd h (by decide))) ?_
      have hH_33 : HT ω v21 (up ρv21 (ρ t 12) k (ρ t 17)) Z := hH21.un hw24_ (rn61 ⟨by omega, by omega⟩) (hw29_) rfl
      refine t_getR (q := (ρ t 13)) (pc := 34) hX 20 rfl rfl rfl fl_X11_101 rfl (hH_33.kd ht (by decide)) ((up_r (rne ht hw24_ (by decide))).trans ((hfrR21.at ht (by decide) 13).trans (rfl))) ?_
      have hw34_ : ω (ρ t 13) = 62 := hH.rf ht (by decide) rfl
      refine r_iload_n (pc := 38) hX 22 rfl rfl ?_
      refine r_iconst (pc := 39) hX 23 rfl ?_
      refine e_zast (n := 2) (pc := 40) hX 24 rfl (hH_33.kd hw34_ (by decide)) (hH_33.ln hw34_ (by decide)) (hH_33.g4 hw34_ (by decide)) (by omega) (by omega) ⟨by omega, by omega⟩ ?_
      have hH_40 : HT ω (up v21 (ρ t 13) k 1) (up ρv21 (ρ t 12) k (ρ t 17)) Z := hH_33.up0 hw34_ (by decide) rfl
      refine r_iconst (pc := 41) hX 25 rfl ?_
      exact r_zret (pc := 42) hX 26 hQ rfl rfl ⟨by omega, by omega⟩ (Nat.le_of_ble_eq_true rfl) (Nat.le_of_ble_eq_true rfl) ⟨rfl, ((FrW.rf).tr hfr21 (by decide)).up (r := (ρ t 13)) hw34_ (by decide), ((FrW.rf).tr hfrR21 (by decide)).up (r := (ρ t 12)) hw24_ (by decide), hH_40, 1, rfl, (by omega), (fun _ => up_s _ _ _ _), (fun j hj => by rw [up_k (hj rfl), hfr21.at hw13 (by decide) j])⟩
    · exact (L9  (by omega) )
set_option maxHeartbeats 4000000 in
set_option maxRecDepth 100000 in
theorem c_X11_restore (g : Gp) (ω : Rw) (v ρ : Mv) (Z : Mz) (hH : HT ω v ρ Z) (t : Int) (ht : ω t = 1) (k : Int) (hkr : inR k) : Ok g 3 0 0 F_X11_restore [(2, t), (0, k)] v ρ Z (fun o9 v' ρ' Z' => Z = Z' ∧ FrW ω [22, 23, 24, 25, 26, 27] v v' ∧ FrW ω [1, 22] ρ ρ' ∧ HT ω v' ρ' Z ∧ ∃ r : Int, o9 = some (0, r) ∧ ((r = 1 ∧ 0 ≤ k ∧ k ≤ 1 ∧ v (ρ t 13) k ≠ 0 ∨ r = 0 ∧ (k < 0 ∨ 1 < k ∨ v (ρ t 13) k = 0))) ∧ (ρ' t 0 = ρ t 0 ∧ ρ' t 13 = ρ t 13)) := by
  refine Ok.of mo_X11_restore (Nat.le_of_ble_eq_true rfl) ?_
  intro X hX hRm hxn hQ
  show wp g X F_X11_restore 0 0 0 [(2, t), (0, k)] [] v ρ Z
  have hwT : ω (ρ t 4) = 22 := hH.rf ht (by decide) rfl
  have hwR : ω (ρ (ρ t 4) 0) = 5 := hH.rf hwT (by decide) rfl
  have hgR8 : 0 ≤ v (ρ (ρ t 4) 0) 8 ∧ v (ρ (ρ t 4) 0) 8 ≤ 4 := hH.rg hwR (by decide) rfl
  have hgR9 : 0 ≤ v (ρ (ρ t 4) 0) 9 ∧ v (ρ (ρ t 4) 0) 9 ≤ 3 := hH.rg hwR (by decide) rfl
  have hgR10 : 0 ≤ v (ρ (ρ t 4) 0) 10 ∧ v (ρ (ρ t 4) 0) 10 ≤ 3 := hH.rg hwR (by decide) rfl
  have hwX : ω (ρ t 0) = 2 := hH.rf ht (by decide) rfl
  have hgL : 0 ≤ v (ρ t 0) 1 ∧ v (ρ t 0) 1 ≤ 940 := hH.rg hwX (by decide) rfl
  refine r_iload_n (pc := 0) hX 0 rfl rfl ?_
  have L18 : (k < 0 ∨ 1 < k ∨ v (ρ t 13) k = 0) → wp g X F_X11_restore 0 0 18 [(2, t), (0, k)] [] v ρ Z := by
    intro i18
    refine r_iconst (pc := 18) hX 10 rfl ?_
    exact r_zret (pc := 19) hX 11 hQ rfl rfl ⟨by omega, by omega⟩ (Nat.le_of_ble_eq_true rfl) (Nat.le_of_ble_eq_true rfl) ⟨rfl, FrW.rf, FrW.rf, hH, 0, rfl, (by omega), (⟨rfl, rfl⟩)⟩
  first | refine r_if_lt (pc := 1) hX 1 (tgt := 18) rfl (by decide) (⟨by omega, by omega⟩) (fun h1 => ?_) (fun h1 => ?_) | refine r_if_lt_any (pc := 1) hX 1 (tgt := 18) rfl (by decide) ?_ ?_
  · exact (L18  (by omega) )
  · refine r_iload_n (pc := 4) hX 2 rfl rfl ?_
    refine r_iconst (pc := 5) hX 3 rfl ?_
    first | refine r_icmp_ge (pc := 6) hX 4 (tgt := 18) rfl (by decide) (⟨by omega, by omega⟩) (⟨by omega, by omega⟩) (fun h6 => ?_) (fun h6 => ?_) | refine r_icmp_ge_any (pc := 6) hX 4 (tgt := 18) rfl (by decide) ?_ ?_
    · exact (L18  (by omega) )
    · refine t_getR (q := (ρ t 13)) (pc := 9) hX 5 rfl rfl rfl fl_X11_101 rfl (hH.kd ht (by decide)) (rfl) ?_
      have hw9_ : ω (ρ t 13) = 62 := hH.rf ht (by decide) rfl
      refine r_iload_n (pc := 13) hX 7 rfl rfl ?_
      refine e_zald (y := (v (ρ t 13) k)) (n := 2) (pc := 14) hX 8 rfl (hH.kd hw9_ (by decide)) (hH.ln hw9_ (by decide)) (by omega) (by omega) (rfl) (fun hb14a hb14b => ?_)
      first | refine r_if_ne (pc := 15) hX 9 (tgt := 20) rfl (by decide) (⟨by omega, by omega⟩) (fun h15 => ?_) (fun h15 => ?_) | refine r_if_ne_any (pc := 15) hX 9 (tgt := 20) rfl (by decide) ?_ ?_
      · refine t_getR (q := (ρ t 4)) (pc := 20) hX 12 rfl rfl rfl fl_X11_47 rfl (hH.kd ht (by decide)) (rfl) ?_
        have hw20_ : ω (ρ t 4) = 22 := hH.rf ht (by decide) rfl
        refine t_getR (q := (ρ t 11)) (pc := 24) hX 14 rfl rfl rfl fl_X11_91 rfl (hH.kd ht (by decide)) (rfl) ?_
        have hw24_ : ω (ρ t 11) = 60 := hH.rf ht (by decide) rfl
        refine r_iload_n (pc := 28) hX 16 rfl rfl ?_
        refine r_aald (q := (ρ (ρ t 11) k)) (pc := 29) hX 17 17 rfl (hH.kd hw24_ (by decide)) (by decide) (by decide) rfl rfl (by omega) (by rw [show Z.2.1 (ρ t 11) = 2 from (hH.ln hw24_ (by decide))]; omega) (rfl) ?_
        have hw29_ : ω (ρ (ρ t 11) k) = 66 := hH.rf hw24_ (by decide) (rf60 ⟨by omega, by omega⟩)
        refine r_callV (as := [(2, (ρ (ρ t 11) k))]) (st := []) (K := 9) (pc := 30) hX 18 rfl mo_X9_copyFrom ml_X11_364 im_X9_copyFrom se_X9_copyFrom (c_X9_copyFrom g ω v ρ Z hH (ρ t 4) hw20_ (ρ (ρ t 11) k) hw29_ ) rfl rfl rfl (hH.kd hw20_ (by decide)) (by rw [hRm]; exact ⟨by decide, by decide⟩) (by rw [hRm]; exact ⟨by decide, by decide⟩) (Nat.le_of_ble_eq_true rfl) (fun o30 v30 ρv30 Zv30 hq30 _ => ?_)
        obtain ⟨rfl, hfr30, hfrR30, hH30, rfl, hq30⟩ := hq30
        show wp g X F_X11_restore 0 0 33 [(2, t), (0, k)] [] v30 ρv30 Z
        refine r_aload_n (pc := 33) hX 19 rfl rfl ?_
        refine t_getR (q := (ρ t 12)) (pc := 34) hX 20 rfl rfl rfl fl_X11_97 rfl (hH30.kd ht (by decide)) ((hfrR30.at ht (by decide) 12).trans (rfl)) ?_
        have hw34_ : ω (ρ t 12) = 61 := hH.rf ht (by decide) rfl
        refine r_iload_n (pc := 38) hX 22 rfl rfl ?_
        refine r_aald (q := (ρ (ρ t 12) k)) (pc := 39) hX 23 18 rfl (hH30.kd hw34_ (by decide)) (by decide) (by decide) rfl rfl (by omega) (by rw [show Z.2.1 (ρ t 12) = 2 from (hH30.ln hw34_ (by decide))]; omega) ((hfrR30.at hw34_ (by decide) k).trans (rfl)) ?_
        have hw39_ : (ρ (ρ t 12) k) < 0 ∨ ω (ρ (ρ t 12) k) = 19 := hH.rn hw34_ (by decide) (rn61 ⟨by omega, by omega⟩)
        refine r_putR (pc := 40) hX 24 rfl fl_X11_140 rfl (fun _ h => by cases h; rfl) (hH30.kd ht (by decide)) (hH30.g4 ht (by decide)) ?_
        have hH_40 : HT ω v30 (up ρv30 t 17 (ρ (ρ t 12) k)) Z := hH30.un ht rfl (hw39_) rfl
        show wp g X F_X11_restore 0 0 43 [(2, t), (0, k)] [] v30 (up ρv30 t 17 (ρ (ρ t 12) k)) Z
        refine t_getR (q := (ρ t 6)) (pc := 43) hX 25 rfl rfl rfl fl_X11_61 rfl (hH_40.kd ht (by decide)) ((up_k (by decide)).trans ((hfrR30.at ht (by decide) 6).trans (rfl))) ?_
        have hw43_ : ω (ρ t 6) = 27 := hH.rf ht (by decide) rfl
        refine r_callV (as := []) (st := []) (K := 3) (pc := 47) hX 27 rfl mo_X3_forget ml_X11_137 im_X3_forget se_X3_forget (c_X3_forget g ω v30 (up ρv30 t 17 (ρ (ρ t 12) k)) Z hH_40 (ρ t 6) hw43_ ) rfl rfl rfl (hH_40.kd hw43_ (by decide)) (by rw [hRm]; exact ⟨by decide, by decide⟩) (by rw [hRm]; exact ⟨by decide, by decide⟩) (Nat.le_of_ble_eq_true rfl) (fun o47 v47 ρv47 Zv47 hq47 _ => ?_)
        obtain ⟨rfl, rfl, hfr47, hH47, rfl, hq47⟩ := hq47
        show wp g X F_X11_restore 0 0 50 [(2, t), (0, k)] [] v47 (up ρv30 t 17 (ρ (ρ t 12) k)) Z
        refine r_iconst (pc := 50) hX 28 rfl ?_
        exact r_zret (pc := 51) hX 29 hQ rfl rfl ⟨by omega, by omega⟩ (Nat.le_of_ble_eq_true rfl) (Nat.le_of_ble_eq_true rfl) ⟨rfl, ((FrW.rf).tr hfr30 (by decide)).tr hfr47 (by decide), ((FrW.rf).tr hfrR30 (by decide)).up (r := t) ht (by decide), hH47, 1, rfl, (by omega), (⟨(up_k (by decide)).trans (hfrR30.at ht (by decide) 0), (up_k (by decide)).trans (hfrR30.at ht (by decide) 13)⟩)⟩
      · exact (L18  (by omega) )
set_option maxHeartbeats 4000000 in
set_option maxRecDepth 100000 in
theorem c_X11_count (g : Gp) (ω : Rw) (v ρ : Mv) (Z : Mz) (hH : HT ω v ρ Z) (t : Int) (ht : ω t = 1) (w : Int) (hwr : inR w) : Ok g 1 0 0 F_X11_count [(2, t), (0, w)] v ρ Z (fun o9 v' ρ' Z' => ρ = ρ' ∧ Z = Z' ∧ v = v' ∧ ∃ r : Int, o9 = some (0, r) ∧ True) := by
  refine Ok.of mo_X11_count (Nat.le_of_ble_eq_true rfl) ?_
  intro X hX hRm hxn hQ
  show wp g X F_X11_count 0 0 0 [(2, t), (0, w)] [] v ρ Z
  have hwT : ω (ρ t 4) = 22 := hH.rf ht (by decide) rfl
  have hwR : ω (ρ (ρ t 4) 0) = 5 := hH.rf hwT (by decide) rfl
  have hgR8 : 0 ≤ v (ρ (ρ t 4) 0) 8 ∧ v (ρ (ρ t 4) 0) 8 ≤ 4 := hH.rg hwR (by decide) rfl
  have hgR9 : 0 ≤ v (ρ (ρ t 4) 0) 9 ∧ v (ρ (ρ t 4) 0) 9 ≤ 3 := hH.rg hwR (by decide) rfl
  have hgR10 : 0 ≤ v (ρ (ρ t 4) 0) 10 ∧ v (ρ (ρ t 4) 0) 10 ≤ 3 := hH.rg hwR (by decide) rfl
  have hwX : ω (ρ t 0) = 2 := hH.rf ht (by decide) rfl
  have hgL : 0 ≤ v (ρ t 0) 1 ∧ v (ρ t 0) 1 ≤ 940 := hH.rg hwX (by decide) rfl
  refine r_iload_n (pc := 0) hX 0 rfl rfl ?_
  have hsw1 : w < 0 ∨ 6 < w ∨ w = 0 ∨ w = 1 ∨ w = 2 ∨ w = 3 ∨ w = 4 ∨ w = 5 ∨ w = 6 := by omega
  rcases hsw1 with hsw1 | hsw1 | hsw1 | hsw1 | hsw1 | hsw1 | hsw1 | hsw1 | hsw1
  · refine r_tsOut (pc := 1) hX 1 (tgt := 126) rfl ⟨by omega, by omega⟩ (by omega) (by decide) ?_
    refine r_iconst (pc := 126) hX 40 rfl ?_
    exact r_iret (pc := 127) hX 41 hQ rfl rfl (Nat.le_of_ble_eq_true rfl) (Nat.le_of_ble_eq_true rfl) ⟨rfl, rfl, rfl, (-1), rfl, trivial⟩
  · refine r_tsOut (pc := 1) hX 1 (tgt := 126) rfl ⟨by omega, by omega⟩ (by omega) (by decide) ?_
    refine r_iconst (pc := 126) hX 40 rfl ?_
    exact r_iret (pc := 127) hX 41 hQ rfl rfl (Nat.le_of_ble_eq_true rfl) (Nat.le_of_ble_eq_true rfl) ⟨rfl, rfl, rfl, (-1), rfl, trivial⟩
  · refine r_tsIn (x := w) (pc := 1) hX 1 (tgt := 44) rfl ⟨by omega, by omega⟩ (by omega) (by omega) (by rw [hsw1]; rfl) (by decide) ?_
    refine t_getR (q := (ρ t 4)) (pc := 44) hX 2 rfl rfl rfl fl_X11_47 rfl (hH.kd ht (by decide)) (rfl) ?_
    have hw44_ : ω (ρ t 4) = 22 := hH.rf ht (by decide) rfl
    refine r_getR (q := (ρ (ρ t 4) 0)) (pc := 48) hX 4 rfl fl_X11_51 rfl (hH.kd hw44_ (by decide)) (rfl) ?_
    have hw48_ : ω (ρ (ρ t 4) 0) = 5 := hH.rf hw44_ (by decide) rfl
    refine e_getI (y := (v (ρ (ρ t 4) 0) 8)) (pc := 51) hX 5 rfl fl_X11_295 rfl (hH.kd hw48_ (by decide)) (rfl) ?_
    have hb51 : 0 ≤ (v (ρ (ρ t 4) 0) 8) ∧ (v (ρ (ρ t 4) 0) 8) ≤ 4 := hH.rg hw48_ (by decide) rfl
    exact r_iret (pc := 54) hX 6 hQ rfl rfl (Nat.le_of_ble_eq_true rfl) (Nat.le_of_ble_eq_true rfl) ⟨rfl, rfl, rfl, (v (ρ (ρ t 4) 0) 8), rfl, trivial⟩
  · refine r_tsIn (x := w) (pc := 1) hX 1 (tgt := 55) rfl ⟨by omega, by omega⟩ (by omega) (by omega) (by rw [hsw1]; rfl) (by decide) ?_
    refine t_getR (q := (ρ t 4)) (pc := 55) hX 7 rfl rfl rfl fl_X11_47 rfl (hH.kd ht (by decide)) (rfl) ?_
    have hw55_ : ω (ρ t 4) = 22 := hH.rf ht (by decide) rfl
    refine r_getR (q := (ρ (ρ t 4) 0)) (pc := 59) hX 9 rfl fl_X11_51 rfl (hH.kd hw55_ (by decide)) (rfl) ?_
    have hw59_ : ω (ρ (ρ t 4) 0) = 5 := hH.rf hw55_ (by decide) rfl
    refine e_getI (y := (v (ρ (ρ t 4) 0) 9)) (pc := 62) hX 10 rfl fl_X11_358 rfl (hH.kd hw59_ (by decide)) (rfl) ?_
    have hb62 : 0 ≤ (v (ρ (ρ t 4) 0) 9) ∧ (v (ρ (ρ t 4) 0) 9) ≤ 3 := hH.rg hw59_ (by decide) rfl
    exact r_iret (pc := 65) hX 11 hQ rfl rfl (Nat.le_of_ble_eq_true rfl) (Nat.le_of_ble_eq_true rfl) ⟨rfl, rfl, rfl, (v (ρ (ρ t 4) 0) 9), rfl, trivial⟩
  · refine r_tsIn (x := w) (pc := 1) hX 1 (tgt := 66) rfl ⟨by omega, by omega⟩ (by omega) (by omega) (by rw [hsw1]; rfl) (by decide) ?_
    refine t_getR (q := (ρ t 4)) (pc := 66) hX 12 rfl rfl rfl fl_X11_47 rfl (hH.kd ht (by decide)) (rfl) ?_
    have hw66_ : ω (ρ t 4) = 22 := hH.rf ht (by decide) rfl
    refine r_getR (q := (ρ (ρ t 4) 0)) (pc := 70) hX 14 rfl fl_X11_51 rfl (hH.kd hw66_ (by decide)) (rfl) ?_
    have hw70_ : ω (ρ (ρ t 4) 0) = 5 := hH.rf hw66_ (by decide) rfl
    refine e_getI (y := (v (ρ (ρ t 4) 0) 10)) (pc := 73) hX 15 rfl fl_X11_284 rfl (hH.kd hw70_ (by decide)) (rfl) ?_
    have hb73 : 0 ≤ (v (ρ (ρ t 4) 0) 10) ∧ (v (ρ (ρ t 4) 0) 10) ≤ 3 := hH.rg hw70_ (by decide) rfl
    exact r_iret (pc := 76) hX 16 hQ rfl rfl (Nat.le_of_ble_eq_true rfl) (Nat.le_of_ble_eq_true rfl) ⟨rfl, rfl, rfl, (v (ρ (ρ t 4) 0) 10), rfl, trivial⟩
  · refine r_tsIn (x := w) (pc := 1) hX 1 (tgt := 77) rfl ⟨by omega, by omega⟩ (by omega) (by omega) (by rw [hsw1]; rfl) (by decide) ?_
    refine t_getR (q := (ρ t 4)) (pc := 77) hX 17 rfl rfl rfl fl_X11_47 rfl (hH.kd ht (by decide)) (rfl) ?_
    have hw77_ : ω (ρ t 4) = 22 := hH.rf ht (by decide) rfl
    refine r_getR (q := (ρ (ρ t 4) 0)) (pc := 81) hX 19 rfl fl_X11_51 rfl (hH.kd hw77_ (by decide)) (rfl) ?_
    have hw81_ : ω (ρ (ρ t 4) 0) = 5 := hH.rf hw77_ (by decide) rfl
    refine e_getI (y := (v (ρ (ρ t 4) 0) 11)) (pc := 84) hX 20 rfl fl_X11_383 rfl (hH.kd hw81_ (by decide)) (rfl) ?_
    have hb84 : 1 ≤ (v (ρ (ρ t 4) 0) 11) ∧ (v (ρ (ρ t 4) 0) 11) ≤ 9 := hH.rg hw81_ (by decide) rfl
    exact r_iret (pc := 87) hX 21 hQ rfl rfl (Nat.le_of_ble_eq_true rfl) (Nat.le_of_ble_eq_true rfl) ⟨rfl, rfl, rfl, (v (ρ (ρ t 4) 0) 11), rfl, trivial⟩
  · refine r_tsIn (x := w) (pc := 1) hX 1 (tgt := 88) rfl ⟨by omega, by omega⟩ (by omega) (by omega) (by rw [hsw1]; rfl) (by decide) ?_
    refine t_getR (q := (ρ t 4)) (pc := 88) hX 22 rfl rfl rfl fl_X11_47 rfl (hH.kd ht (by decide)) (rfl) ?_
    have hw88_ : ω (ρ t 4) = 22 := hH.rf ht (by decide) rfl
    refine r_getR (q := (ρ (ρ t 4) 0)) (pc := 92) hX 24 rfl fl_X11_51 rfl (hH.kd hw88_ (by decide)) (rfl) ?_
    have hw92_ : ω (ρ (ρ t 4) 0) = 5 := hH.rf hw88_ (by decide) rfl
    refine e_getI (y := (v (ρ (ρ t 4) 0) 12)) (pc := 95) hX 25 rfl fl_X11_384 rfl (hH.kd hw92_ (by decide)) (rfl) ?_
    have hb95 : 1 ≤ (v (ρ (ρ t 4) 0) 12) ∧ (v (ρ (ρ t 4) 0) 12) ≤ 12 := hH.rg hw92_ (by decide) rfl
    exact r_iret (pc := 98) hX 26 hQ rfl rfl (Nat.le_of_ble_eq_true rfl) (Nat.le_of_ble_eq_true rfl) ⟨rfl, rfl, rfl, (v (ρ (ρ t 4) 0) 12), rfl, trivial⟩
  · refine r_tsIn (x := w) (pc := 1) hX 1 (tgt := 99) rfl ⟨by omega, by omega⟩ (by omega) (by omega) (by rw [hsw1]; rfl) (by decide) ?_
    refine t_getR (q := (ρ t 4)) (pc := 99) hX 27 rfl rfl rfl fl_X11_47 rfl (hH.kd ht (by decide)) (rfl) ?_
    have hw99_ : ω (ρ t 4) = 22 := hH.rf ht (by decide) rfl
    refine r_getR (q := (ρ (ρ t 4) 0)) (pc := 103) hX 29 rfl fl_X11_51 rfl (hH.kd hw99_ (by decide)) (rfl) ?_
    have hw103_ : ω (ρ (ρ t 4) 0) = 5 := hH.rf hw99_ (by decide) rfl
    refine e_getI (y := (v (ρ (ρ t 4) 0) 13)) (pc := 106) hX 30 rfl fl_X11_387 rfl (hH.kd hw103_ (by decide)) (rfl) ?_
    have hb106 : 0 ≤ (v (ρ (ρ t 4) 0) 13) ∧ (v (ρ (ρ t 4) 0) 13) ≤ 1 := hH.rg hw103_ (by decide) rfl
    first | refine r_if_eq (pc := 109) hX 31 (tgt := 116) rfl (by decide) (⟨by omega, by omega⟩) (fun h109 => ?_) (fun h109 => ?_) | refine r_if_eq_any (pc := 109) hX 31 (tgt := 116) rfl (by decide) ?_ ?_
    · refine r_iconst (pc := 116) hX 34 rfl ?_
      exact r_iret (pc := 117) hX 35 hQ rfl rfl (Nat.le_of_ble_eq_true rfl) (Nat.le_of_ble_eq_true rfl) ⟨rfl, rfl, rfl, 0, rfl, trivial⟩
    · refine r_iconst (pc := 112) hX 32 rfl ?_
      refine r_goto (pc := 113) hX 33 (tgt := 117) rfl (by decide) ?_
      exact r_iret (pc := 117) hX 35 hQ rfl rfl (Nat.le_of_ble_eq_true rfl) (Nat.le_of_ble_eq_true rfl) ⟨rfl, rfl, rfl, 1, rfl, trivial⟩
  · refine r_tsIn (x := w) (pc := 1) hX 1 (tgt := 118) rfl ⟨by omega, by omega⟩ (by omega) (by omega) (by rw [hsw1]; rfl) (by decide) ?_
    refine t_getR (q := (ρ t 0)) (pc := 118) hX 36 rfl rfl rfl fl_X11_12 rfl (hH.kd ht (by decide)) (rfl) ?_
    have hw118_ : ω (ρ t 0) = 2 := hH.rf ht (by decide) rfl
    refine e_getI (y := (v (ρ t 0) 1)) (pc := 122) hX 38 rfl fl_X11_123 rfl (hH.kd hw118_ (by decide)) (rfl) ?_
    have hb122 : 0 ≤ (v (ρ t 0) 1) ∧ (v (ρ t 0) 1) ≤ 940 := hH.rg hw118_ (by decide) rfl
    exact r_iret (pc := 125) hX 39 hQ rfl rfl (Nat.le_of_ble_eq_true rfl) (Nat.le_of_ble_eq_true rfl) ⟨rfl, rfl, rfl, (v (ρ t 0) 1), rfl, trivial⟩
set_option maxHeartbeats 4000000 in
set_option maxRecDepth 100000 in
theorem c_X11_commonDivisor (g : Gp) (ω : Rw) (v ρ : Mv) (Z : Mz) (hH : HT ω v ρ Z) (a : Int) (b : Int) (hal : inL a) (hbl : inL b) : Ok g 1 0 0 F_X11_commonDivisor [(1, a), (1, b)] v ρ Z (fun o9 v' ρ' Z' => ρ = ρ' ∧ Z = Z' ∧ v = v' ∧ ∃ r : Int, o9 = some (1, r) ∧ (inL r)) := by
  refine Ok.of mo_X11_commonDivisor (Nat.le_of_ble_eq_true rfl) ?_
  intro X hX hRm hxn hQ
  show wp g X F_X11_commonDivisor 0 0 0 [(1, a), (3, 0), (1, b), (3, 0), (3, 0), (3, 0), (3, 0), (3, 0), (3, 0), (3, 0), (3, 0)] [] v ρ Z
  refine r_lload_n (pc := 0) hX 0 rfl rfl ?_
  refine r_lstore (ls' := [(1, a), (3, 0), (1, b), (3, 0), (1, a), (3, 0), (3, 0), (3, 0), (3, 0), (3, 0), (3, 0)]) (pc := 1) hX 1 rfl (by decide) rfl ?_
  refine r_lload_n (pc := 3) hX 2 rfl rfl ?_
  refine r_lstore (ls' := [(1, a), (3, 0), (1, b), (3, 0), (1, a), (3, 0), (1, b), (3, 0), (3, 0), (3, 0), (3, 0)]) (pc := 4) hX 3 rfl (by decide) rfl ?_
  refine r_iconst (pc := 6) hX 4 rfl ?_
  refine r_istore (ls' := [(1, a), (3, 0), (1, b), (3, 0), (1, a), (3, 0), (1, b), (3, 0), (0, 0), (3, 0), (3, 0)]) (pc := 7) hX 5 rfl (by decide) rfl ?_
  have L9 : ∀ (n9 : Nat) (x y i : Int) , (0 ≤ i ∧ i ≤ 128) → (inL x) → (inL y) → (128 - i).toNat < n9 → wp g X F_X11_commonDivisor 0 0 9 [(1, a), (3, 0), (1, b), (3, 0), (1, x), (3, 0), (1, y), (3, 0), (0, i), (3, 0), (3, 0)] [] v ρ Z := by
    intro n9
    induction n9 with
    | zero => intro x y i ii ix iy hme9; exact absurd hme9 (Nat.not_lt_zero _)
    | succ n9 ih9 =>
      intro x y i ii ix iy hme9
      refine r_iload (pc := 9) hX 6 rfl rfl ?_
      refine r_sipush (pc := 11) hX 7 rfl (by decide) ?_
      have L45 : wp g X F_X11_commonDivisor 0 0 45 [(1, a), (3, 0), (1, b), (3, 0), (1, x), (3, 0), (1, y), (3, 0), (0, i), (3, 0), (3, 0)] [] v ρ Z := by
        refine r_lload (pc := 45) hX 23 rfl rfl ?_
        exact r_lret (pc := 47) hX 24 hQ rfl rfl (Nat.le_of_ble_eq_true rfl) (Nat.le_of_ble_eq_true rfl) ⟨rfl, rfl, rfl, x, rfl, (by omega)⟩
      first | refine r_icmp_ge (pc := 14) hX 8 (tgt := 45) rfl (by decide) (⟨by omega, by omega⟩) (⟨by omega, by omega⟩) (fun h14 => ?_) (fun h14 => ?_) | refine r_icmp_ge_any (pc := 14) hX 8 (tgt := 45) rfl (by decide) ?_ ?_
      · exact (L45   )
      · refine r_lload (pc := 17) hX 9 rfl rfl ?_
        refine r_lconst (pc := 19) hX 10 rfl ?_
        show wp g X F_X11_commonDivisor 0 0 20 [(1, a), (3, 0), (1, b), (3, 0), (1, x), (3, 0), (1, y), (3, 0), (0, i), (3, 0), (3, 0)] [(1, 0), (1, y)] v ρ Z
        refine r_lcmp (pc := 20) hX 11 rfl (⟨by omega, by omega⟩) (⟨by omega, by omega⟩) ?_
        refine r_if_eq (pc := 21) hX 12 (tgt := 45) rfl (by decide) (cmpI_in _ _) (fun h21 => ?_) (fun h21 => ?_)
        · rw [cmpI_eq] at h21
          exact (L45   )
        · rw [cmpI_eq] at h21
          refine r_lload (pc := 24) hX 13 rfl rfl ?_
          refine r_lload (pc := 26) hX 14 rfl rfl ?_
          refine r_lrem_any (pc := 28) hX 15 rfl (iy) (by omega) (fun z28 hz28 => ?_)
          refine r_lstore (ls' := [(1, a), (3, 0), (1, b), (3, 0), (1, x), (3, 0), (1, y), (3, 0), (0, i), (1, z28), (3, 0)]) (pc := 29) hX 16 rfl (by decide) rfl ?_
          refine r_lload (pc := 31) hX 17 rfl rfl ?_
          refine r_lstore (ls' := [(1, a), (3, 0), (1, b), (3, 0), (1, y), (3, 0), (1, y), (3, 0), (0, i), (1, z28), (3, 0)]) (pc := 33) hX 18 rfl (by decide) rfl ?_
          refine r_lload (pc := 35) hX 19 rfl rfl ?_
          refine r_lstore (ls' := [(1, a), (3, 0), (1, b), (3, 0), (1, y), (3, 0), (1, z28), (3, 0), (0, i), (1, z28), (3, 0)]) (pc := 37) hX 20 rfl (by decide) rfl ?_
          refine r_iinc (ls' := [(1, a), (3, 0), (1, b), (3, 0), (1, y), (3, 0), (1, z28), (3, 0), (0, (i + 1)), (1, z28), (3, 0)]) (pc := 39) hX 21 rfl rfl (by decide) rfl ?_
          refine r_goto (pc := 42) hX 22 (tgt := 9) rfl (by decide) ?_
          refine r_wk (ls' := [(1, a), (3, 0), (1, b), (3, 0), (1, y), (3, 0), (1, z28), (3, 0), (0, (i + 1)), (3, 0), (3, 0)]) ⟨Or.inr rfl, Or.inr rfl, Or.inr rfl, Or.inr rfl, Or.inr rfl, Or.inr rfl, Or.inr rfl, Or.inr rfl, Or.inr rfl, Or.inl rfl, Or.inr rfl, trivial⟩ ?_
          exact (ih9 y z28 (i + 1) (by omega) (by omega) (by omega) (by omega))
  exact (L9 _ a b 0 (by omega) (by omega) (by omega) (Nat.lt_succ_self _))
set_option maxHeartbeats 4000000 in
set_option maxRecDepth 100000 in
theorem c_X11_part (g : Gp) (ω : Rw) (v ρ : Mv) (Z : Mz) (hH : HT ω v ρ Z) (a : Int) (b : Int) (w : Int) (hw : w = 0 ∨ w = 1) : Ok g 2 0 0 F_X11_part [(1, a), (1, b), (0, w)] v ρ Z (fun o9 v' ρ' Z' => ρ = ρ' ∧ Z = Z' ∧ v = v' ∧ ∃ r : Int, o9 = some (1, r) ∧ True) := by
  refine Ok.of mo_X11_part (Nat.le_of_ble_eq_true rfl) ?_
  intro X hX hRm hxn hQ
  show wp g X F_X11_part 0 0 0 [(1, a), (3, 0), (1, b), (3, 0), (0, w), (3, 0), (3, 0)] [] v ρ Z
  refine r_lload_n (pc := 0) hX 0 rfl rfl ?_
  refine r_mabs (pc := 1) hX 1 rfl ml_X11_391 (by rw [hRm]; exact ⟨by decide, by decide, by decide, by decide⟩) (Nat.le_of_ble_eq_true rfl) (fun z1 hz1 => ?_)
  refine r_lload_n (pc := 4) hX 2 rfl rfl ?_
  refine r_lany _ (fun z4 hz4 => ?_)
  refine r_callS (as := [(1, z1), (1, z4)]) (st := []) (pc := 5) hX 3 rfl mo_X11_commonDivisor ml_X11_397 stt_X11_commonDivisor (c_X11_commonDivisor g ω v ρ Z hH (z1) (z4) (by omega) (by omega)) rfl (by rw [hRm]; exact ⟨by decide, by decide⟩) (by rw [hRm]; exact ⟨by decide, by decide⟩) (Nat.le_of_ble_eq_true rfl) (fun o5 v5 ρv5 Zv5 hq5 _ => ?_)
  obtain ⟨rfl, rfl, rfl, r5, rfl, hq5⟩ := hq5
  show wp g X F_X11_part 0 0 8 [(1, a), (3, 0), (1, b), (3, 0), (0, w), (3, 0), (3, 0)] [(1, r5)] v ρ Z
  refine r_lstore (ls' := [(1, a), (3, 0), (1, b), (3, 0), (0, w), (1, r5), (3, 0)]) (pc := 8) hX 4 rfl (by decide) rfl ?_
  refine r_lload (pc := 10) hX 5 rfl rfl ?_
  refine r_lconst (pc := 12) hX 6 rfl ?_
  show wp g X F_X11_part 0 0 13 [(1, a), (3, 0), (1, b), (3, 0), (0, w), (1, r5), (3, 0)] [(1, 0), (1, r5)] v ρ Z
  refine r_lcmp (pc := 13) hX 7 rfl (⟨by omega, by omega⟩) (⟨by omega, by omega⟩) ?_
  refine r_if_gt (pc := 14) hX 8 (tgt := 21) rfl (by decide) (cmpI_in _ _) (fun h14 => ?_) (fun h14 => ?_)
  · rw [cmpI_gt] at h14
    refine r_iload (pc := 21) hX 12 rfl rfl ?_
    have L31 : ∀ (q : Int) , wp g X F_X11_part 0 0 31 [(1, a), (3, 0), (1, b), (3, 0), (0, w), (1, r5), (3, 0)] [(1, q)] v ρ Z := by
      intro q
      refine r_lload (pc := 31) hX 17 rfl rfl ?_
      refine r_ldiv_any (pc := 33) hX 18 rfl (hq5) (by omega) (fun z33 hz33 => ?_)
      exact r_lret (pc := 34) hX 19 hQ rfl rfl (Nat.le_of_ble_eq_true rfl) (Nat.le_of_ble_eq_true rfl) ⟨rfl, rfl, rfl, z33, rfl, trivial⟩
    first | refine r_if_ne (pc := 23) hX 13 (tgt := 30) rfl (by decide) (⟨by omega, by omega⟩) (fun h23 => ?_) (fun h23 => ?_) | refine r_if_ne_any (pc := 23) hX 13 (tgt := 30) rfl (by decide) ?_ ?_
    · refine r_lload_n (pc := 30) hX 16 rfl rfl ?_
      exact (L31 b  )
    · refine r_lload_n (pc := 26) hX 14 rfl rfl ?_
      refine r_goto (pc := 27) hX 15 (tgt := 31) rfl (by decide) ?_
      exact (L31 a  )
  · rw [cmpI_gt] at h14
    refine r_iload (pc := 17) hX 9 rfl rfl ?_
    refine r_i2l (pc := 19) hX 10 rfl ⟨by omega, by omega⟩ ?_
    exact r_lret (pc := 20) hX 11 hQ rfl rfl (Nat.le_of_ble_eq_true rfl) (Nat.le_of_ble_eq_true rfl) ⟨rfl, rfl, rfl, w, rfl, trivial⟩
