set_option maxHeartbeats 4000000 in
set_option maxRecDepth 100000 in
theorem c_X4_hasColourF (g : Gp) (ω : Rw) (v ρ : Mv) (Z : Mz) (hH : HT ω v ρ Z) (t : Int) (ht : ω t = 5) (c : Int) (hcr : inR c) : Ok g 1 0 0 F_X4_hasColour [(2, t), (0, c)] v ρ Z (fun o9 v' ρ' Z' => ρ = ρ' ∧ Z = Z' ∧ v = v' ∧ ∃ r : Int, o9 = some (0, r) ∧ ((r = 1 ∧ 0 ≤ c ∧ c < v t 8 ∨ r = 0 ∧ ¬ (0 ≤ c ∧ c < v t 8)))) := by
  refine Ok.of mo_X4_hasColour (Nat.le_of_ble_eq_true rfl) ?_
  intro X hX hRm hxn hQ
  show wp g X F_X4_hasColour 0 0 0 [(2, t), (0, c)] [] v ρ Z
  refine r_iload_n (pc := 0) hX 0 rfl rfl ?_
  first | refine r_if_lt (pc := 1) hX 1 (tgt := 16) rfl (by decide) (⟨by omega, by omega⟩) (fun h1 => ?_) (fun h1 => ?_) | refine r_if_lt_any (pc := 1) hX 1 (tgt := 16) rfl (by decide) ?_ ?_
  · refine r_iconst (pc := 16) hX 8 rfl ?_
    exact r_zret (pc := 17) hX 9 hQ rfl rfl ⟨by omega, by omega⟩ (Nat.le_of_ble_eq_true rfl) (Nat.le_of_ble_eq_true rfl) ⟨rfl, rfl, rfl, 0, rfl, (by omega)⟩
  · refine r_iload_n (pc := 4) hX 2 rfl rfl ?_
    refine t_getI (y := (v t 8)) (pc := 5) hX 3 rfl rfl rfl fl_X4_47 rfl (hH.kd ht (by decide)) (rfl) ?_
    have hb5 : 0 ≤ (v t 8) ∧ (v t 8) ≤ 4 := hH.rg ht (by decide) rfl
    first | refine r_icmp_ge (pc := 9) hX 5 (tgt := 16) rfl (by decide) (⟨by omega, by omega⟩) (⟨by omega, by omega⟩) (fun h9 => ?_) (fun h9 => ?_) | refine r_icmp_ge_any (pc := 9) hX 5 (tgt := 16) rfl (by decide) ?_ ?_
    · refine r_iconst (pc := 16) hX 8 rfl ?_
      exact r_zret (pc := 17) hX 9 hQ rfl rfl ⟨by omega, by omega⟩ (Nat.le_of_ble_eq_true rfl) (Nat.le_of_ble_eq_true rfl) ⟨rfl, rfl, rfl, 0, rfl, (by omega)⟩
    · refine r_iconst (pc := 12) hX 6 rfl ?_
      refine r_goto (pc := 13) hX 7 (tgt := 17) rfl (by decide) ?_
      exact r_zret (pc := 17) hX 9 hQ rfl rfl ⟨by omega, by omega⟩ (Nat.le_of_ble_eq_true rfl) (Nat.le_of_ble_eq_true rfl) ⟨rfl, rfl, rfl, 1, rfl, (by omega)⟩
set_option maxHeartbeats 4000000 in
set_option maxRecDepth 100000 in
theorem c_X4_hasLandF (g : Gp) (ω : Rw) (v ρ : Mv) (Z : Mz) (hH : HT ω v ρ Z) (t : Int) (ht : ω t = 5) (c : Int) (hcr : inR c) : Ok g 1 0 0 F_X4_hasLand [(2, t), (0, c)] v ρ Z (fun o9 v' ρ' Z' => ρ = ρ' ∧ Z = Z' ∧ v = v' ∧ ∃ r : Int, o9 = some (0, r) ∧ ((r = 1 ∧ 0 ≤ c ∧ c < v t 9 ∨ r = 0 ∧ ¬ (0 ≤ c ∧ c < v t 9)))) := by
  refine Ok.of mo_X4_hasLand (Nat.le_of_ble_eq_true rfl) ?_
  intro X hX hRm hxn hQ
  show wp g X F_X4_hasLand 0 0 0 [(2, t), (0, c)] [] v ρ Z
  refine r_iload_n (pc := 0) hX 0 rfl rfl ?_
  first | refine r_if_lt (pc := 1) hX 1 (tgt := 16) rfl (by decide) (⟨by omega, by omega⟩) (fun h1 => ?_) (fun h1 => ?_) | refine r_if_lt_any (pc := 1) hX 1 (tgt := 16) rfl (by decide) ?_ ?_
  · refine r_iconst (pc := 16) hX 8 rfl ?_
    exact r_zret (pc := 17) hX 9 hQ rfl rfl ⟨by omega, by omega⟩ (Nat.le_of_ble_eq_true rfl) (Nat.le_of_ble_eq_true rfl) ⟨rfl, rfl, rfl, 0, rfl, (by omega)⟩
  · refine r_iload_n (pc := 4) hX 2 rfl rfl ?_
    refine t_getI (y := (v t 9)) (pc := 5) hX 3 rfl rfl rfl fl_X4_54 rfl (hH.kd ht (by decide)) (rfl) ?_
    have hb5 : 0 ≤ (v t 9) ∧ (v t 9) ≤ 3 := hH.rg ht (by decide) rfl
    first | refine r_icmp_ge (pc := 9) hX 5 (tgt := 16) rfl (by decide) (⟨by omega, by omega⟩) (⟨by omega, by omega⟩) (fun h9 => ?_) (fun h9 => ?_) | refine r_icmp_ge_any (pc := 9) hX 5 (tgt := 16) rfl (by decide) ?_ ?_
    · refine r_iconst (pc := 16) hX 8 rfl ?_
      exact r_zret (pc := 17) hX 9 hQ rfl rfl ⟨by omega, by omega⟩ (Nat.le_of_ble_eq_true rfl) (Nat.le_of_ble_eq_true rfl) ⟨rfl, rfl, rfl, 0, rfl, (by omega)⟩
    · refine r_iconst (pc := 12) hX 6 rfl ?_
      refine r_goto (pc := 13) hX 7 (tgt := 17) rfl (by decide) ?_
      exact r_zret (pc := 17) hX 9 hQ rfl rfl ⟨by omega, by omega⟩ (Nat.le_of_ble_eq_true rfl) (Nat.le_of_ble_eq_true rfl) ⟨rfl, rfl, rfl, 1, rfl, (by omega)⟩
set_option maxHeartbeats 4000000 in
set_option maxRecDepth 100000 in
theorem c_X4_hasKindF (g : Gp) (ω : Rw) (v ρ : Mv) (Z : Mz) (hH : HT ω v ρ Z) (t : Int) (ht : ω t = 5) (c : Int) (hcr : inR c) : Ok g 2 0 0 F_X4_hasKind [(2, t), (0, c)] v ρ Z (fun o9 v' ρ' Z' => ρ = ρ' ∧ Z = Z' ∧ v = v' ∧ ∃ r : Int, o9 = some (0, r) ∧ ((r = 1 ∧ (c = -1 ∨ 0 ≤ c ∧ c < v t 8) ∨ r = 0 ∧ ¬ (c = -1 ∨ 0 ≤ c ∧ c < v t 8)))) := by
  refine Ok.of mo_X4_hasKind (Nat.le_of_ble_eq_true rfl) ?_
  intro X hX hRm hxn hQ
  show wp g X F_X4_hasKind 0 0 0 [(2, t), (0, c)] [] v ρ Z
  refine r_iload_n (pc := 0) hX 0 rfl rfl ?_
  refine r_iconst (pc := 1) hX 1 rfl ?_
  first | refine r_icmp_eq (pc := 2) hX 2 (tgt := 13) rfl (by decide) (⟨by omega, by omega⟩) (⟨by omega, by omega⟩) (fun h2 => ?_) (fun h2 => ?_) | refine r_icmp_eq_any (pc := 2) hX 2 (tgt := 13) rfl (by decide) ?_ ?_
  · refine r_iconst (pc := 13) hX 7 rfl ?_
    refine r_goto (pc := 14) hX 8 (tgt := 18) rfl (by decide) ?_
    exact r_zret (pc := 18) hX 10 hQ rfl rfl ⟨by omega, by omega⟩ (Nat.le_of_ble_eq_true rfl) (Nat.le_of_ble_eq_true rfl) ⟨rfl, rfl, rfl, 1, rfl, (by omega)⟩
  · refine r_aload_n (pc := 5) hX 3 rfl rfl ?_
    refine r_iload_n (pc := 6) hX 4 rfl rfl ?_
    refine r_callV (as := [(0, c)]) (st := []) (K := 4) (pc := 7) hX 5 rfl mo_X4_hasColour ml_X4_50 im_X4_hasColour se_X4_hasColour (c_X4_hasColourF g ω v ρ Z hH t ht (c) (by omega)) rfl rfl rfl (hH.kd ht (by decide)) (by rw [hRm]; exact ⟨by decide, by decide⟩) (by rw [hRm]; exact ⟨by decide, by decide⟩) (Nat.le_of_ble_eq_true rfl) (fun o7 v7 ρv7 Zv7 hq7 _ => ?_)
    obtain ⟨rfl, rfl, rfl, r7, rfl, hq7⟩ := hq7
    show wp g X F_X4_hasKind 0 0 10 [(2, t), (0, c)] [(0, r7)] v ρ Z
    first | refine r_if_eq (pc := 10) hX 6 (tgt := 17) rfl (by decide) (⟨by omega, by omega⟩) (fun h10 => ?_) (fun h10 => ?_) | refine r_if_eq_any (pc := 10) hX 6 (tgt := 17) rfl (by decide) ?_ ?_
    · refine r_iconst (pc := 17) hX 9 rfl ?_
      exact r_zret (pc := 18) hX 10 hQ rfl rfl ⟨by omega, by omega⟩ (Nat.le_of_ble_eq_true rfl) (Nat.le_of_ble_eq_true rfl) ⟨rfl, rfl, rfl, 0, rfl, (by omega)⟩
    · refine r_iconst (pc := 13) hX 7 rfl ?_
      refine r_goto (pc := 14) hX 8 (tgt := 18) rfl (by decide) ?_
      exact r_zret (pc := 18) hX 10 hQ rfl rfl ⟨by omega, by omega⟩ (Nat.le_of_ble_eq_true rfl) (Nat.le_of_ble_eq_true rfl) ⟨rfl, rfl, rfl, 1, rfl, (by omega)⟩
set_option maxHeartbeats 4000000 in
set_option maxRecDepth 100000 in
theorem c_X11_landF (g : Gp) (ω : Rw) (v ρ : Mv) (Z : Mz) (hH : HT ω v ρ Z) (t : Int) (ht : ω t = 1) (l : Int) (c : Int) (hlr : inR l) (hcr : inR c) : Ok g 3 0 0 F_X11_land [(2, t), (0, l), (0, c)] v ρ Z (fun o9 v' ρ' Z' => ρ = ρ' ∧ Z = Z' ∧ v = v' ∧ ∃ r : Int, o9 = some (0, r) ∧ ((0 ≤ l ∧ l < v (ρ (ρ t 4) 0) 9 ∧ (c = -1 ∧ r = v (ρ (ρ (ρ (ρ t 4) 0) 5) l) 4 ∨ 0 ≤ c ∧ c < v (ρ (ρ t 4) 0) 8 ∧ r = v (ρ (ρ (ρ (ρ t 4) 0) 5) l) c) ∨ ¬ (0 ≤ l ∧ l < v (ρ (ρ t 4) 0) 9 ∧ (c = -1 ∨ 0 ≤ c ∧ c < v (ρ (ρ t 4) 0) 8)) ∧ r = -1))) := by
  refine Ok.of mo_X11_land (Nat.le_of_ble_eq_true rfl) ?_
  intro X hX hRm hxn hQ
  show wp g X F_X11_land 0 0 0 [(2, t), (0, l), (0, c)] [] v ρ Z
  have hwT : ω (ρ t 4) = 22 := hH.rf ht (by decide) rfl
  have hwR : ω (ρ (ρ t 4) 0) = 5 := hH.rf hwT (by decide) rfl
  have hgR8 : 0 ≤ v (ρ (ρ t 4) 0) 8 ∧ v (ρ (ρ t 4) 0) 8 ≤ 4 := hH.rg hwR (by decide) rfl
  have hgR9 : 0 ≤ v (ρ (ρ t 4) 0) 9 ∧ v (ρ (ρ t 4) 0) 9 ≤ 3 := hH.rg hwR (by decide) rfl
  have hgR10 : 0 ≤ v (ρ (ρ t 4) 0) 10 ∧ v (ρ (ρ t 4) 0) 10 ≤ 3 := hH.rg hwR (by decide) rfl
  have hwX : ω (ρ t 0) = 2 := hH.rf ht (by decide) rfl
  have hgL : 0 ≤ v (ρ t 0) 1 ∧ v (ρ t 0) 1 ≤ 940 := hH.rg hwX (by decide) rfl
  refine t_getR (q := (ρ t 4)) (pc := 0) hX 0 rfl rfl rfl fl_X11_47 rfl (hH.kd ht (by decide)) (rfl) ?_
  have hw0_ : ω (ρ t 4) = 22 := hH.rf ht (by decide) rfl
  refine r_getR (q := (ρ (ρ t 4) 0)) (pc := 4) hX 2 rfl fl_X11_51 rfl (hH.kd hw0_ (by decide)) (rfl) ?_
  have hw4_ : ω (ρ (ρ t 4) 0) = 5 := hH.rf hw0_ (by decide) rfl
  refine r_iload_n (pc := 7) hX 3 rfl rfl ?_
  refine r_callV (as := [(0, l)]) (st := []) (K := 4) (pc := 8) hX 4 rfl mo_X4_hasLand ml_X11_166 im_X4_hasLand se_X4_hasLand (c_X4_hasLandF g ω v ρ Z hH (ρ (ρ t 4) 0) hw4_ (l) (by omega)) rfl rfl rfl (hH.kd hw4_ (by decide)) (by rw [hRm]; exact ⟨by decide, by decide⟩) (by rw [hRm]; exact ⟨by decide, by decide⟩) (Nat.le_of_ble_eq_true rfl) (fun o8 v8 ρv8 Zv8 hq8 _ => ?_)
  obtain ⟨rfl, rfl, rfl, r8, rfl, hq8⟩ := hq8
  show wp g X F_X11_land 0 0 11 [(2, t), (0, l), (0, c)] [(0, r8)] v ρ Z
  have L28 : (¬ (0 ≤ l ∧ l < v (ρ (ρ t 4) 0) 9 ∧ (c = -1 ∨ 0 ≤ c ∧ c < v (ρ (ρ t 4) 0) 8))) → wp g X F_X11_land 0 0 28 [(2, t), (0, l), (0, c)] [] v ρ Z := by
    intro i28
    refine r_iconst (pc := 28) hX 12 rfl ?_
    exact r_iret (pc := 29) hX 13 hQ rfl rfl (Nat.le_of_ble_eq_true rfl) (Nat.le_of_ble_eq_true rfl) ⟨rfl, rfl, rfl, (-1), rfl, (Or.inr ⟨i28, rfl⟩)⟩
  first | refine r_if_eq (pc := 11) hX 5 (tgt := 28) rfl (by decide) (⟨by omega, by omega⟩) (fun h11 => ?_) (fun h11 => ?_) | refine r_if_eq_any (pc := 11) hX 5 (tgt := 28) rfl (by decide) ?_ ?_
  · exact (L28  (by omega) )
  · refine t_getR (q := (ρ t 4)) (pc := 14) hX 6 rfl rfl rfl fl_X11_47 rfl (hH.kd ht (by decide)) (rfl) ?_
    refine r_getR (q := (ρ (ρ t 4) 0)) (pc := 18) hX 8 rfl fl_X11_51 rfl (hH.kd hw0_ (by decide)) (rfl) ?_
    refine r_iload_n (pc := 21) hX 9 rfl rfl ?_
    refine r_callV (as := [(0, c)]) (st := []) (K := 4) (pc := 22) hX 10 rfl mo_X4_hasKind ml_X11_169 im_X4_hasKind se_X4_hasKind (c_X4_hasKindF g ω v ρ Z hH (ρ (ρ t 4) 0) hw4_ (c) (by omega)) rfl rfl rfl (hH.kd hw4_ (by decide)) (by rw [hRm]; exact ⟨by decide, by decide⟩) (by rw [hRm]; exact ⟨by decide, by decide⟩) (Nat.le_of_ble_eq_true rfl) (fun o22 v22 ρv22 Zv22 hq22 _ => ?_)
    obtain ⟨rfl, rfl, rfl, r22, rfl, hq22⟩ := hq22
    show wp g X F_X11_land 0 0 25 [(2, t), (0, l), (0, c)] [(0, r22)] v ρ Z
    first | refine r_if_ne (pc := 25) hX 11 (tgt := 30) rfl (by decide) (⟨by omega, by omega⟩) (fun h25 => ?_) (fun h25 => ?_) | refine r_if_ne_any (pc := 25) hX 11 (tgt := 30) rfl (by decide) ?_ ?_
    · refine t_getR (q := (ρ t 4)) (pc := 30) hX 14 rfl rfl rfl fl_X11_47 rfl (hH.kd ht (by decide)) (rfl) ?_
      refine r_getR (q := (ρ (ρ t 4) 0)) (pc := 34) hX 16 rfl fl_X11_51 rfl (hH.kd hw0_ (by decide)) (rfl) ?_
      refine r_getR (q := (ρ (ρ (ρ t 4) 0) 5)) (pc := 37) hX 17 rfl fl_X11_172 rfl (hH.kd hw4_ (by decide)) (rfl) ?_
      have hw37_ : ω (ρ (ρ (ρ t 4) 0) 5) = 12 := hH.rf hw4_ (by decide) rfl
      refine r_iload_n (pc := 40) hX 18 rfl rfl ?_
      refine r_aald (q := (ρ (ρ (ρ (ρ t 4) 0) 5) l)) (pc := 41) hX 19 19 rfl (hH.kd hw37_ (by decide)) (by decide) (by decide) rfl rfl (by omega) (by rw [show Z.2.1 (ρ (ρ (ρ t 4) 0) 5) = 3 from (hH.ln hw37_ (by decide))]; omega) (rfl) ?_
      have hw41_ : ω (ρ (ρ (ρ (ρ t 4) 0) 5) l) = 13 := hH.rf hw37_ (by decide) (rf12 ⟨by omega, by omega⟩)
      refine r_iload_n (pc := 42) hX 20 rfl rfl ?_
      refine r_callS (as := [(0, c)]) (st := [(2, (ρ (ρ (ρ (ρ t 4) 0) 5) l))]) (pc := 43) hX 21 rfl mo_X11_kindOf ml_X11_176 stt_X11_kindOf (c_X11_kindOf g ω v ρ Z hH (c) (by omega)) rfl (by rw [hRm]; exact ⟨by decide, by decide⟩) (by rw [hRm]; exact ⟨by decide, by decide⟩) (Nat.le_of_ble_eq_true rfl) (fun o43 v43 ρv43 Zv43 hq43 _ => ?_)
      obtain ⟨rfl, rfl, rfl, r43, rfl, hq43⟩ := hq43
      show wp g X F_X11_land 0 0 46 [(2, t), (0, l), (0, c)] [(0, r43), (2, (ρ (ρ (ρ (ρ t 4) 0) 5) l))] v ρ Z
      refine e_iald (y := (v (ρ (ρ (ρ (ρ t 4) 0) 5) l) r43)) (n := 5) (pc := 46) hX 22 rfl (hH.kd hw41_ (by decide)) (hH.ln hw41_ (by decide)) (by omega) (by omega) (rfl) ?_
      have hb46 : 0 ≤ (v (ρ (ρ (ρ (ρ t 4) 0) 5) l) r43) ∧ (v (ρ (ρ (ρ (ρ t 4) 0) 5) l) r43) ≤ 12 := hH.rg hw41_ (by decide) rfl
      exact r_iret (pc := 47) hX 23 hQ rfl rfl (Nat.le_of_ble_eq_true rfl) (Nat.le_of_ble_eq_true rfl) ⟨rfl, rfl, rfl, (v (ρ (ρ (ρ (ρ t 4) 0) 5) l) r43), rfl, (by
        rcases hq43 with ⟨a, b⟩ | ⟨a, b⟩
        · subst b
          exact Or.inl ⟨by omega, by omega, Or.inl ⟨a, rfl⟩⟩
        · subst b
          exact Or.inl ⟨by omega, by omega, Or.inr ⟨by omega, by omega, rfl⟩⟩)⟩
    · exact (L28  (by omega) )
