set_option maxHeartbeats 4000000 in
set_option maxRecDepth 100000 in
theorem c_X4_hasColour (g : Gp) (ω : Rw) (v ρ : Mv) (Z : Mz) (hH : HT ω v ρ Z) (t : Int) (ht : ω t = 5) (c : Int) (hcr : inR c) : Ok g 1 0 0 F_X4_hasColour [(2, t), (0, c)] v ρ Z (fun o9 v' ρ' Z' => ρ = ρ' ∧ Z = Z' ∧ v = v' ∧ ∃ r : Int, o9 = some (0, r) ∧ (0 ≤ r ∧ r ≤ 1 ∧ (r = 1 → 0 ≤ c ∧ c < v t 8))) := by
  refine Ok.of mo_X4_hasColour (Nat.le_of_ble_eq_true rfl) ?_
  intro X hX hRm hxn hQ
  show wp g X F_X4_hasColour 0 0 0 [(2, t), (0, c)] [] v ρ Z
  refine r_iload_n (pc := 0) hX 0 rfl rfl ?_
  first | refine r_if_lt (pc := 1) hX 1 (tgt := 16) rfl (by decide) (⟨by omega, by omega⟩) (fun h1 => ?_) (fun h1 => ?_) | refine r_if_lt_any (pc := 1) hX 1 (tgt := 16) rfl (by decide) ?_ ?_
  · refine r_iconst (pc := 16) hX 8 rfl ?_
    exact r_zret (pc := 17) hX 9 hQ rfl rfl ⟨by omega, by omega⟩ (Nat.le_refl 0) (Nat.le_refl 0) ⟨rfl, rfl, rfl, 0, rfl, (by omega)⟩
  · refine r_iload_n (pc := 4) hX 2 rfl rfl ?_
    refine t_getI (y := (v t 8)) (pc := 5) hX 3 rfl rfl rfl fl_X4_47 rfl (hH.kd ht (by decide)) (rfl) ?_
    have hb5 : 0 ≤ (v t 8) ∧ (v t 8) ≤ 4 := hH.rg ht (by decide) rfl
    first | refine r_icmp_ge (pc := 9) hX 5 (tgt := 16) rfl (by decide) (⟨by omega, by omega⟩) (⟨by omega, by omega⟩) (fun h9 => ?_) (fun h9 => ?_) | refine r_icmp_ge_any (pc := 9) hX 5 (tgt := 16) rfl (by decide) ?_ ?_
    · refine r_iconst (pc := 16) hX 8 rfl ?_
      exact r_zret (pc := 17) hX 9 hQ rfl rfl ⟨by omega, by omega⟩ (Nat.le_refl 0) (Nat.le_refl 0) ⟨rfl, rfl, rfl, 0, rfl, (by omega)⟩
    · refine r_iconst (pc := 12) hX 6 rfl ?_
      refine r_goto (pc := 13) hX 7 (tgt := 17) rfl (by decide) ?_
      exact r_zret (pc := 17) hX 9 hQ rfl rfl ⟨by omega, by omega⟩ (Nat.le_refl 0) (Nat.le_refl 0) ⟨rfl, rfl, rfl, 1, rfl, (by omega)⟩
set_option maxHeartbeats 4000000 in
set_option maxRecDepth 100000 in
theorem c_X4_hasKind (g : Gp) (ω : Rw) (v ρ : Mv) (Z : Mz) (hH : HT ω v ρ Z) (t : Int) (ht : ω t = 5) (c : Int) (hcr : inR c) : Ok g 2 0 0 F_X4_hasKind [(2, t), (0, c)] v ρ Z (fun o9 v' ρ' Z' => ρ = ρ' ∧ Z = Z' ∧ v = v' ∧ ∃ r : Int, o9 = some (0, r) ∧ (0 ≤ r ∧ r ≤ 1 ∧ (r = 1 → -1 ≤ c ∧ c < v t 8 ∨ c = -1))) := by
  refine Ok.of mo_X4_hasKind (Nat.le_of_ble_eq_true rfl) ?_
  intro X hX hRm hxn hQ
  show wp g X F_X4_hasKind 0 0 0 [(2, t), (0, c)] [] v ρ Z
  refine r_iload_n (pc := 0) hX 0 rfl rfl ?_
  refine r_iconst (pc := 1) hX 1 rfl ?_
  first | refine r_icmp_eq (pc := 2) hX 2 (tgt := 13) rfl (by decide) (⟨by omega, by omega⟩) (⟨by omega, by omega⟩) (fun h2 => ?_) (fun h2 => ?_) | refine r_icmp_eq_any (pc := 2) hX 2 (tgt := 13) rfl (by decide) ?_ ?_
  · refine r_iconst (pc := 13) hX 7 rfl ?_
    refine r_goto (pc := 14) hX 8 (tgt := 18) rfl (by decide) ?_
    exact r_zret (pc := 18) hX 10 hQ rfl rfl ⟨by omega, by omega⟩ (Nat.le_refl 0) (Nat.le_refl 0) ⟨rfl, rfl, rfl, 1, rfl, (by omega)⟩
  · refine r_aload_n (pc := 5) hX 3 rfl rfl ?_
    refine r_iload_n (pc := 6) hX 4 rfl rfl ?_
    refine r_callV (as := [(0, c)]) (st := []) (K := 4) (pc := 7) hX 5 rfl mo_X4_hasColour ml_X4_50 im_X4_hasColour se_X4_hasColour (c_X4_hasColour g ω v ρ Z hH t ht (c) (by omega)) rfl rfl rfl (hH.kd ht (by decide)) (by rw [hRm]; exact ⟨by decide, by decide⟩) (by rw [hRm]; exact ⟨by decide, by decide⟩) (Nat.le_of_ble_eq_true rfl) (fun o7 v7 ρv7 Zv7 hq7 _ => ?_)
    obtain ⟨rfl, rfl, rfl, r7, rfl, hq7⟩ := hq7
    show wp g X F_X4_hasKind 0 0 10 [(2, t), (0, c)] [(0, r7)] v ρ Z
    first | refine r_if_eq (pc := 10) hX 6 (tgt := 17) rfl (by decide) (⟨by omega, by omega⟩) (fun h10 => ?_) (fun h10 => ?_) | refine r_if_eq_any (pc := 10) hX 6 (tgt := 17) rfl (by decide) ?_ ?_
    · refine r_iconst (pc := 17) hX 9 rfl ?_
      exact r_zret (pc := 18) hX 10 hQ rfl rfl ⟨by omega, by omega⟩ (Nat.le_refl 0) (Nat.le_refl 0) ⟨rfl, rfl, rfl, 0, rfl, (by omega)⟩
    · refine r_iconst (pc := 13) hX 7 rfl ?_
      refine r_goto (pc := 14) hX 8 (tgt := 18) rfl (by decide) ?_
      exact r_zret (pc := 18) hX 10 hQ rfl rfl ⟨by omega, by omega⟩ (Nat.le_refl 0) (Nat.le_refl 0) ⟨rfl, rfl, rfl, 1, rfl, (by omega)⟩
set_option maxHeartbeats 4000000 in
set_option maxRecDepth 100000 in
theorem c_X4_hasLand (g : Gp) (ω : Rw) (v ρ : Mv) (Z : Mz) (hH : HT ω v ρ Z) (t : Int) (ht : ω t = 5) (c : Int) (hcr : inR c) : Ok g 1 0 0 F_X4_hasLand [(2, t), (0, c)] v ρ Z (fun o9 v' ρ' Z' => ρ = ρ' ∧ Z = Z' ∧ v = v' ∧ ∃ r : Int, o9 = some (0, r) ∧ (0 ≤ r ∧ r ≤ 1 ∧ (r = 1 → 0 ≤ c ∧ c < v t 9))) := by
  refine Ok.of mo_X4_hasLand (Nat.le_of_ble_eq_true rfl) ?_
  intro X hX hRm hxn hQ
  show wp g X F_X4_hasLand 0 0 0 [(2, t), (0, c)] [] v ρ Z
  refine r_iload_n (pc := 0) hX 0 rfl rfl ?_
  first | refine r_if_lt (pc := 1) hX 1 (tgt := 16) rfl (by decide) (⟨by omega, by omega⟩) (fun h1 => ?_) (fun h1 => ?_) | refine r_if_lt_any (pc := 1) hX 1 (tgt := 16) rfl (by decide) ?_ ?_
  · refine r_iconst (pc := 16) hX 8 rfl ?_
    exact r_zret (pc := 17) hX 9 hQ rfl rfl ⟨by omega, by omega⟩ (Nat.le_refl 0) (Nat.le_refl 0) ⟨rfl, rfl, rfl, 0, rfl, (by omega)⟩
  · refine r_iload_n (pc := 4) hX 2 rfl rfl ?_
    refine t_getI (y := (v t 9)) (pc := 5) hX 3 rfl rfl rfl fl_X4_54 rfl (hH.kd ht (by decide)) (rfl) ?_
    have hb5 : 0 ≤ (v t 9) ∧ (v t 9) ≤ 3 := hH.rg ht (by decide) rfl
    first | refine r_icmp_ge (pc := 9) hX 5 (tgt := 16) rfl (by decide) (⟨by omega, by omega⟩) (⟨by omega, by omega⟩) (fun h9 => ?_) (fun h9 => ?_) | refine r_icmp_ge_any (pc := 9) hX 5 (tgt := 16) rfl (by decide) ?_ ?_
    · refine r_iconst (pc := 16) hX 8 rfl ?_
      exact r_zret (pc := 17) hX 9 hQ rfl rfl ⟨by omega, by omega⟩ (Nat.le_refl 0) (Nat.le_refl 0) ⟨rfl, rfl, rfl, 0, rfl, (by omega)⟩
    · refine r_iconst (pc := 12) hX 6 rfl ?_
      refine r_goto (pc := 13) hX 7 (tgt := 17) rfl (by decide) ?_
      exact r_zret (pc := 17) hX 9 hQ rfl rfl ⟨by omega, by omega⟩ (Nat.le_refl 0) (Nat.le_refl 0) ⟨rfl, rfl, rfl, 1, rfl, (by omega)⟩
set_option maxHeartbeats 4000000 in
set_option maxRecDepth 100000 in
theorem c_X4_hasPlayer (g : Gp) (ω : Rw) (v ρ : Mv) (Z : Mz) (hH : HT ω v ρ Z) (t : Int) (ht : ω t = 5) (c : Int) (hcr : inR c) : Ok g 1 0 0 F_X4_hasPlayer [(2, t), (0, c)] v ρ Z (fun o9 v' ρ' Z' => ρ = ρ' ∧ Z = Z' ∧ v = v' ∧ ∃ r : Int, o9 = some (0, r) ∧ (0 ≤ r ∧ r ≤ 1 ∧ (r = 1 → 0 ≤ c ∧ c < v t 10))) := by
  refine Ok.of mo_X4_hasPlayer (Nat.le_of_ble_eq_true rfl) ?_
  intro X hX hRm hxn hQ
  show wp g X F_X4_hasPlayer 0 0 0 [(2, t), (0, c)] [] v ρ Z
  refine r_iload_n (pc := 0) hX 0 rfl rfl ?_
  first | refine r_if_lt (pc := 1) hX 1 (tgt := 16) rfl (by decide) (⟨by omega, by omega⟩) (fun h1 => ?_) (fun h1 => ?_) | refine r_if_lt_any (pc := 1) hX 1 (tgt := 16) rfl (by decide) ?_ ?_
  · refine r_iconst (pc := 16) hX 8 rfl ?_
    exact r_zret (pc := 17) hX 9 hQ rfl rfl ⟨by omega, by omega⟩ (Nat.le_refl 0) (Nat.le_refl 0) ⟨rfl, rfl, rfl, 0, rfl, (by omega)⟩
  · refine r_iload_n (pc := 4) hX 2 rfl rfl ?_
    refine t_getI (y := (v t 10)) (pc := 5) hX 3 rfl rfl rfl fl_X4_57 rfl (hH.kd ht (by decide)) (rfl) ?_
    have hb5 : 0 ≤ (v t 10) ∧ (v t 10) ≤ 3 := hH.rg ht (by decide) rfl
    first | refine r_icmp_ge (pc := 9) hX 5 (tgt := 16) rfl (by decide) (⟨by omega, by omega⟩) (⟨by omega, by omega⟩) (fun h9 => ?_) (fun h9 => ?_) | refine r_icmp_ge_any (pc := 9) hX 5 (tgt := 16) rfl (by decide) ?_ ?_
    · refine r_iconst (pc := 16) hX 8 rfl ?_
      exact r_zret (pc := 17) hX 9 hQ rfl rfl ⟨by omega, by omega⟩ (Nat.le_refl 0) (Nat.le_refl 0) ⟨rfl, rfl, rfl, 0, rfl, (by omega)⟩
    · refine r_iconst (pc := 12) hX 6 rfl ?_
      refine r_goto (pc := 13) hX 7 (tgt := 17) rfl (by decide) ?_
      exact r_zret (pc := 17) hX 9 hQ rfl rfl ⟨by omega, by omega⟩ (Nat.le_refl 0) (Nat.le_refl 0) ⟨rfl, rfl, rfl, 1, rfl, (by omega)⟩
set_option maxHeartbeats 4000000 in
set_option maxRecDepth 100000 in
theorem c_X4_rows (g : Gp) (ω : Rw) (v ρ : Mv) (Z : Mz) (hH : HT ω v ρ Z) (t : Int) (ht : ω t = 5)  : Ok g 1 0 0 F_X4_rows [(2, t)] v ρ Z (fun o9 v' ρ' Z' => ρ = ρ' ∧ Z = Z' ∧ v = v' ∧ ∃ r : Int, o9 = some (0, r) ∧ (1 ≤ r ∧ r ≤ 3 ∧ (v t 9 = 0 ∧ r = 1 ∨ r = v t 9))) := by
  refine Ok.of mo_X4_rows (Nat.le_of_ble_eq_true rfl) ?_
  intro X hX hRm hxn hQ
  show wp g X F_X4_rows 0 0 0 [(2, t)] [] v ρ Z
  refine t_getI (y := (v t 9)) (pc := 0) hX 0 rfl rfl rfl fl_X4_54 rfl (hH.kd ht (by decide)) (rfl) ?_
  have hb0 : 0 ≤ (v t 9) ∧ (v t 9) ≤ 3 := hH.rg ht (by decide) rfl
  first | refine r_if_ne (pc := 4) hX 2 (tgt := 11) rfl (by decide) (⟨by omega, by omega⟩) (fun h4 => ?_) (fun h4 => ?_) | refine r_if_ne_any (pc := 4) hX 2 (tgt := 11) rfl (by decide) ?_ ?_
  · refine t_getI (y := (v t 9)) (pc := 11) hX 5 rfl rfl rfl fl_X4_54 rfl (hH.kd ht (by decide)) (rfl) ?_
    exact r_iret (pc := 15) hX 7 hQ rfl rfl (Nat.le_refl 0) (Nat.le_refl 0) ⟨rfl, rfl, rfl, (v t 9), rfl, (by omega)⟩
  · refine r_iconst (pc := 7) hX 3 rfl ?_
    refine r_goto (pc := 8) hX 4 (tgt := 15) rfl (by decide) ?_
    exact r_iret (pc := 15) hX 7 hQ rfl rfl (Nat.le_refl 0) (Nat.le_refl 0) ⟨rfl, rfl, rfl, 1, rfl, (by omega)⟩
set_option maxHeartbeats 4000000 in
set_option maxRecDepth 100000 in
theorem c_X4_indexIn (g : Gp) (ω : Rw) (v ρ : Mv) (Z : Mz) (hH : HT ω v ρ Z) (a : Int) (hak : Z.1 a = 14) (m : Int) (x : Int) (hmr : inR m) : Ok g 1 0 0 F_X4_indexIn [(2, a), (0, m), (1, x)] v ρ Z (fun o9 v' ρ' Z' => ρ = ρ' ∧ Z = Z' ∧ v = v' ∧ ∃ r : Int, o9 = some (0, r) ∧ (-1 ≤ r ∧ (0 ≤ r → r < m))) := by
  refine Ok.of mo_X4_indexIn (Nat.le_of_ble_eq_true rfl) ?_
  intro X hX hRm hxn hQ
  show wp g X F_X4_indexIn 0 0 0 [(2, a), (0, m), (1, x), (3, 0), (3, 0)] [] v ρ Z
  refine r_iconst (pc := 0) hX 0 rfl ?_
  refine r_istore (ls' := [(2, a), (0, m), (1, x), (3, 0), (0, 0)]) (pc := 1) hX 1 rfl (by decide) rfl ?_
  have L3 : ∀ (n3 : Nat) (i : Int) , (0 ≤ i ∧ (i ≤ m ∨ m < 0 ∧ i = 0)) → (m - i).toNat < n3 → wp g X F_X4_indexIn 0 0 3 [(2, a), (0, m), (1, x), (3, 0), (0, i)] [] v ρ Z := by
    intro n3
    induction n3 with
    | zero => intro i ii hme3; exact absurd hme3 (Nat.not_lt_zero _)
    | succ n3 ih3 =>
      intro i ii hme3
      refine r_iload (pc := 3) hX 2 rfl rfl ?_
      refine r_iload_n (pc := 5) hX 3 rfl rfl ?_
      first | refine r_icmp_ge (pc := 6) hX 4 (tgt := 34) rfl (by decide) (⟨by omega, by omega⟩) (⟨by omega, by omega⟩) (fun h6 => ?_) (fun h6 => ?_) | refine r_icmp_ge_any (pc := 6) hX 4 (tgt := 34) rfl (by decide) ?_ ?_
      · refine r_iconst (pc := 34) hX 19 rfl ?_
        exact r_iret (pc := 35) hX 20 hQ rfl rfl (Nat.le_refl 0) (Nat.le_refl 0) ⟨rfl, rfl, rfl, (-1), rfl, (by omega)⟩
      · refine r_iload (pc := 9) hX 5 rfl rfl ?_
        refine r_aload_n (pc := 11) hX 6 rfl rfl ?_
        refine r_alen (pc := 12) hX 7 14 rfl hak (by decide) (by decide) (fun _ _ => ?_)
        have hl12 : 0 ≤ (Z.2.1 a) ∧ (Z.2.1 a) < 2147483648 := ⟨by assumption, by assumption⟩
        first | refine r_icmp_ge (pc := 13) hX 8 (tgt := 34) rfl (by decide) (⟨by omega, by omega⟩) (⟨by omega, by omega⟩) (fun h13 => ?_) (fun h13 => ?_) | refine r_icmp_ge_any (pc := 13) hX 8 (tgt := 34) rfl (by decide) ?_ ?_
        · refine r_iconst (pc := 34) hX 19 rfl ?_
          exact r_iret (pc := 35) hX 20 hQ rfl rfl (Nat.le_refl 0) (Nat.le_refl 0) ⟨rfl, rfl, rfl, (-1), rfl, (by omega)⟩
        · refine r_aload_n (pc := 16) hX 9 rfl rfl ?_
          refine r_iload (pc := 17) hX 10 rfl rfl ?_
          refine e_lald (y := (v a i)) (n := (Z.2.1 a)) (pc := 19) hX 11 rfl hak rfl (by omega) (by omega) (rfl) ?_
          refine r_lload_n (pc := 20) hX 12 rfl rfl ?_
          refine r_lcmp_any (pc := 21) hX 13 rfl (fun z21 hz21a hz21b => ?_)
          first | refine r_if_ne (pc := 22) hX 14 (tgt := 28) rfl (by decide) (⟨by omega, by omega⟩) (fun h22 => ?_) (fun h22 => ?_) | refine r_if_ne_any (pc := 22) hX 14 (tgt := 28) rfl (by decide) ?_ ?_
          · refine r_iinc (ls' := [(2, a), (0, m), (1, x), (3, 0), (0, (i + 1))]) (pc := 28) hX 17 rfl rfl (by decide) rfl ?_
            refine r_goto (pc := 31) hX 18 (tgt := 3) rfl (by decide) ?_
            exact (ih3 (i + 1) (by omega) (by omega))
          · refine r_iload (pc := 25) hX 15 rfl rfl ?_
            exact r_iret (pc := 27) hX 16 hQ rfl rfl (Nat.le_refl 0) (Nat.le_refl 0) ⟨rfl, rfl, rfl, i, rfl, (by omega)⟩
  exact (L3 _ 0 (by omega) (Nat.lt_succ_self _))
set_option maxHeartbeats 4000000 in
set_option maxRecDepth 100000 in
theorem c_X4_colourNamed (g : Gp) (ω : Rw) (v ρ : Mv) (Z : Mz) (hH : HT ω v ρ Z) (t : Int) (ht : ω t = 5) (x : Int)  : Ok g 2 0 0 F_X4_colourNamed [(2, t), (1, x)] v ρ Z (fun o9 v' ρ' Z' => ρ = ρ' ∧ Z = Z' ∧ v = v' ∧ ∃ r : Int, o9 = some (0, r) ∧ (-1 ≤ r ∧ r < v t 8)) := by
  refine Ok.of mo_X4_colourNamed (Nat.le_of_ble_eq_true rfl) ?_
  intro X hX hRm hxn hQ
  show wp g X F_X4_colourNamed 0 0 0 [(2, t), (1, x), (3, 0)] [] v ρ Z
  refine t_getR (q := (ρ t 0)) (pc := 0) hX 0 rfl rfl rfl fl_X4_9 rfl (hH.kd ht (by decide)) (rfl) ?_
  have hw0_ : ω (ρ t 0) = 6 := hH.rf ht (by decide) rfl
  refine t_getI (y := (v t 8)) (pc := 4) hX 2 rfl rfl rfl fl_X4_47 rfl (hH.kd ht (by decide)) (rfl) ?_
  have hb4 : 0 ≤ (v t 8) ∧ (v t 8) ≤ 4 := hH.rg ht (by decide) rfl
  refine r_lload_n (pc := 8) hX 4 rfl rfl ?_
  refine r_callS (as := [(2, (ρ t 0)), (0, (v t 8)), (1, x)]) (st := []) (pc := 9) hX 5 rfl mo_X4_indexIn ml_X4_64 stt_X4_indexIn (c_X4_indexIn g ω v ρ Z hH (ρ t 0) (hH.kd hw0_ (by decide)) ((v t 8)) (x) (by omega)) rfl (by rw [hRm]; exact ⟨by decide, by decide⟩) (by rw [hRm]; exact ⟨by decide, by decide⟩) (Nat.le_of_ble_eq_true rfl) (fun o9 v9 ρv9 Zv9 hq9 _ => ?_)
  obtain ⟨rfl, rfl, rfl, r9, rfl, hq9⟩ := hq9
  show wp g X F_X4_colourNamed 0 0 12 [(2, t), (1, x), (3, 0)] [(0, r9)] v ρ Z
  exact r_iret (pc := 12) hX 6 hQ rfl rfl (Nat.le_refl 0) (Nat.le_refl 0) ⟨rfl, rfl, rfl, r9, rfl, (by omega)⟩
set_option maxHeartbeats 4000000 in
set_option maxRecDepth 100000 in
theorem c_X4_playerNamed (g : Gp) (ω : Rw) (v ρ : Mv) (Z : Mz) (hH : HT ω v ρ Z) (t : Int) (ht : ω t = 5) (x : Int)  : Ok g 2 0 0 F_X4_playerNamed [(2, t), (1, x)] v ρ Z (fun o9 v' ρ' Z' => ρ = ρ' ∧ Z = Z' ∧ v = v' ∧ ∃ r : Int, o9 = some (0, r) ∧ (-1 ≤ r ∧ r < v t 10)) := by
  refine Ok.of mo_X4_playerNamed (Nat.le_of_ble_eq_true rfl) ?_
  intro X hX hRm hxn hQ
  show wp g X F_X4_playerNamed 0 0 0 [(2, t), (1, x), (3, 0)] [] v ρ Z
  refine t_getR (q := (ρ t 6)) (pc := 0) hX 0 rfl rfl rfl fl_X4_34 rfl (hH.kd ht (by decide)) (rfl) ?_
  have hw0_ : ω (ρ t 6) = 8 := hH.rf ht (by decide) rfl
  refine t_getI (y := (v t 10)) (pc := 4) hX 2 rfl rfl rfl fl_X4_57 rfl (hH.kd ht (by decide)) (rfl) ?_
  have hb4 : 0 ≤ (v t 10) ∧ (v t 10) ≤ 3 := hH.rg ht (by decide) rfl
  refine r_lload_n (pc := 8) hX 4 rfl rfl ?_
  refine r_callS (as := [(2, (ρ t 6)), (0, (v t 10)), (1, x)]) (st := []) (pc := 9) hX 5 rfl mo_X4_indexIn ml_X4_64 stt_X4_indexIn (c_X4_indexIn g ω v ρ Z hH (ρ t 6) (hH.kd hw0_ (by decide)) ((v t 10)) (x) (by omega)) rfl (by rw [hRm]; exact ⟨by decide, by decide⟩) (by rw [hRm]; exact ⟨by decide, by decide⟩) (Nat.le_of_ble_eq_true rfl) (fun o9 v9 ρv9 Zv9 hq9 _ => ?_)
  obtain ⟨rfl, rfl, rfl, r9, rfl, hq9⟩ := hq9
  show wp g X F_X4_playerNamed 0 0 12 [(2, t), (1, x), (3, 0)] [(0, r9)] v ρ Z
  exact r_iret (pc := 12) hX 6 hQ rfl rfl (Nat.le_refl 0) (Nat.le_refl 0) ⟨rfl, rfl, rfl, r9, rfl, (by omega)⟩
set_option maxHeartbeats 4000000 in
set_option maxRecDepth 100000 in
theorem c_X4_tells (g : Gp) (ω : Rw) (v ρ : Mv) (Z : Mz) (hH : HT ω v ρ Z) (t : Int) (ht : ω t = 5) (x : Int)  : Ok g 3 0 0 F_X4_tells [(2, t), (1, x)] v ρ Z (fun o9 v' ρ' Z' => ρ = ρ' ∧ Z = Z' ∧ v = v' ∧ ∃ r : Int, o9 = some (0, r) ∧ (0 ≤ r ∧ r ≤ 1)) := by
  refine Ok.of mo_X4_tells (Nat.le_of_ble_eq_true rfl) ?_
  intro X hX hRm hxn hQ
  show wp g X F_X4_tells 0 0 0 [(2, t), (1, x), (3, 0)] [] v ρ Z
  refine r_aload_n (pc := 0) hX 0 rfl rfl ?_
  refine r_lload_n (pc := 1) hX 1 rfl rfl ?_
  refine r_callV (as := [(1, x)]) (st := []) (K := 4) (pc := 2) hX 2 rfl mo_X4_colourNamed ml_X4_68 im_X4_colourNamed se_X4_colourNamed (c_X4_colourNamed g ω v ρ Z hH t ht (x) ) rfl rfl rfl (hH.kd ht (by decide)) (by rw [hRm]; exact ⟨by decide, by decide⟩) (by rw [hRm]; exact ⟨by decide, by decide⟩) (Nat.le_of_ble_eq_true rfl) (fun o2 v2 ρv2 Zv2 hq2 _ => ?_)
  obtain ⟨rfl, rfl, rfl, r2, rfl, hq2⟩ := hq2
  show wp g X F_X4_tells 0 0 5 [(2, t), (1, x), (3, 0)] [(0, r2)] v ρ Z
  refine r_iconst (pc := 5) hX 3 rfl ?_
  first | refine r_icmp_ne (pc := 6) hX 4 (tgt := 34) rfl (by decide) (⟨by omega, by omega⟩) (⟨by omega, by omega⟩) (fun h6 => ?_) (fun h6 => ?_) | refine r_icmp_ne_any (pc := 6) hX 4 (tgt := 34) rfl (by decide) ?_ ?_
  · refine r_iconst (pc := 34) hX 18 rfl ?_
    refine r_goto (pc := 35) hX 19 (tgt := 39) rfl (by decide) ?_
    exact r_zret (pc := 39) hX 21 hQ rfl rfl ⟨by omega, by omega⟩ (Nat.le_refl 0) (Nat.le_refl 0) ⟨rfl, rfl, rfl, 1, rfl, (by omega)⟩
  · refine r_aload_n (pc := 9) hX 5 rfl rfl ?_
    refine r_lload_n (pc := 10) hX 6 rfl rfl ?_
    refine r_callV (as := [(1, x)]) (st := []) (K := 4) (pc := 11) hX 7 rfl mo_X4_playerNamed ml_X4_72 im_X4_playerNamed se_X4_playerNamed (c_X4_playerNamed g ω v ρ Z hH t ht (x) ) rfl rfl rfl (hH.kd ht (by decide)) (by rw [hRm]; exact ⟨by decide, by decide⟩) (by rw [hRm]; exact ⟨by decide, by decide⟩) (Nat.le_of_ble_eq_true rfl) (fun o11 v11 ρv11 Zv11 hq11 _ => ?_)
    obtain ⟨rfl, rfl, rfl, r11, rfl, hq11⟩ := hq11
    show wp g X F_X4_tells 0 0 14 [(2, t), (1, x), (3, 0)] [(0, r11)] v ρ Z
    refine r_iconst (pc := 14) hX 8 rfl ?_
    first | refine r_icmp_ne (pc := 15) hX 9 (tgt := 34) rfl (by decide) (⟨by omega, by omega⟩) (⟨by omega, by omega⟩) (fun h15 => ?_) (fun h15 => ?_) | refine r_icmp_ne_any (pc := 15) hX 9 (tgt := 34) rfl (by decide) ?_ ?_
    · refine r_iconst (pc := 34) hX 18 rfl ?_
      refine r_goto (pc := 35) hX 19 (tgt := 39) rfl (by decide) ?_
      exact r_zret (pc := 39) hX 21 hQ rfl rfl ⟨by omega, by omega⟩ (Nat.le_refl 0) (Nat.le_refl 0) ⟨rfl, rfl, rfl, 1, rfl, (by omega)⟩
    · refine t_getR (q := (ρ t 3)) (pc := 18) hX 10 rfl rfl rfl fl_X4_23 rfl (hH.kd ht (by decide)) (rfl) ?_
      have hw18_ : ω (ρ t 3) = 7 := hH.rf ht (by decide) rfl
      refine t_getI (y := (v t 9)) (pc := 22) hX 12 rfl rfl rfl fl_X4_54 rfl (hH.kd ht (by decide)) (rfl) ?_
      have hb22 : 0 ≤ (v t 9) ∧ (v t 9) ≤ 3 := hH.rg ht (by decide) rfl
      refine r_lload_n (pc := 26) hX 14 rfl rfl ?_
      refine r_callS (as := [(2, (ρ t 3)), (0, (v t 9)), (1, x)]) (st := []) (pc := 27) hX 15 rfl mo_X4_indexIn ml_X4_64 stt_X4_indexIn (c_X4_indexIn g ω v ρ Z hH (ρ t 3) (hH.kd hw18_ (by decide)) ((v t 9)) (x) (by omega)) rfl (by rw [hRm]; exact ⟨by decide, by decide⟩) (by rw [hRm]; exact ⟨by decide, by decide⟩) (Nat.le_of_ble_eq_true rfl) (fun o27 v27 ρv27 Zv27 hq27 _ => ?_)
      obtain ⟨rfl, rfl, rfl, r27, rfl, hq27⟩ := hq27
      show wp g X F_X4_tells 0 0 30 [(2, t), (1, x), (3, 0)] [(0, r27)] v ρ Z
      refine r_iconst (pc := 30) hX 16 rfl ?_
      first | refine r_icmp_eq (pc := 31) hX 17 (tgt := 38) rfl (by decide) (⟨by omega, by omega⟩) (⟨by omega, by omega⟩) (fun h31 => ?_) (fun h31 => ?_) | refine r_icmp_eq_any (pc := 31) hX 17 (tgt := 38) rfl (by decide) ?_ ?_
      · refine r_iconst (pc := 38) hX 20 rfl ?_
        exact r_zret (pc := 39) hX 21 hQ rfl rfl ⟨by omega, by omega⟩ (Nat.le_refl 0) (Nat.le_refl 0) ⟨rfl, rfl, rfl, 0, rfl, (by omega)⟩
      · refine r_iconst (pc := 34) hX 18 rfl ?_
        refine r_goto (pc := 35) hX 19 (tgt := 39) rfl (by decide) ?_
        exact r_zret (pc := 39) hX 21 hQ rfl rfl ⟨by omega, by omega⟩ (Nat.le_refl 0) (Nat.le_refl 0) ⟨rfl, rfl, rfl, 1, rfl, (by omega)⟩
set_option maxHeartbeats 4000000 in
set_option maxRecDepth 100000 in
theorem c_X4_allChances (g : Gp) (ω : Rw) (v ρ : Mv) (Z : Mz) (hH : HT ω v ρ Z) (t : Int) (ht : ω t = 5)  : Ok g 2 0 0 F_X4_allChances [(2, t)] v ρ Z (fun o9 v' ρ' Z' => ρ = ρ' ∧ Z = Z' ∧ v = v' ∧ ∃ r : Int, o9 = some (0, r) ∧ True) := by
  refine Ok.of mo_X4_allChances (Nat.le_of_ble_eq_true rfl) ?_
  intro X hX hRm hxn hQ
  show wp g X F_X4_allChances 0 0 0 [(2, t), (3, 0), (3, 0)] [] v ρ Z
  refine r_iconst (pc := 0) hX 0 rfl ?_
  refine r_istore_n (ls' := [(2, t), (0, 0), (3, 0)]) (pc := 1) hX 1 rfl (by decide) rfl ?_
  refine r_iconst (pc := 2) hX 2 rfl ?_
  refine r_istore_n (ls' := [(2, t), (0, 0), (0, 0)]) (pc := 3) hX 3 rfl (by decide) rfl ?_
  have L4 : ∀ (n4 : Nat) (s l : Int) , (0 ≤ l ∧ l ≤ 3) → (3 - l).toNat < n4 → wp g X F_X4_allChances 0 0 4 [(2, t), (0, s), (0, l)] [] v ρ Z := by
    intro n4
    induction n4 with
    | zero => intro s l il hme4; exact absurd hme4 (Nat.not_lt_zero _)
    | succ n4 ih4 =>
      intro s l il hme4
      refine r_iload_n (pc := 4) hX 4 rfl rfl ?_
      refine r_aload_n (pc := 5) hX 5 rfl rfl ?_
      refine r_callV (as := []) (st := [(0, l)]) (K := 4) (pc := 6) hX 6 rfl mo_X4_rows ml_X4_60 im_X4_rows se_X4_rows (c_X4_rows g ω v ρ Z hH t ht ) rfl rfl rfl (hH.kd ht (by decide)) (by rw [hRm]; exact ⟨by decide, by decide⟩) (by rw [hRm]; exact ⟨by decide, by decide⟩) (Nat.le_of_ble_eq_true rfl) (fun o6 v6 ρv6 Zv6 hq6 _ => ?_)
      obtain ⟨rfl, rfl, rfl, r6, rfl, hq6⟩ := hq6
      show wp g X F_X4_allChances 0 0 9 [(2, t), (0, s), (0, l)] [(0, r6), (0, l)] v ρ Z
      first | refine r_icmp_ge (pc := 9) hX 7 (tgt := 27) rfl (by decide) (⟨by omega, by omega⟩) (⟨by omega, by omega⟩) (fun h9 => ?_) (fun h9 => ?_) | refine r_icmp_ge_any (pc := 9) hX 7 (tgt := 27) rfl (by decide) ?_ ?_
      · refine r_iload_n (pc := 27) hX 17 rfl rfl ?_
        exact r_iret (pc := 28) hX 18 hQ rfl rfl (Nat.le_refl 0) (Nat.le_refl 0) ⟨rfl, rfl, rfl, s, rfl, trivial⟩
      · refine r_iload_n (pc := 12) hX 8 rfl rfl ?_
        refine t_getR (q := (ρ t 4)) (pc := 13) hX 9 rfl rfl rfl fl_X4_26 rfl (hH.kd ht (by decide)) (rfl) ?_
        have hw13_ : ω (ρ t 4) = 11 := hH.rf ht (by decide) rfl
        refine r_iload_n (pc := 17) hX 11 rfl rfl ?_
        refine e_iald (y := (v (ρ t 4) l)) (n := 3) (pc := 18) hX 12 rfl (hH.kd hw13_ (by decide)) (hH.ln hw13_ (by decide)) (by omega) (by omega) (rfl) ?_
        have hb18 : 0 ≤ (v (ρ t 4) l) ∧ (v (ρ t 4) l) ≤ 9 := hH.rg hw13_ (by decide) rfl
        refine r_iadd (pc := 19) hX 13 rfl ?_
        refine r_istore_n (ls' := [(2, t), (0, (s + (v (ρ t 4) l))), (0, l)]) (pc := 20) hX 14 rfl (by decide) rfl ?_
        refine r_iinc (ls' := [(2, t), (0, (s + (v (ρ t 4) l))), (0, (l + 1))]) (pc := 21) hX 15 rfl rfl (by decide) rfl ?_
        refine r_goto (pc := 24) hX 16 (tgt := 4) rfl (by decide) ?_
        exact (ih4 (s + (v (ρ t 4) l)) (l + 1) (by omega) (by omega))
  exact (L4 _ 0 0 (by omega) (Nat.lt_succ_self _))
set_option maxHeartbeats 4000000 in
set_option maxRecDepth 100000 in
theorem c_X4_kindDrawn (g : Gp) (ω : Rw) (v ρ : Mv) (Z : Mz) (hH : HT ω v ρ Z) (t : Int) (ht : ω t = 5) (l : Int) (x : Int) (hl : 0 ≤ l ∧ l ≤ 2) : Ok g 1 0 0 F_X4_kindDrawn [(2, t), (0, l), (0, x)] v ρ Z (fun o9 v' ρ' Z' => ρ = ρ' ∧ Z = Z' ∧ v = v' ∧ ∃ r : Int, o9 = some (0, r) ∧ (-1 ≤ r ∧ r ≤ 3)) := by
  refine Ok.of mo_X4_kindDrawn (Nat.le_of_ble_eq_true rfl) ?_
  intro X hX hRm hxn hQ
  show wp g X F_X4_kindDrawn 0 0 0 [(2, t), (0, l), (0, x), (3, 0), (3, 0)] [] v ρ Z
  have hg_t_8 : 0 ≤ v t 8 ∧ v t 8 ≤ 4 := hH.rg ht (by decide) rfl
  refine r_iconst (pc := 0) hX 0 rfl ?_
  refine r_istore_n (ls' := [(2, t), (0, l), (0, x), (0, 0), (3, 0)]) (pc := 1) hX 1 rfl (by decide) rfl ?_
  refine r_iconst (pc := 2) hX 2 rfl ?_
  refine r_istore (ls' := [(2, t), (0, l), (0, x), (0, 0), (0, 0)]) (pc := 3) hX 3 rfl (by decide) rfl ?_
  have L5 : ∀ (n5 : Nat) (b c : Int) , (0 ≤ c ∧ c ≤ v t 8) → (v t 8 - c).toNat < n5 → wp g X F_X4_kindDrawn 0 0 5 [(2, t), (0, l), (0, x), (0, b), (0, c)] [] v ρ Z := by
    intro n5
    induction n5 with
    | zero => intro b c ic hme5; exact absurd hme5 (Nat.not_lt_zero _)
    | succ n5 ih5 =>
      intro b c ic hme5
      refine r_iload (pc := 5) hX 4 rfl rfl ?_
      refine t_getI (y := (v t 8)) (pc := 7) hX 5 rfl rfl rfl fl_X4_47 rfl (hH.kd ht (by decide)) (rfl) ?_
      have hb7 : 0 ≤ (v t 8) ∧ (v t 8) ≤ 4 := hH.rg ht (by decide) rfl
      first | refine r_icmp_ge (pc := 11) hX 7 (tgt := 40) rfl (by decide) (⟨by omega, by omega⟩) (⟨by omega, by omega⟩) (fun h11 => ?_) (fun h11 => ?_) | refine r_icmp_ge_any (pc := 11) hX 7 (tgt := 40) rfl (by decide) ?_ ?_
      · refine r_iconst (pc := 40) hX 24 rfl ?_
        exact r_iret (pc := 41) hX 25 hQ rfl rfl (Nat.le_refl 0) (Nat.le_refl 0) ⟨rfl, rfl, rfl, (-1), rfl, (by omega)⟩
      · refine r_iload_n (pc := 14) hX 8 rfl rfl ?_
        refine t_getR (q := (ρ t 5)) (pc := 15) hX 9 rfl rfl rfl fl_X4_31 rfl (hH.kd ht (by decide)) (rfl) ?_
        have hw15_ : ω (ρ t 5) = 12 := hH.rf ht (by decide) rfl
        refine r_iload_n (pc := 19) hX 11 rfl rfl ?_
        refine r_aald (q := (ρ (ρ t 5) l)) (pc := 20) hX 12 19 rfl (hH.kd hw15_ (by decide)) (by decide) (by decide) rfl rfl (by omega) (by rw [show Z.2.1 (ρ t 5) = 3 from (hH.ln hw15_ (by decide))]; omega) (rfl) ?_
        have hw20_ : ω (ρ (ρ t 5) l) = 13 := hH.rf hw15_ (by decide) (rf12 ⟨by omega, by omega⟩)
        refine r_iload (pc := 21) hX 13 rfl rfl ?_
        refine e_iald (y := (v (ρ (ρ t 5) l) c)) (n := 5) (pc := 23) hX 14 rfl (hH.kd hw20_ (by decide)) (hH.ln hw20_ (by decide)) (by omega) (by omega) (rfl) ?_
        have hb23 : 0 ≤ (v (ρ (ρ t 5) l) c) ∧ (v (ρ (ρ t 5) l) c) ≤ 12 := hH.rg hw20_ (by decide) rfl
        refine r_iadd (pc := 24) hX 15 rfl ?_
        refine r_istore_n (ls' := [(2, t), (0, l), (0, x), (0, (b + (v (ρ (ρ t 5) l) c))), (0, c)]) (pc := 25) hX 16 rfl (by decide) rfl ?_
        refine r_iload_n (pc := 26) hX 17 rfl rfl ?_
        refine r_iload_n (pc := 27) hX 18 rfl rfl ?_
        first | refine r_icmp_ge (pc := 28) hX 19 (tgt := 34) rfl (by decide) (⟨by omega, by omega⟩) (⟨by omega, by omega⟩) (fun h28 => ?_) (fun h28 => ?_) | refine r_icmp_ge_any (pc := 28) hX 19 (tgt := 34) rfl (by decide) ?_ ?_
        · refine r_iinc (ls' := [(2, t), (0, l), (0, x), (0, (b + (v (ρ (ρ t 5) l) c))), (0, (c + 1))]) (pc := 34) hX 22 rfl rfl (by decide) rfl ?_
          refine r_goto (pc := 37) hX 23 (tgt := 5) rfl (by decide) ?_
          exact (ih5 (b + (v (ρ (ρ t 5) l) c)) (c + 1) (by omega) (by omega))
        · refine r_iload (pc := 31) hX 20 rfl rfl ?_
          exact r_iret (pc := 33) hX 21 hQ rfl rfl (Nat.le_refl 0) (Nat.le_refl 0) ⟨rfl, rfl, rfl, c, rfl, (by omega)⟩
  exact (L5 _ 0 0 (by omega) (Nat.lt_succ_self _))
