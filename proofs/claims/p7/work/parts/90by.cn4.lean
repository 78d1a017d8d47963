set_option maxHeartbeats 4000000 in
set_option maxRecDepth 100000 in
theorem c_landF (g : Gp) (v ρ : Mv) (Z : Mz) (hG : GM ρ Z) (l c : Int) (hS : SInv (v 180)) (hl : inR l) (hc : inR c) : Ok g 3 0 0 F_m_land [(2, 178), (0, l), (0, c)] v ρ Z (fun o v' ρ' Z' => ρ = ρ' ∧ Z = Z' ∧ Fr [] [0] v v' ∧ ∃ r : Int, o = some (0, r) ∧ ((0 ≤ l ∧ l < v 180 1 ∧ (c = -1 ∧ r = v 180 (17 + 5 * l + 4) ∨ 0 ≤ c ∧ c < v 180 0 ∧ r = v 180 (17 + 5 * l + c)) ∨ ¬ (0 ≤ l ∧ l < v 180 1 ∧ (c = -1 ∨ 0 ≤ c ∧ c < v 180 0)) ∧ r = -1))) := by
  refine Ok.of mo_m_land (Nat.le_of_ble_eq_true rfl) ?_
  intro X hX hRm hxn hQ
  show wp g X F_m_land 0 0 0 [(2, 178), (0, l), (0, c)] [] v ρ Z
  have hb0 := hS.c0
  have hb1 := hS.c1
  refine r_aload_n (pc := 0) hX 0 rfl rfl ?_
  refine r_iconst (pc := 1) hX 1 rfl ?_
  refine r_putI (pc := 2) hX 2 rfl fl_X12_1 rfl (fun _ h => by cases h; rfl) hG.1 (by decide) ?_
  refine r_aload_n (pc := 5) hX 3 rfl rfl ?_
  refine r_iload_n (pc := 6) hX 4 rfl rfl ?_
  refine r_callV (as := [(0, l)]) (st := []) (K := 12) (pc := 7) hX 5 rfl mo_m_isLand ml_X12_291 im_m_isLand se_m_isLand (c_isLand g (up v 178 0 0) ρ Z hG (l) (by rw [up_f (by decide)]; exact hS) (by omega)) rfl rfl rfl hG.1 (by rw [hRm]; exact ⟨by decide, by decide⟩) (by rw [hRm]; exact ⟨by decide, by decide⟩) (Nat.le_of_ble_eq_true rfl) (fun o7 v7 ρ7 Z7 hq7 _ => ?_)
  obtain ⟨rfl, rfl, rfl, r7, rfl, hq7⟩ := hq7
  try simp only [up_f (show (180 : Int) ≠ 178 by decide)] at hq7
  show wp g X F_m_land 0 0 10 [(2, 178), (0, l), (0, c)] [(0, r7)] (up v 178 0 0) ρ Z
  have L26 : (¬ (0 ≤ l ∧ l < v 180 1 ∧ (c = -1 ∨ 0 ≤ c ∧ c < v 180 0))) → wp g X F_m_land 0 0 26 [(2, 178), (0, l), (0, c)] [] (up v 178 0 0) ρ Z := by
    intro i26
    refine r_iconst (pc := 26) hX 14 rfl ?_
    exact r_iret (pc := 27) hX 15 hQ rfl rfl (Nat.le_refl 0) (Nat.le_refl 0) ⟨rfl, rfl, (Fr.rf).fld (k := 0) (by decide), (-1), rfl, (Or.inr ⟨i26, rfl⟩)⟩
  first | refine r_if_eq (pc := 10) hX 6 (tgt := 26) rfl (by decide) (⟨by omega, by omega⟩) (fun h10 => ?_) (fun h10 => ?_) | refine r_if_eq_any (pc := 10) hX 6 (tgt := 26) rfl (by decide) ?_ ?_
  · exact (L26  (by omega) )
  · refine r_iload_n (pc := 13) hX 7 rfl rfl ?_
    refine r_iconst (pc := 14) hX 8 rfl ?_
    have L28 : (0 ≤ l ∧ l < v 180 1 ∧ (c = -1 ∨ 0 ≤ c ∧ c < v 180 0)) → wp g X F_m_land 0 0 28 [(2, 178), (0, l), (0, c)] [] (up v 178 0 0) ρ Z := by
      intro i28
      refine t_getR (pc := 28) hX 16 rfl rfl rfl fl_X12_33 rfl hG.1 (a_s hG).1 ?_
      refine r_bipush (pc := 32) hX 18 rfl (by decide) ?_
      refine r_iconst (pc := 34) hX 19 rfl ?_
      refine r_iload_n (pc := 35) hX 20 rfl rfl ?_
      refine r_imul (pc := 36) hX 21 rfl ?_
      refine r_iadd (pc := 37) hX 22 rfl ?_
      refine r_iload_n (pc := 38) hX 23 rfl rfl ?_
      refine r_iconst (pc := 39) hX 24 rfl ?_
      first | refine r_icmp_ne (pc := 40) hX 25 (tgt := 47) rfl (by decide) (⟨by omega, by omega⟩) (⟨by omega, by omega⟩) (fun h40 => ?_) (fun h40 => ?_) | refine r_icmp_ne_any (pc := 40) hX 25 (tgt := 47) rfl (by decide) ?_ ?_
      · refine r_iload_n (pc := 47) hX 28 rfl rfl ?_
        refine r_iadd (pc := 48) hX 29 rfl ?_
        refine e_iald (y := (v 180 ((17 + (5 * l)) + c))) (pc := 49) hX 30 rfl (a_s hG).2.1 (a_s hG).2.2 (by omega) (by omega) ((up_r (by decide)).trans (rfl)) ?_
        have hb49 := hS.c17 l c (by omega) (by omega) (by omega) (by omega)
        exact r_iret (pc := 50) hX 31 hQ rfl rfl (Nat.le_refl 0) (Nat.le_refl 0) ⟨rfl, rfl, (Fr.rf).fld (k := 0) (by decide), (v 180 ((17 + (5 * l)) + c)), rfl, (by
        first
        | exact Or.inl ⟨by omega, by omega, Or.inl ⟨by omega, rfl⟩⟩
        | exact Or.inl ⟨by omega, by omega, Or.inr ⟨by omega, by omega, rfl⟩⟩)⟩
      · refine r_iconst (pc := 43) hX 26 rfl ?_
        refine r_goto (pc := 44) hX 27 (tgt := 48) rfl (by decide) ?_
        refine r_iadd (pc := 48) hX 29 rfl ?_
        refine e_iald (y := (v 180 ((17 + (5 * l)) + 4))) (pc := 49) hX 30 rfl (a_s hG).2.1 (a_s hG).2.2 (by omega) (by omega) ((up_r (by decide)).trans (rfl)) ?_
        have hb49 := hS.c17 l 4 (by omega) (by omega) (by omega) (by omega)
        exact r_iret (pc := 50) hX 31 hQ rfl rfl (Nat.le_refl 0) (Nat.le_refl 0) ⟨rfl, rfl, (Fr.rf).fld (k := 0) (by decide), (v 180 ((17 + (5 * l)) + 4)), rfl, (by
        first
        | exact Or.inl ⟨by omega, by omega, Or.inl ⟨by omega, rfl⟩⟩
        | exact Or.inl ⟨by omega, by omega, Or.inr ⟨by omega, by omega, rfl⟩⟩)⟩
    first | refine r_icmp_eq (pc := 15) hX 9 (tgt := 28) rfl (by decide) (⟨by omega, by omega⟩) (⟨by omega, by omega⟩) (fun h15 => ?_) (fun h15 => ?_) | refine r_icmp_eq_any (pc := 15) hX 9 (tgt := 28) rfl (by decide) ?_ ?_
    · exact (L28  (by omega) )
    · refine r_aload_n (pc := 18) hX 10 rfl rfl ?_
      refine r_iload_n (pc := 19) hX 11 rfl rfl ?_
      refine r_callV (as := [(0, c)]) (st := []) (K := 12) (pc := 20) hX 12 rfl mo_m_isColour ml_X12_281 im_m_isColour se_m_isColour (c_isColour g (up v 178 0 0) ρ Z hG (c) (by rw [up_f (by decide)]; exact hS) (by omega)) rfl rfl rfl hG.1 (by rw [hRm]; exact ⟨by decide, by decide⟩) (by rw [hRm]; exact ⟨by decide, by decide⟩) (Nat.le_of_ble_eq_true rfl) (fun o20 v20 ρ20 Z20 hq20 _ => ?_)
      obtain ⟨rfl, rfl, rfl, r20, rfl, hq20⟩ := hq20
      try simp only [up_f (show (180 : Int) ≠ 178 by decide)] at hq20
      show wp g X F_m_land 0 0 23 [(2, 178), (0, l), (0, c)] [(0, r20)] (up v 178 0 0) ρ Z
      first | refine r_if_ne (pc := 23) hX 13 (tgt := 28) rfl (by decide) (⟨by omega, by omega⟩) (fun h23 => ?_) (fun h23 => ?_) | refine r_if_ne_any (pc := 23) hX 13 (tgt := 28) rfl (by decide) ?_ ?_
      · exact (L28  (by omega) )
      · exact (L26  (by omega) )
