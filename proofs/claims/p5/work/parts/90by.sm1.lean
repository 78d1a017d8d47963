set_option maxHeartbeats 4000000 in
set_option maxRecDepth 100000 in
theorem c_notsS (g : Gp) (v ρ : Mv) (Z : Mz) (hG : GM ρ Z) {S : List Bool}  (hN : SnI (v 182) (v 205) (v 178 51) (v 178 53) (v 178 52) 1) (hD : StD (v 205) (v 178 53) (v 178 54) S) : Ok g 2 0 0 F_m_nots [(2, 178)] v ρ Z (fun o v' ρ' Z' => ρ = ρ' ∧ Z = Z' ∧ Fr [182] [51, 53, 54] v v' ∧ o = none ∧ (SnI (v' 182) (v 205) (v' 178 51) (v' 178 53) (v 178 52) 1) ∧ (StD (v 205) (v' 178 53) (v' 178 54) (nts S) ∧ (v' 178 53 = 0 ∨ v 205 (v' 178 53 - 1) ≠ 20))) := by
  refine Ok.of mo_m_nots (Nat.le_of_ble_eq_true rfl) ?_
  intro X hX hRm hxn hQ
  show wp g X F_m_nots 0 0 0 [(2, 178)] [] v ρ Z
  have L0 : ∀ (n0 : Nat) (v0 : Mv) , (Fr [182] [51, 53, 54] v v0) → (SnI (v0 182) (v 205) (v0 178 51) (v0 178 53) (v 178 52) 1) → (∃ S2, nts S2 = nts S ∧ StD (v 205) (v0 178 53) (v0 178 54) S2) → (v0 178 53).toNat < n0 → wp g X F_m_nots 0 0 0 [(2, 178)] [] v0 ρ Z := by
    intro n0
    induction n0 with
    | zero => intro v0 hfr0 isn isd hme0; exact absurd hme0 (Nat.not_lt_zero _)
    | succ n0 ih0 =>
      intro v0 hfr0 isn isd hme0
      have in_ := isn.nums
      have et0 : v0 205 = v 205 := hfr0.1 205 (by decide) (by decide)
      refine t_getI (y := (v0 178 53)) (pc := 0) hX 0 rfl rfl rfl fl_X12_493 rfl hG.1 (rfl) ?_
      first | refine r_if_le (pc := 4) hX 2 (tgt := 54) rfl (by decide) (⟨by omega, by omega⟩) (fun h4 => ?_) (fun h4 => ?_) | refine r_if_le_any (pc := 4) hX 2 (tgt := 54) rfl (by decide) ?_ ?_
      · exact r_vret (pc := 54) hX 30 hQ rfl rfl (Nat.le_refl 0) (Nat.le_refl 0) ⟨rfl, rfl, hfr0, rfl, (isn), (by
        obtain ⟨S2, e, z⟩ := isd
        have zp := z.1.pos
        have c : v0 178 53 = 0 ∨ v 205 (v0 178 53 - 1) ≠ 20 := by first | exact Or.inl (by omega) | exact Or.inr (by rw [← et0]; omega)
        rw [← e, z.1.nt c]
        exact ⟨z, c⟩)⟩
      · refine t_getR (pc := 7) hX 3 rfl rfl rfl fl_X12_114 rfl hG.1 (a_stack hG).1 ?_
        refine t_getI (y := (v0 178 53)) (pc := 11) hX 5 rfl rfl rfl fl_X12_493 rfl hG.1 (rfl) ?_
        refine r_iconst (pc := 15) hX 7 rfl ?_
        refine r_isub (pc := 16) hX 8 rfl ?_
        refine e_iald (y := (v0 205 ((v0 178 53) - 1))) (pc := 17) hX 9 rfl (a_stack hG).2.1 (a_stack hG).2.2 (by omega) (by omega) (rfl) ?_
        have hb17 := isn.stk (v0 178 53 - 1) (by omega) (by omega)
        rw [← et0] at hb17
        refine r_bipush (pc := 18) hX 10 rfl (by decide) ?_
        first | refine r_icmp_ne (pc := 20) hX 11 (tgt := 54) rfl (by decide) (⟨by omega, by omega⟩) (⟨by omega, by omega⟩) (fun h20 => ?_) (fun h20 => ?_) | refine r_icmp_ne_any (pc := 20) hX 11 (tgt := 54) rfl (by decide) ?_ ?_
        · exact r_vret (pc := 54) hX 30 hQ rfl rfl (Nat.le_refl 0) (Nat.le_refl 0) ⟨rfl, rfl, hfr0, rfl, (isn), (by
        obtain ⟨S2, e, z⟩ := isd
        have zp := z.1.pos
        have c : v0 178 53 = 0 ∨ v 205 (v0 178 53 - 1) ≠ 20 := by first | exact Or.inl (by omega) | exact Or.inr (by rw [← et0]; omega)
        rw [← e, z.1.nt c]
        exact ⟨z, c⟩)⟩
        · refine r_aload_n (pc := 23) hX 12 rfl rfl ?_
          refine r_dup (pc := 24) hX 13 rfl (show (2 : Nat) ≠ 1 by decide) ?_
          refine e_getI (y := (v0 178 53)) (pc := 25) hX 14 rfl fl_X12_493 rfl hG.1 (rfl) ?_
          refine r_iconst (pc := 28) hX 15 rfl ?_
          refine r_isub (pc := 29) hX 16 rfl ?_
          refine r_putI (pc := 30) hX 17 rfl fl_X12_493 rfl (fun _ h => by cases h; rfl) hG.1 (by decide) ?_
          refine r_aload_n (pc := 33) hX 18 rfl rfl ?_
          refine r_dup (pc := 34) hX 19 rfl (show (2 : Nat) ≠ 1 by decide) ?_
          refine e_getI (y := (v0 178 54)) (pc := 35) hX 20 rfl fl_X12_500 rfl hG.1 ((up_k (by decide)).trans (rfl)) ?_
          refine r_iconst (pc := 38) hX 21 rfl ?_
          refine r_isub (pc := 39) hX 22 rfl ?_
          refine r_putI (pc := 40) hX 23 rfl fl_X12_500 rfl (fun _ h => by cases h; rfl) hG.1 (by decide) ?_
          refine r_aload_n (pc := 43) hX 24 rfl rfl ?_
          refine r_bipush (pc := 44) hX 25 rfl (by decide) ?_
          refine r_iconst (pc := 46) hX 26 rfl ?_
          refine r_iconst (pc := 47) hX 27 rfl ?_
          refine r_callV (as := [(0, 20), (0, 0), (0, 0)]) (st := []) (K := 12) (pc := 48) hX 28 rfl mo_m_code ml_X12_496 im_m_code se_m_code (c_code g (up (up v0 178 53 ((v0 178 53) - 1)) 178 54 ((v0 178 54) - 1)) ρ Z hG (20) (0) (0) (by (repeat (first | rw [up_k (by decide)] | rw [up_s] | rw [up_r (by decide)])); omega)) rfl rfl rfl hG.1 (by rw [hRm]; exact ⟨by decide, by decide⟩) (by rw [hRm]; exact ⟨by decide, by decide⟩) (Nat.le_of_ble_eq_true rfl) (fun o48 v48 ρ48 Z48 hq48 _ => ?_)
          obtain ⟨rfl, rfl, hfr48, rfl, hq48⟩ := hq48
          try simp only [up_f (show (180 : Int) ≠ 178 by decide), up_f (show (182 : Int) ≠ 178 by decide), up_k (show (51 : Int) ≠ 53 by decide), up_k (show (51 : Int) ≠ 54 by decide)] at hq48
          have hk48_53 : v48 178 53 = ((v0 178 53) - 1) := (hfr48.2 53 (by decide)).trans ((up_k (by decide)).trans (up_s _ _ _ _))
          have hk48_54 : v48 178 54 = ((v0 178 54) - 1) := (hfr48.2 54 (by decide)).trans (up_s _ _ _ _)
          show wp g X F_m_nots 0 0 51 [(2, 178)] [] v48 ρ Z
          refine r_goto (pc := 51) hX 29 (tgt := 0) rfl (by decide) ?_
          exact (ih0  v48 ((((hfr0).fld (k := 53) (by decide)).fld (k := 54) (by decide)).tr hfr48 (by decide) (by decide)) (by rw [hq48.1, hk48_53]; exact isn.nots (by omega) (by rw [← et0]; omega) hq48.2.2 hq48.2.1) (by
          obtain ⟨S2, e, z⟩ := isd
          rw [hk48_53, hk48_54]
          exact z.no1 (by omega) (by rw [← et0]; omega) e) (by omega))
  exact (L0 _  v (Fr.rf) (hN) (⟨S, rfl, hD⟩) (Nat.lt_succ_self _))
set_option maxHeartbeats 4000000 in
set_option maxRecDepth 100000 in
theorem c_joinsS (g : Gp) (v ρ : Mv) (Z : Mz) (hG : GM ρ Z) {S : List Bool} (w : Int) (hw : w = 21 ∨ w = 22) (hN : SnI (v 182) (v 205) (v 178 51) (v 178 53) (v 178 52) 1) (hD : StD (v 205) (v 178 53) (v 178 54) S) (hc0 : v 178 53 = 0 ∨ v 205 (v 178 53 - 1) ≠ 20) : Ok g 2 0 0 F_m_joins [(2, 178), (0, w)] v ρ Z (fun o v' ρ' Z' => ρ = ρ' ∧ Z = Z' ∧ Fr [182] [51, 53] v v' ∧ o = none ∧ (SnI (v' 182) (v 205) (v' 178 51) (v' 178 53) (v 178 52) 1) ∧ ((w = 22 → v' 178 53 ≤ 0 ∨ v 205 (v' 178 53 - 1) ≠ 21 ∧ v 205 (v' 178 53 - 1) ≠ 22)) ∧ (StD (v 205) (v' 178 53) (v 178 54) S ∧ (v' 178 53 = 0 ∨ v 205 (v' 178 53 - 1) ≠ 20))) := by
  refine Ok.of mo_m_joins (Nat.le_of_ble_eq_true rfl) ?_
  intro X hX hRm hxn hQ
  show wp g X F_m_joins 0 0 0 [(2, 178), (0, w)] [] v ρ Z
  have L0 : ∀ (n0 : Nat) (v0 : Mv) , (Fr [182] [51, 53] v v0) → (SnI (v0 182) (v 205) (v0 178 51) (v0 178 53) (v 178 52) 1) → (StD (v 205) (v0 178 53) (v 178 54) S ∧ (v0 178 53 = 0 ∨ v 205 (v0 178 53 - 1) ≠ 20)) → (v0 178 53).toNat < n0 → wp g X F_m_joins 0 0 0 [(2, 178), (0, w)] [] v0 ρ Z := by
    intro n0
    induction n0 with
    | zero => intro v0 hfr0 isn isd hme0; exact absurd hme0 (Nat.not_lt_zero _)
    | succ n0 ih0 =>
      intro v0 hfr0 isn isd hme0
      have in_ := isn.nums
      have et0 : v0 205 = v 205 := hfr0.1 205 (by decide) (by decide)
      refine t_getI (y := (v0 178 53)) (pc := 0) hX 0 rfl rfl rfl fl_X12_493 rfl hG.1 (rfl) ?_
      first | refine r_if_le (pc := 4) hX 2 (tgt := 73) rfl (by decide) (⟨by omega, by omega⟩) (fun h4 => ?_) (fun h4 => ?_) | refine r_if_le_any (pc := 4) hX 2 (tgt := 73) rfl (by decide) ?_ ?_
      · exact r_vret (pc := 73) hX 40 hQ rfl rfl (Nat.le_refl 0) (Nat.le_refl 0) ⟨rfl, rfl, hfr0, rfl, (isn), (fun e => by rw [← et0]; omega), (isd)⟩
      · refine t_getR (pc := 7) hX 3 rfl rfl rfl fl_X12_114 rfl hG.1 (a_stack hG).1 ?_
        refine t_getI (y := (v0 178 53)) (pc := 11) hX 5 rfl rfl rfl fl_X12_493 rfl hG.1 (rfl) ?_
        refine r_iconst (pc := 15) hX 7 rfl ?_
        refine r_isub (pc := 16) hX 8 rfl ?_
        refine e_iald (y := (v0 205 ((v0 178 53) - 1))) (pc := 17) hX 9 rfl (a_stack hG).2.1 (a_stack hG).2.2 (by omega) (by omega) (rfl) ?_
        have hb17 := isn.stk (v0 178 53 - 1) (by omega) (by omega)
        rw [← et0] at hb17
        refine r_bipush (pc := 18) hX 10 rfl (by decide) ?_
        have L45 : (v0 205 (v0 178 53 - 1) = 21 ∨ v0 205 (v0 178 53 - 1) = 22) → wp g X F_m_joins 0 0 45 [(2, 178), (0, w)] [] v0 ρ Z := by
          intro i45
          refine r_aload_n (pc := 45) hX 24 rfl rfl ?_
          refine r_dup (pc := 46) hX 25 rfl (show (2 : Nat) ≠ 1 by decide) ?_
          refine e_getI (y := (v0 178 53)) (pc := 47) hX 26 rfl fl_X12_493 rfl hG.1 (rfl) ?_
          refine r_iconst (pc := 50) hX 27 rfl ?_
          refine r_isub (pc := 51) hX 28 rfl ?_
          refine r_putI (pc := 52) hX 29 rfl fl_X12_493 rfl (fun _ h => by cases h; rfl) hG.1 (by decide) ?_
          refine r_aload_n (pc := 55) hX 30 rfl rfl ?_
          refine t_getR (pc := 56) hX 31 rfl rfl rfl fl_X12_114 rfl hG.1 (a_stack hG).1 ?_
          refine t_getI (y := ((v0 178 53) - 1)) (pc := 60) hX 33 rfl rfl rfl fl_X12_493 rfl hG.1 (up_s _ _ _ _) ?_
          refine e_iald (y := (v0 205 ((v0 178 53) - 1))) (pc := 64) hX 35 rfl (a_stack hG).2.1 (a_stack hG).2.2 (by omega) (by omega) ((up_r (by decide)).trans (rfl)) ?_
          refine r_iconst (pc := 65) hX 36 rfl ?_
          refine r_iconst (pc := 66) hX 37 rfl ?_
          refine r_callV (as := [(0, (v0 205 ((v0 178 53) - 1))), (0, 0), (0, 0)]) (st := []) (K := 12) (pc := 67) hX 38 rfl mo_m_code ml_X12_496 im_m_code se_m_code (c_code g (up v0 178 53 ((v0 178 53) - 1)) ρ Z hG ((v0 205 ((v0 178 53) - 1))) (0) (0) (by (repeat (first | rw [up_k (by decide)] | rw [up_s] | rw [up_r (by decide)])); omega)) rfl rfl rfl hG.1 (by rw [hRm]; exact ⟨by decide, by decide⟩) (by rw [hRm]; exact ⟨by decide, by decide⟩) (Nat.le_of_ble_eq_true rfl) (fun o67 v67 ρ67 Z67 hq67 _ => ?_)
          obtain ⟨rfl, rfl, hfr67, rfl, hq67⟩ := hq67
          try simp only [up_f (show (180 : Int) ≠ 178 by decide), up_f (show (182 : Int) ≠ 178 by decide), up_k (show (51 : Int) ≠ 53 by decide)] at hq67
          have hk67_53 : v67 178 53 = ((v0 178 53) - 1) := (hfr67.2 53 (by decide)).trans (up_s _ _ _ _)
          show wp g X F_m_joins 0 0 70 [(2, 178), (0, w)] [] v67 ρ Z
          refine r_goto (pc := 70) hX 39 (tgt := 0) rfl (by decide) ?_
          exact (ih0  v67 (((hfr0).fld (k := 53) (by decide)).tr hfr67 (by decide) (by decide)) (by rw [hq67.1, hk67_53]; exact isn.join (by omega) (by rw [← et0]; exact i45) hq67.2.2 (by rw [← et0]; exact hq67.2.1)) (by
          have z := isd.1.1.jn1 (by omega) (by rw [← et0]; exact i45)
          rw [hk67_53]
          exact ⟨⟨z.1, isd.1.2⟩, z.2⟩) (by omega))
        first | refine r_icmp_eq (pc := 20) hX 11 (tgt := 45) rfl (by decide) (⟨by omega, by omega⟩) (⟨by omega, by omega⟩) (fun h20 => ?_) (fun h20 => ?_) | refine r_icmp_eq_any (pc := 20) hX 11 (tgt := 45) rfl (by decide) ?_ ?_
        · exact (L45  (by omega) )
        · refine t_getR (pc := 23) hX 12 rfl rfl rfl fl_X12_114 rfl hG.1 (a_stack hG).1 ?_
          refine t_getI (y := (v0 178 53)) (pc := 27) hX 14 rfl rfl rfl fl_X12_493 rfl hG.1 (rfl) ?_
          refine r_iconst (pc := 31) hX 16 rfl ?_
          refine r_isub (pc := 32) hX 17 rfl ?_
          refine e_iald (y := (v0 205 ((v0 178 53) - 1))) (pc := 33) hX 18 rfl (a_stack hG).2.1 (a_stack hG).2.2 (by omega) (by omega) (rfl) ?_
          have hb33 := isn.stk (v0 178 53 - 1) (by omega) (by omega)
          rw [← et0] at hb33
          refine r_bipush (pc := 34) hX 19 rfl (by decide) ?_
          first | refine r_icmp_ne (pc := 36) hX 20 (tgt := 73) rfl (by decide) (⟨by omega, by omega⟩) (⟨by omega, by omega⟩) (fun h36 => ?_) (fun h36 => ?_) | refine r_icmp_ne_any (pc := 36) hX 20 (tgt := 73) rfl (by decide) ?_ ?_
          · exact r_vret (pc := 73) hX 40 hQ rfl rfl (Nat.le_refl 0) (Nat.le_refl 0) ⟨rfl, rfl, hfr0, rfl, (isn), (fun e => by rw [← et0]; omega), (isd)⟩
          · refine r_iload_n (pc := 39) hX 21 rfl rfl ?_
            refine r_bipush (pc := 40) hX 22 rfl (by decide) ?_
            first | refine r_icmp_ne (pc := 42) hX 23 (tgt := 73) rfl (by decide) (⟨by omega, by omega⟩) (⟨by omega, by omega⟩) (fun h42 => ?_) (fun h42 => ?_) | refine r_icmp_ne_any (pc := 42) hX 23 (tgt := 73) rfl (by decide) ?_ ?_
            · exact r_vret (pc := 73) hX 40 hQ rfl rfl (Nat.le_refl 0) (Nat.le_refl 0) ⟨rfl, rfl, hfr0, rfl, (isn), (fun e => by rw [← et0]; omega), (isd)⟩
            · exact (L45  (by omega) )
  exact (L0 _  v (Fr.rf) (hN) (⟨hD, hc0⟩) (Nat.lt_succ_self _))
set_option maxHeartbeats 4000000 in
set_option maxRecDepth 100000 in
theorem c_leafOfS (g : Gp) (v ρ : Mv) (Z : Mz) (hG : GM ρ Z) {F : Int → Int} {n m p : Int}  (hT : TkM F n m v p) (ht : 0 ≤ v 178 11 ∧ v 178 11 ≤ 4) : Ok g 2 0 0 F_m_leafOf [(2, 178)] v ρ Z (fun o v' ρ' Z' => ρ = ρ' ∧ Z = Z' ∧ v = v' ∧ ∃ r : Int, o = some (0, r) ∧ ((r = -1 ∧ ¬ (14 ≤ ky F n m p ∧ ky F n m p ≤ 21) ∨ r = 0 ∧ ky F n m p = 14 ∨ r = 1 ∧ ky F n m p = 15 ∨ r = 2 ∧ ky F n m p = 17 ∨ r = 3 ∧ ky F n m p = 16 ∨ r = 4 ∧ ky F n m p = 18 ∨ r = 5 ∧ ky F n m p = 19 ∨ r = 6 ∧ ky F n m p = 20 ∨ r = 7 ∧ ky F n m p = 21))) := by
  refine Ok.of mo_m_leafOf (Nat.le_of_ble_eq_true rfl) ?_
  intro X hX hRm hxn hQ
  show wp g X F_m_leafOf 0 0 0 [(2, 178)] [] v ρ Z
  refine r_aload_n (pc := 0) hX 0 rfl rfl ?_
  refine r_ldc2 (y := 465557349491) (pc := 1) hX 1 rfl kl_X12_158 (by decide) ?_
  refine r_callV (as := [(1, 465557349491)]) (st := []) (K := 12) (pc := 4) hX 2 rfl mo_m_isWord ml_X12_247 im_m_isWord se_m_isWord (c_isWordT g v ρ Z hG (465557349491) (hT) (by omega) (by decide)) rfl rfl rfl hG.1 (by rw [hRm]; exact ⟨by decide, by decide⟩) (by rw [hRm]; exact ⟨by decide, by decide⟩) (Nat.le_of_ble_eq_true rfl) (fun o4 v4 ρ4 Z4 hq4 _ => ?_)
  obtain ⟨rfl, rfl, rfl, r4, rfl, hq4⟩ := hq4
  show wp g X F_m_leafOf 0 0 7 [(2, 178)] [(0, r4)] v ρ Z
  have hk4 := ky_of hT 14 (by decide) (by decide) hq4
  replace hq4 := Hd.i hq4
  first | refine r_if_eq (pc := 7) hX 3 (tgt := 14) rfl (by decide) (⟨by omega, by omega⟩) (fun h7 => ?_) (fun h7 => ?_) | refine r_if_eq_any (pc := 7) hX 3 (tgt := 14) rfl (by decide) ?_ ?_
  · refine r_aload_n (pc := 14) hX 6 rfl rfl ?_
    refine r_ldc2 (y := 7827310) (pc := 15) hX 7 rfl kl_X12_160 (by decide) ?_
    refine r_callV (as := [(1, 7827310)]) (st := []) (K := 12) (pc := 18) hX 8 rfl mo_m_isWord ml_X12_247 im_m_isWord se_m_isWord (c_isWordT g v ρ Z hG (7827310) (hT) (by omega) (by decide)) rfl rfl rfl hG.1 (by rw [hRm]; exact ⟨by decide, by decide⟩) (by rw [hRm]; exact ⟨by decide, by decide⟩) (Nat.le_of_ble_eq_true rfl) (fun o18 v18 ρ18 Z18 hq18 _ => ?_)
    obtain ⟨rfl, rfl, rfl, r18, rfl, hq18⟩ := hq18
    show wp g X F_m_leafOf 0 0 21 [(2, 178)] [(0, r18)] v ρ Z
    have hk18 := ky_of hT 15 (by decide) (by decide) hq18
    replace hq18 := Hd.i hq18
    first | refine r_if_eq (pc := 21) hX 9 (tgt := 28) rfl (by decide) (⟨by omega, by omega⟩) (fun h21 => ?_) (fun h21 => ?_) | refine r_if_eq_any (pc := 21) hX 9 (tgt := 28) rfl (by decide) ?_ ?_
    · refine r_aload_n (pc := 28) hX 12 rfl rfl ?_
      refine r_ldc2 (y := 128047779833188) (pc := 29) hX 13 rfl kl_X12_164 (by decide) ?_
      refine r_callV (as := [(1, 128047779833188)]) (st := []) (K := 12) (pc := 32) hX 14 rfl mo_m_isWord ml_X12_247 im_m_isWord se_m_isWord (c_isWordT g v ρ Z hG (128047779833188) (hT) (by omega) (by decide)) rfl rfl rfl hG.1 (by rw [hRm]; exact ⟨by decide, by decide⟩) (by rw [hRm]; exact ⟨by decide, by decide⟩) (Nat.le_of_ble_eq_true rfl) (fun o32 v32 ρ32 Z32 hq32 _ => ?_)
      obtain ⟨rfl, rfl, rfl, r32, rfl, hq32⟩ := hq32
      show wp g X F_m_leafOf 0 0 35 [(2, 178)] [(0, r32)] v ρ Z
      have hk32 := ky_of hT 17 (by decide) (by decide) hq32
      replace hq32 := Hd.i hq32
      first | refine r_if_eq (pc := 35) hX 15 (tgt := 42) rfl (by decide) (⟨by omega, by omega⟩) (fun h35 => ?_) (fun h35 => ?_) | refine r_if_eq_any (pc := 35) hX 15 (tgt := 42) rfl (by decide) ?_ ?_
      · refine r_aload_n (pc := 42) hX 18 rfl rfl ?_
        refine r_ldc2 (y := 6840691) (pc := 43) hX 19 rfl kl_X12_162 (by decide) ?_
        refine r_callV (as := [(1, 6840691)]) (st := []) (K := 12) (pc := 46) hX 20 rfl mo_m_isWord ml_X12_247 im_m_isWord se_m_isWord (c_isWordT g v ρ Z hG (6840691) (hT) (by omega) (by decide)) rfl rfl rfl hG.1 (by rw [hRm]; exact ⟨by decide, by decide⟩) (by rw [hRm]; exact ⟨by decide, by decide⟩) (Nat.le_of_ble_eq_true rfl) (fun o46 v46 ρ46 Z46 hq46 _ => ?_)
        obtain ⟨rfl, rfl, rfl, r46, rfl, hq46⟩ := hq46
        show wp g X F_m_leafOf 0 0 49 [(2, 178)] [(0, r46)] v ρ Z
        have hk46 := ky_of hT 16 (by decide) (by decide) hq46
        replace hq46 := Hd.i hq46
        first | refine r_if_eq (pc := 49) hX 21 (tgt := 56) rfl (by decide) (⟨by omega, by omega⟩) (fun h49 => ?_) (fun h49 => ?_) | refine r_if_eq_any (pc := 49) hX 21 (tgt := 56) rfl (by decide) ?_ ?_
        · refine r_aload_n (pc := 56) hX 24 rfl rfl ?_
          refine r_ldc2 (y := 495589487205) (pc := 57) hX 25 rfl kl_X12_166 (by decide) ?_
          refine r_callV (as := [(1, 495589487205)]) (st := []) (K := 12) (pc := 60) hX 26 rfl mo_m_isWord ml_X12_247 im_m_isWord se_m_isWord (c_isWordT g v ρ Z hG (495589487205) (hT) (by omega) (by decide)) rfl rfl rfl hG.1 (by rw [hRm]; exact ⟨by decide, by decide⟩) (by rw [hRm]; exact ⟨by decide, by decide⟩) (Nat.le_of_ble_eq_true rfl) (fun o60 v60 ρ60 Z60 hq60 _ => ?_)
          obtain ⟨rfl, rfl, rfl, r60, rfl, hq60⟩ := hq60
          show wp g X F_m_leafOf 0 0 63 [(2, 178)] [(0, r60)] v ρ Z
          have hk60 := ky_of hT 18 (by decide) (by decide) hq60
          replace hq60 := Hd.i hq60
          first | refine r_if_eq (pc := 63) hX 27 (tgt := 70) rfl (by decide) (⟨by omega, by omega⟩) (fun h63 => ?_) (fun h63 => ?_) | refine r_if_eq_any (pc := 63) hX 27 (tgt := 70) rfl (by decide) ?_ ?_
          · refine r_aload_n (pc := 70) hX 30 rfl rfl ?_
            refine r_ldc2 (y := 495873782388) (pc := 71) hX 31 rfl kl_X12_168 (by decide) ?_
            refine r_callV (as := [(1, 495873782388)]) (st := []) (K := 12) (pc := 74) hX 32 rfl mo_m_isWord ml_X12_247 im_m_isWord se_m_isWord (c_isWordT g v ρ Z hG (495873782388) (hT) (by omega) (by decide)) rfl rfl rfl hG.1 (by rw [hRm]; exact ⟨by decide, by decide⟩) (by rw [hRm]; exact ⟨by decide, by decide⟩) (Nat.le_of_ble_eq_true rfl) (fun o74 v74 ρ74 Z74 hq74 _ => ?_)
            obtain ⟨rfl, rfl, rfl, r74, rfl, hq74⟩ := hq74
            show wp g X F_m_leafOf 0 0 77 [(2, 178)] [(0, r74)] v ρ Z
            have hk74 := ky_of hT 19 (by decide) (by decide) hq74
            replace hq74 := Hd.i hq74
            first | refine r_if_eq (pc := 77) hX 33 (tgt := 84) rfl (by decide) (⟨by omega, by omega⟩) (fun h77 => ?_) (fun h77 => ?_) | refine r_if_eq_any (pc := 77) hX 33 (tgt := 84) rfl (by decide) ?_ ?_
            · refine r_aload_n (pc := 84) hX 36 rfl rfl ?_
              refine r_ldc2 (y := 474147546227) (pc := 85) hX 37 rfl kl_X12_170 (by decide) ?_
              refine r_callV (as := [(1, 474147546227)]) (st := []) (K := 12) (pc := 88) hX 38 rfl mo_m_isWord ml_X12_247 im_m_isWord se_m_isWord (c_isWordT g v ρ Z hG (474147546227) (hT) (by omega) (by decide)) rfl rfl rfl hG.1 (by rw [hRm]; exact ⟨by decide, by decide⟩) (by rw [hRm]; exact ⟨by decide, by decide⟩) (Nat.le_of_ble_eq_true rfl) (fun o88 v88 ρ88 Z88 hq88 _ => ?_)
              obtain ⟨rfl, rfl, rfl, r88, rfl, hq88⟩ := hq88
              show wp g X F_m_leafOf 0 0 91 [(2, 178)] [(0, r88)] v ρ Z
              have hk88 := ky_of hT 20 (by decide) (by decide) hq88
              replace hq88 := Hd.i hq88
              first | refine r_if_eq (pc := 91) hX 39 (tgt := 99) rfl (by decide) (⟨by omega, by omega⟩) (fun h91 => ?_) (fun h91 => ?_) | refine r_if_eq_any (pc := 91) hX 39 (tgt := 99) rfl (by decide) ?_ ?_
              · refine r_aload_n (pc := 99) hX 42 rfl rfl ?_
                refine r_ldc2 (y := 121450625394034) (pc := 100) hX 43 rfl kl_X12_172 (by decide) ?_
                refine r_callV (as := [(1, 121450625394034)]) (st := []) (K := 12) (pc := 103) hX 44 rfl mo_m_isWord ml_X12_247 im_m_isWord se_m_isWord (c_isWordT g v ρ Z hG (121450625394034) (hT) (by omega) (by decide)) rfl rfl rfl hG.1 (by rw [hRm]; exact ⟨by decide, by decide⟩) (by rw [hRm]; exact ⟨by decide, by decide⟩) (Nat.le_of_ble_eq_true rfl) (fun o103 v103 ρ103 Z103 hq103 _ => ?_)
                obtain ⟨rfl, rfl, rfl, r103, rfl, hq103⟩ := hq103
                show wp g X F_m_leafOf 0 0 106 [(2, 178)] [(0, r103)] v ρ Z
                have hk103 := ky_of hT 21 (by decide) (by decide) hq103
                replace hq103 := Hd.i hq103
                first | refine r_if_eq (pc := 106) hX 45 (tgt := 114) rfl (by decide) (⟨by omega, by omega⟩) (fun h106 => ?_) (fun h106 => ?_) | refine r_if_eq_any (pc := 106) hX 45 (tgt := 114) rfl (by decide) ?_ ?_
                · refine r_iconst (pc := 114) hX 48 rfl ?_
                  exact r_iret (pc := 115) hX 49 hQ rfl rfl (Nat.le_refl 0) (Nat.le_refl 0) ⟨rfl, rfl, rfl, (-1), rfl, (by omega)⟩
                · refine r_bipush (pc := 109) hX 46 rfl (by decide) ?_
                  refine r_goto (pc := 111) hX 47 (tgt := 115) rfl (by decide) ?_
                  exact r_iret (pc := 115) hX 49 hQ rfl rfl (Nat.le_refl 0) (Nat.le_refl 0) ⟨rfl, rfl, rfl, 7, rfl, (by omega)⟩
              · refine r_bipush (pc := 94) hX 40 rfl (by decide) ?_
                refine r_goto (pc := 96) hX 41 (tgt := 115) rfl (by decide) ?_
                exact r_iret (pc := 115) hX 49 hQ rfl rfl (Nat.le_refl 0) (Nat.le_refl 0) ⟨rfl, rfl, rfl, 6, rfl, (by omega)⟩
            · refine r_iconst (pc := 80) hX 34 rfl ?_
              refine r_goto (pc := 81) hX 35 (tgt := 115) rfl (by decide) ?_
              exact r_iret (pc := 115) hX 49 hQ rfl rfl (Nat.le_refl 0) (Nat.le_refl 0) ⟨rfl, rfl, rfl, 5, rfl, (by omega)⟩
          · refine r_iconst (pc := 66) hX 28 rfl ?_
            refine r_goto (pc := 67) hX 29 (tgt := 115) rfl (by decide) ?_
            exact r_iret (pc := 115) hX 49 hQ rfl rfl (Nat.le_refl 0) (Nat.le_refl 0) ⟨rfl, rfl, rfl, 4, rfl, (by omega)⟩
        · refine r_iconst (pc := 52) hX 22 rfl ?_
          refine r_goto (pc := 53) hX 23 (tgt := 115) rfl (by decide) ?_
          exact r_iret (pc := 115) hX 49 hQ rfl rfl (Nat.le_refl 0) (Nat.le_refl 0) ⟨rfl, rfl, rfl, 3, rfl, (by omega)⟩
      · refine r_iconst (pc := 38) hX 16 rfl ?_
        refine r_goto (pc := 39) hX 17 (tgt := 115) rfl (by decide) ?_
        exact r_iret (pc := 115) hX 49 hQ rfl rfl (Nat.le_refl 0) (Nat.le_refl 0) ⟨rfl, rfl, rfl, 2, rfl, (by omega)⟩
    · refine r_iconst (pc := 24) hX 10 rfl ?_
      refine r_goto (pc := 25) hX 11 (tgt := 115) rfl (by decide) ?_
      exact r_iret (pc := 115) hX 49 hQ rfl rfl (Nat.le_refl 0) (Nat.le_refl 0) ⟨rfl, rfl, rfl, 1, rfl, (by omega)⟩
  · refine r_iconst (pc := 10) hX 4 rfl ?_
    refine r_goto (pc := 11) hX 5 (tgt := 115) rfl (by decide) ?_
    exact r_iret (pc := 115) hX 49 hQ rfl rfl (Nat.le_refl 0) (Nat.le_refl 0) ⟨rfl, rfl, rfl, 0, rfl, (by omega)⟩
