set_option maxHeartbeats 4000000 in
set_option maxRecDepth 100000 in
theorem c_does (g : Gp) (v ρ : Mv) (Z : Mz) (hG : GM ρ Z) (k : Int) (hS : SInv (v 180)) (hk : 0 ≤ k ∧ k ≤ 117) (hr : (0 ≤ v 182 (k + 1) ∧ (v 182 k = 0 ∨ v 182 k = 1 → v 182 (k + 1) < v 180 2 ∧ 0 ≤ v 182 (k + 2) ∧ v 182 (k + 2) < v 180 0) ∧ (v 182 k = 2 → v 182 (k + 1) ≤ 4) ∧ 0 ≤ v 182 k ∧ v 182 k ≤ 2)) : Ok g 5 0 0 F_m_does [(2, 178), (0, k)] v ρ Z (fun o v' ρ' Z' => ρ = ρ' ∧ Z = Z' ∧ Fr [180, 185, 186, 189] [] v v' ∧ ∃ r : Int, o = some (0, r) ∧ (SInv (v' 180)) ∧ (RdEq (v 180) (v' 180))) := by
  refine Ok.of mo_m_does (Nat.le_of_ble_eq_true rfl) ?_
  intro X hX hRm hxn hQ
  show wp g X F_m_does 0 0 0 [(2, 178), (0, k), (3, 0), (3, 0), (3, 0), (3, 0)] [] v ρ Z
  have hb2 := hS.c2
  have hb0 := hS.c0
  refine t_getR (pc := 0) hX 0 rfl rfl rfl fl_X12_40 rfl hG.1 (a_read hG).1 ?_
  refine r_iload_n (pc := 4) hX 2 rfl rfl ?_
  refine r_iconst (pc := 5) hX 3 rfl ?_
  refine r_iadd (pc := 6) hX 4 rfl ?_
  refine e_iald (y := (v 182 (k + 1))) (pc := 7) hX 5 rfl (a_read hG).2.1 (a_read hG).2.2 (by omega) (by omega) (rfl) ?_
  refine r_istore_n (ls' := [(2, 178), (0, k), (0, (v 182 (k + 1))), (3, 0), (3, 0), (3, 0)]) (pc := 8) hX 6 rfl (by decide) rfl ?_
  refine t_getR (pc := 9) hX 7 rfl rfl rfl fl_X12_40 rfl hG.1 (a_read hG).1 ?_
  refine r_iload_n (pc := 13) hX 9 rfl rfl ?_
  refine r_iconst (pc := 14) hX 10 rfl ?_
  refine r_iadd (pc := 15) hX 11 rfl ?_
  refine e_iald (y := (v 182 (k + 2))) (pc := 16) hX 12 rfl (a_read hG).2.1 (a_read hG).2.2 (by omega) (by omega) (rfl) ?_
  refine r_istore_n (ls' := [(2, 178), (0, k), (0, (v 182 (k + 1))), (0, (v 182 (k + 2))), (3, 0), (3, 0)]) (pc := 17) hX 13 rfl (by decide) rfl ?_
  refine t_getR (pc := 18) hX 14 rfl rfl rfl fl_X12_40 rfl hG.1 (a_read hG).1 ?_
  refine r_iload_n (pc := 22) hX 16 rfl rfl ?_
  refine e_iald (y := (v 182 k)) (pc := 23) hX 17 rfl (a_read hG).2.1 (a_read hG).2.2 (by omega) (by omega) (rfl) ?_
  refine r_istore (ls' := [(2, 178), (0, k), (0, (v 182 (k + 1))), (0, (v 182 (k + 2))), (0, (v 182 k)), (3, 0)]) (pc := 24) hX 18 rfl (by decide) rfl ?_
  refine r_iload (pc := 26) hX 19 rfl rfl ?_
  first | refine r_if_ne (pc := 28) hX 20 (tgt := 40) rfl (by decide) (⟨by omega, by omega⟩) (fun h28 => ?_) (fun h28 => ?_) | refine r_if_ne_any (pc := 28) hX 20 (tgt := 40) rfl (by decide) ?_ ?_
  · refine r_iload (pc := 40) hX 26 rfl rfl ?_
    refine r_iconst (pc := 42) hX 27 rfl ?_
    first | refine r_icmp_ne (pc := 43) hX 28 (tgt := 55) rfl (by decide) (⟨by omega, by omega⟩) (⟨by omega, by omega⟩) (fun h43 => ?_) (fun h43 => ?_) | refine r_icmp_ne_any (pc := 43) hX 28 (tgt := 55) rfl (by decide) ?_ ?_
    · refine r_aload_n (pc := 55) hX 34 rfl rfl ?_
      refine r_iload_n (pc := 56) hX 35 rfl rfl ?_
      refine r_callV (as := [(0, (v 182 (k + 1)))]) (st := []) (K := 12) (pc := 57) hX 36 rfl mo_m_whyCome ml_X12_341 im_m_whyCome se_m_whyCome (c_whyCome g v ρ Z hG ((v 182 (k + 1))) (hS) (by omega)) rfl rfl rfl hG.1 (by rw [hRm]; exact ⟨by decide, by decide⟩) (by rw [hRm]; exact ⟨by decide, by decide⟩) (Nat.le_of_ble_eq_true rfl) (fun o57 v57 ρ57 Z57 hq57 _ => ?_)
      obtain ⟨rfl, rfl, hfr57, r57, rfl, hq57⟩ := hq57
      have hSInv_57 : SInv (v57 180) := by rw [hfr57.1 180 (by decide) (by decide)]; exact hS
      show wp g X F_m_does 0 0 60 [(2, 178), (0, k), (0, (v 182 (k + 1))), (0, (v 182 (k + 2))), (0, (v 182 k)), (3, 0)] [(0, r57)] v57 ρ Z
      have es57 : v57 180 = v 180 := hfr57.1 180 (by decide) (by decide)
      have hq57a := hq57.1
      have hq57b := hq57.2
      clear hq57
      refine r_istore (ls' := [(2, 178), (0, k), (0, (v 182 (k + 1))), (0, (v 182 (k + 2))), (0, (v 182 k)), (0, r57)]) (pc := 60) hX 37 rfl (by decide) rfl ?_
      refine r_iload (pc := 62) hX 38 rfl rfl ?_
      first | refine r_if_le (pc := 64) hX 39 (tgt := 76) rfl (by decide) (⟨by omega, by omega⟩) (fun h64 => ?_) (fun h64 => ?_) | refine r_if_le_any (pc := 64) hX 39 (tgt := 76) rfl (by decide) ?_ ?_
      · refine r_iload (pc := 76) hX 46 rfl rfl ?_
        first | refine r_if_ne (pc := 78) hX 47 (tgt := 90) rfl (by decide) (⟨by omega, by omega⟩) (fun h78 => ?_) (fun h78 => ?_) | refine r_if_ne_any (pc := 78) hX 47 (tgt := 90) rfl (by decide) ?_ ?_
        · refine r_iload (pc := 90) hX 53 rfl rfl ?_
          refine r_iconst (pc := 92) hX 54 rfl ?_
          first | refine r_icmp_ne (pc := 93) hX 55 (tgt := 105) rfl (by decide) (⟨by omega, by omega⟩) (⟨by omega, by omega⟩) (fun h93 => ?_) (fun h93 => ?_) | refine r_icmp_ne_any (pc := 93) hX 55 (tgt := 105) rfl (by decide) ?_ ?_
          · refine r_aload_n (pc := 105) hX 61 rfl rfl ?_
            refine r_iload_n (pc := 106) hX 62 rfl rfl ?_
            refine r_callV (as := [(0, (v 182 (k + 1)))]) (st := []) (K := 12) (pc := 107) hX 63 rfl mo_m_coming ml_X12_344 im_m_coming se_m_coming (c_coming g v57 ρ Z hG ((v 182 (k + 1))) (hSInv_57) (by first | (clear hq57b; omega) | omega) (by first | (rw [es57]; exact (hq57b (by clear hq57b; omega)).1) | (exfalso; omega)) (by first | (rw [es57]; obtain ⟨-, -, l, a, b, c1, d⟩ := hq57b (by clear hq57b; omega); exact ⟨l, ⟨a, b, c1⟩, d⟩) | (exfalso; omega))) rfl rfl rfl hG.1 (by rw [hRm]; exact ⟨by decide, by decide⟩) (by rw [hRm]; exact ⟨by decide, by decide⟩) (Nat.le_of_ble_eq_true rfl) (fun o107 v107 ρ107 Z107 hq107 _ => ?_)
            obtain ⟨rfl, rfl, hfr107, rfl, hq107⟩ := hq107
            show wp g X F_m_does 0 0 110 [(2, 178), (0, k), (0, (v 182 (k + 1))), (0, (v 182 (k + 2))), (0, (v 182 k)), (0, r57)] [] v107 ρ Z
            refine r_iconst (pc := 110) hX 64 rfl ?_
            exact r_iret (pc := 111) hX 65 hQ rfl rfl (Nat.le_refl 0) (Nat.le_refl 0) ⟨rfl, rfl, ((Fr.rf).tr hfr57 (by decide) (by decide)).tr hfr107 (by decide) (by decide), 0, rfl, (by first | exact hq84.1 | exact hq99.1 | exact hq107.1), (by first | (have z := hq84.2; (first | rw [es34] at z | rw [es49] at z | rw [es57] at z); exact z) | (have z := hq99.2; (first | rw [es34] at z | rw [es49] at z | rw [es57] at z); exact z) | (have z := hq107.2.1; (first | rw [es34] at z | rw [es49] at z | rw [es57] at z); exact z))⟩
          · refine r_aload_n (pc := 96) hX 56 rfl rfl ?_
            refine r_iload_n (pc := 97) hX 57 rfl rfl ?_
            refine r_iload_n (pc := 98) hX 58 rfl rfl ?_
            refine r_callV (as := [(0, (v 182 (k + 1))), (0, (v 182 (k + 2)))]) (st := []) (K := 12) (pc := 99) hX 59 rfl mo_m_turning ml_X12_338 im_m_turning se_m_turning (c_turning g v57 ρ Z hG ((v 182 (k + 1))) ((v 182 (k + 2))) (hSInv_57) (by first | omega | (clear hq57b; omega)) (by first | (rw [es34]; omega) | (rw [es49]; omega) | (clear hq57b; rw [es57]; omega))) rfl rfl rfl hG.1 (by rw [hRm]; exact ⟨by decide, by decide⟩) (by rw [hRm]; exact ⟨by decide, by decide⟩) (Nat.le_of_ble_eq_true rfl) (fun o99 v99 ρ99 Z99 hq99 _ => ?_)
            obtain ⟨rfl, rfl, hfr99, rfl, hq99⟩ := hq99
            show wp g X F_m_does 0 0 102 [(2, 178), (0, k), (0, (v 182 (k + 1))), (0, (v 182 (k + 2))), (0, (v 182 k)), (0, r57)] [] v99 ρ Z
            refine r_goto (pc := 102) hX 60 (tgt := 110) rfl (by decide) ?_
            refine r_iconst (pc := 110) hX 64 rfl ?_
            exact r_iret (pc := 111) hX 65 hQ rfl rfl (Nat.le_refl 0) (Nat.le_refl 0) ⟨rfl, rfl, ((Fr.rf).tr hfr57 (by decide) (by decide)).tr hfr99 (by decide) (by decide), 0, rfl, (by first | exact hq84.1 | exact hq99.1 | exact hq107.1), (by first | (have z := hq84.2; (first | rw [es34] at z | rw [es49] at z | rw [es57] at z); exact z) | (have z := hq99.2; (first | rw [es34] at z | rw [es49] at z | rw [es57] at z); exact z) | (have z := hq107.2.1; (first | rw [es34] at z | rw [es49] at z | rw [es57] at z); exact z))⟩
        · refine r_aload_n (pc := 81) hX 48 rfl rfl ?_
          refine r_iload_n (pc := 82) hX 49 rfl rfl ?_
          refine r_iload_n (pc := 83) hX 50 rfl rfl ?_
          refine r_callV (as := [(0, (v 182 (k + 1))), (0, (v 182 (k + 2)))]) (st := []) (K := 12) (pc := 84) hX 51 rfl mo_m_taking ml_X12_331 im_m_taking se_m_taking (c_taking g v57 ρ Z hG ((v 182 (k + 1))) ((v 182 (k + 2))) (hSInv_57) (by first | omega | (clear hq57b; omega)) (by first | (rw [es34]; omega) | (rw [es49]; omega) | (clear hq57b; rw [es57]; omega))) rfl rfl rfl hG.1 (by rw [hRm]; exact ⟨by decide, by decide⟩) (by rw [hRm]; exact ⟨by decide, by decide⟩) (Nat.le_of_ble_eq_true rfl) (fun o84 v84 ρ84 Z84 hq84 _ => ?_)
          obtain ⟨rfl, rfl, hfr84, rfl, hq84⟩ := hq84
          show wp g X F_m_does 0 0 87 [(2, 178), (0, k), (0, (v 182 (k + 1))), (0, (v 182 (k + 2))), (0, (v 182 k)), (0, r57)] [] v84 ρ Z
          refine r_goto (pc := 87) hX 52 (tgt := 110) rfl (by decide) ?_
          refine r_iconst (pc := 110) hX 64 rfl ?_
          exact r_iret (pc := 111) hX 65 hQ rfl rfl (Nat.le_refl 0) (Nat.le_refl 0) ⟨rfl, rfl, ((Fr.rf).tr hfr57 (by decide) (by decide)).tr hfr84 (by decide) (by decide), 0, rfl, (by first | exact hq84.1 | exact hq99.1 | exact hq107.1), (by first | (have z := hq84.2; (first | rw [es34] at z | rw [es49] at z | rw [es57] at z); exact z) | (have z := hq99.2; (first | rw [es34] at z | rw [es49] at z | rw [es57] at z); exact z) | (have z := hq107.2.1; (first | rw [es34] at z | rw [es49] at z | rw [es57] at z); exact z))⟩
      · refine r_bipush (pc := 67) hX 40 rfl (by decide) ?_
        refine r_iload (pc := 69) hX 41 rfl rfl ?_
        refine r_imul (pc := 71) hX 42 rfl ?_
        refine r_iload (pc := 72) hX 43 rfl rfl ?_
        refine r_iadd (pc := 74) hX 44 rfl ?_
        exact r_iret (pc := 75) hX 45 hQ rfl rfl (Nat.le_refl 0) (Nat.le_refl 0) ⟨rfl, rfl, (Fr.rf).tr hfr57 (by decide) (by decide), ((10 * (v 182 k)) + r57), rfl, (by first | exact hSInv_34 | exact hSInv_49 | exact hSInv_57), (by first | (rw [es34]; exact RdEq.rf) | (rw [es49]; exact RdEq.rf) | (rw [es57]; exact RdEq.rf))⟩
    · refine r_aload_n (pc := 46) hX 29 rfl rfl ?_
      refine r_iload_n (pc := 47) hX 30 rfl rfl ?_
      refine r_iload_n (pc := 48) hX 31 rfl rfl ?_
      refine r_callV (as := [(0, (v 182 (k + 1))), (0, (v 182 (k + 2)))]) (st := []) (K := 12) (pc := 49) hX 32 rfl mo_m_whyTurn ml_X12_335 im_m_whyTurn se_m_whyTurn (c_whyTurn g v ρ Z hG ((v 182 (k + 1))) ((v 182 (k + 2))) (hS) (by omega)) rfl rfl rfl hG.1 (by rw [hRm]; exact ⟨by decide, by decide⟩) (by rw [hRm]; exact ⟨by decide, by decide⟩) (Nat.le_of_ble_eq_true rfl) (fun o49 v49 ρ49 Z49 hq49 _ => ?_)
      obtain ⟨rfl, rfl, hfr49, r49, rfl, hq49⟩ := hq49
      have hSInv_49 : SInv (v49 180) := by rw [hfr49.1 180 (by decide) (by decide)]; exact hS
      show wp g X F_m_does 0 0 52 [(2, 178), (0, k), (0, (v 182 (k + 1))), (0, (v 182 (k + 2))), (0, (v 182 k)), (3, 0)] [(0, r49)] v49 ρ Z
      have es49 : v49 180 = v 180 := hfr49.1 180 (by decide) (by decide)
      refine r_goto (pc := 52) hX 33 (tgt := 60) rfl (by decide) ?_
      refine r_istore (ls' := [(2, 178), (0, k), (0, (v 182 (k + 1))), (0, (v 182 (k + 2))), (0, (v 182 k)), (0, r49)]) (pc := 60) hX 37 rfl (by decide) rfl ?_
      refine r_iload (pc := 62) hX 38 rfl rfl ?_
      first | refine r_if_le (pc := 64) hX 39 (tgt := 76) rfl (by decide) (⟨by omega, by omega⟩) (fun h64 => ?_) (fun h64 => ?_) | refine r_if_le_any (pc := 64) hX 39 (tgt := 76) rfl (by decide) ?_ ?_
      · refine r_iload (pc := 76) hX 46 rfl rfl ?_
        first | refine r_if_ne (pc := 78) hX 47 (tgt := 90) rfl (by decide) (⟨by omega, by omega⟩) (fun h78 => ?_) (fun h78 => ?_) | refine r_if_ne_any (pc := 78) hX 47 (tgt := 90) rfl (by decide) ?_ ?_
        · refine r_iload (pc := 90) hX 53 rfl rfl ?_
          refine r_iconst (pc := 92) hX 54 rfl ?_
          first | refine r_icmp_ne (pc := 93) hX 55 (tgt := 105) rfl (by decide) (⟨by omega, by omega⟩) (⟨by omega, by omega⟩) (fun h93 => ?_) (fun h93 => ?_) | refine r_icmp_ne_any (pc := 93) hX 55 (tgt := 105) rfl (by decide) ?_ ?_
          · refine r_aload_n (pc := 105) hX 61 rfl rfl ?_
            refine r_iload_n (pc := 106) hX 62 rfl rfl ?_
            refine r_callV (as := [(0, (v 182 (k + 1)))]) (st := []) (K := 12) (pc := 107) hX 63 rfl mo_m_coming ml_X12_344 im_m_coming se_m_coming (c_coming g v49 ρ Z hG ((v 182 (k + 1))) (hSInv_49) (by first | (clear hq57b; omega) | omega) (by first | (rw [es57]; exact (hq57b (by clear hq57b; omega)).1) | (exfalso; omega)) (by first | (rw [es57]; obtain ⟨-, -, l, a, b, c1, d⟩ := hq57b (by clear hq57b; omega); exact ⟨l, ⟨a, b, c1⟩, d⟩) | (exfalso; omega))) rfl rfl rfl hG.1 (by rw [hRm]; exact ⟨by decide, by decide⟩) (by rw [hRm]; exact ⟨by decide, by decide⟩) (Nat.le_of_ble_eq_true rfl) (fun o107 v107 ρ107 Z107 hq107 _ => ?_)
            obtain ⟨rfl, rfl, hfr107, rfl, hq107⟩ := hq107
            show wp g X F_m_does 0 0 110 [(2, 178), (0, k), (0, (v 182 (k + 1))), (0, (v 182 (k + 2))), (0, (v 182 k)), (0, r49)] [] v107 ρ Z
            refine r_iconst (pc := 110) hX 64 rfl ?_
            exact r_iret (pc := 111) hX 65 hQ rfl rfl (Nat.le_refl 0) (Nat.le_refl 0) ⟨rfl, rfl, ((Fr.rf).tr hfr49 (by decide) (by decide)).tr hfr107 (by decide) (by decide), 0, rfl, (by first | exact hq84.1 | exact hq99.1 | exact hq107.1), (by first | (have z := hq84.2; (first | rw [es34] at z | rw [es49] at z | rw [es57] at z); exact z) | (have z := hq99.2; (first | rw [es34] at z | rw [es49] at z | rw [es57] at z); exact z) | (have z := hq107.2.1; (first | rw [es34] at z | rw [es49] at z | rw [es57] at z); exact z))⟩
          · refine r_aload_n (pc := 96) hX 56 rfl rfl ?_
            refine r_iload_n (pc := 97) hX 57 rfl rfl ?_
            refine r_iload_n (pc := 98) hX 58 rfl rfl ?_
            refine r_callV (as := [(0, (v 182 (k + 1))), (0, (v 182 (k + 2)))]) (st := []) (K := 12) (pc := 99) hX 59 rfl mo_m_turning ml_X12_338 im_m_turning se_m_turning (c_turning g v49 ρ Z hG ((v 182 (k + 1))) ((v 182 (k + 2))) (hSInv_49) (by first | omega | (clear hq57b; omega)) (by first | (rw [es34]; omega) | (rw [es49]; omega) | (clear hq57b; rw [es57]; omega))) rfl rfl rfl hG.1 (by rw [hRm]; exact ⟨by decide, by decide⟩) (by rw [hRm]; exact ⟨by decide, by decide⟩) (Nat.le_of_ble_eq_true rfl) (fun o99 v99 ρ99 Z99 hq99 _ => ?_)
            obtain ⟨rfl, rfl, hfr99, rfl, hq99⟩ := hq99
            show wp g X F_m_does 0 0 102 [(2, 178), (0, k), (0, (v 182 (k + 1))), (0, (v 182 (k + 2))), (0, (v 182 k)), (0, r49)] [] v99 ρ Z
            refine r_goto (pc := 102) hX 60 (tgt := 110) rfl (by decide) ?_
            refine r_iconst (pc := 110) hX 64 rfl ?_
            exact r_iret (pc := 111) hX 65 hQ rfl rfl (Nat.le_refl 0) (Nat.le_refl 0) ⟨rfl, rfl, ((Fr.rf).tr hfr49 (by decide) (by decide)).tr hfr99 (by decide) (by decide), 0, rfl, (by first | exact hq84.1 | exact hq99.1 | exact hq107.1), (by first | (have z := hq84.2; (first | rw [es34] at z | rw [es49] at z | rw [es57] at z); exact z) | (have z := hq99.2; (first | rw [es34] at z | rw [es49] at z | rw [es57] at z); exact z) | (have z := hq107.2.1; (first | rw [es34] at z | rw [es49] at z | rw [es57] at z); exact z))⟩
        · refine r_aload_n (pc := 81) hX 48 rfl rfl ?_
          refine r_iload_n (pc := 82) hX 49 rfl rfl ?_
          refine r_iload_n (pc := 83) hX 50 rfl rfl ?_
          refine r_callV (as := [(0, (v 182 (k + 1))), (0, (v 182 (k + 2)))]) (st := []) (K := 12) (pc := 84) hX 51 rfl mo_m_taking ml_X12_331 im_m_taking se_m_taking (c_taking g v49 ρ Z hG ((v 182 (k + 1))) ((v 182 (k + 2))) (hSInv_49) (by first | omega | (clear hq57b; omega)) (by first | (rw [es34]; omega) | (rw [es49]; omega) | (clear hq57b; rw [es57]; omega))) rfl rfl rfl hG.1 (by rw [hRm]; exact ⟨by decide, by decide⟩) (by rw [hRm]; exact ⟨by decide, by decide⟩) (Nat.le_of_ble_eq_true rfl) (fun o84 v84 ρ84 Z84 hq84 _ => ?_)
          obtain ⟨rfl, rfl, hfr84, rfl, hq84⟩ := hq84
          show wp g X F_m_does 0 0 87 [(2, 178), (0, k), (0, (v 182 (k + 1))), (0, (v 182 (k + 2))), (0, (v 182 k)), (0, r49)] [] v84 ρ Z
          refine r_goto (pc := 87) hX 52 (tgt := 110) rfl (by decide) ?_
          refine r_iconst (pc := 110) hX 64 rfl ?_
          exact r_iret (pc := 111) hX 65 hQ rfl rfl (Nat.le_refl 0) (Nat.le_refl 0) ⟨rfl, rfl, ((Fr.rf).tr hfr49 (by decide) (by decide)).tr hfr84 (by decide) (by decide), 0, rfl, (by first | exact hq84.1 | exact hq99.1 | exact hq107.1), (by first | (have z := hq84.2; (first | rw [es34] at z | rw [es49] at z | rw [es57] at z); exact z) | (have z := hq99.2; (first | rw [es34] at z | rw [es49] at z | rw [es57] at z); exact z) | (have z := hq107.2.1; (first | rw [es34] at z | rw [es49] at z | rw [es57] at z); exact z))⟩
      · refine r_bipush (pc := 67) hX 40 rfl (by decide) ?_
        refine r_iload (pc := 69) hX 41 rfl rfl ?_
        refine r_imul (pc := 71) hX 42 rfl ?_
        refine r_iload (pc := 72) hX 43 rfl rfl ?_
        refine r_iadd (pc := 74) hX 44 rfl ?_
        exact r_iret (pc := 75) hX 45 hQ rfl rfl (Nat.le_refl 0) (Nat.le_refl 0) ⟨rfl, rfl, (Fr.rf).tr hfr49 (by decide) (by decide), ((10 * (v 182 k)) + r49), rfl, (by first | exact hSInv_34 | exact hSInv_49 | exact hSInv_57), (by first | (rw [es34]; exact RdEq.rf) | (rw [es49]; exact RdEq.rf) | (rw [es57]; exact RdEq.rf))⟩
  · refine r_aload_n (pc := 31) hX 21 rfl rfl ?_
    refine r_iload_n (pc := 32) hX 22 rfl rfl ?_
    refine r_iload_n (pc := 33) hX 23 rfl rfl ?_
    refine r_callV (as := [(0, (v 182 (k + 1))), (0, (v 182 (k + 2)))]) (st := []) (K := 12) (pc := 34) hX 24 rfl mo_m_whyTake ml_X12_325 im_m_whyTake se_m_whyTake (c_whyTake g v ρ Z hG ((v 182 (k + 1))) ((v 182 (k + 2))) (hS) (by omega)) rfl rfl rfl hG.1 (by rw [hRm]; exact ⟨by decide, by decide⟩) (by rw [hRm]; exact ⟨by decide, by decide⟩) (Nat.le_of_ble_eq_true rfl) (fun o34 v34 ρ34 Z34 hq34 _ => ?_)
    obtain ⟨rfl, rfl, hfr34, r34, rfl, hq34⟩ := hq34
    have hSInv_34 : SInv (v34 180) := by rw [hfr34.1 180 (by decide) (by decide)]; exact hS
    show wp g X F_m_does 0 0 37 [(2, 178), (0, k), (0, (v 182 (k + 1))), (0, (v 182 (k + 2))), (0, (v 182 k)), (3, 0)] [(0, r34)] v34 ρ Z
    have es34 : v34 180 = v 180 := hfr34.1 180 (by decide) (by decide)
    refine r_goto (pc := 37) hX 25 (tgt := 60) rfl (by decide) ?_
    refine r_istore (ls' := [(2, 178), (0, k), (0, (v 182 (k + 1))), (0, (v 182 (k + 2))), (0, (v 182 k)), (0, r34)]) (pc := 60) hX 37 rfl (by decide) rfl ?_
    refine r_iload (pc := 62) hX 38 rfl rfl ?_
    first | refine r_if_le (pc := 64) hX 39 (tgt := 76) rfl (by decide) (⟨by omega, by omega⟩) (fun h64 => ?_) (fun h64 => ?_) | refine r_if_le_any (pc := 64) hX 39 (tgt := 76) rfl (by decide) ?_ ?_
    · refine r_iload (pc := 76) hX 46 rfl rfl ?_
      first | refine r_if_ne (pc := 78) hX 47 (tgt := 90) rfl (by decide) (⟨by omega, by omega⟩) (fun h78 => ?_) (fun h78 => ?_) | refine r_if_ne_any (pc := 78) hX 47 (tgt := 90) rfl (by decide) ?_ ?_
      · refine r_iload (pc := 90) hX 53 rfl rfl ?_
        refine r_iconst (pc := 92) hX 54 rfl ?_
        first | refine r_icmp_ne (pc := 93) hX 55 (tgt := 105) rfl (by decide) (⟨by omega, by omega⟩) (⟨by omega, by omega⟩) (fun h93 => ?_) (fun h93 => ?_) | refine r_icmp_ne_any (pc := 93) hX 55 (tgt := 105) rfl (by decide) ?_ ?_
        · refine r_aload_n (pc := 105) hX 61 rfl rfl ?_
          refine r_iload_n (pc := 106) hX 62 rfl rfl ?_
          refine r_callV (as := [(0, (v 182 (k + 1)))]) (st := []) (K := 12) (pc := 107) hX 63 rfl mo_m_coming ml_X12_344 im_m_coming se_m_coming (c_coming g v34 ρ Z hG ((v 182 (k + 1))) (hSInv_34) (by first | (clear hq57b; omega) | omega) (by first | (rw [es57]; exact (hq57b (by clear hq57b; omega)).1) | (exfalso; omega)) (by first | (rw [es57]; obtain ⟨-, -, l, a, b, c1, d⟩ := hq57b (by clear hq57b; omega); exact ⟨l, ⟨a, b, c1⟩, d⟩) | (exfalso; omega))) rfl rfl rfl hG.1 (by rw [hRm]; exact ⟨by decide, by decide⟩) (by rw [hRm]; exact ⟨by decide, by decide⟩) (Nat.le_of_ble_eq_true rfl) (fun o107 v107 ρ107 Z107 hq107 _ => ?_)
          obtain ⟨rfl, rfl, hfr107, rfl, hq107⟩ := hq107
          show wp g X F_m_does 0 0 110 [(2, 178), (0, k), (0, (v 182 (k + 1))), (0, (v 182 (k + 2))), (0, (v 182 k)), (0, r34)] [] v107 ρ Z
          refine r_iconst (pc := 110) hX 64 rfl ?_
          exact r_iret (pc := 111) hX 65 hQ rfl rfl (Nat.le_refl 0) (Nat.le_refl 0) ⟨rfl, rfl, ((Fr.rf).tr hfr34 (by decide) (by decide)).tr hfr107 (by decide) (by decide), 0, rfl, (by first | exact hq84.1 | exact hq99.1 | exact hq107.1), (by first | (have z := hq84.2; (first | rw [es34] at z | rw [es49] at z | rw [es57] at z); exact z) | (have z := hq99.2; (first | rw [es34] at z | rw [es49] at z | rw [es57] at z); exact z) | (have z := hq107.2.1; (first | rw [es34] at z | rw [es49] at z | rw [es57] at z); exact z))⟩
        · refine r_aload_n (pc := 96) hX 56 rfl rfl ?_
          refine r_iload_n (pc := 97) hX 57 rfl rfl ?_
          refine r_iload_n (pc := 98) hX 58 rfl rfl ?_
          refine r_callV (as := [(0, (v 182 (k + 1))), (0, (v 182 (k + 2)))]) (st := []) (K := 12) (pc := 99) hX 59 rfl mo_m_turning ml_X12_338 im_m_turning se_m_turning (c_turning g v34 ρ Z hG ((v 182 (k + 1))) ((v 182 (k + 2))) (hSInv_34) (by first | omega | (clear hq57b; omega)) (by first | (rw [es34]; omega) | (rw [es49]; omega) | (clear hq57b; rw [es57]; omega))) rfl rfl rfl hG.1 (by rw [hRm]; exact ⟨by decide, by decide⟩) (by rw [hRm]; exact ⟨by decide, by decide⟩) (Nat.le_of_ble_eq_true rfl) (fun o99 v99 ρ99 Z99 hq99 _ => ?_)
          obtain ⟨rfl, rfl, hfr99, rfl, hq99⟩ := hq99
          show wp g X F_m_does 0 0 102 [(2, 178), (0, k), (0, (v 182 (k + 1))), (0, (v 182 (k + 2))), (0, (v 182 k)), (0, r34)] [] v99 ρ Z
          refine r_goto (pc := 102) hX 60 (tgt := 110) rfl (by decide) ?_
          refine r_iconst (pc := 110) hX 64 rfl ?_
          exact r_iret (pc := 111) hX 65 hQ rfl rfl (Nat.le_refl 0) (Nat.le_refl 0) ⟨rfl, rfl, ((Fr.rf).tr hfr34 (by decide) (by decide)).tr hfr99 (by decide) (by decide), 0, rfl, (by first | exact hq84.1 | exact hq99.1 | exact hq107.1), (by first | (have z := hq84.2; (first | rw [es34] at z | rw [es49] at z | rw [es57] at z); exact z) | (have z := hq99.2; (first | rw [es34] at z | rw [es49] at z | rw [es57] at z); exact z) | (have z := hq107.2.1; (first | rw [es34] at z | rw [es49] at z | rw [es57] at z); exact z))⟩
      · refine r_aload_n (pc := 81) hX 48 rfl rfl ?_
        refine r_iload_n (pc := 82) hX 49 rfl rfl ?_
        refine r_iload_n (pc := 83) hX 50 rfl rfl ?_
        refine r_callV (as := [(0, (v 182 (k + 1))), (0, (v 182 (k + 2)))]) (st := []) (K := 12) (pc := 84) hX 51 rfl mo_m_taking ml_X12_331 im_m_taking se_m_taking (c_taking g v34 ρ Z hG ((v 182 (k + 1))) ((v 182 (k + 2))) (hSInv_34) (by first | omega | (clear hq57b; omega)) (by first | (rw [es34]; omega) | (rw [es49]; omega) | (clear hq57b; rw [es57]; omega))) rfl rfl rfl hG.1 (by rw [hRm]; exact ⟨by decide, by decide⟩) (by rw [hRm]; exact ⟨by decide, by decide⟩) (Nat.le_of_ble_eq_true rfl) (fun o84 v84 ρ84 Z84 hq84 _ => ?_)
        obtain ⟨rfl, rfl, hfr84, rfl, hq84⟩ := hq84
        show wp g X F_m_does 0 0 87 [(2, 178), (0, k), (0, (v 182 (k + 1))), (0, (v 182 (k + 2))), (0, (v 182 k)), (0, r34)] [] v84 ρ Z
        refine r_goto (pc := 87) hX 52 (tgt := 110) rfl (by decide) ?_
        refine r_iconst (pc := 110) hX 64 rfl ?_
        exact r_iret (pc := 111) hX 65 hQ rfl rfl (Nat.le_refl 0) (Nat.le_refl 0) ⟨rfl, rfl, ((Fr.rf).tr hfr34 (by decide) (by decide)).tr hfr84 (by decide) (by decide), 0, rfl, (by first | exact hq84.1 | exact hq99.1 | exact hq107.1), (by first | (have z := hq84.2; (first | rw [es34] at z | rw [es49] at z | rw [es57] at z); exact z) | (have z := hq99.2; (first | rw [es34] at z | rw [es49] at z | rw [es57] at z); exact z) | (have z := hq107.2.1; (first | rw [es34] at z | rw [es49] at z | rw [es57] at z); exact z))⟩
    · refine r_bipush (pc := 67) hX 40 rfl (by decide) ?_
      refine r_iload (pc := 69) hX 41 rfl rfl ?_
      refine r_imul (pc := 71) hX 42 rfl ?_
      refine r_iload (pc := 72) hX 43 rfl rfl ?_
      refine r_iadd (pc := 74) hX 44 rfl ?_
      exact r_iret (pc := 75) hX 45 hQ rfl rfl (Nat.le_refl 0) (Nat.le_refl 0) ⟨rfl, rfl, (Fr.rf).tr hfr34 (by decide) (by decide), ((10 * (v 182 k)) + r34), rfl, (by first | exact hSInv_34 | exact hSInv_49 | exact hSInv_57), (by first | (rw [es34]; exact RdEq.rf) | (rw [es49]; exact RdEq.rf) | (rw [es57]; exact RdEq.rf))⟩
