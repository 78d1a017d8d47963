set_option maxHeartbeats 4000000 in
set_option maxRecDepth 100000 in
theorem c_countF (g : Gp) (v ρ : Mv) (Z : Mz) (hG : GM ρ Z) (what : Int) (hS : SInv (v 180)) (hw : inR what) : Ok g 2 0 0 F_m_count [(2, 178), (0, what)] v ρ Z (fun o v' ρ' Z' => ρ = ρ' ∧ Z = Z' ∧ Fr [] [0] v v' ∧ ∃ r : Int, o = some (0, r) ∧ ((0 ≤ what ∧ what ≤ 5 ∧ r = v 180 what ∨ what = 6 ∧ r = v 178 2 ∨ (what < 0 ∨ 6 < what) ∧ r = -1))) := by
  refine Ok.of mo_m_count (Nat.le_of_ble_eq_true rfl) ?_
  intro X hX hRm hxn hQ
  show wp g X F_m_count 0 0 0 [(2, 178), (0, what)] [] v ρ Z
  refine r_aload_n (pc := 0) hX 0 rfl rfl ?_
  refine r_iconst (pc := 1) hX 1 rfl ?_
  refine r_putI (pc := 2) hX 2 rfl fl_X12_1 rfl (fun _ h => by cases h; rfl) hG.1 (by decide) ?_
  refine r_iload_n (pc := 5) hX 3 rfl rfl ?_
  refine r_bipush (pc := 6) hX 4 rfl (by decide) ?_
  first | refine r_icmp_ne (pc := 8) hX 5 (tgt := 18) rfl (by decide) (⟨by omega, by omega⟩) (⟨by omega, by omega⟩) (fun h8 => ?_) (fun h8 => ?_) | refine r_icmp_ne_any (pc := 8) hX 5 (tgt := 18) rfl (by decide) ?_ ?_
  · refine r_iload_n (pc := 18) hX 9 rfl rfl ?_
    refine r_iconst (pc := 19) hX 10 rfl ?_
    refine r_iconst (pc := 20) hX 11 rfl ?_
    refine r_callS (as := [(0, what), (0, 0), (0, 5)]) (st := []) (pc := 21) hX 12 rfl mo_m_isIn ml_X12_222 stt_m_isIn (c_isIn g (up v 178 0 0) ρ Z hG (what) (0) (5) (by omega) (by omega) (by omega)) rfl (by rw [hRm]; exact ⟨by decide, by decide⟩) (by rw [hRm]; exact ⟨by decide, by decide⟩) (Nat.le_of_ble_eq_true rfl) (fun o21 v21 ρ21 Z21 hq21 _ => ?_)
    obtain ⟨rfl, rfl, rfl, r21, rfl, hq21⟩ := hq21
    try simp only [up_f (show (180 : Int) ≠ 178 by decide)] at hq21
    show wp g X F_m_count 0 0 24 [(2, 178), (0, what)] [(0, r21)] (up v 178 0 0) ρ Z
    first | refine r_if_eq (pc := 24) hX 13 (tgt := 36) rfl (by decide) (⟨by omega, by omega⟩) (fun h24 => ?_) (fun h24 => ?_) | refine r_if_eq_any (pc := 24) hX 13 (tgt := 36) rfl (by decide) ?_ ?_
    · refine r_iconst (pc := 36) hX 19 rfl ?_
      exact r_iret (pc := 37) hX 20 hQ rfl rfl (Nat.le_refl 0) (Nat.le_refl 0) ⟨rfl, rfl, (Fr.rf).fld (k := 0) (by decide), (-1), rfl, (by omega)⟩
    · refine t_getR (pc := 27) hX 14 rfl rfl rfl fl_X12_33 rfl hG.1 (a_s hG).1 ?_
      refine r_iload_n (pc := 31) hX 16 rfl rfl ?_
      refine e_iald (y := (v 180 what)) (pc := 32) hX 17 rfl (a_s hG).2.1 (a_s hG).2.2 (by omega) (by omega) ((up_r (by decide)).trans (rfl)) ?_
      refine r_goto (pc := 33) hX 18 (tgt := 37) rfl (by decide) ?_
      exact r_iret (pc := 37) hX 20 hQ rfl rfl (Nat.le_refl 0) (Nat.le_refl 0) ⟨rfl, rfl, (Fr.rf).fld (k := 0) (by decide), (v 180 what), rfl, (by omega)⟩
  · refine t_getI (y := (v 178 2)) (pc := 11) hX 6 rfl rfl rfl fl_X12_7 rfl hG.1 ((up_k (by decide)).trans (rfl)) ?_
    refine r_goto (pc := 15) hX 8 (tgt := 37) rfl (by decide) ?_
    exact r_iret (pc := 37) hX 20 hQ rfl rfl (Nat.le_refl 0) (Nat.le_refl 0) ⟨rfl, rfl, (Fr.rf).fld (k := 0) (by decide), (v 178 2), rfl, (by omega)⟩
