set_option maxHeartbeats 4000000 in
set_option maxRecDepth 100000 in
theorem c_count (g : Gp) (v ρ : Mv) (Z : Mz) (hG : GM ρ Z) (what : Int) (hS : SInv (v 180)) (hw : inR what) : Ok g 2 0 0 F_m_count [(2, 178), (0, what)] v ρ Z (fun o v' ρ' Z' => ρ = ρ' ∧ Z = Z' ∧ Fr [] [0] v v' ∧ ∃ r : Int, o = some (0, r) ∧ True) := by
  refine Ok.of mo_m_count (Nat.le_of_ble_eq_true rfl) ?_
  intro X hX hRm hxn hQ
  show wp g X F_m_count 0 0 0 [(2, 178), (0, what)] [] v ρ Z
  refine r_aload_n (pc := 0) hX 0 rfl rfl ?_
  refine r_iconst (pc := 1) hX 1 rfl ?_
  refine r_putI (pc := 2) hX 2 rfl fl_X12_1 rfl (fun _ h => by cases h; rfl) hG.1 (by decide) ?_
  refine r_iload_n (pc := 5) hX 3 rfl rfl ?_
  refine r_bipush (pc := 6) hX 4 rfl (by decide) ?_
  first | refine r_icmp_ne (pc := 8) hX 5 (tgt := 18) rfl (by decide) (⟨by omega, by omega⟩) (⟨by omega, by omega⟩) (fun h8 => ?_) (fun h8 => ?_) | refine r_icmp_ne_any (pc := 8) hX 5 (tgt := 18) rfl (by decide) ?_ ?_
  · refine r_iload_n (pc := 18) hX 9 rfl rfl ?_
    refine r_iconst (pc := 19) hX 10 rfl ?_
    refine r_iconst (pc := 20) hX 11 rfl ?_
    refine r_callS (as := [(0, what), (0, 0), (0, 5)]) (st := []) (pc := 21) hX 12 rfl mo_m_isIn ml_X12_222 stt_m_isIn (c_isIn g (up v 178 0 0) ρ Z hG (what) (0) (5) (by omega) (by omega) (by omega)) rfl (by rw [hRm]; exact ⟨by decide, by decide⟩) (by rw [hRm]; exact ⟨by decide, by decide⟩) (Nat.le_of_ble_eq_true rfl) (fun o21 v21 ρ21 Z21 hq21 _ => ?_)
    obtain ⟨rfl, rfl, rfl, r21, rfl, hq21⟩ := hq21
    try simp only [up_f (show (180 : Int) ≠ 178 by decide)] at hq21
    show wp g X F_m_count 0 0 24 [(2, 178), (0, what)] [(0, r21)] (up v 178 0 0) ρ Z
    first | refine r_if_eq (pc := 24) hX 13 (tgt := 36) rfl (by decide) (⟨by omega, by omega⟩) (fun h24 => ?_) (fun h24 => ?_) | refine r_if_eq_any (pc := 24) hX 13 (tgt := 36) rfl (by decide) ?_ ?_
    · refine r_iconst (pc := 36) hX 19 rfl ?_
      exact r_iret (pc := 37) hX 20 hQ rfl rfl (Nat.le_refl 0) (Nat.le_refl 0) ⟨rfl, rfl, (Fr.rf).fld (k := 0) (by decide), (-1), rfl, trivial⟩
    · refine t_getR (pc := 27) hX 14 rfl rfl rfl fl_X12_33 rfl hG.1 (a_s hG).1 ?_
      refine r_iload_n (pc := 31) hX 16 rfl rfl ?_
      refine e_iald (y := (v 180 what)) (pc := 32) hX 17 rfl (a_s hG).2.1 (a_s hG).2.2 (by omega) (by omega) ((up_r (by decide)).trans (rfl)) ?_
      refine r_goto (pc := 33) hX 18 (tgt := 37) rfl (by decide) ?_
      exact r_iret (pc := 37) hX 20 hQ rfl rfl (Nat.le_refl 0) (Nat.le_refl 0) ⟨rfl, rfl, (Fr.rf).fld (k := 0) (by decide), (v 180 what), rfl, trivial⟩
  · refine t_getI (y := (v 178 2)) (pc := 11) hX 6 rfl rfl rfl fl_X12_7 rfl hG.1 ((up_k (by decide)).trans (rfl)) ?_
    refine r_goto (pc := 15) hX 8 (tgt := 37) rfl (by decide) ?_
    exact r_iret (pc := 37) hX 20 hQ rfl rfl (Nat.le_refl 0) (Nat.le_refl 0) ⟨rfl, rfl, (Fr.rf).fld (k := 0) (by decide), (v 178 2), rfl, trivial⟩
set_option maxHeartbeats 4000000 in
set_option maxRecDepth 100000 in
theorem c_logged (g : Gp) (v ρ : Mv) (Z : Mz) (hG : GM ρ Z) (what : Int) (hw : inR what) (hh : 0 ≤ v 178 49 ∧ v 178 49 ≤ 1) : Ok g 2 0 0 F_m_logged [(2, 178), (0, what)] v ρ Z (fun o v' ρ' Z' => ρ = ρ' ∧ Z = Z' ∧ Fr [] [0] v v' ∧ ∃ r : Int, o = some (0, r) ∧ True) := by
  refine Ok.of mo_m_logged (Nat.le_of_ble_eq_true rfl) ?_
  intro X hX hRm hxn hQ
  show wp g X F_m_logged 0 0 0 [(2, 178), (0, what)] [] v ρ Z
  refine r_aload_n (pc := 0) hX 0 rfl rfl ?_
  refine r_iconst (pc := 1) hX 1 rfl ?_
  refine r_putI (pc := 2) hX 2 rfl fl_X12_1 rfl (fun _ h => by cases h; rfl) hG.1 (by decide) ?_
  refine t_getI (y := (v 178 49)) (pc := 5) hX 3 rfl rfl rfl fl_X12_486 rfl hG.1 ((up_k (by decide)).trans (rfl)) ?_
  first | refine r_if_eq (pc := 9) hX 5 (tgt := 30) rfl (by decide) (⟨by omega, by omega⟩) (fun h9 => ?_) (fun h9 => ?_) | refine r_if_eq_any (pc := 9) hX 5 (tgt := 30) rfl (by decide) ?_ ?_
  · refine r_iconst (pc := 30) hX 16 rfl ?_
    exact r_iret (pc := 31) hX 17 hQ rfl rfl (Nat.le_refl 0) (Nat.le_refl 0) ⟨rfl, rfl, (Fr.rf).fld (k := 0) (by decide), (-1), rfl, trivial⟩
  · refine r_iload_n (pc := 12) hX 6 rfl rfl ?_
    refine r_iconst (pc := 13) hX 7 rfl ?_
    refine r_iconst (pc := 14) hX 8 rfl ?_
    refine r_callS (as := [(0, what), (0, 0), (0, 3)]) (st := []) (pc := 15) hX 9 rfl mo_m_isIn ml_X12_222 stt_m_isIn (c_isIn g (up v 178 0 0) ρ Z hG (what) (0) (3) (by omega) (by omega) (by omega)) rfl (by rw [hRm]; exact ⟨by decide, by decide⟩) (by rw [hRm]; exact ⟨by decide, by decide⟩) (Nat.le_of_ble_eq_true rfl) (fun o15 v15 ρ15 Z15 hq15 _ => ?_)
    obtain ⟨rfl, rfl, rfl, r15, rfl, hq15⟩ := hq15
    try simp only [up_f (show (180 : Int) ≠ 178 by decide)] at hq15
    show wp g X F_m_logged 0 0 18 [(2, 178), (0, what)] [(0, r15)] (up v 178 0 0) ρ Z
    first | refine r_if_eq (pc := 18) hX 10 (tgt := 30) rfl (by decide) (⟨by omega, by omega⟩) (fun h18 => ?_) (fun h18 => ?_) | refine r_if_eq_any (pc := 18) hX 10 (tgt := 30) rfl (by decide) ?_ ?_
    · refine r_iconst (pc := 30) hX 16 rfl ?_
      exact r_iret (pc := 31) hX 17 hQ rfl rfl (Nat.le_refl 0) (Nat.le_refl 0) ⟨rfl, rfl, (Fr.rf).fld (k := 0) (by decide), (-1), rfl, trivial⟩
    · refine t_getR (pc := 21) hX 11 rfl rfl rfl fl_X12_111 rfl hG.1 (a_loggedAt hG).1 ?_
      refine r_iload_n (pc := 25) hX 13 rfl rfl ?_
      refine e_iald (y := (v 204 what)) (pc := 26) hX 14 rfl (a_loggedAt hG).2.1 (a_loggedAt hG).2.2 (by omega) (by omega) ((up_r (by decide)).trans (rfl)) ?_
      refine r_goto (pc := 27) hX 15 (tgt := 31) rfl (by decide) ?_
      exact r_iret (pc := 31) hX 17 hQ rfl rfl (Nat.le_refl 0) (Nat.le_refl 0) ⟨rfl, rfl, (Fr.rf).fld (k := 0) (by decide), (v 204 what), rfl, trivial⟩
set_option maxHeartbeats 4000000 in
set_option maxRecDepth 100000 in
theorem c_image (g : Gp) (v ρ : Mv) (Z : Mz) (hG : GM ρ Z) (k : Int) (hk : inR k) : Ok g 2 0 0 F_m_image [(2, 178), (0, k)] v ρ Z (fun o v' ρ' Z' => ρ = ρ' ∧ Z = Z' ∧ Fr [207, 208, 209] [0] v v' ∧ ∃ r : Int, o = some (0, r) ∧ ((r = 0 ∧ (k < 0 ∨ 1 < k) ∧ v' 207 = v 207 ∧ v' 209 = v 209 ∨ r = 1 ∧ 0 ≤ k ∧ k ≤ 1 ∧ (∀ i, 0 ≤ i → i < 238 → v' 207 (238 * k + i) = v 180 i) ∧ (∀ j, ¬ (238 * k ≤ j ∧ j < 238 * k + 238) → v' 207 j = v 207 j) ∧ (∀ j, j ≠ k → v' 209 j = v 209 j) ∧ v' 209 k = 1))) := by
  refine Ok.of mo_m_image (Nat.le_of_ble_eq_true rfl) ?_
  intro X hX hRm hxn hQ
  show wp g X F_m_image 0 0 0 [(2, 178), (0, k), (3, 0)] [] v ρ Z
  refine r_aload_n (pc := 0) hX 0 rfl rfl ?_
  refine r_iconst (pc := 1) hX 1 rfl ?_
  refine r_putI (pc := 2) hX 2 rfl fl_X12_1 rfl (fun _ h => by cases h; rfl) hG.1 (by decide) ?_
  refine r_iload_n (pc := 5) hX 3 rfl rfl ?_
  refine r_iconst (pc := 6) hX 4 rfl ?_
  refine r_iconst (pc := 7) hX 5 rfl ?_
  refine r_callS (as := [(0, k), (0, 0), (0, 1)]) (st := []) (pc := 8) hX 6 rfl mo_m_isIn ml_X12_222 stt_m_isIn (c_isIn g (up v 178 0 0) ρ Z hG (k) (0) (1) (by omega) (by omega) (by omega)) rfl (by rw [hRm]; exact ⟨by decide, by decide⟩) (by rw [hRm]; exact ⟨by decide, by decide⟩) (Nat.le_of_ble_eq_true rfl) (fun o8 v8 ρ8 Z8 hq8 _ => ?_)
  obtain ⟨rfl, rfl, rfl, r8, rfl, hq8⟩ := hq8
  try simp only [up_f (show (180 : Int) ≠ 178 by decide)] at hq8
  show wp g X F_m_image 0 0 11 [(2, 178), (0, k), (3, 0)] [(0, r8)] (up v 178 0 0) ρ Z
  first | refine r_if_ne (pc := 11) hX 7 (tgt := 16) rfl (by decide) (⟨by omega, by omega⟩) (fun h11 => ?_) (fun h11 => ?_) | refine r_if_ne_any (pc := 11) hX 7 (tgt := 16) rfl (by decide) ?_ ?_
  · refine r_iconst (pc := 16) hX 10 rfl ?_
    refine r_istore_n (ls' := [(2, 178), (0, k), (0, 0)]) (pc := 17) hX 11 rfl (by decide) rfl ?_
    have L18 : ∀ (n18 : Nat) (i : Int) (v18 : Mv) , (Fr [207, 208, 209] [0] v v18) → (0 ≤ i ∧ i ≤ 238) → (∀ j, 0 ≤ j → j < i → v18 207 (238 * k + j) = v 180 j) → (∀ j, ¬ (238 * k ≤ j ∧ j < 238 * k + 238) → v18 207 j = v 207 j) → (v18 209 = v 209) → (238 - i).toNat < n18 → wp g X F_m_image 0 0 18 [(2, 178), (0, k), (0, i)] [] v18 ρ Z := by
      intro n18
      induction n18 with
      | zero => intro i v18 hfr18 ii ia ib ic hme18; exact absurd hme18 (Nat.not_lt_zero _)
      | succ n18 ih18 =>
        intro i v18 hfr18 ii ia ib ic hme18
        have es18 : v18 180 = v 180 := hfr18.1 180 (by decide) (by decide)
        refine r_iload_n (pc := 18) hX 12 rfl rfl ?_
        refine r_sipush (pc := 19) hX 13 rfl (by decide) ?_
        first | refine r_icmp_ge (pc := 22) hX 14 (tgt := 49) rfl (by decide) (⟨by omega, by omega⟩) (⟨by omega, by omega⟩) (fun h22 => ?_) (fun h22 => ?_) | refine r_icmp_ge_any (pc := 22) hX 14 (tgt := 49) rfl (by decide) ?_ ?_
        · refine r_iconst (pc := 49) hX 29 rfl ?_
          refine r_istore_n (ls' := [(2, 178), (0, k), (0, 0)]) (pc := 50) hX 30 rfl (by decide) rfl ?_
          have L51 : ∀ (n51 : Nat) (i : Int) (v51 : Mv) , (Fr [207, 208, 209] [0] v v51) → (0 ≤ i ∧ i ≤ 10) → (∀ j, 0 ≤ j → j < 238 → v51 207 (238 * k + j) = v 180 j) → (∀ j, ¬ (238 * k ≤ j ∧ j < 238 * k + 238) → v51 207 j = v 207 j) → (v51 209 = v 209) → (10 - i).toNat < n51 → wp g X F_m_image 0 0 51 [(2, 178), (0, k), (0, i)] [] v51 ρ Z := by
            intro n51
            induction n51 with
            | zero => intro i v51 hfr51 ii ia ib ic hme51; exact absurd hme51 (Nat.not_lt_zero _)
            | succ n51 ih51 =>
              intro i v51 hfr51 ii ia ib ic hme51
              refine r_iload_n (pc := 51) hX 31 rfl rfl ?_
              refine r_bipush (pc := 52) hX 32 rfl (by decide) ?_
              first | refine r_icmp_ge (pc := 54) hX 33 (tgt := 80) rfl (by decide) (⟨by omega, by omega⟩) (⟨by omega, by omega⟩) (fun h54 => ?_) (fun h54 => ?_) | refine r_icmp_ge_any (pc := 54) hX 33 (tgt := 80) rfl (by decide) ?_ ?_
              · refine t_getR (pc := 80) hX 48 rfl rfl rfl fl_X12_127 rfl hG.1 (a_areKept hG).1 ?_
                refine r_iload_n (pc := 84) hX 50 rfl rfl ?_
                refine r_iconst (pc := 85) hX 51 rfl ?_
                refine e_zast (pc := 86) hX 52 rfl (a_areKept hG).2.1 (a_areKept hG).2.2 (by decide) (by omega) (by omega) ⟨by omega, by omega⟩ ?_
                refine r_iconst (pc := 87) hX 53 rfl ?_
                exact r_zret (pc := 88) hX 54 hQ rfl rfl ⟨by omega, by omega⟩ (Nat.le_refl 0) (Nat.le_refl 0) ⟨rfl, rfl, (hfr51).arr (r := 209) (by decide) (by decide), 1, rfl, (Or.inr ⟨rfl, by omega, by omega, by rw [up_f (by decide)]; exact ia, by rw [up_f (by decide)]; exact ib, fun j hj => by rw [up_k hj, ic], up_s _ _ _ _⟩)⟩
              · refine t_getR (pc := 57) hX 34 rfl rfl rfl fl_X12_124 rfl hG.1 (a_namesKept hG).1 ?_
                refine r_bipush (pc := 61) hX 36 rfl (by decide) ?_
                refine r_iload_n (pc := 63) hX 37 rfl rfl ?_
                refine r_imul (pc := 64) hX 38 rfl ?_
                refine r_iload_n (pc := 65) hX 39 rfl rfl ?_
                refine r_iadd (pc := 66) hX 40 rfl ?_
                refine t_getR (pc := 67) hX 41 rfl rfl rfl fl_X12_43 rfl hG.1 (a_names hG).1 ?_
                refine r_iload_n (pc := 71) hX 43 rfl rfl ?_
                refine e_lald (y := (v51 183 i)) (pc := 72) hX 44 rfl (a_names hG).2.1 (a_names hG).2.2 (by omega) (by omega) (rfl) ?_
                refine e_last (pc := 73) hX 45 rfl (a_namesKept hG).2.1 (a_namesKept hG).2.2 (by decide) (by omega) (by omega) ?_
                refine r_iinc (ls' := [(2, 178), (0, k), (0, (i + 1))]) (pc := 74) hX 46 rfl rfl (by decide) rfl ?_
                refine r_goto (pc := 77) hX 47 (tgt := 51) rfl (by decide) ?_
                exact (ih51 (i + 1) (up v51 208 ((10 * k) + i) (v51 183 i)) ((hfr51).arr (r := 208) (by decide) (by decide)) (by omega) (by rw [up_f (by decide)]; exact ia) (by rw [up_f (by decide)]; exact ib) (by rw [up_f (by decide)]; exact ic) (by omega))
          exact (L51 _ 0 v18 (hfr18) (by omega) (fun j a b => ia j a (by omega)) (ib) (ic) (Nat.lt_succ_self _))
        · refine t_getR (pc := 25) hX 15 rfl rfl rfl fl_X12_121 rfl hG.1 (a_kept hG).1 ?_
          refine r_sipush (pc := 29) hX 17 rfl (by decide) ?_
          refine r_iload_n (pc := 32) hX 18 rfl rfl ?_
          refine r_imul (pc := 33) hX 19 rfl ?_
          refine r_iload_n (pc := 34) hX 20 rfl rfl ?_
          refine r_iadd (pc := 35) hX 21 rfl ?_
          refine t_getR (pc := 36) hX 22 rfl rfl rfl fl_X12_33 rfl hG.1 (a_s hG).1 ?_
          refine r_iload_n (pc := 40) hX 24 rfl rfl ?_
          refine e_iald (y := (v18 180 i)) (pc := 41) hX 25 rfl (a_s hG).2.1 (a_s hG).2.2 (by omega) (by omega) (rfl) ?_
          refine e_iast (pc := 42) hX 26 rfl (a_kept hG).2.1 (a_kept hG).2.2 (by decide) (by omega) (by omega) ?_
          refine r_iinc (ls' := [(2, 178), (0, k), (0, (i + 1))]) (pc := 43) hX 27 rfl rfl (by decide) rfl ?_
          refine r_goto (pc := 46) hX 28 (tgt := 18) rfl (by decide) ?_
          exact (ih18 (i + 1) (up v18 207 ((238 * k) + i) (v18 180 i)) ((hfr18).arr (r := 207) (by decide) (by decide)) (by omega) (fun j a b => by
          by_cases e : j = i
          · subst e; rw [up_s, es18]
          · rw [up_k (by omega)]; exact ia j a (by omega)) (fun j a => by rw [up_k (by omega)]; exact ib j a) (by rw [up_f (by decide)]; exact ic) (by omega))
    exact (L18 _ 0 (up v 178 0 0) ((Fr.rf).fld (k := 0) (by decide)) (by omega) (fun j a b => by omega) (fun j a => by rw [up_r (by decide)]) (up_f (by decide)) (Nat.lt_succ_self _))
  · refine r_iconst (pc := 14) hX 8 rfl ?_
    exact r_zret (pc := 15) hX 9 hQ rfl rfl ⟨by omega, by omega⟩ (Nat.le_refl 0) (Nat.le_refl 0) ⟨rfl, rfl, (Fr.rf).fld (k := 0) (by decide), 0, rfl, (Or.inl ⟨rfl, by omega, up_f (by decide), up_f (by decide)⟩)⟩
