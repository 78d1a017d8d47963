set_option maxHeartbeats 4000000 in
set_option maxRecDepth 100000 in
theorem c_imageN (g : Gp) (v ρ : Mv) (Z : Mz) (hG : GM ρ Z) (k : Int) (hk : inR k) : Ok g 2 0 0 F_m_image [(2, 178), (0, k)] v ρ Z (fun o v' ρ' Z' => ρ = ρ' ∧ Z = Z' ∧ Fr [207, 208, 209] [0] v v' ∧ ∃ r : Int, o = some (0, r) ∧ ((r = 0 ∧ (k < 0 ∨ 1 < k) ∧ v' 207 = v 207 ∧ v' 209 = v 209 ∨ r = 1 ∧ 0 ≤ k ∧ k ≤ 1 ∧ (∀ i, 0 ≤ i → i < 238 → v' 207 (238 * k + i) = v 180 i) ∧ (∀ j, ¬ (238 * k ≤ j ∧ j < 238 * k + 238) → v' 207 j = v 207 j) ∧ (∀ j, j ≠ k → v' 209 j = v 209 j) ∧ v' 209 k = 1)) ∧ ((r = 1 → (∀ j, 0 ≤ j → j < 10 → v' 208 (10 * k + j) = v 183 j) ∧ ∀ j, ¬ (10 * k ≤ j ∧ j < 10 * k + 10) → v' 208 j = v 208 j) ∧ (r = 0 → v' 208 = v 208))) := by
  refine Ok.of mo_m_image (Nat.le_of_ble_eq_true rfl) ?_
  intro X hX hRm hxn hQ
  show wp g X F_m_image 0 0 0 [(2, 178), (0, k), (3, 0)] [] v ρ Z
  refine r_aload_n (pc := 0) hX 0 rfl rfl ?_
  refine r_iconst (pc := 1) hX 1 rfl ?_
  refine r_putI (pc := 2) hX 2 rfl fl_X12_1 rfl (fun _ h => by cases h; rfl) hG.1 (by decide) ?_
  refine r_iload_n (pc := 5) hX 3 rfl rfl ?_
  refine r_iconst (pc := 6) hX 4 rfl ?_
  refine r_iconst (pc := 7) hX 5 rfl ?_
  refine r_callS (as := [(0, k), (0, 0), (0, 1)]) (st := []) (pc := 8) hX 6 rfl mo_m_isIn ml_X12_222 stt_m_isIn (c_isIn g (up v 178 0 0) ρ Z hG (k) (0) (1) (by omega) (by omega) (by omega)) rfl (by rw [hRm]; exact ⟨by decide, by decide⟩) (by rw [hRm]; exact ⟨by decide, by decide⟩) (Nat.le_of_ble_eq_true rfl) (fun o8 v8 ρ8 Z8 hq8 _ => ?_)
  obtain ⟨rfl, rfl, rfl, r8, rfl, hq8⟩ := hq8
  try simp only [up_f (show (180 : Int) ≠ 178 by decide)] at hq8
  show wp g X F_m_image 0 0 11 [(2, 178), (0, k), (3, 0)] [(0, r8)] (up v 178 0 0) ρ Z
  first | refine r_if_ne (pc := 11) hX 7 (tgt := 16) rfl (by decide) (⟨by omega, by omega⟩) (fun h11 => ?_) (fun h11 => ?_) | refine r_if_ne_any (pc := 11) hX 7 (tgt := 16) rfl (by decide) ?_ ?_
  · refine r_iconst (pc := 16) hX 10 rfl ?_
    refine r_istore_n (ls' := [(2, 178), (0, k), (0, 0)]) (pc := 17) hX 11 rfl (by decide) rfl ?_
    have L18 : ∀ (n18 : Nat) (i : Int) (v18 : Mv) , (Fr [207, 208, 209] [0] v v18) → (0 ≤ i ∧ i ≤ 238) → (∀ j, 0 ≤ j → j < i → v18 207 (238 * k + j) = v 180 j) → (∀ j, ¬ (238 * k ≤ j ∧ j < 238 * k + 238) → v18 207 j = v 207 j) → (v18 209 = v 209) → (v18 208 = v 208) → (238 - i).toNat < n18 → wp g X F_m_image 0 0 18 [(2, 178), (0, k), (0, i)] [] v18 ρ Z := by
      intro n18
      induction n18 with
      | zero => intro i v18 hfr18 ii ia ib ic in8 hme18; exact absurd hme18 (Nat.not_lt_zero _)
      | succ n18 ih18 =>
        intro i v18 hfr18 ii ia ib ic in8 hme18
        have es18 : v18 180 = v 180 := hfr18.1 180 (by decide) (by decide)
        refine r_iload_n (pc := 18) hX 12 rfl rfl ?_
        refine r_sipush (pc := 19) hX 13 rfl (by decide) ?_
        first | refine r_icmp_ge (pc := 22) hX 14 (tgt := 49) rfl (by decide) (⟨by omega, by omega⟩) (⟨by omega, by omega⟩) (fun h22 => ?_) (fun h22 => ?_) | refine r_icmp_ge_any (pc := 22) hX 14 (tgt := 49) rfl (by decide) ?_ ?_
        · refine r_iconst (pc := 49) hX 29 rfl ?_
          refine r_istore_n (ls' := [(2, 178), (0, k), (0, 0)]) (pc := 50) hX 30 rfl (by decide) rfl ?_
          have L51 : ∀ (n51 : Nat) (i : Int) (v51 : Mv) , (Fr [207, 208, 209] [0] v v51) → (0 ≤ i ∧ i ≤ 10) → (∀ j, 0 ≤ j → j < 238 → v51 207 (238 * k + j) = v 180 j) → (∀ j, ¬ (238 * k ≤ j ∧ j < 238 * k + 238) → v51 207 j = v 207 j) → (v51 209 = v 209) → (∀ j, 0 ≤ j → j < i → v51 208 (10 * k + j) = v 183 j) → (∀ j, ¬ (10 * k ≤ j ∧ j < 10 * k + 10) → v51 208 j = v 208 j) → (10 - i).toNat < n51 → wp g X F_m_image 0 0 51 [(2, 178), (0, k), (0, i)] [] v51 ρ Z := by
            intro n51
            induction n51 with
            | zero => intro i v51 hfr51 ii ia ib ic ina inb hme51; exact absurd hme51 (Nat.not_lt_zero _)
            | succ n51 ih51 =>
              intro i v51 hfr51 ii ia ib ic ina inb hme51
              have es51 : v51 183 = v 183 := hfr51.1 183 (by decide) (by decide)
              refine r_iload_n (pc := 51) hX 31 rfl rfl ?_
              refine r_bipush (pc := 52) hX 32 rfl (by decide) ?_
              first | refine r_icmp_ge (pc := 54) hX 33 (tgt := 80) rfl (by decide) (⟨by omega, by omega⟩) (⟨by omega, by omega⟩) (fun h54 => ?_) (fun h54 => ?_) | refine r_icmp_ge_any (pc := 54) hX 33 (tgt := 80) rfl (by decide) ?_ ?_
              · refine t_getR (pc := 80) hX 48 rfl rfl rfl fl_X12_127 rfl hG.1 (a_areKept hG).1 ?_
                refine r_iload_n (pc := 84) hX 50 rfl rfl ?_
                refine r_iconst (pc := 85) hX 51 rfl ?_
                refine e_zast (pc := 86) hX 52 rfl (a_areKept hG).2.1 (a_areKept hG).2.2 (by decide) (by omega) (by omega) ⟨by omega, by omega⟩ ?_
                refine r_iconst (pc := 87) hX 53 rfl ?_
                exact r_zret (pc := 88) hX 54 hQ rfl rfl ⟨by omega, by omega⟩ (Nat.le_refl 0) (Nat.le_refl 0) ⟨rfl, rfl, (hfr51).arr (r := 209) (by decide) (by decide), 1, rfl, (Or.inr ⟨rfl, by omega, by omega, by rw [up_f (by decide)]; exact ia, by rw [up_f (by decide)]; exact ib, fun j hj => by rw [up_k hj, ic], up_s _ _ _ _⟩), (⟨fun _ => ⟨fun j a b => by rw [up_f (by decide)]; exact ina j a (by omega), fun j a => by rw [up_f (by decide)]; exact inb j a⟩, fun z => absurd z (by decide)⟩)⟩
              · refine t_getR (pc := 57) hX 34 rfl rfl rfl fl_X12_124 rfl hG.1 (a_namesKept hG).1 ?_
                refine r_bipush (pc := 61) hX 36 rfl (by decide) ?_
                refine r_iload_n (pc := 63) hX 37 rfl rfl ?_
                refine r_imul (pc := 64) hX 38 rfl ?_
                refine r_iload_n (pc := 65) hX 39 rfl rfl ?_
                refine r_iadd (pc := 66) hX 40 rfl ?_
                refine t_getR (pc := 67) hX 41 rfl rfl rfl fl_X12_43 rfl hG.1 (a_names hG).1 ?_
                refine r_iload_n (pc := 71) hX 43 rfl rfl ?_
                refine e_lald (y := (v51 183 i)) (pc := 72) hX 44 rfl (a_names hG).2.1 (a_names hG).2.2 (by omega) (by omega) (rfl) ?_
                refine e_last (pc := 73) hX 45 rfl (a_namesKept hG).2.1 (a_namesKept hG).2.2 (by decide) (by omega) (by omega) ?_
                refine r_iinc (ls' := [(2, 178), (0, k), (0, (i + 1))]) (pc := 74) hX 46 rfl rfl (by decide) rfl ?_
                refine r_goto (pc := 77) hX 47 (tgt := 51) rfl (by decide) ?_
                exact (ih51 (i + 1) (up v51 208 ((10 * k) + i) (v51 183 i)) ((hfr51).arr (r := 208) (by decide) (by decide)) (by omega) (by rw [up_f (by decide)]; exact ia) (by rw [up_f (by decide)]; exact ib) (by rw [up_f (by decide)]; exact ic) (fun j a b => by
          by_cases e : j = i
          · subst e; rw [up_s, es51]
          · rw [up_k (by omega)]; exact ina j a (by omega)) (fun j a => by rw [up_k (by omega)]; exact inb j a) (by omega))
          exact (L51 _ 0 v18 (hfr18) (by omega) (fun j a b => ia j a (by omega)) (ib) (ic) (fun j a b => by omega) (fun j _ => by rw [in8]) (Nat.lt_succ_self _))
        · refine t_getR (pc := 25) hX 15 rfl rfl rfl fl_X12_121 rfl hG.1 (a_kept hG).1 ?_
          refine r_sipush (pc := 29) hX 17 rfl (by decide) ?_
          refine r_iload_n (pc := 32) hX 18 rfl rfl ?_
          refine r_imul (pc := 33) hX 19 rfl ?_
          refine r_iload_n (pc := 34) hX 20 rfl rfl ?_
          refine r_iadd (pc := 35) hX 21 rfl ?_
          refine t_getR (pc := 36) hX 22 rfl rfl rfl fl_X12_33 rfl hG.1 (a_s hG).1 ?_
          refine r_iload_n (pc := 40) hX 24 rfl rfl ?_
          refine e_iald (y := (v18 180 i)) (pc := 41) hX 25 rfl (a_s hG).2.1 (a_s hG).2.2 (by omega) (by omega) (rfl) ?_
          refine e_iast (pc := 42) hX 26 rfl (a_kept hG).2.1 (a_kept hG).2.2 (by decide) (by omega) (by omega) ?_
          refine r_iinc (ls' := [(2, 178), (0, k), (0, (i + 1))]) (pc := 43) hX 27 rfl rfl (by decide) rfl ?_
          refine r_goto (pc := 46) hX 28 (tgt := 18) rfl (by decide) ?_
          exact (ih18 (i + 1) (up v18 207 ((238 * k) + i) (v18 180 i)) ((hfr18).arr (r := 207) (by decide) (by decide)) (by omega) (fun j a b => by
          by_cases e : j = i
          · subst e; rw [up_s, es18]
          · rw [up_k (by omega)]; exact ia j a (by omega)) (fun j a => by rw [up_k (by omega)]; exact ib j a) (by rw [up_f (by decide)]; exact ic) ((up_f (by decide)).trans in8) (by omega))
    exact (L18 _ 0 (up v 178 0 0) ((Fr.rf).fld (k := 0) (by decide)) (by omega) (fun j a b => by omega) (fun j a => by rw [up_r (by decide)]) (up_f (by decide)) (up_f (by decide)) (Nat.lt_succ_self _))
  · refine r_iconst (pc := 14) hX 8 rfl ?_
    exact r_zret (pc := 15) hX 9 hQ rfl rfl ⟨by omega, by omega⟩ (Nat.le_refl 0) (Nat.le_refl 0) ⟨rfl, rfl, (Fr.rf).fld (k := 0) (by decide), 0, rfl, (Or.inl ⟨rfl, by omega, up_f (by decide), up_f (by decide)⟩), (⟨fun z => absurd z (by decide), fun _ => up_f (by decide)⟩)⟩
set_option maxHeartbeats 4000000 in
set_option maxRecDepth 100000 in
theorem c_restoreN (g : Gp) (v ρ : Mv) (Z : Mz) (hG : GM ρ Z) (k : Int) (hS : SInv (v 180)) (hU : UInv (v 180) (v 187) (v 178 25)) (hk : inR k) (hK : ∀ j, 0 ≤ j → j ≤ 1 → v 209 j ≠ 0 → SInv (fun i => v 207 (238 * j + i))) : Ok g 2 0 0 F_m_restore [(2, 178), (0, k)] v ρ Z (fun o v' ρ' Z' => ρ = ρ' ∧ Z = Z' ∧ Fr [180, 183] [0, 25] v v' ∧ ∃ r : Int, o = some (0, r) ∧ (SInv (v' 180)) ∧ (UInv (v' 180) (v' 187) (v' 178 25)) ∧ ((r = 1 ∧ 0 ≤ k ∧ k ≤ 1 ∧ v 209 k ≠ 0 ∨ r = 0 ∧ (k < 0 ∨ 1 < k ∨ v 209 k = 0))) ∧ ((r = 1 → ∀ j, 0 ≤ j → j < 238 → v' 180 j = v 207 (238 * k + j)) ∧ (r = 0 → v' 180 = v 180)) ∧ ((r = 1 → ∀ j, 0 ≤ j → j < 10 → v' 183 j = v 208 (10 * k + j)) ∧ (r = 0 → v' 183 = v 183))) := by
  refine Ok.of mo_m_restore (Nat.le_of_ble_eq_true rfl) ?_
  intro X hX hRm hxn hQ
  show wp g X F_m_restore 0 0 0 [(2, 178), (0, k), (3, 0)] [] v ρ Z
  refine r_aload_n (pc := 0) hX 0 rfl rfl ?_
  refine r_iconst (pc := 1) hX 1 rfl ?_
  refine r_putI (pc := 2) hX 2 rfl fl_X12_1 rfl (fun _ h => by cases h; rfl) hG.1 (by decide) ?_
  refine r_iload_n (pc := 5) hX 3 rfl rfl ?_
  refine r_iconst (pc := 6) hX 4 rfl ?_
  refine r_iconst (pc := 7) hX 5 rfl ?_
  refine r_callS (as := [(0, k), (0, 0), (0, 1)]) (st := []) (pc := 8) hX 6 rfl mo_m_isIn ml_X12_222 stt_m_isIn (c_isIn g (up v 178 0 0) ρ Z hG (k) (0) (1) (by omega) (by omega) (by omega)) rfl (by rw [hRm]; exact ⟨by decide, by decide⟩) (by rw [hRm]; exact ⟨by decide, by decide⟩) (Nat.le_of_ble_eq_true rfl) (fun o8 v8 ρ8 Z8 hq8 _ => ?_)
  obtain ⟨rfl, rfl, rfl, r8, rfl, hq8⟩ := hq8
  try simp only [up_f (show (180 : Int) ≠ 178 by decide)] at hq8
  show wp g X F_m_restore 0 0 11 [(2, 178), (0, k), (3, 0)] [(0, r8)] (up v 178 0 0) ρ Z
  have L23 : (k < 0 ∨ 1 < k ∨ v 209 k = 0) → wp g X F_m_restore 0 0 23 [(2, 178), (0, k), (3, 0)] [] (up v 178 0 0) ρ Z := by
    intro i23
    refine r_iconst (pc := 23) hX 13 rfl ?_
    exact r_zret (pc := 24) hX 14 hQ rfl rfl ⟨by omega, by omega⟩ (Nat.le_refl 0) (Nat.le_refl 0) ⟨rfl, rfl, (Fr.rf).fld (k := 0) (by decide), 0, rfl, (by rw [up_f (by decide)]; exact hS), (by rw [up_f (by decide), up_f (by decide), up_k (by decide)]; exact hU), (Or.inr ⟨rfl, i23⟩), (⟨fun z => absurd z (by decide), fun _ => up_f (by decide)⟩), (⟨fun z => absurd z (by decide), fun _ => up_f (by decide)⟩)⟩
  first | refine r_if_eq (pc := 11) hX 7 (tgt := 23) rfl (by decide) (⟨by omega, by omega⟩) (fun h11 => ?_) (fun h11 => ?_) | refine r_if_eq_any (pc := 11) hX 7 (tgt := 23) rfl (by decide) ?_ ?_
  · exact (L23  (by omega) )
  · refine t_getR (pc := 14) hX 8 rfl rfl rfl fl_X12_127 rfl hG.1 (a_areKept hG).1 ?_
    refine r_iload_n (pc := 18) hX 10 rfl rfl ?_
    refine e_zald (y := (v 209 k)) (pc := 19) hX 11 rfl (a_areKept hG).2.1 (a_areKept hG).2.2 (by omega) (by omega) ((up_r (by decide)).trans (rfl)) (fun hb19a hb19b => ?_)
    first | refine r_if_ne (pc := 20) hX 12 (tgt := 25) rfl (by decide) (⟨by omega, by omega⟩) (fun h20 => ?_) (fun h20 => ?_) | refine r_if_ne_any (pc := 20) hX 12 (tgt := 25) rfl (by decide) ?_ ?_
    · refine r_iconst (pc := 25) hX 15 rfl ?_
      refine r_istore_n (ls' := [(2, 178), (0, k), (0, 0)]) (pc := 26) hX 16 rfl (by decide) rfl ?_
      have L27 : ∀ (n27 : Nat) (i : Int) (v27 : Mv) , (Fr [180, 183] [0, 25] v v27) → (0 ≤ i ∧ i ≤ 238) → (∀ j, 0 ≤ j → j < i → v27 180 j = v 207 (238 * k + j)) → (238 - i).toNat < n27 → wp g X F_m_restore 0 0 27 [(2, 178), (0, k), (0, i)] [] v27 ρ Z := by
        intro n27
        induction n27 with
        | zero => intro i v27 hfr27 ii ia hme27; exact absurd hme27 (Nat.not_lt_zero _)
        | succ n27 ih27 =>
          intro i v27 hfr27 ii ia hme27
          have es27 : v27 207 = v 207 := hfr27.1 207 (by decide) (by decide)
          refine r_iload_n (pc := 27) hX 17 rfl rfl ?_
          refine r_sipush (pc := 28) hX 18 rfl (by decide) ?_
          first | refine r_icmp_ge (pc := 31) hX 19 (tgt := 58) rfl (by decide) (⟨by omega, by omega⟩) (⟨by omega, by omega⟩) (fun h31 => ?_) (fun h31 => ?_) | refine r_icmp_ge_any (pc := 31) hX 19 (tgt := 58) rfl (by decide) ?_ ?_
          · refine r_iconst (pc := 58) hX 34 rfl ?_
            refine r_istore_n (ls' := [(2, 178), (0, k), (0, 0)]) (pc := 59) hX 35 rfl (by decide) rfl ?_
            have L60 : ∀ (n60 : Nat) (i : Int) (v60 : Mv) , (Fr [180, 183] [0, 25] v v60) → (SInv (v60 180)) → (0 ≤ i ∧ i ≤ 10) → (v60 180 = v27 180) → (∀ j, 0 ≤ j → j < i → v60 183 j = v 208 (10 * k + j)) → (10 - i).toNat < n60 → wp g X F_m_restore 0 0 60 [(2, 178), (0, k), (0, i)] [] v60 ρ Z := by
              intro n60
              induction n60 with
              | zero => intro i v60 hfr60 hSInv_60 ii e60 ina hme60; exact absurd hme60 (Nat.not_lt_zero _)
              | succ n60 ih60 =>
                intro i v60 hfr60 hSInv_60 ii e60 ina hme60
                have es60 : v60 208 = v 208 := hfr60.1 208 (by decide) (by decide)
                refine r_iload_n (pc := 60) hX 36 rfl rfl ?_
                refine r_bipush (pc := 61) hX 37 rfl (by decide) ?_
                first | refine r_icmp_ge (pc := 63) hX 38 (tgt := 89) rfl (by decide) (⟨by omega, by omega⟩) (⟨by omega, by omega⟩) (fun h63 => ?_) (fun h63 => ?_) | refine r_icmp_ge_any (pc := 63) hX 38 (tgt := 89) rfl (by decide) ?_ ?_
                · refine r_aload_n (pc := 89) hX 53 rfl rfl ?_
                  refine r_iconst (pc := 90) hX 54 rfl ?_
                  refine r_putI (pc := 91) hX 55 rfl fl_X12_278 rfl (fun _ h => by cases h; rfl) hG.1 (by decide) ?_
                  refine r_iconst (pc := 94) hX 56 rfl ?_
                  exact r_zret (pc := 95) hX 57 hQ rfl rfl ⟨by omega, by omega⟩ (Nat.le_refl 0) (Nat.le_refl 0) ⟨rfl, rfl, (hfr60).fld (k := 25) (by decide), 1, rfl, (by rw [up_f (by decide)]; exact hSInv_60), (by
        have z : UInv (up v60 178 25 0 180) (up v60 178 25 0 187) (up v60 178 25 0 178 25) := by rw [up_s]; exact UInv.none
        exact z), (Or.inl ⟨rfl, by omega, by omega, by omega⟩), (⟨fun _ j a b => by rw [up_f (by decide), e60]; exact ia j a (by omega), fun z => absurd z (by decide)⟩), (⟨fun _ j a b => by rw [up_f (by decide)]; exact ina j a (by omega), fun z => absurd z (by decide)⟩)⟩
                · refine t_getR (pc := 66) hX 39 rfl rfl rfl fl_X12_43 rfl hG.1 (a_names hG).1 ?_
                  refine r_iload_n (pc := 70) hX 41 rfl rfl ?_
                  refine t_getR (pc := 71) hX 42 rfl rfl rfl fl_X12_124 rfl hG.1 (a_namesKept hG).1 ?_
                  refine r_bipush (pc := 75) hX 44 rfl (by decide) ?_
                  refine r_iload_n (pc := 77) hX 45 rfl rfl ?_
                  refine r_imul (pc := 78) hX 46 rfl ?_
                  refine r_iload_n (pc := 79) hX 47 rfl rfl ?_
                  refine r_iadd (pc := 80) hX 48 rfl ?_
                  refine e_lald (y := (v60 208 ((10 * k) + i))) (pc := 81) hX 49 rfl (a_namesKept hG).2.1 (a_namesKept hG).2.2 (by omega) (by omega) (rfl) ?_
                  refine e_last (pc := 82) hX 50 rfl (a_names hG).2.1 (a_names hG).2.2 (by decide) (by omega) (by omega) ?_
                  refine r_iinc (ls' := [(2, 178), (0, k), (0, (i + 1))]) (pc := 83) hX 51 rfl rfl (by decide) rfl ?_
                  refine r_goto (pc := 86) hX 52 (tgt := 60) rfl (by decide) ?_
                  exact (ih60 (i + 1) (up v60 183 i (v60 208 ((10 * k) + i))) ((hfr60).arr (r := 183) (by decide) (by decide)) (by rw [up_f (by decide)]; exact hSInv_60) (by omega) ((up_f (by decide)).trans e60) (fun j a b => by
          by_cases e : j = i
          · subst e; rw [up_s, es60]
          · rw [up_k (by omega)]; exact ina j a (by omega)) (by omega))
            exact (L60 _ 0 v27 (hfr27) (SInv.cgB (hK k (by omega) (by omega) (by omega)) (fun j a b => ia j a (by omega))) (by omega) (rfl) (fun j a b => by omega) (Nat.lt_succ_self _))
          · refine t_getR (pc := 34) hX 20 rfl rfl rfl fl_X12_33 rfl hG.1 (a_s hG).1 ?_
            refine r_iload_n (pc := 38) hX 22 rfl rfl ?_
            refine t_getR (pc := 39) hX 23 rfl rfl rfl fl_X12_121 rfl hG.1 (a_kept hG).1 ?_
            refine r_sipush (pc := 43) hX 25 rfl (by decide) ?_
            refine r_iload_n (pc := 46) hX 26 rfl rfl ?_
            refine r_imul (pc := 47) hX 27 rfl ?_
            refine r_iload_n (pc := 48) hX 28 rfl rfl ?_
            refine r_iadd (pc := 49) hX 29 rfl ?_
            refine e_iald (y := (v27 207 ((238 * k) + i))) (pc := 50) hX 30 rfl (a_kept hG).2.1 (a_kept hG).2.2 (by omega) (by omega) (rfl) ?_
            refine e_iast (pc := 51) hX 31 rfl (a_s hG).2.1 (a_s hG).2.2 (by decide) (by omega) (by omega) ?_
            refine r_iinc (ls' := [(2, 178), (0, k), (0, (i + 1))]) (pc := 52) hX 32 rfl rfl (by decide) rfl ?_
            refine r_goto (pc := 55) hX 33 (tgt := 27) rfl (by decide) ?_
            exact (ih27 (i + 1) (up v27 180 i (v27 207 ((238 * k) + i))) ((hfr27).arr (r := 180) (by decide) (by decide)) (by omega) (fun j a b => by
          by_cases e : j = i
          · subst e; rw [up_s, es27]
          · rw [up_k (by omega)]; exact ia j a (by omega)) (by omega))
      exact (L27 _ 0 (up v 178 0 0) ((Fr.rf).fld (k := 0) (by decide)) (by omega) (fun j a b => by omega) (Nat.lt_succ_self _))
    · exact (L23  (by omega) )
