set_option maxHeartbeats 4000000 in
set_option maxRecDepth 100000 in
theorem c_goes (g : Gp) (v ρ : Mv) (Z : Mz) (hG : GM ρ Z) (lf en : Int) (hS : SInv (v 180)) (hC : ScI (v 185)) (hO : OwI (v 186)) (h8 : ∀ q, 0 ≤ q → q ≤ 2 → v 180 2 ≤ q → v 185 q ≤ 8) (hlf : 0 ≤ lf ∧ lf ≤ 12) (he : 0 ≤ en ∧ en ≤ 1) (hT : TotOK (swF (v 189) (ldsF (v 180)).toNat) lf) : Ok g 3 0 0 F_m_goes [(2, 178), (0, lf), (0, en)] v ρ Z (fun o v' ρ' Z' => ρ = ρ' ∧ Z = Z' ∧ Fr [185, 190, 191, 192, 193] [31] v v' ∧ o = none ∧ (0 < v' 178 31 ∧ v' 178 31 ≤ 240734712102912)) := by
  refine Ok.of mo_m_goes (Nat.le_of_ble_eq_true rfl) ?_
  intro X hX hRm hxn hQ
  show wp g X F_m_goes 0 0 0 [(2, 178), (0, lf), (0, en), (3, 0), (3, 0), (3, 0), (3, 0)] [] v ρ Z
  refine r_iconst (pc := 0) hX 0 rfl ?_
  refine r_istore_n (ls' := [(2, 178), (0, lf), (0, en), (0, 0), (3, 0), (3, 0), (3, 0)]) (pc := 1) hX 1 rfl (by decide) rfl ?_
  have L2 : ∀ (n2 : Nat) (k : Int) (v2 : Mv) , (Fr [185, 190, 191, 192, 193] [31] v v2) → (OwI (v2 186)) → (SInv (v2 180)) → (0 ≤ k ∧ k ≤ 4) → (v2 185 = v 185) → (4 - k).toNat < n2 → wp g X F_m_goes 0 0 2 [(2, 178), (0, lf), (0, en), (0, k), (3, 0), (3, 0), (3, 0)] [] v2 ρ Z := by
    intro n2
    induction n2 with
    | zero => intro k v2 hfr2 hOwI_2 hSInv_2 ik ie2 hme2; exact absurd hme2 (Nat.not_lt_zero _)
    | succ n2 ih2 =>
      intro k v2 hfr2 hOwI_2 hSInv_2 ik ie2 hme2
      refine r_iload_n (pc := 2) hX 2 rfl rfl ?_
      refine r_iconst (pc := 3) hX 3 rfl ?_
      first | refine r_icmp_ge (pc := 4) hX 4 (tgt := 20) rfl (by decide) (⟨by omega, by omega⟩) (⟨by omega, by omega⟩) (fun h4 => ?_) (fun h4 => ?_) | refine r_icmp_ge_any (pc := 4) hX 4 (tgt := 20) rfl (by decide) ?_ ?_
      · refine r_iconst (pc := 20) hX 12 rfl ?_
        refine r_istore_n (ls' := [(2, 178), (0, lf), (0, en), (0, 0), (3, 0), (3, 0), (3, 0)]) (pc := 21) hX 13 rfl (by decide) rfl ?_
        have L22 : ∀ (n22 : Nat) (k : Int) (v22 : Mv) , (Fr [185, 190, 191, 192, 193] [31] v v22) → (OwI (v22 186)) → (SInv (v22 180)) → (0 ≤ k ∧ k ≤ 13) → (v22 185 = v 185) → (13 - k).toNat < n22 → wp g X F_m_goes 0 0 22 [(2, 178), (0, lf), (0, en), (0, k), (3, 0), (3, 0), (3, 0)] [] v22 ρ Z := by
          intro n22
          induction n22 with
          | zero => intro k v22 hfr22 hOwI_22 hSInv_22 ik ie22 hme22; exact absurd hme22 (Nat.not_lt_zero _)
          | succ n22 ih22 =>
            intro k v22 hfr22 hOwI_22 hSInv_22 ik ie22 hme22
            have es22 : v22 180 = v 180 := hfr22.1 180 (by decide) (by decide)
            refine r_iload_n (pc := 22) hX 14 rfl rfl ?_
            refine r_bipush (pc := 23) hX 15 rfl (by decide) ?_
            first | refine r_icmp_ge (pc := 25) hX 16 (tgt := 41) rfl (by decide) (⟨by omega, by omega⟩) (⟨by omega, by omega⟩) (fun h25 => ?_) (fun h25 => ?_) | refine r_icmp_ge_any (pc := 25) hX 16 (tgt := 41) rfl (by decide) ?_ ?_
            · refine r_aload_n (pc := 41) hX 24 rfl rfl ?_
              refine r_aload_n (pc := 42) hX 25 rfl rfl ?_
              refine r_callV (as := []) (st := [(2, 178)]) (K := 12) (pc := 43) hX 26 rfl mo_m_weights ml_X12_349 im_m_weights se_m_weights (c_weights g v22 ρ Z hG  (hSInv_22)) rfl rfl rfl hG.1 (by rw [hRm]; exact ⟨by decide, by decide⟩) (by rw [hRm]; exact ⟨by decide, by decide⟩) (Nat.le_of_ble_eq_true rfl) (fun o43 v43 ρ43 Z43 hq43 _ => ?_)
              obtain ⟨rfl, rfl, rfl, r43, rfl, hq43⟩ := hq43
              show wp g X F_m_goes 0 0 46 [(2, 178), (0, lf), (0, en), (0, k), (3, 0), (3, 0), (3, 0)] [(1, r43), (2, 178)] v22 ρ Z
              rw [hfr22.1 189 (by decide) (by decide), es22] at hq43
              refine r_iload_n (pc := 46) hX 27 rfl rfl ?_
              refine r_callS (as := [(0, lf)]) (st := [(1, r43), (2, 178)]) (pc := 47) hX 28 rfl mo_m_twelves ml_X12_353 stt_m_twelves (c_twelves g v22 ρ Z hG (lf) (by omega)) rfl (by rw [hRm]; exact ⟨by decide, by decide⟩) (by rw [hRm]; exact ⟨by decide, by decide⟩) (Nat.le_of_ble_eq_true rfl) (fun o47 v47 ρ47 Z47 hq47 _ => ?_)
              obtain ⟨rfl, rfl, rfl, r47, rfl, hq47⟩ := hq47
              show wp g X F_m_goes 0 0 50 [(2, 178), (0, lf), (0, en), (0, k), (3, 0), (3, 0), (3, 0)] [(1, r47), (1, r43), (2, 178)] v22 ρ Z
              refine r_lmul (pc := 50) hX 29 rfl ?_
              obtain ⟨T, hT_e⟩ : ∃ z : Int, z = (r43 * r47) := ⟨_, rfl⟩
              rw [← hT_e]
              have hTT : 0 < T ∧ T ≤ 240734712102912 := by rw [hT_e, hq43, hq47 (by omega)]; exact hT.tot (by omega)
              refine r_putL (pc := 51) hX 30 rfl fl_X12_357 rfl (fun _ h => by cases h; rfl) hG.1 (by decide) ?_
              refine r_aload_n (pc := 54) hX 31 rfl rfl ?_
              refine r_callV (as := []) (st := []) (K := 12) (pc := 55) hX 32 rfl mo_m_arrived ml_X12_304 im_m_arrived se_m_arrived (c_arrived g (up v22 178 31 T) ρ Z hG  (by rw [up_f (by decide)]; exact hSInv_22) (by rw [up_f (by decide), ie22]; exact hC)) rfl rfl rfl hG.1 (by rw [hRm]; exact ⟨by decide, by decide⟩) (by rw [hRm]; exact ⟨by decide, by decide⟩) (Nat.le_of_ble_eq_true rfl) (fun o55 v55 ρ55 Z55 hq55 _ => ?_)
              obtain ⟨rfl, rfl, rfl, r55, rfl, hq55⟩ := hq55
              try simp only [up_f (show (180 : Int) ≠ 178 by decide), up_f (show (185 : Int) ≠ 178 by decide)] at hq55
              show wp g X F_m_goes 0 0 58 [(2, 178), (0, lf), (0, en), (0, k), (3, 0), (3, 0), (3, 0)] [(0, r55)] (up v22 178 31 T) ρ Z
              first | refine r_if_ge (pc := 58) hX 33 (tgt := 69) rfl (by decide) (⟨by omega, by omega⟩) (fun h58 => ?_) (fun h58 => ?_) | refine r_if_ge_any (pc := 58) hX 33 (tgt := 69) rfl (by decide) ?_ ?_
              · refine r_aload_n (pc := 69) hX 38 rfl rfl ?_
                refine r_aload_n (pc := 70) hX 39 rfl rfl ?_
                refine r_callV (as := []) (st := [(2, 178)]) (K := 12) (pc := 71) hX 40 rfl mo_m_arrived ml_X12_304 im_m_arrived se_m_arrived (c_arrived g (up v22 178 31 T) ρ Z hG  (by rw [up_f (by decide)]; exact hSInv_22) (by rw [up_f (by decide), ie22]; exact hC)) rfl rfl rfl hG.1 (by rw [hRm]; exact ⟨by decide, by decide⟩) (by rw [hRm]; exact ⟨by decide, by decide⟩) (Nat.le_of_ble_eq_true rfl) (fun o71 v71 ρ71 Z71 hq71 _ => ?_)
                obtain ⟨rfl, rfl, rfl, r71, rfl, hq71⟩ := hq71
                try simp only [up_f (show (180 : Int) ≠ 178 by decide), up_f (show (185 : Int) ≠ 178 by decide)] at hq71
                show wp g X F_m_goes 0 0 74 [(2, 178), (0, lf), (0, en), (0, k), (3, 0), (3, 0), (3, 0)] [(0, r71), (2, 178)] (up v22 178 31 T) ρ Z
                first | refine r_if_lt (pc := 74) hX 41 (tgt := 84) rfl (by decide) (⟨by omega, by omega⟩) (fun h74 => ?_) (fun h74 => ?_) | refine r_if_lt_any (pc := 74) hX 41 (tgt := 84) rfl (by decide) ?_ ?_
                · refine r_aload_n (pc := 84) hX 45 rfl rfl ?_
                  refine r_callV (as := []) (st := [(2, 178)]) (K := 12) (pc := 85) hX 46 rfl mo_m_ahead ml_X12_313 im_m_ahead se_m_ahead (c_ahead g (up v22 178 31 T) ρ Z hG  (by rw [up_f (by decide)]; exact hSInv_22) (by rw [up_f (by decide), ie22]; exact hC)) rfl rfl rfl hG.1 (by rw [hRm]; exact ⟨by decide, by decide⟩) (by rw [hRm]; exact ⟨by decide, by decide⟩) (Nat.le_of_ble_eq_true rfl) (fun o85 v85 ρ85 Z85 hq85 _ => ?_)
                  obtain ⟨rfl, rfl, rfl, r85, rfl, hq85⟩ := hq85
                  try simp only [up_f (show (180 : Int) ≠ 178 by decide)] at hq85
                  show wp g X F_m_goes 0 0 88 [(2, 178), (0, lf), (0, en), (0, k), (3, 0), (3, 0), (3, 0)] [(0, r85), (2, 178)] (up v22 178 31 T) ρ Z
                  refine t_getL (y := T) (pc := 88) hX 47 rfl rfl rfl fl_X12_357 rfl hG.1 (up_s _ _ _ _) ?_
                  refine r_iconst (pc := 92) hX 49 rfl ?_
                  refine r_callV (as := [(0, r85), (1, T), (0, 0)]) (st := []) (K := 12) (pc := 93) hX 50 rfl mo_m_ends ml_X12_360 im_m_ends se_m_ends (c_ends g (up v22 178 31 T) ρ Z hG (r85) (T) (0) (by omega) (by omega)) rfl rfl rfl hG.1 (by rw [hRm]; exact ⟨by decide, by decide⟩) (by rw [hRm]; exact ⟨by decide, by decide⟩) (Nat.le_of_ble_eq_true rfl) (fun o93 v93 ρ93 Z93 hq93 _ => ?_)
                  obtain ⟨rfl, rfl, hfr93, rfl, hq93⟩ := hq93
                  try simp only [up_f (show (180 : Int) ≠ 178 by decide)] at hq93
                  have hSInv_93 : SInv (v93 180) := by rw [hfr93.1 180 (by decide) (by decide), up_f (by decide)]; exact hSInv_22
                  have hOwI_93 : OwI (v93 186) := by rw [hfr93.1 186 (by decide) (by decide), up_f (by decide)]; exact hOwI_22
                  have hk93_31 : v93 178 31 = T := (hfr93.2 31 (by decide)).trans (up_s _ _ _ _)
                  show wp g X F_m_goes 0 0 96 [(2, 178), (0, lf), (0, en), (0, k), (3, 0), (3, 0), (3, 0)] [] v93 ρ Z
                  exact r_vret (pc := 96) hX 51 hQ rfl rfl (Nat.le_refl 0) (Nat.le_refl 0) ⟨rfl, rfl, ((hfr22).fld (k := 31) (by decide)).tr hfr93 (by decide) (by decide), rfl, (by rw [hk93_31]; exact hTT)⟩
                · refine r_aload_n (pc := 77) hX 42 rfl rfl ?_
                  refine r_callV (as := []) (st := [(2, 178)]) (K := 12) (pc := 78) hX 43 rfl mo_m_arrived ml_X12_304 im_m_arrived se_m_arrived (c_arrived g (up v22 178 31 T) ρ Z hG  (by rw [up_f (by decide)]; exact hSInv_22) (by rw [up_f (by decide), ie22]; exact hC)) rfl rfl rfl hG.1 (by rw [hRm]; exact ⟨by decide, by decide⟩) (by rw [hRm]; exact ⟨by decide, by decide⟩) (Nat.le_of_ble_eq_true rfl) (fun o78 v78 ρ78 Z78 hq78 _ => ?_)
                  obtain ⟨rfl, rfl, rfl, r78, rfl, hq78⟩ := hq78
                  try simp only [up_f (show (180 : Int) ≠ 178 by decide), up_f (show (185 : Int) ≠ 178 by decide)] at hq78
                  show wp g X F_m_goes 0 0 81 [(2, 178), (0, lf), (0, en), (0, k), (3, 0), (3, 0), (3, 0)] [(0, r78), (2, 178)] (up v22 178 31 T) ρ Z
                  refine r_goto (pc := 81) hX 44 (tgt := 88) rfl (by decide) ?_
                  refine t_getL (y := T) (pc := 88) hX 47 rfl rfl rfl fl_X12_357 rfl hG.1 (up_s _ _ _ _) ?_
                  refine r_iconst (pc := 92) hX 49 rfl ?_
                  refine r_callV (as := [(0, r78), (1, T), (0, 0)]) (st := []) (K := 12) (pc := 93) hX 50 rfl mo_m_ends ml_X12_360 im_m_ends se_m_ends (c_ends g (up v22 178 31 T) ρ Z hG (r78) (T) (0) (by omega) (by omega)) rfl rfl rfl hG.1 (by rw [hRm]; exact ⟨by decide, by decide⟩) (by rw [hRm]; exact ⟨by decide, by decide⟩) (Nat.le_of_ble_eq_true rfl) (fun o93 v93 ρ93 Z93 hq93 _ => ?_)
                  obtain ⟨rfl, rfl, hfr93, rfl, hq93⟩ := hq93
                  try simp only [up_f (show (180 : Int) ≠ 178 by decide)] at hq93
                  have hSInv_93 : SInv (v93 180) := by rw [hfr93.1 180 (by decide) (by decide), up_f (by decide)]; exact hSInv_22
                  have hOwI_93 : OwI (v93 186) := by rw [hfr93.1 186 (by decide) (by decide), up_f (by decide)]; exact hOwI_22
                  have hk93_31 : v93 178 31 = T := (hfr93.2 31 (by decide)).trans (up_s _ _ _ _)
                  show wp g X F_m_goes 0 0 96 [(2, 178), (0, lf), (0, en), (0, k), (3, 0), (3, 0), (3, 0)] [] v93 ρ Z
                  exact r_vret (pc := 96) hX 51 hQ rfl rfl (Nat.le_refl 0) (Nat.le_refl 0) ⟨rfl, rfl, ((hfr22).fld (k := 31) (by decide)).tr hfr93 (by decide) (by decide), rfl, (by rw [hk93_31]; exact hTT)⟩
              · refine r_iload_n (pc := 61) hX 34 rfl rfl ?_
                first | refine r_if_ne (pc := 62) hX 35 (tgt := 69) rfl (by decide) (⟨by omega, by omega⟩) (fun h62 => ?_) (fun h62 => ?_) | refine r_if_ne_any (pc := 62) hX 35 (tgt := 69) rfl (by decide) ?_ ?_
                · refine r_aload_n (pc := 69) hX 38 rfl rfl ?_
                  refine r_aload_n (pc := 70) hX 39 rfl rfl ?_
                  refine r_callV (as := []) (st := [(2, 178)]) (K := 12) (pc := 71) hX 40 rfl mo_m_arrived ml_X12_304 im_m_arrived se_m_arrived (c_arrived g (up v22 178 31 T) ρ Z hG  (by rw [up_f (by decide)]; exact hSInv_22) (by rw [up_f (by decide), ie22]; exact hC)) rfl rfl rfl hG.1 (by rw [hRm]; exact ⟨by decide, by decide⟩) (by rw [hRm]; exact ⟨by decide, by decide⟩) (Nat.le_of_ble_eq_true rfl) (fun o71 v71 ρ71 Z71 hq71 _ => ?_)
                  obtain ⟨rfl, rfl, rfl, r71, rfl, hq71⟩ := hq71
                  try simp only [up_f (show (180 : Int) ≠ 178 by decide), up_f (show (185 : Int) ≠ 178 by decide)] at hq71
                  show wp g X F_m_goes 0 0 74 [(2, 178), (0, lf), (0, en), (0, k), (3, 0), (3, 0), (3, 0)] [(0, r71), (2, 178)] (up v22 178 31 T) ρ Z
                  first | refine r_if_lt (pc := 74) hX 41 (tgt := 84) rfl (by decide) (⟨by omega, by omega⟩) (fun h74 => ?_) (fun h74 => ?_) | refine r_if_lt_any (pc := 74) hX 41 (tgt := 84) rfl (by decide) ?_ ?_
                  · refine r_aload_n (pc := 84) hX 45 rfl rfl ?_
                    refine r_callV (as := []) (st := [(2, 178)]) (K := 12) (pc := 85) hX 46 rfl mo_m_ahead ml_X12_313 im_m_ahead se_m_ahead (c_ahead g (up v22 178 31 T) ρ Z hG  (by rw [up_f (by decide)]; exact hSInv_22) (by rw [up_f (by decide), ie22]; exact hC)) rfl rfl rfl hG.1 (by rw [hRm]; exact ⟨by decide, by decide⟩) (by rw [hRm]; exact ⟨by decide, by decide⟩) (Nat.le_of_ble_eq_true rfl) (fun o85 v85 ρ85 Z85 hq85 _ => ?_)
                    obtain ⟨rfl, rfl, rfl, r85, rfl, hq85⟩ := hq85
                    try simp only [up_f (show (180 : Int) ≠ 178 by decide)] at hq85
                    show wp g X F_m_goes 0 0 88 [(2, 178), (0, lf), (0, en), (0, k), (3, 0), (3, 0), (3, 0)] [(0, r85), (2, 178)] (up v22 178 31 T) ρ Z
                    refine t_getL (y := T) (pc := 88) hX 47 rfl rfl rfl fl_X12_357 rfl hG.1 (up_s _ _ _ _) ?_
                    refine r_iconst (pc := 92) hX 49 rfl ?_
                    refine r_callV (as := [(0, r85), (1, T), (0, 0)]) (st := []) (K := 12) (pc := 93) hX 50 rfl mo_m_ends ml_X12_360 im_m_ends se_m_ends (c_ends g (up v22 178 31 T) ρ Z hG (r85) (T) (0) (by omega) (by omega)) rfl rfl rfl hG.1 (by rw [hRm]; exact ⟨by decide, by decide⟩) (by rw [hRm]; exact ⟨by decide, by decide⟩) (Nat.le_of_ble_eq_true rfl) (fun o93 v93 ρ93 Z93 hq93 _ => ?_)
                    obtain ⟨rfl, rfl, hfr93, rfl, hq93⟩ := hq93
                    try simp only [up_f (show (180 : Int) ≠ 178 by decide)] at hq93
                    have hSInv_93 : SInv (v93 180) := by rw [hfr93.1 180 (by decide) (by decide), up_f (by decide)]; exact hSInv_22
                    have hOwI_93 : OwI (v93 186) := by rw [hfr93.1 186 (by decide) (by decide), up_f (by decide)]; exact hOwI_22
                    have hk93_31 : v93 178 31 = T := (hfr93.2 31 (by decide)).trans (up_s _ _ _ _)
                    show wp g X F_m_goes 0 0 96 [(2, 178), (0, lf), (0, en), (0, k), (3, 0), (3, 0), (3, 0)] [] v93 ρ Z
                    exact r_vret (pc := 96) hX 51 hQ rfl rfl (Nat.le_refl 0) (Nat.le_refl 0) ⟨rfl, rfl, ((hfr22).fld (k := 31) (by decide)).tr hfr93 (by decide) (by decide), rfl, (by rw [hk93_31]; exact hTT)⟩
                  · refine r_aload_n (pc := 77) hX 42 rfl rfl ?_
                    refine r_callV (as := []) (st := [(2, 178)]) (K := 12) (pc := 78) hX 43 rfl mo_m_arrived ml_X12_304 im_m_arrived se_m_arrived (c_arrived g (up v22 178 31 T) ρ Z hG  (by rw [up_f (by decide)]; exact hSInv_22) (by rw [up_f (by decide), ie22]; exact hC)) rfl rfl rfl hG.1 (by rw [hRm]; exact ⟨by decide, by decide⟩) (by rw [hRm]; exact ⟨by decide, by decide⟩) (Nat.le_of_ble_eq_true rfl) (fun o78 v78 ρ78 Z78 hq78 _ => ?_)
                    obtain ⟨rfl, rfl, rfl, r78, rfl, hq78⟩ := hq78
                    try simp only [up_f (show (180 : Int) ≠ 178 by decide), up_f (show (185 : Int) ≠ 178 by decide)] at hq78
                    show wp g X F_m_goes 0 0 81 [(2, 178), (0, lf), (0, en), (0, k), (3, 0), (3, 0), (3, 0)] [(0, r78), (2, 178)] (up v22 178 31 T) ρ Z
                    refine r_goto (pc := 81) hX 44 (tgt := 88) rfl (by decide) ?_
                    refine t_getL (y := T) (pc := 88) hX 47 rfl rfl rfl fl_X12_357 rfl hG.1 (up_s _ _ _ _) ?_
                    refine r_iconst (pc := 92) hX 49 rfl ?_
                    refine r_callV (as := [(0, r78), (1, T), (0, 0)]) (st := []) (K := 12) (pc := 93) hX 50 rfl mo_m_ends ml_X12_360 im_m_ends se_m_ends (c_ends g (up v22 178 31 T) ρ Z hG (r78) (T) (0) (by omega) (by omega)) rfl rfl rfl hG.1 (by rw [hRm]; exact ⟨by decide, by decide⟩) (by rw [hRm]; exact ⟨by decide, by decide⟩) (Nat.le_of_ble_eq_true rfl) (fun o93 v93 ρ93 Z93 hq93 _ => ?_)
                    obtain ⟨rfl, rfl, hfr93, rfl, hq93⟩ := hq93
                    try simp only [up_f (show (180 : Int) ≠ 178 by decide)] at hq93
                    have hSInv_93 : SInv (v93 180) := by rw [hfr93.1 180 (by decide) (by decide), up_f (by decide)]; exact hSInv_22
                    have hOwI_93 : OwI (v93 186) := by rw [hfr93.1 186 (by decide) (by decide), up_f (by decide)]; exact hOwI_22
                    have hk93_31 : v93 178 31 = T := (hfr93.2 31 (by decide)).trans (up_s _ _ _ _)
                    show wp g X F_m_goes 0 0 96 [(2, 178), (0, lf), (0, en), (0, k), (3, 0), (3, 0), (3, 0)] [] v93 ρ Z
                    exact r_vret (pc := 96) hX 51 hQ rfl rfl (Nat.le_refl 0) (Nat.le_refl 0) ⟨rfl, rfl, ((hfr22).fld (k := 31) (by decide)).tr hfr93 (by decide) (by decide), rfl, (by rw [hk93_31]; exact hTT)⟩
                · refine r_iload_n (pc := 65) hX 36 rfl rfl ?_
                  first | refine r_if_ne (pc := 66) hX 37 (tgt := 97) rfl (by decide) (⟨by omega, by omega⟩) (fun h66 => ?_) (fun h66 => ?_) | refine r_if_ne_any (pc := 66) hX 37 (tgt := 97) rfl (by decide) ?_ ?_
                  · have b8 : ∀ q, 0 ≤ q → q ≤ 2 → 0 ≤ v22 185 q ∧ v22 185 q ≤ 8 := fun q h0 h1 => by
                      have z := hC q h0 h1
                      rw [← ie22] at z
                      by_cases e : q < v22 180 2
                      · have z2 := hq55.2 (by omega) q h0 e
                        have := hSInv_22.c3
                        omega
                      · have z2 := h8 q h0 h1 (by rw [← es22]; omega)
                        rw [← ie22] at z2
                        omega
                    have b80 := b8 0 (by decide) (by decide)
                    have b81 := b8 1 (by decide) (by decide)
                    have b82 := b8 2 (by decide) (by decide)
                    refine r_aload_n (pc := 97) hX 52 rfl rfl ?_
                    refine r_callV (as := []) (st := []) (K := 12) (pc := 98) hX 53 rfl mo_m_slot ml_X12_364 im_m_slot se_m_slot (c_slot g (up v22 178 31 T) ρ Z hG  ) rfl rfl rfl hG.1 (by rw [hRm]; exact ⟨by decide, by decide⟩) (by rw [hRm]; exact ⟨by decide, by decide⟩) (Nat.le_of_ble_eq_true rfl) (fun o98 v98 ρ98 Z98 hq98 _ => ?_)
                    obtain ⟨rfl, rfl, rfl, r98, rfl, hq98⟩ := hq98
                    try simp only [up_f (show (180 : Int) ≠ 178 by decide), up_f (show (185 : Int) ≠ 178 by decide)] at hq98
                    show wp g X F_m_goes 0 0 101 [(2, 178), (0, lf), (0, en), (0, k), (3, 0), (3, 0), (3, 0)] [(0, r98)] (up v22 178 31 T) ρ Z
                    refine r_istore_n (ls' := [(2, 178), (0, lf), (0, en), (0, r98), (3, 0), (3, 0), (3, 0)]) (pc := 101) hX 54 rfl (by decide) rfl ?_
                    refine r_iconst (pc := 102) hX 55 rfl ?_
                    refine r_istore (ls' := [(2, 178), (0, lf), (0, en), (0, r98), (0, 0), (3, 0), (3, 0)]) (pc := 103) hX 56 rfl (by decide) rfl ?_
                    have L105 : ∀ (n105 : Nat) (l : Int) (v105 : Mv) , (Fr [185, 190, 191, 192, 193] [31] v v105) → (OwI (v105 186)) → (SInv (v105 180)) → (0 ≤ l ∧ l ≤ 3) → (v105 178 31 = T) → (3 - l).toNat < n105 → wp g X F_m_goes 0 0 105 [(2, 178), (0, lf), (0, en), (0, r98), (0, l), (3, 0), (3, 0)] [] v105 ρ Z := by
                      intro n105
                      induction n105 with
                      | zero => intro l v105 hfr105 hOwI_105 hSInv_105 il it105 hme105; exact absurd hme105 (Nat.not_lt_zero _)
                      | succ n105 ih105 =>
                        intro l v105 hfr105 hOwI_105 hSInv_105 il it105 hme105
                        refine r_iload (pc := 105) hX 57 rfl rfl ?_
                        refine r_aload_n (pc := 107) hX 58 rfl rfl ?_
                        refine r_callV (as := []) (st := [(0, l)]) (K := 12) (pc := 108) hX 59 rfl mo_m_lands ml_X12_322 im_m_lands se_m_lands (c_lands g v105 ρ Z hG  (hSInv_105)) rfl rfl rfl hG.1 (by rw [hRm]; exact ⟨by decide, by decide⟩) (by rw [hRm]; exact ⟨by decide, by decide⟩) (Nat.le_of_ble_eq_true rfl) (fun o108 v108 ρ108 Z108 hq108 _ => ?_)
                        obtain ⟨rfl, rfl, rfl, r108, rfl, hq108⟩ := hq108
                        show wp g X F_m_goes 0 0 111 [(2, 178), (0, lf), (0, en), (0, r98), (0, l), (3, 0), (3, 0)] [(0, r108), (0, l)] v105 ρ Z
                        first | refine r_icmp_ge (pc := 111) hX 60 (tgt := 284) rfl (by decide) (⟨by omega, by omega⟩) (⟨by omega, by omega⟩) (fun h111 => ?_) (fun h111 => ?_) | refine r_icmp_ge_any (pc := 111) hX 60 (tgt := 284) rfl (by decide) ?_ ?_
                        · refine r_aload_n (pc := 284) hX 145 rfl rfl ?_
                          refine r_iload_n (pc := 285) hX 146 rfl rfl ?_
                          refine r_callV (as := [(0, r98)]) (st := []) (K := 12) (pc := 286) hX 147 rfl mo_m_stands ml_X12_371 im_m_stands se_m_stands (c_stands g v105 ρ Z hG (r98) (by omega)) rfl rfl rfl hG.1 (by rw [hRm]; exact ⟨by decide, by decide⟩) (by rw [hRm]; exact ⟨by decide, by decide⟩) (Nat.le_of_ble_eq_true rfl) (fun o286 v286 ρ286 Z286 hq286 _ => ?_)
                          obtain ⟨rfl, rfl, hfr286, rfl, hq286⟩ := hq286
                          have hSInv_286 : SInv (v286 180) := by rw [hfr286.1 180 (by decide) (by decide)]; exact hSInv_105
                          have hOwI_286 : OwI (v286 186) := by rw [hfr286.1 186 (by decide) (by decide)]; exact hOwI_105
                          have hk286_31 : v286 178 31 = (v105 178 31) := (hfr286.2 31 (by decide)).trans (rfl)
                          show wp g X F_m_goes 0 0 289 [(2, 178), (0, lf), (0, en), (0, r98), (0, l), (3, 0), (3, 0)] [] v286 ρ Z
                          exact r_vret (pc := 289) hX 148 hQ rfl rfl (Nat.le_refl 0) (Nat.le_refl 0) ⟨rfl, rfl, (hfr105).tr hfr286 (by decide) (by decide), rfl, (by rw [hk286_31, it105]; exact hTT)⟩
                        · refine t_getR (pc := 114) hX 61 rfl rfl rfl fl_X12_62 rfl hG.1 (a_weight hG).1 ?_
                          refine r_iload (pc := 118) hX 63 rfl rfl ?_
                          refine e_lald (y := (v105 189 l)) (pc := 120) hX 64 rfl (a_weight hG).2.1 (a_weight hG).2.2 (by omega) (by omega) (rfl) ?_
                          refine r_lconst (pc := 121) hX 65 rfl ?_
                          show wp g X F_m_goes 0 0 122 [(2, 178), (0, lf), (0, en), (0, r98), (0, l), (3, 0), (3, 0)] [(1, 0), (1, (v105 189 l))] v105 ρ Z
                          refine r_lcmp_any (pc := 122) hX 66 rfl (fun z122 hz122a hz122b => ?_)
                          first | refine r_if_ne (pc := 123) hX 67 (tgt := 129) rfl (by decide) (⟨by omega, by omega⟩) (fun h123 => ?_) (fun h123 => ?_) | refine r_if_ne_any (pc := 123) hX 67 (tgt := 129) rfl (by decide) ?_ ?_
                          · refine r_iconst (pc := 129) hX 69 rfl ?_
                            refine r_istore (ls' := [(2, 178), (0, lf), (0, en), (0, r98), (0, l), (0, 0), (3, 0)]) (pc := 130) hX 70 rfl (by decide) rfl ?_
                            have L132 : ∀ (n132 : Nat) (k : Int) (v132 : Mv) , (Fr [185, 190, 191, 192, 193] [31] v v132) → (OwI (v132 186)) → (SInv (v132 180)) → (0 ≤ k ∧ k ≤ 729) → (v132 178 31 = T) → (729 - k).toNat < n132 → wp g X F_m_goes 0 0 132 [(2, 178), (0, lf), (0, en), (0, r98), (0, l), (0, k), (3, 0)] [] v132 ρ Z := by
                              intro n132
                              induction n132 with
                              | zero => intro k v132 hfr132 hOwI_132 hSInv_132 ik it132 hme132; exact absurd hme132 (Nat.not_lt_zero _)
                              | succ n132 ih132 =>
                                intro k v132 hfr132 hOwI_132 hSInv_132 ik it132 hme132
                                refine r_iload (pc := 132) hX 71 rfl rfl ?_
                                refine r_sipush (pc := 134) hX 72 rfl (by decide) ?_
                                first | refine r_icmp_ge (pc := 137) hX 73 (tgt := 154) rfl (by decide) (⟨by omega, by omega⟩) (⟨by omega, by omega⟩) (fun h137 => ?_) (fun h137 => ?_) | refine r_icmp_ge_any (pc := 137) hX 73 (tgt := 154) rfl (by decide) ?_ ?_
                                · refine t_getR (pc := 154) hX 81 rfl rfl rfl fl_X12_65 rfl hG.1 (a_ways hG).1 ?_
                                  refine r_iload_n (pc := 158) hX 83 rfl rfl ?_
                                  refine t_getR (pc := 159) hX 84 rfl rfl rfl fl_X12_62 rfl hG.1 (a_weight hG).1 ?_
                                  refine r_iload (pc := 163) hX 86 rfl rfl ?_
                                  refine e_lald (y := (v132 189 l)) (pc := 165) hX 87 rfl (a_weight hG).2.1 (a_weight hG).2.2 (by omega) (by omega) (rfl) ?_
                                  refine e_last (pc := 166) hX 88 rfl (a_ways hG).2.1 (a_ways hG).2.2 (by decide) (by omega) (by omega) ?_
                                  refine r_iconst (pc := 167) hX 89 rfl ?_
                                  refine r_istore (ls' := [(2, 178), (0, lf), (0, en), (0, r98), (0, l), (0, 1), (3, 0)]) (pc := 168) hX 90 rfl (by decide) rfl ?_
                                  have L170 : ∀ (n170 : Nat) (car : Int) (v170 : Mv) , (Fr [185, 190, 191, 192, 193] [31] v v170) → (OwI (v170 186)) → (SInv (v170 180)) → (1 ≤ car ∧ car ≤ lf + 1) → (v170 178 31 = T) → (lf + 1 - car).toNat < n170 → wp g X F_m_goes 0 0 170 [(2, 178), (0, lf), (0, en), (0, r98), (0, l), (0, car), (3, 0)] [] v170 ρ Z := by
                                    intro n170
                                    induction n170 with
                                    | zero => intro car v170 hfr170 hOwI_170 hSInv_170 ic it170 hme170; exact absurd hme170 (Nat.not_lt_zero _)
                                    | succ n170 ih170 =>
                                      intro car v170 hfr170 hOwI_170 hSInv_170 ic it170 hme170
                                      refine r_iload (pc := 170) hX 91 rfl rfl ?_
                                      refine r_iload_n (pc := 172) hX 92 rfl rfl ?_
                                      first | refine r_icmp_gt (pc := 173) hX 93 (tgt := 278) rfl (by decide) (⟨by omega, by omega⟩) (⟨by omega, by omega⟩) (fun h173 => ?_) (fun h173 => ?_) | refine r_icmp_gt_any (pc := 173) hX 93 (tgt := 278) rfl (by decide) ?_ ?_
                                      · refine r_iinc (ls' := [(2, 178), (0, lf), (0, en), (0, r98), (0, (l + 1)), (0, car), (3, 0)]) (pc := 278) hX 143 rfl rfl (by decide) rfl ?_
                                        refine r_goto (pc := 281) hX 144 (tgt := 105) rfl (by decide) ?_
                                        refine r_wk (ls' := [(2, 178), (0, lf), (0, en), (0, r98), (0, (l + 1)), (3, 0), (3, 0)]) ⟨Or.inr rfl, Or.inr rfl, Or.inr rfl, Or.inr rfl, Or.inr rfl, Or.inl rfl, Or.inr rfl, trivial⟩ ?_
                                        exact (ih105 (l + 1) v170 (hfr170) (hOwI_170) (hSInv_170) (by omega) ((rfl).trans (by omega)) (by omega))
                                      · refine r_iconst (pc := 176) hX 94 rfl ?_
                                        refine r_istore (ls' := [(2, 178), (0, lf), (0, en), (0, r98), (0, l), (0, car), (0, 0)]) (pc := 177) hX 95 rfl (by decide) rfl ?_
                                        have L179 : ∀ (n179 : Nat) (k : Int) (v179 : Mv) , (Fr [185, 190, 191, 192, 193] [31] v v179) → (OwI (v179 186)) → (SInv (v179 180)) → (0 ≤ k ∧ k ≤ 729) → (v179 178 31 = T) → (729 - k).toNat < n179 → wp g X F_m_goes 0 0 179 [(2, 178), (0, lf), (0, en), (0, r98), (0, l), (0, car), (0, k)] [] v179 ρ Z := by
                                          intro n179
                                          induction n179 with
                                          | zero => intro k v179 hfr179 hOwI_179 hSInv_179 ik it179 hme179; exact absurd hme179 (Nat.not_lt_zero _)
                                          | succ n179 ih179 =>
                                            intro k v179 hfr179 hOwI_179 hSInv_179 ik it179 hme179
                                            refine r_iload (pc := 179) hX 96 rfl rfl ?_
                                            refine r_sipush (pc := 181) hX 97 rfl (by decide) ?_
                                            first | refine r_icmp_ge (pc := 184) hX 98 (tgt := 201) rfl (by decide) (⟨by omega, by omega⟩) (⟨by omega, by omega⟩) (fun h184 => ?_) (fun h184 => ?_) | refine r_icmp_ge_any (pc := 184) hX 98 (tgt := 201) rfl (by decide) ?_ ?_
                                            · refine r_iconst (pc := 201) hX 106 rfl ?_
                                              refine r_istore (ls' := [(2, 178), (0, lf), (0, en), (0, r98), (0, l), (0, car), (0, 0)]) (pc := 202) hX 107 rfl (by decide) rfl ?_
                                              have L204 : ∀ (n204 : Nat) (k : Int) (v204 : Mv) , (Fr [185, 190, 191, 192, 193] [31] v v204) → (OwI (v204 186)) → (SInv (v204 180)) → (0 ≤ k ∧ k ≤ 729) → (v204 178 31 = T) → (729 - k).toNat < n204 → wp g X F_m_goes 0 0 204 [(2, 178), (0, lf), (0, en), (0, r98), (0, l), (0, car), (0, k)] [] v204 ρ Z := by
                                                intro n204
                                                induction n204 with
                                                | zero => intro k v204 hfr204 hOwI_204 hSInv_204 ik it204 hme204; exact absurd hme204 (Nat.not_lt_zero _)
                                                | succ n204 ih204 =>
                                                  intro k v204 hfr204 hOwI_204 hSInv_204 ik it204 hme204
                                                  refine r_iload (pc := 204) hX 108 rfl rfl ?_
                                                  refine r_sipush (pc := 206) hX 109 rfl (by decide) ?_
                                                  first | refine r_icmp_ge (pc := 209) hX 110 (tgt := 241) rfl (by decide) (⟨by omega, by omega⟩) (⟨by omega, by omega⟩) (fun h209 => ?_) (fun h209 => ?_) | refine r_icmp_ge_any (pc := 209) hX 110 (tgt := 241) rfl (by decide) ?_ ?_
                                                  · refine r_iconst (pc := 241) hX 126 rfl ?_
                                                    refine r_istore (ls' := [(2, 178), (0, lf), (0, en), (0, r98), (0, l), (0, car), (0, 0)]) (pc := 242) hX 127 rfl (by decide) rfl ?_
                                                    have L244 : ∀ (n244 : Nat) (k : Int) (v244 : Mv) , (Fr [185, 190, 191, 192, 193] [31] v v244) → (OwI (v244 186)) → (SInv (v244 180)) → (0 ≤ k ∧ k ≤ 729) → (v244 178 31 = T) → (729 - k).toNat < n244 → wp g X F_m_goes 0 0 244 [(2, 178), (0, lf), (0, en), (0, r98), (0, l), (0, car), (0, k)] [] v244 ρ Z := by
                                                      intro n244
                                                      induction n244 with
                                                      | zero => intro k v244 hfr244 hOwI_244 hSInv_244 ik it244 hme244; exact absurd hme244 (Nat.not_lt_zero _)
                                                      | succ n244 ih244 =>
                                                        intro k v244 hfr244 hOwI_244 hSInv_244 ik it244 hme244
                                                        refine r_iload (pc := 244) hX 128 rfl rfl ?_
                                                        refine r_sipush (pc := 246) hX 129 rfl (by decide) ?_
                                                        first | refine r_icmp_ge (pc := 249) hX 130 (tgt := 272) rfl (by decide) (⟨by omega, by omega⟩) (⟨by omega, by omega⟩) (fun h249 => ?_) (fun h249 => ?_) | refine r_icmp_ge_any (pc := 249) hX 130 (tgt := 272) rfl (by decide) ?_ ?_
                                                        · refine r_iinc (ls' := [(2, 178), (0, lf), (0, en), (0, r98), (0, l), (0, (car + 1)), (0, k)]) (pc := 272) hX 141 rfl rfl (by decide) rfl ?_
                                                          refine r_goto (pc := 275) hX 142 (tgt := 170) rfl (by decide) ?_
                                                          refine r_wk (ls' := [(2, 178), (0, lf), (0, en), (0, r98), (0, l), (0, (car + 1)), (3, 0)]) ⟨Or.inr rfl, Or.inr rfl, Or.inr rfl, Or.inr rfl, Or.inr rfl, Or.inr rfl, Or.inl rfl, trivial⟩ ?_
                                                          exact (ih170 (car + 1) v244 (hfr244) (hOwI_244) (hSInv_244) (by omega) ((rfl).trans (by omega)) (by omega))
                                                        · refine t_getR (pc := 252) hX 131 rfl rfl rfl fl_X12_65 rfl hG.1 (a_ways hG).1 ?_
                                                          refine r_iload (pc := 256) hX 133 rfl rfl ?_
                                                          refine t_getR (pc := 258) hX 134 rfl rfl rfl fl_X12_68 rfl hG.1 (a_then hG).1 ?_
                                                          refine r_iload (pc := 262) hX 136 rfl rfl ?_
                                                          refine e_lald (y := (v244 191 k)) (pc := 264) hX 137 rfl (a_then hG).2.1 (a_then hG).2.2 (by omega) (by omega) (rfl) ?_
                                                          refine e_last (pc := 265) hX 138 rfl (a_ways hG).2.1 (a_ways hG).2.2 (by decide) (by omega) (by omega) ?_
                                                          refine r_iinc (ls' := [(2, 178), (0, lf), (0, en), (0, r98), (0, l), (0, car), (0, (k + 1))]) (pc := 266) hX 139 rfl rfl (by decide) rfl ?_
                                                          refine r_goto (pc := 269) hX 140 (tgt := 244) rfl (by decide) ?_
                                                          exact (ih244 (k + 1) (up v244 190 k (v244 191 k)) ((hfr244).arr (r := 190) (by decide) (by decide)) (by rw [up_f (by decide)]; exact hOwI_244) (by rw [up_f (by decide)]; exact hSInv_244) (by omega) (((up_r (by decide)).trans (rfl)).trans (by omega)) (by omega))
                                                    exact (L244 _ 0 v204 (hfr204) (hOwI_204) (hSInv_204) (by omega) ((rfl).trans (by omega)) (Nat.lt_succ_self _))
                                                  · refine t_getR (pc := 212) hX 111 rfl rfl rfl fl_X12_65 rfl hG.1 (a_ways hG).1 ?_
                                                    refine r_iload (pc := 216) hX 113 rfl rfl ?_
                                                    refine e_lald (y := (v204 190 k)) (pc := 218) hX 114 rfl (a_ways hG).2.1 (a_ways hG).2.2 (by omega) (by omega) (rfl) ?_
                                                    refine r_lconst (pc := 219) hX 115 rfl ?_
                                                    show wp g X F_m_goes 0 0 220 [(2, 178), (0, lf), (0, en), (0, r98), (0, l), (0, car), (0, k)] [(1, 0), (1, (v204 190 k))] v204 ρ Z
                                                    refine r_lcmp_any (pc := 220) hX 116 rfl (fun z220 hz220a hz220b => ?_)
                                                    first | refine r_if_le (pc := 221) hX 117 (tgt := 235) rfl (by decide) (⟨by omega, by omega⟩) (fun h221 => ?_) (fun h221 => ?_) | refine r_if_le_any (pc := 221) hX 117 (tgt := 235) rfl (by decide) ?_ ?_
                                                    · refine r_iinc (ls' := [(2, 178), (0, lf), (0, en), (0, r98), (0, l), (0, car), (0, (k + 1))]) (pc := 235) hX 124 rfl rfl (by decide) rfl ?_
                                                      refine r_goto (pc := 238) hX 125 (tgt := 204) rfl (by decide) ?_
                                                      exact (ih204 (k + 1) v204 (hfr204) (hOwI_204) (hSInv_204) (by omega) ((rfl).trans (by omega)) (by omega))
                                                    · refine r_aload_n (pc := 224) hX 118 rfl rfl ?_
                                                      refine r_iload (pc := 225) hX 119 rfl rfl ?_
                                                      refine r_iload (pc := 227) hX 120 rfl rfl ?_
                                                      refine r_iload (pc := 229) hX 121 rfl rfl ?_
                                                      refine r_iload_n (pc := 231) hX 122 rfl rfl ?_
                                                      refine r_callV (as := [(0, l), (0, k), (0, car), (0, lf)]) (st := []) (K := 12) (pc := 232) hX 123 rfl mo_m_comes ml_X12_367 im_m_comes se_m_comes (c_comes g v204 ρ Z hG (l) (k) (car) (lf) (hSInv_204) (hOwI_204) (by omega) (by omega) (by omega)) rfl rfl rfl hG.1 (by rw [hRm]; exact ⟨by decide, by decide⟩) (by rw [hRm]; exact ⟨by decide, by decide⟩) (Nat.le_of_ble_eq_true rfl) (fun o232 v232 ρ232 Z232 hq232 _ => ?_)
                                                      obtain ⟨rfl, rfl, hfr232, rfl, hq232⟩ := hq232
                                                      have hSInv_232 : SInv (v232 180) := by rw [hfr232.1 180 (by decide) (by decide)]; exact hSInv_204
                                                      have hOwI_232 : OwI (v232 186) := by rw [hfr232.1 186 (by decide) (by decide)]; exact hOwI_204
                                                      have hk232_31 : v232 178 31 = (v204 178 31) := (hfr232.2 31 (by decide)).trans (rfl)
                                                      show wp g X F_m_goes 0 0 235 [(2, 178), (0, lf), (0, en), (0, r98), (0, l), (0, car), (0, k)] [] v232 ρ Z
                                                      refine r_iinc (ls' := [(2, 178), (0, lf), (0, en), (0, r98), (0, l), (0, car), (0, (k + 1))]) (pc := 235) hX 124 rfl rfl (by decide) rfl ?_
                                                      refine r_goto (pc := 238) hX 125 (tgt := 204) rfl (by decide) ?_
                                                      exact (ih204 (k + 1) v232 ((hfr204).tr hfr232 (by decide) (by decide)) (hOwI_232) (hSInv_232) (by omega) ((rfl).trans (by omega)) (by omega))
                                              exact (L204 _ 0 v179 (hfr179) (hOwI_179) (hSInv_179) (by omega) ((rfl).trans (by omega)) (Nat.lt_succ_self _))
                                            · refine t_getR (pc := 187) hX 99 rfl rfl rfl fl_X12_68 rfl hG.1 (a_then hG).1 ?_
                                              refine r_iload (pc := 191) hX 101 rfl rfl ?_
                                              refine r_lconst (pc := 193) hX 102 rfl ?_
                                              show wp g X F_m_goes 0 0 194 [(2, 178), (0, lf), (0, en), (0, r98), (0, l), (0, car), (0, k)] [(1, 0), (0, k), (2, 191)] v179 ρ Z
                                              refine e_last (pc := 194) hX 103 rfl (a_then hG).2.1 (a_then hG).2.2 (by decide) (by omega) (by omega) ?_
                                              refine r_iinc (ls' := [(2, 178), (0, lf), (0, en), (0, r98), (0, l), (0, car), (0, (k + 1))]) (pc := 195) hX 104 rfl rfl (by decide) rfl ?_
                                              refine r_goto (pc := 198) hX 105 (tgt := 179) rfl (by decide) ?_
                                              exact (ih179 (k + 1) (up v179 191 k 0) ((hfr179).arr (r := 191) (by decide) (by decide)) (by rw [up_f (by decide)]; exact hOwI_179) (by rw [up_f (by decide)]; exact hSInv_179) (by omega) (((up_r (by decide)).trans (rfl)).trans (by omega)) (by omega))
                                        exact (L179 _ 0 v170 (hfr170) (hOwI_170) (hSInv_170) (by omega) ((rfl).trans (by omega)) (Nat.lt_succ_self _))
                                  exact (L170 _ 1 (up v132 190 r98 (v132 189 l)) ((hfr132).arr (r := 190) (by decide) (by decide)) (by rw [up_f (by decide)]; exact hOwI_132) (by rw [up_f (by decide)]; exact hSInv_132) (by omega) (((up_r (by decide)).trans (rfl)).trans (by omega)) (Nat.lt_succ_self _))
                                · refine t_getR (pc := 140) hX 74 rfl rfl rfl fl_X12_65 rfl hG.1 (a_ways hG).1 ?_
                                  refine r_iload (pc := 144) hX 76 rfl rfl ?_
                                  refine r_lconst (pc := 146) hX 77 rfl ?_
                                  show wp g X F_m_goes 0 0 147 [(2, 178), (0, lf), (0, en), (0, r98), (0, l), (0, k), (3, 0)] [(1, 0), (0, k), (2, 190)] v132 ρ Z
                                  refine e_last (pc := 147) hX 78 rfl (a_ways hG).2.1 (a_ways hG).2.2 (by decide) (by omega) (by omega) ?_
                                  refine r_iinc (ls' := [(2, 178), (0, lf), (0, en), (0, r98), (0, l), (0, (k + 1)), (3, 0)]) (pc := 148) hX 79 rfl rfl (by decide) rfl ?_
                                  refine r_goto (pc := 151) hX 80 (tgt := 132) rfl (by decide) ?_
                                  exact (ih132 (k + 1) (up v132 190 k 0) ((hfr132).arr (r := 190) (by decide) (by decide)) (by rw [up_f (by decide)]; exact hOwI_132) (by rw [up_f (by decide)]; exact hSInv_132) (by omega) (((up_r (by decide)).trans (rfl)).trans (by omega)) (by omega))
                            exact (L132 _ 0 v105 (hfr105) (hOwI_105) (hSInv_105) (by omega) ((rfl).trans (by omega)) (Nat.lt_succ_self _))
                          · refine r_goto (pc := 126) hX 68 (tgt := 278) rfl (by decide) ?_
                            refine r_iinc (ls' := [(2, 178), (0, lf), (0, en), (0, r98), (0, (l + 1)), (3, 0), (3, 0)]) (pc := 278) hX 143 rfl rfl (by decide) rfl ?_
                            refine r_goto (pc := 281) hX 144 (tgt := 105) rfl (by decide) ?_
                            exact (ih105 (l + 1) v105 (hfr105) (hOwI_105) (hSInv_105) (by omega) ((rfl).trans (by omega)) (by omega))
                    exact (L105 _ 0 (up v22 178 31 T) ((hfr22).fld (k := 31) (by decide)) (by rw [up_f (by decide)]; exact hOwI_22) (by rw [up_f (by decide)]; exact hSInv_22) (by omega) ((up_s _ _ _ _).trans (by omega)) (Nat.lt_succ_self _))
                  · refine r_aload_n (pc := 69) hX 38 rfl rfl ?_
                    refine r_aload_n (pc := 70) hX 39 rfl rfl ?_
                    refine r_callV (as := []) (st := [(2, 178)]) (K := 12) (pc := 71) hX 40 rfl mo_m_arrived ml_X12_304 im_m_arrived se_m_arrived (c_arrived g (up v22 178 31 T) ρ Z hG  (by rw [up_f (by decide)]; exact hSInv_22) (by rw [up_f (by decide), ie22]; exact hC)) rfl rfl rfl hG.1 (by rw [hRm]; exact ⟨by decide, by decide⟩) (by rw [hRm]; exact ⟨by decide, by decide⟩) (Nat.le_of_ble_eq_true rfl) (fun o71 v71 ρ71 Z71 hq71 _ => ?_)
                    obtain ⟨rfl, rfl, rfl, r71, rfl, hq71⟩ := hq71
                    try simp only [up_f (show (180 : Int) ≠ 178 by decide), up_f (show (185 : Int) ≠ 178 by decide)] at hq71
                    show wp g X F_m_goes 0 0 74 [(2, 178), (0, lf), (0, en), (0, k), (3, 0), (3, 0), (3, 0)] [(0, r71), (2, 178)] (up v22 178 31 T) ρ Z
                    first | refine r_if_lt (pc := 74) hX 41 (tgt := 84) rfl (by decide) (⟨by omega, by omega⟩) (fun h74 => ?_) (fun h74 => ?_) | refine r_if_lt_any (pc := 74) hX 41 (tgt := 84) rfl (by decide) ?_ ?_
                    · refine r_aload_n (pc := 84) hX 45 rfl rfl ?_
                      refine r_callV (as := []) (st := [(2, 178)]) (K := 12) (pc := 85) hX 46 rfl mo_m_ahead ml_X12_313 im_m_ahead se_m_ahead (c_ahead g (up v22 178 31 T) ρ Z hG  (by rw [up_f (by decide)]; exact hSInv_22) (by rw [up_f (by decide), ie22]; exact hC)) rfl rfl rfl hG.1 (by rw [hRm]; exact ⟨by decide, by decide⟩) (by rw [hRm]; exact ⟨by decide, by decide⟩) (Nat.le_of_ble_eq_true rfl) (fun o85 v85 ρ85 Z85 hq85 _ => ?_)
                      obtain ⟨rfl, rfl, rfl, r85, rfl, hq85⟩ := hq85
                      try simp only [up_f (show (180 : Int) ≠ 178 by decide)] at hq85
                      show wp g X F_m_goes 0 0 88 [(2, 178), (0, lf), (0, en), (0, k), (3, 0), (3, 0), (3, 0)] [(0, r85), (2, 178)] (up v22 178 31 T) ρ Z
                      refine t_getL (y := T) (pc := 88) hX 47 rfl rfl rfl fl_X12_357 rfl hG.1 (up_s _ _ _ _) ?_
                      refine r_iconst (pc := 92) hX 49 rfl ?_
                      refine r_callV (as := [(0, r85), (1, T), (0, 0)]) (st := []) (K := 12) (pc := 93) hX 50 rfl mo_m_ends ml_X12_360 im_m_ends se_m_ends (c_ends g (up v22 178 31 T) ρ Z hG (r85) (T) (0) (by omega) (by omega)) rfl rfl rfl hG.1 (by rw [hRm]; exact ⟨by decide, by decide⟩) (by rw [hRm]; exact ⟨by decide, by decide⟩) (Nat.le_of_ble_eq_true rfl) (fun o93 v93 ρ93 Z93 hq93 _ => ?_)
                      obtain ⟨rfl, rfl, hfr93, rfl, hq93⟩ := hq93
                      try simp only [up_f (show (180 : Int) ≠ 178 by decide)] at hq93
                      have hSInv_93 : SInv (v93 180) := by rw [hfr93.1 180 (by decide) (by decide), up_f (by decide)]; exact hSInv_22
                      have hOwI_93 : OwI (v93 186) := by rw [hfr93.1 186 (by decide) (by decide), up_f (by decide)]; exact hOwI_22
                      have hk93_31 : v93 178 31 = T := (hfr93.2 31 (by decide)).trans (up_s _ _ _ _)
                      show wp g X F_m_goes 0 0 96 [(2, 178), (0, lf), (0, en), (0, k), (3, 0), (3, 0), (3, 0)] [] v93 ρ Z
                      exact r_vret (pc := 96) hX 51 hQ rfl rfl (Nat.le_refl 0) (Nat.le_refl 0) ⟨rfl, rfl, ((hfr22).fld (k := 31) (by decide)).tr hfr93 (by decide) (by decide), rfl, (by rw [hk93_31]; exact hTT)⟩
                    · refine r_aload_n (pc := 77) hX 42 rfl rfl ?_
                      refine r_callV (as := []) (st := [(2, 178)]) (K := 12) (pc := 78) hX 43 rfl mo_m_arrived ml_X12_304 im_m_arrived se_m_arrived (c_arrived g (up v22 178 31 T) ρ Z hG  (by rw [up_f (by decide)]; exact hSInv_22) (by rw [up_f (by decide), ie22]; exact hC)) rfl rfl rfl hG.1 (by rw [hRm]; exact ⟨by decide, by decide⟩) (by rw [hRm]; exact ⟨by decide, by decide⟩) (Nat.le_of_ble_eq_true rfl) (fun o78 v78 ρ78 Z78 hq78 _ => ?_)
                      obtain ⟨rfl, rfl, rfl, r78, rfl, hq78⟩ := hq78
                      try simp only [up_f (show (180 : Int) ≠ 178 by decide), up_f (show (185 : Int) ≠ 178 by decide)] at hq78
                      show wp g X F_m_goes 0 0 81 [(2, 178), (0, lf), (0, en), (0, k), (3, 0), (3, 0), (3, 0)] [(0, r78), (2, 178)] (up v22 178 31 T) ρ Z
                      refine r_goto (pc := 81) hX 44 (tgt := 88) rfl (by decide) ?_
                      refine t_getL (y := T) (pc := 88) hX 47 rfl rfl rfl fl_X12_357 rfl hG.1 (up_s _ _ _ _) ?_
                      refine r_iconst (pc := 92) hX 49 rfl ?_
                      refine r_callV (as := [(0, r78), (1, T), (0, 0)]) (st := []) (K := 12) (pc := 93) hX 50 rfl mo_m_ends ml_X12_360 im_m_ends se_m_ends (c_ends g (up v22 178 31 T) ρ Z hG (r78) (T) (0) (by omega) (by omega)) rfl rfl rfl hG.1 (by rw [hRm]; exact ⟨by decide, by decide⟩) (by rw [hRm]; exact ⟨by decide, by decide⟩) (Nat.le_of_ble_eq_true rfl) (fun o93 v93 ρ93 Z93 hq93 _ => ?_)
                      obtain ⟨rfl, rfl, hfr93, rfl, hq93⟩ := hq93
                      try simp only [up_f (show (180 : Int) ≠ 178 by decide)] at hq93
                      have hSInv_93 : SInv (v93 180) := by rw [hfr93.1 180 (by decide) (by decide), up_f (by decide)]; exact hSInv_22
                      have hOwI_93 : OwI (v93 186) := by rw [hfr93.1 186 (by decide) (by decide), up_f (by decide)]; exact hOwI_22
                      have hk93_31 : v93 178 31 = T := (hfr93.2 31 (by decide)).trans (up_s _ _ _ _)
                      show wp g X F_m_goes 0 0 96 [(2, 178), (0, lf), (0, en), (0, k), (3, 0), (3, 0), (3, 0)] [] v93 ρ Z
                      exact r_vret (pc := 96) hX 51 hQ rfl rfl (Nat.le_refl 0) (Nat.le_refl 0) ⟨rfl, rfl, ((hfr22).fld (k := 31) (by decide)).tr hfr93 (by decide) (by decide), rfl, (by rw [hk93_31]; exact hTT)⟩
            · refine t_getR (pc := 28) hX 17 rfl rfl rfl fl_X12_74 rfl hG.1 (a_endsAt hG).1 ?_
              refine r_iload_n (pc := 32) hX 19 rfl rfl ?_
              refine r_lconst (pc := 33) hX 20 rfl ?_
              show wp g X F_m_goes 0 0 34 [(2, 178), (0, lf), (0, en), (0, k), (3, 0), (3, 0), (3, 0)] [(1, 0), (0, k), (2, 193)] v22 ρ Z
              refine e_last (pc := 34) hX 21 rfl (a_endsAt hG).2.1 (a_endsAt hG).2.2 (by decide) (by omega) (by omega) ?_
              refine r_iinc (ls' := [(2, 178), (0, lf), (0, en), (0, (k + 1)), (3, 0), (3, 0), (3, 0)]) (pc := 35) hX 22 rfl rfl (by decide) rfl ?_
              refine r_goto (pc := 38) hX 23 (tgt := 22) rfl (by decide) ?_
              exact (ih22 (k + 1) (up v22 193 k 0) ((hfr22).arr (r := 193) (by decide) (by decide)) (by rw [up_f (by decide)]; exact hOwI_22) (by rw [up_f (by decide)]; exact hSInv_22) (by omega) (by rw [up_f (by decide)]; exact ie22) (by omega))
        exact (L22 _ 0 v2 (hfr2) (hOwI_2) (hSInv_2) (by omega) (ie2) (Nat.lt_succ_self _))
      · refine t_getR (pc := 7) hX 5 rfl rfl rfl fl_X12_71 rfl hG.1 (a_wonBy hG).1 ?_
        refine r_iload_n (pc := 11) hX 7 rfl rfl ?_
        refine r_lconst (pc := 12) hX 8 rfl ?_
        show wp g X F_m_goes 0 0 13 [(2, 178), (0, lf), (0, en), (0, k), (3, 0), (3, 0), (3, 0)] [(1, 0), (0, k), (2, 192)] v2 ρ Z
        refine e_last (pc := 13) hX 9 rfl (a_wonBy hG).2.1 (a_wonBy hG).2.2 (by decide) (by omega) (by omega) ?_
        refine r_iinc (ls' := [(2, 178), (0, lf), (0, en), (0, (k + 1)), (3, 0), (3, 0), (3, 0)]) (pc := 14) hX 10 rfl rfl (by decide) rfl ?_
        refine r_goto (pc := 17) hX 11 (tgt := 2) rfl (by decide) ?_
        exact (ih2 (k + 1) (up v2 192 k 0) ((hfr2).arr (r := 192) (by decide) (by decide)) (by rw [up_f (by decide)]; exact hOwI_2) (by rw [up_f (by decide)]; exact hSInv_2) (by omega) (by rw [up_f (by decide)]; exact ie2) (by omega))
  exact (L2 _ 0 v (Fr.rf) (hO) (hS) (by omega) (rfl) (Nat.lt_succ_self _))
set_option maxHeartbeats 4000000 in
set_option maxRecDepth 100000 in
theorem c_goesNow (g : Gp) (v ρ : Mv) (Z : Mz) (hG : GM ρ Z)  (hS : SInv (v 180)) : Ok g 4 0 0 F_m_goesNow [(2, 178)] v ρ Z (fun o v' ρ' Z' => ρ = ρ' ∧ Z = Z' ∧ Fr [185, 186, 189, 190, 191, 192, 193] [31] v v' ∧ o = none ∧ (0 < v' 178 31 ∧ v' 178 31 ≤ 240734712102912)) := by
  refine Ok.of mo_m_goesNow (Nat.le_of_ble_eq_true rfl) ?_
  intro X hX hRm hxn hQ
  show wp g X F_m_goesNow 0 0 0 [(2, 178)] [] v ρ Z
  refine r_aload_n (pc := 0) hX 0 rfl rfl ?_
  refine r_callV (as := []) (st := []) (K := 12) (pc := 1) hX 1 rfl mo_m_weighs ml_X12_319 im_m_weighs se_m_weighs (c_weighs g v ρ Z hG  (hS)) rfl rfl rfl hG.1 (by rw [hRm]; exact ⟨by decide, by decide⟩) (by rw [hRm]; exact ⟨by decide, by decide⟩) (Nat.le_of_ble_eq_true rfl) (fun o1 v1 ρ1 Z1 hq1 _ => ?_)
  obtain ⟨rfl, rfl, hfr1, rfl, hq1⟩ := hq1
  have hSInv_1 : SInv (v1 180) := by rw [hfr1.1 180 (by decide) (by decide)]; exact hS
  show wp g X F_m_goesNow 0 0 4 [(2, 178)] [] v1 ρ Z
  refine r_aload_n (pc := 4) hX 2 rfl rfl ?_
  refine r_callV (as := []) (st := []) (K := 12) (pc := 5) hX 3 rfl mo_m_asNow ml_X12_301 im_m_asNow se_m_asNow (c_asNow g v1 ρ Z hG  (hSInv_1)) rfl rfl rfl hG.1 (by rw [hRm]; exact ⟨by decide, by decide⟩) (by rw [hRm]; exact ⟨by decide, by decide⟩) (Nat.le_of_ble_eq_true rfl) (fun o5 v5 ρ5 Z5 hq5 _ => ?_)
  obtain ⟨rfl, rfl, hfr5, rfl, hq5⟩ := hq5
  have hSInv_5 : SInv (v5 180) := by rw [hfr5.1 180 (by decide) (by decide)]; exact hSInv_1
  show wp g X F_m_goesNow 0 0 8 [(2, 178)] [] v5 ρ Z
  have hN := nowP hS (hfr1.1 180 (by decide) (by decide)) hq1 (hfr5.1 180 (by decide) (by decide)) (hfr5.1 189 (by decide) (by decide)) hq5
  refine r_aload_n (pc := 8) hX 4 rfl rfl ?_
  refine r_aload_n (pc := 9) hX 5 rfl rfl ?_
  refine r_callV (as := []) (st := [(2, 178)]) (K := 12) (pc := 10) hX 6 rfl mo_m_carsLeft ml_X12_374 im_m_carsLeft se_m_carsLeft (c_carsLeft g v5 ρ Z hG  (hSInv_5)) rfl rfl rfl hG.1 (by rw [hRm]; exact ⟨by decide, by decide⟩) (by rw [hRm]; exact ⟨by decide, by decide⟩) (Nat.le_of_ble_eq_true rfl) (fun o10 v10 ρ10 Z10 hq10 _ => ?_)
  obtain ⟨rfl, rfl, rfl, r10, rfl, hq10⟩ := hq10
  show wp g X F_m_goesNow 0 0 13 [(2, 178)] [(0, r10), (2, 178)] v5 ρ Z
  refine r_aload_n (pc := 13) hX 7 rfl rfl ?_
  refine r_callV (as := []) (st := [(0, r10), (2, 178)]) (K := 12) (pc := 14) hX 8 rfl mo_m_hasEnded ml_X12_307 im_m_hasEnded se_m_hasEnded (c_hasEnded g v5 ρ Z hG  (hSInv_5)) rfl rfl rfl hG.1 (by rw [hRm]; exact ⟨by decide, by decide⟩) (by rw [hRm]; exact ⟨by decide, by decide⟩) (Nat.le_of_ble_eq_true rfl) (fun o14 v14 ρ14 Z14 hq14 _ => ?_)
  obtain ⟨rfl, rfl, rfl, r14, rfl, hq14⟩ := hq14
  show wp g X F_m_goesNow 0 0 17 [(2, 178)] [(0, r14), (0, r10), (2, 178)] v5 ρ Z
  refine r_callV (as := [(0, r10), (0, r14)]) (st := []) (K := 12) (pc := 17) hX 9 rfl mo_m_goes ml_X12_377 im_m_goes se_m_goes (c_goes g v5 ρ Z hG (r10) (r14) (hSInv_5) (hN.1) (hN.2.1) (hN.2.2.1) (by omega) (by omega) (by rw [hq10.2.2]; exact hN.2.2.2)) rfl rfl rfl hG.1 (by rw [hRm]; exact ⟨by decide, by decide⟩) (by rw [hRm]; exact ⟨by decide, by decide⟩) (Nat.le_of_ble_eq_true rfl) (fun o17 v17 ρ17 Z17 hq17 _ => ?_)
  obtain ⟨rfl, rfl, hfr17, rfl, hq17⟩ := hq17
  have hSInv_17 : SInv (v17 180) := by rw [hfr17.1 180 (by decide) (by decide)]; exact hSInv_5
  show wp g X F_m_goesNow 0 0 20 [(2, 178)] [] v17 ρ Z
  exact r_vret (pc := 20) hX 10 hQ rfl rfl (Nat.le_refl 0) (Nat.le_refl 0) ⟨rfl, rfl, (((Fr.rf).tr hfr1 (by decide) (by decide)).tr hfr5 (by decide) (by decide)).tr hfr17 (by decide) (by decide), rfl, (hq17)⟩
set_option maxHeartbeats 4000000 in
set_option maxRecDepth 100000 in
theorem c_whyCome (g : Gp) (v ρ : Mv) (Z : Mz) (hG : GM ρ Z) (c : Int) (hS : SInv (v 180)) (hc : 0 ≤ c ∧ c ≤ 4) : Ok g 4 0 0 F_m_whyCome [(2, 178), (0, c)] v ρ Z (fun o v' ρ' Z' => ρ = ρ' ∧ Z = Z' ∧ Fr [185, 186, 189] [] v v' ∧ ∃ r : Int, o = some (0, r) ∧ (0 ≤ r ∧ r ≤ 2) ∧ ((r = 0 → v 180 35 < v 180 4 ∧ (∀ q, 0 ≤ q → q < v 180 2 → v 180 (42 + q) < v 180 3) ∧ ∃ l, 0 ≤ l ∧ (l = 0 ∨ l < v 180 1) ∧ (∀ i, 0 ≤ i → i < v 180 35 → 1 ≤ v 180 (17 + 5 * l + v 180 (45 + i))) ∧ 1 ≤ v 180 (17 + 5 * l + c)))) := by
  refine Ok.of mo_m_whyCome (Nat.le_of_ble_eq_true rfl) ?_
  intro X hX hRm hxn hQ
  show wp g X F_m_whyCome 0 0 0 [(2, 178), (0, c), (3, 0)] [] v ρ Z
  have hl := hS.lds
  have hb35 := hS.c35
  refine r_aload_n (pc := 0) hX 0 rfl rfl ?_
  refine r_callV (as := []) (st := []) (K := 12) (pc := 1) hX 1 rfl mo_m_isOver ml_X12_310 im_m_isOver se_m_isOver (c_isOver g v ρ Z hG  (hS)) rfl rfl rfl hG.1 (by rw [hRm]; exact ⟨by decide, by decide⟩) (by rw [hRm]; exact ⟨by decide, by decide⟩) (Nat.le_of_ble_eq_true rfl) (fun o1 v1 ρ1 Z1 hq1 _ => ?_)
  obtain ⟨rfl, rfl, hfr1, r1, rfl, hq1⟩ := hq1
  have hSInv_1 : SInv (v1 180) := by rw [hfr1.1 180 (by decide) (by decide)]; exact hS
  show wp g X F_m_whyCome 0 0 4 [(2, 178), (0, c), (3, 0)] [(0, r1)] v1 ρ Z
  have es1 : v1 180 = v 180 := hfr1.1 180 (by decide) (by decide)
  first | refine r_if_eq (pc := 4) hX 2 (tgt := 9) rfl (by decide) (⟨by omega, by omega⟩) (fun h4 => ?_) (fun h4 => ?_) | refine r_if_eq_any (pc := 4) hX 2 (tgt := 9) rfl (by decide) ?_ ?_
  · refine r_aload_n (pc := 9) hX 5 rfl rfl ?_
    refine r_callV (as := []) (st := []) (K := 12) (pc := 10) hX 6 rfl mo_m_weighs ml_X12_319 im_m_weighs se_m_weighs (c_weighs g v1 ρ Z hG  (hSInv_1)) rfl rfl rfl hG.1 (by rw [hRm]; exact ⟨by decide, by decide⟩) (by rw [hRm]; exact ⟨by decide, by decide⟩) (Nat.le_of_ble_eq_true rfl) (fun o10 v10 ρ10 Z10 hq10 _ => ?_)
    obtain ⟨rfl, rfl, hfr10, rfl, hq10⟩ := hq10
    have hSInv_10 : SInv (v10 180) := by rw [hfr10.1 180 (by decide) (by decide)]; exact hSInv_1
    show wp g X F_m_whyCome 0 0 13 [(2, 178), (0, c), (3, 0)] [] v10 ρ Z
    have es10 : v10 180 = v 180 := (hfr10.1 180 (by decide) (by decide)).trans es1
    rw [es1] at hq10
    refine r_iconst (pc := 13) hX 7 rfl ?_
    refine r_istore_n (ls' := [(2, 178), (0, c), (0, 0)]) (pc := 14) hX 8 rfl (by decide) rfl ?_
    have L15 : ∀ (n15 : Nat) (l : Int) , (0 ≤ l ∧ l ≤ ldsF (v 180)) → (ldsF (v 180) - l).toNat < n15 → wp g X F_m_whyCome 0 0 15 [(2, 178), (0, c), (0, l)] [] v10 ρ Z := by
      intro n15
      induction n15 with
      | zero => intro l il hme15; exact absurd hme15 (Nat.not_lt_zero _)
      | succ n15 ih15 =>
        intro l il hme15
        refine r_iload_n (pc := 15) hX 9 rfl rfl ?_
        refine r_aload_n (pc := 16) hX 10 rfl rfl ?_
        refine r_callV (as := []) (st := [(0, l)]) (K := 12) (pc := 17) hX 11 rfl mo_m_lands ml_X12_322 im_m_lands se_m_lands (c_lands g v10 ρ Z hG  (hSInv_10)) rfl rfl rfl hG.1 (by rw [hRm]; exact ⟨by decide, by decide⟩) (by rw [hRm]; exact ⟨by decide, by decide⟩) (Nat.le_of_ble_eq_true rfl) (fun o17 v17 ρ17 Z17 hq17 _ => ?_)
        obtain ⟨rfl, rfl, rfl, r17, rfl, hq17⟩ := hq17
        show wp g X F_m_whyCome 0 0 20 [(2, 178), (0, c), (0, l)] [(0, r17), (0, l)] v10 ρ Z
        rw [es10] at hq17
        first | refine r_icmp_ge (pc := 20) hX 12 (tgt := 58) rfl (by decide) (⟨by omega, by omega⟩) (⟨by omega, by omega⟩) (fun h20 => ?_) (fun h20 => ?_) | refine r_icmp_ge_any (pc := 20) hX 12 (tgt := 58) rfl (by decide) ?_ ?_
        · refine r_iconst (pc := 58) hX 35 rfl ?_
          exact r_iret (pc := 59) hX 36 hQ rfl rfl (Nat.le_refl 0) (Nat.le_refl 0) ⟨rfl, rfl, ((Fr.rf).tr hfr1 (by decide) (by decide)).tr hfr10 (by decide) (by decide), 2, rfl, (by omega), (fun h => by omega)⟩
        · refine t_getR (pc := 23) hX 13 rfl rfl rfl fl_X12_62 rfl hG.1 (a_weight hG).1 ?_
          refine r_iload_n (pc := 27) hX 15 rfl rfl ?_
          refine e_lald (y := (v10 189 l)) (pc := 28) hX 16 rfl (a_weight hG).2.1 (a_weight hG).2.2 (by omega) (by omega) (rfl) ?_
          have hwl := wt_in hS (by omega) hq10 (l := l) (by omega) (by omega)
          refine r_lconst (pc := 29) hX 17 rfl ?_
          show wp g X F_m_whyCome 0 0 30 [(2, 178), (0, c), (0, l)] [(1, 0), (1, (v10 189 l))] v10 ρ Z
          refine r_lcmp (pc := 30) hX 18 rfl (⟨by omega, by omega⟩) (⟨by omega, by omega⟩) ?_
          refine r_if_le (pc := 31) hX 19 (tgt := 52) rfl (by decide) (cmpI_in _ _) (fun h31 => ?_) (fun h31 => ?_)
          · rw [← Int.not_lt, cmpI_gt] at h31
            refine r_iinc (ls' := [(2, 178), (0, c), (0, (l + 1))]) (pc := 52) hX 33 rfl rfl (by decide) rfl ?_
            refine r_goto (pc := 55) hX 34 (tgt := 15) rfl (by decide) ?_
            exact (ih15 (l + 1) (by omega) (by omega))
          · rw [← Int.not_lt, cmpI_gt] at h31
            refine t_getR (pc := 34) hX 20 rfl rfl rfl fl_X12_33 rfl hG.1 (a_s hG).1 ?_
            refine r_bipush (pc := 38) hX 22 rfl (by decide) ?_
            refine r_iconst (pc := 40) hX 23 rfl ?_
            refine r_iload_n (pc := 41) hX 24 rfl rfl ?_
            refine r_imul (pc := 42) hX 25 rfl ?_
            refine r_iadd (pc := 43) hX 26 rfl ?_
            refine r_iload_n (pc := 44) hX 27 rfl rfl ?_
            refine r_iadd (pc := 45) hX 28 rfl ?_
            refine e_iald (y := (v10 180 ((17 + (5 * l)) + c))) (pc := 46) hX 29 rfl (a_s hG).2.1 (a_s hG).2.2 (by omega) (by omega) (rfl) ?_
            have hb46 := hSInv_10.c17 l c (by omega) (by omega) (by omega) (by omega)
            first | refine r_if_le (pc := 47) hX 30 (tgt := 52) rfl (by decide) (⟨by omega, by omega⟩) (fun h47 => ?_) (fun h47 => ?_) | refine r_if_le_any (pc := 47) hX 30 (tgt := 52) rfl (by decide) ?_ ?_
            · refine r_iinc (ls' := [(2, 178), (0, c), (0, (l + 1))]) (pc := 52) hX 33 rfl rfl (by decide) rfl ?_
              refine r_goto (pc := 55) hX 34 (tgt := 15) rfl (by decide) ?_
              exact (ih15 (l + 1) (by omega) (by omega))
            · refine r_iconst (pc := 50) hX 31 rfl ?_
              exact r_iret (pc := 51) hX 32 hQ rfl rfl (Nat.le_refl 0) (Nat.le_refl 0) ⟨rfl, rfl, ((Fr.rf).tr hfr1 (by decide) (by decide)).tr hfr10 (by decide) (by decide), 0, rfl, (by omega), (fun _ => ⟨(hq1.2.1 (by omega)).1, (hq1.2.1 (by omega)).2, l, by omega, hl.2.2 l (by omega) (by omega), fun i a b => wt_inv hS (by omega) (by omega) (v 180 35).toNat (by omega) (by rw [← hq10 l (by omega) (by omega)]; omega) i a (by omega), by rw [es10] at *; omega⟩)⟩
    exact (L15 _ 0 (by omega) (Nat.lt_succ_self _))
  · refine r_iconst (pc := 7) hX 3 rfl ?_
    exact r_iret (pc := 8) hX 4 hQ rfl rfl (Nat.le_refl 0) (Nat.le_refl 0) ⟨rfl, rfl, (Fr.rf).tr hfr1 (by decide) (by decide), 1, rfl, (by omega), (fun h => by omega)⟩
set_option maxHeartbeats 4000000 in
set_option maxRecDepth 100000 in
theorem c_likely (g : Gp) (v ρ : Mv) (Z : Mz) (hG : GM ρ Z) (q what : Int) (hS : SInv (v 180)) (hq : inR q) (hwhat : inR what) : Ok g 5 0 0 F_m_likely [(2, 178), (0, q), (0, what)] v ρ Z (fun o v' ρ' Z' => ρ = ρ' ∧ Z = Z' ∧ Fr [185, 186, 189, 190, 191, 192, 193] [0, 31] v v' ∧ ∃ r : Int, o = some (1, r) ∧ True) := by
  refine Ok.of mo_m_likely (Nat.le_of_ble_eq_true rfl) ?_
  intro X hX hRm hxn hQ
  show wp g X F_m_likely 0 0 0 [(2, 178), (0, q), (0, what)] [] v ρ Z
  have hb2 := hS.c2
  refine r_aload_n (pc := 0) hX 0 rfl rfl ?_
  refine r_aload_n (pc := 1) hX 1 rfl rfl ?_
  refine r_iload_n (pc := 2) hX 2 rfl rfl ?_
  refine r_callV (as := [(0, q)]) (st := [(2, 178)]) (K := 12) (pc := 3) hX 3 rfl mo_m_isPlayer ml_X12_294 im_m_isPlayer se_m_isPlayer (c_isPlayer g v ρ Z hG (q) (hS) (by omega)) rfl rfl rfl hG.1 (by rw [hRm]; exact ⟨by decide, by decide⟩) (by rw [hRm]; exact ⟨by decide, by decide⟩) (Nat.le_of_ble_eq_true rfl) (fun o3 v3 ρ3 Z3 hq3 _ => ?_)
  obtain ⟨rfl, rfl, rfl, r3, rfl, hq3⟩ := hq3
  show wp g X F_m_likely 0 0 6 [(2, 178), (0, q), (0, what)] [(0, r3), (2, 178)] v ρ Z
  first | refine r_if_eq (pc := 6) hX 4 (tgt := 16) rfl (by decide) (⟨by omega, by omega⟩) (fun h6 => ?_) (fun h6 => ?_) | refine r_if_eq_any (pc := 6) hX 4 (tgt := 16) rfl (by decide) ?_ ?_
  · refine r_iconst (pc := 16) hX 8 rfl ?_
    refine r_goto (pc := 17) hX 9 (tgt := 21) rfl (by decide) ?_
    refine r_callV (as := [(0, 1)]) (st := []) (K := 12) (pc := 21) hX 11 rfl mo_m_throwsIf ml_X12_297 im_m_throwsIf se_m_throwsIf (c_throwsIf g v ρ Z hG (1) (by omega)) rfl rfl rfl hG.1 (by rw [hRm]; exact ⟨by decide, by decide⟩) (by rw [hRm]; exact ⟨by decide, by decide⟩) (Nat.le_of_ble_eq_true rfl) (fun o21 v21 ρ21 Z21 hq21 _ => ?_)
    obtain ⟨rfl, rfl, hfr21, r21, rfl, hq21⟩ := hq21
    have hSInv_21 : SInv (v21 180) := by rw [hfr21.1 180 (by decide) (by decide)]; exact hS
    obtain rfl : r21 = 1 := by omega
    show wp g X F_m_likely 0 0 24 [(2, 178), (0, q), (0, what)] [(0, 1)] v21 ρ Z
    first | refine r_if_eq (pc := 24) hX 12 (tgt := 29) rfl (by decide) (⟨by omega, by omega⟩) (fun h24 => ?_) (fun h24 => ?_) | refine r_if_eq_any (pc := 24) hX 12 (tgt := 29) rfl (by decide) ?_ ?_
    · exact absurd h24 (by decide)
    · refine r_lconst (pc := 27) hX 13 rfl ?_
      show wp g X F_m_likely 0 0 28 [(2, 178), (0, q), (0, what)] [(1, 0)] v21 ρ Z
      exact r_lret (pc := 28) hX 14 hQ rfl rfl (Nat.le_refl 0) (Nat.le_refl 0) ⟨rfl, rfl, (Fr.rf).tr hfr21 (by decide) (by decide), 0, rfl, trivial⟩
  · refine r_iload_n (pc := 9) hX 5 rfl rfl ?_
    refine r_callS (as := [(0, what)]) (st := [(2, 178)]) (pc := 10) hX 6 rfl mo_m_isPart ml_X12_381 stt_m_isPart (c_isPart g v ρ Z hG (what) (by omega)) rfl (by rw [hRm]; exact ⟨by decide, by decide⟩) (by rw [hRm]; exact ⟨by decide, by decide⟩) (Nat.le_of_ble_eq_true rfl) (fun o10 v10 ρ10 Z10 hq10 _ => ?_)
    obtain ⟨rfl, rfl, rfl, r10, rfl, hq10⟩ := hq10
    show wp g X F_m_likely 0 0 13 [(2, 178), (0, q), (0, what)] [(0, r10), (2, 178)] v ρ Z
    first | refine r_if_ne (pc := 13) hX 7 (tgt := 20) rfl (by decide) (⟨by omega, by omega⟩) (fun h13 => ?_) (fun h13 => ?_) | refine r_if_ne_any (pc := 13) hX 7 (tgt := 20) rfl (by decide) ?_ ?_
    · refine r_iconst (pc := 20) hX 10 rfl ?_
      refine r_callV (as := [(0, 0)]) (st := []) (K := 12) (pc := 21) hX 11 rfl mo_m_throwsIf ml_X12_297 im_m_throwsIf se_m_throwsIf (c_throwsIf g v ρ Z hG (0) (by omega)) rfl rfl rfl hG.1 (by rw [hRm]; exact ⟨by decide, by decide⟩) (by rw [hRm]; exact ⟨by decide, by decide⟩) (Nat.le_of_ble_eq_true rfl) (fun o21 v21 ρ21 Z21 hq21 _ => ?_)
      obtain ⟨rfl, rfl, hfr21, r21, rfl, hq21⟩ := hq21
      have hSInv_21 : SInv (v21 180) := by rw [hfr21.1 180 (by decide) (by decide)]; exact hS
      obtain rfl : r21 = 0 := by omega
      show wp g X F_m_likely 0 0 24 [(2, 178), (0, q), (0, what)] [(0, 0)] v21 ρ Z
      first | refine r_if_eq (pc := 24) hX 12 (tgt := 29) rfl (by decide) (⟨by omega, by omega⟩) (fun h24 => ?_) (fun h24 => ?_) | refine r_if_eq_any (pc := 24) hX 12 (tgt := 29) rfl (by decide) ?_ ?_
      · refine r_aload_n (pc := 29) hX 15 rfl rfl ?_
        refine r_callV (as := []) (st := []) (K := 12) (pc := 30) hX 16 rfl mo_m_goesNow ml_X12_384 im_m_goesNow se_m_goesNow (c_goesNow g v21 ρ Z hG  (hSInv_21)) rfl rfl rfl hG.1 (by rw [hRm]; exact ⟨by decide, by decide⟩) (by rw [hRm]; exact ⟨by decide, by decide⟩) (Nat.le_of_ble_eq_true rfl) (fun o30 v30 ρ30 Z30 hq30 _ => ?_)
        obtain ⟨rfl, rfl, hfr30, rfl, hq30⟩ := hq30
        have hSInv_30 : SInv (v30 180) := by rw [hfr30.1 180 (by decide) (by decide)]; exact hSInv_21
        show wp g X F_m_likely 0 0 33 [(2, 178), (0, q), (0, what)] [] v30 ρ Z
        refine t_getR (pc := 33) hX 17 rfl rfl rfl fl_X12_71 rfl hG.1 (a_wonBy hG).1 ?_
        refine r_iload_n (pc := 37) hX 19 rfl rfl ?_
        refine e_lald (y := (v30 192 q)) (pc := 38) hX 20 rfl (a_wonBy hG).2.1 (a_wonBy hG).2.2 (by omega) (by omega) (rfl) ?_
        refine r_lany _ (fun z38 hz38 => ?_)
        refine t_getL (y := (v30 178 31)) (pc := 39) hX 21 rfl rfl rfl fl_X12_357 rfl hG.1 (rfl) ?_
        refine r_iload_n (pc := 43) hX 23 rfl rfl ?_
        refine r_callS (as := [(1, z38), (1, (v30 178 31)), (0, what)]) (st := []) (pc := 44) hX 24 rfl mo_m_part ml_X12_387 stt_m_part (c_part g v30 ρ Z hG (z38) ((v30 178 31)) (what) (hz38) (by omega) (by omega)) rfl (by rw [hRm]; exact ⟨by decide, by decide⟩) (by rw [hRm]; exact ⟨by decide, by decide⟩) (Nat.le_of_ble_eq_true rfl) (fun o44 v44 ρ44 Z44 hq44 _ => ?_)
        obtain ⟨rfl, rfl, rfl, r44, rfl, hq44⟩ := hq44
        show wp g X F_m_likely 0 0 47 [(2, 178), (0, q), (0, what)] [(1, r44)] v30 ρ Z
        exact r_lret (pc := 47) hX 25 hQ rfl rfl (Nat.le_refl 0) (Nat.le_refl 0) ⟨rfl, rfl, ((Fr.rf).tr hfr21 (by decide) (by decide)).tr hfr30 (by decide) (by decide), r44, rfl, trivial⟩
      · exact absurd (by decide) h24
    · refine r_iconst (pc := 16) hX 8 rfl ?_
      refine r_goto (pc := 17) hX 9 (tgt := 21) rfl (by decide) ?_
      refine r_callV (as := [(0, 1)]) (st := []) (K := 12) (pc := 21) hX 11 rfl mo_m_throwsIf ml_X12_297 im_m_throwsIf se_m_throwsIf (c_throwsIf g v ρ Z hG (1) (by omega)) rfl rfl rfl hG.1 (by rw [hRm]; exact ⟨by decide, by decide⟩) (by rw [hRm]; exact ⟨by decide, by decide⟩) (Nat.le_of_ble_eq_true rfl) (fun o21 v21 ρ21 Z21 hq21 _ => ?_)
      obtain ⟨rfl, rfl, hfr21, r21, rfl, hq21⟩ := hq21
      have hSInv_21 : SInv (v21 180) := by rw [hfr21.1 180 (by decide) (by decide)]; exact hS
      obtain rfl : r21 = 1 := by omega
      show wp g X F_m_likely 0 0 24 [(2, 178), (0, q), (0, what)] [(0, 1)] v21 ρ Z
      first | refine r_if_eq (pc := 24) hX 12 (tgt := 29) rfl (by decide) (⟨by omega, by omega⟩) (fun h24 => ?_) (fun h24 => ?_) | refine r_if_eq_any (pc := 24) hX 12 (tgt := 29) rfl (by decide) ?_ ?_
      · exact absurd h24 (by decide)
      · refine r_lconst (pc := 27) hX 13 rfl ?_
        show wp g X F_m_likely 0 0 28 [(2, 178), (0, q), (0, what)] [(1, 0)] v21 ρ Z
        exact r_lret (pc := 28) hX 14 hQ rfl rfl (Nat.le_refl 0) (Nat.le_refl 0) ⟨rfl, rfl, (Fr.rf).tr hfr21 (by decide) (by decide), 0, rfl, trivial⟩
set_option maxHeartbeats 4000000 in
set_option maxRecDepth 100000 in
theorem c_nobody (g : Gp) (v ρ : Mv) (Z : Mz) (hG : GM ρ Z) (what : Int) (hS : SInv (v 180)) (hwhat : inR what) : Ok g 5 0 0 F_m_nobody [(2, 178), (0, what)] v ρ Z (fun o v' ρ' Z' => ρ = ρ' ∧ Z = Z' ∧ Fr [185, 186, 189, 190, 191, 192, 193] [0, 31] v v' ∧ ∃ r : Int, o = some (1, r) ∧ True) := by
  refine Ok.of mo_m_nobody (Nat.le_of_ble_eq_true rfl) ?_
  intro X hX hRm hxn hQ
  show wp g X F_m_nobody 0 0 0 [(2, 178), (0, what)] [] v ρ Z
  have hb2 := hS.c2
  refine r_aload_n (pc := 0) hX 0 rfl rfl ?_
  refine r_iload_n (pc := 1) hX 1 rfl rfl ?_
  refine r_callS (as := [(0, what)]) (st := [(2, 178)]) (pc := 2) hX 2 rfl mo_m_isPart ml_X12_381 stt_m_isPart (c_isPart g v ρ Z hG (what) (by omega)) rfl (by rw [hRm]; exact ⟨by decide, by decide⟩) (by rw [hRm]; exact ⟨by decide, by decide⟩) (Nat.le_of_ble_eq_true rfl) (fun o2 v2 ρ2 Z2 hq2 _ => ?_)
  obtain ⟨rfl, rfl, rfl, r2, rfl, hq2⟩ := hq2
  show wp g X F_m_nobody 0 0 5 [(2, 178), (0, what)] [(0, r2), (2, 178)] v ρ Z
  first | refine r_if_ne (pc := 5) hX 3 (tgt := 12) rfl (by decide) (⟨by omega, by omega⟩) (fun h5 => ?_) (fun h5 => ?_) | refine r_if_ne_any (pc := 5) hX 3 (tgt := 12) rfl (by decide) ?_ ?_
  · refine r_iconst (pc := 12) hX 6 rfl ?_
    refine r_callV (as := [(0, 0)]) (st := []) (K := 12) (pc := 13) hX 7 rfl mo_m_throwsIf ml_X12_297 im_m_throwsIf se_m_throwsIf (c_throwsIf g v ρ Z hG (0) (by omega)) rfl rfl rfl hG.1 (by rw [hRm]; exact ⟨by decide, by decide⟩) (by rw [hRm]; exact ⟨by decide, by decide⟩) (Nat.le_of_ble_eq_true rfl) (fun o13 v13 ρ13 Z13 hq13 _ => ?_)
    obtain ⟨rfl, rfl, hfr13, r13, rfl, hq13⟩ := hq13
    have hSInv_13 : SInv (v13 180) := by rw [hfr13.1 180 (by decide) (by decide)]; exact hS
    obtain rfl : r13 = 0 := by omega
    show wp g X F_m_nobody 0 0 16 [(2, 178), (0, what)] [(0, 0)] v13 ρ Z
    first | refine r_if_eq (pc := 16) hX 8 (tgt := 21) rfl (by decide) (⟨by omega, by omega⟩) (fun h16 => ?_) (fun h16 => ?_) | refine r_if_eq_any (pc := 16) hX 8 (tgt := 21) rfl (by decide) ?_ ?_
    · refine r_aload_n (pc := 21) hX 11 rfl rfl ?_
      refine r_callV (as := []) (st := []) (K := 12) (pc := 22) hX 12 rfl mo_m_goesNow ml_X12_384 im_m_goesNow se_m_goesNow (c_goesNow g v13 ρ Z hG  (hSInv_13)) rfl rfl rfl hG.1 (by rw [hRm]; exact ⟨by decide, by decide⟩) (by rw [hRm]; exact ⟨by decide, by decide⟩) (Nat.le_of_ble_eq_true rfl) (fun o22 v22 ρ22 Z22 hq22 _ => ?_)
      obtain ⟨rfl, rfl, hfr22, rfl, hq22⟩ := hq22
      have hSInv_22 : SInv (v22 180) := by rw [hfr22.1 180 (by decide) (by decide)]; exact hSInv_13
      show wp g X F_m_nobody 0 0 25 [(2, 178), (0, what)] [] v22 ρ Z
      refine t_getR (pc := 25) hX 13 rfl rfl rfl fl_X12_71 rfl hG.1 (a_wonBy hG).1 ?_
      refine r_iconst (pc := 29) hX 15 rfl ?_
      refine e_lald (y := (v22 192 3)) (pc := 30) hX 16 rfl (a_wonBy hG).2.1 (a_wonBy hG).2.2 (by omega) (by omega) (rfl) ?_
      refine r_lany _ (fun z30 hz30 => ?_)
      refine t_getL (y := (v22 178 31)) (pc := 31) hX 17 rfl rfl rfl fl_X12_357 rfl hG.1 (rfl) ?_
      refine r_iload_n (pc := 35) hX 19 rfl rfl ?_
      refine r_callS (as := [(1, z30), (1, (v22 178 31)), (0, what)]) (st := []) (pc := 36) hX 20 rfl mo_m_part ml_X12_387 stt_m_part (c_part g v22 ρ Z hG (z30) ((v22 178 31)) (what) (hz30) (by omega) (by omega)) rfl (by rw [hRm]; exact ⟨by decide, by decide⟩) (by rw [hRm]; exact ⟨by decide, by decide⟩) (Nat.le_of_ble_eq_true rfl) (fun o36 v36 ρ36 Z36 hq36 _ => ?_)
      obtain ⟨rfl, rfl, rfl, r36, rfl, hq36⟩ := hq36
      show wp g X F_m_nobody 0 0 39 [(2, 178), (0, what)] [(1, r36)] v22 ρ Z
      exact r_lret (pc := 39) hX 21 hQ rfl rfl (Nat.le_refl 0) (Nat.le_refl 0) ⟨rfl, rfl, ((Fr.rf).tr hfr13 (by decide) (by decide)).tr hfr22 (by decide) (by decide), r36, rfl, trivial⟩
    · exact absurd (by decide) h16
  · refine r_iconst (pc := 8) hX 4 rfl ?_
    refine r_goto (pc := 9) hX 5 (tgt := 13) rfl (by decide) ?_
    refine r_callV (as := [(0, 1)]) (st := []) (K := 12) (pc := 13) hX 7 rfl mo_m_throwsIf ml_X12_297 im_m_throwsIf se_m_throwsIf (c_throwsIf g v ρ Z hG (1) (by omega)) rfl rfl rfl hG.1 (by rw [hRm]; exact ⟨by decide, by decide⟩) (by rw [hRm]; exact ⟨by decide, by decide⟩) (Nat.le_of_ble_eq_true rfl) (fun o13 v13 ρ13 Z13 hq13 _ => ?_)
    obtain ⟨rfl, rfl, hfr13, r13, rfl, hq13⟩ := hq13
    have hSInv_13 : SInv (v13 180) := by rw [hfr13.1 180 (by decide) (by decide)]; exact hS
    obtain rfl : r13 = 1 := by omega
    show wp g X F_m_nobody 0 0 16 [(2, 178), (0, what)] [(0, 1)] v13 ρ Z
    first | refine r_if_eq (pc := 16) hX 8 (tgt := 21) rfl (by decide) (⟨by omega, by omega⟩) (fun h16 => ?_) (fun h16 => ?_) | refine r_if_eq_any (pc := 16) hX 8 (tgt := 21) rfl (by decide) ?_ ?_
    · exact absurd h16 (by decide)
    · refine r_lconst (pc := 19) hX 9 rfl ?_
      show wp g X F_m_nobody 0 0 20 [(2, 178), (0, what)] [(1, 0)] v13 ρ Z
      exact r_lret (pc := 20) hX 10 hQ rfl rfl (Nat.le_refl 0) (Nat.le_refl 0) ⟨rfl, rfl, (Fr.rf).tr hfr13 (by decide) (by decide), 0, rfl, trivial⟩
set_option maxHeartbeats 4000000 in
set_option maxRecDepth 100000 in
theorem c_where (g : Gp) (v ρ : Mv) (Z : Mz) (hG : GM ρ Z) (l what : Int) (hS : SInv (v 180)) (hl : inR l) (hw : inR what) : Ok g 3 0 0 F_m_where [(2, 178), (0, l), (0, what)] v ρ Z (fun o v' ρ' Z' => ρ = ρ' ∧ Z = Z' ∧ Fr [189] [0] v v' ∧ ∃ r : Int, o = some (1, r) ∧ True) := by
  refine Ok.of mo_m_where (Nat.le_of_ble_eq_true rfl) ?_
  intro X hX hRm hxn hQ
  show wp g X F_m_where 0 0 0 [(2, 178), (0, l), (0, what)] [] v ρ Z
  have hb1 := hS.c1
  refine r_aload_n (pc := 0) hX 0 rfl rfl ?_
  refine r_aload_n (pc := 1) hX 1 rfl rfl ?_
  refine r_iload_n (pc := 2) hX 2 rfl rfl ?_
  refine r_callV (as := [(0, l)]) (st := [(2, 178)]) (K := 12) (pc := 3) hX 3 rfl mo_m_isLand ml_X12_291 im_m_isLand se_m_isLand (c_isLand g v ρ Z hG (l) (hS) (by omega)) rfl rfl rfl hG.1 (by rw [hRm]; exact ⟨by decide, by decide⟩) (by rw [hRm]; exact ⟨by decide, by decide⟩) (Nat.le_of_ble_eq_true rfl) (fun o3 v3 ρ3 Z3 hq3 _ => ?_)
  obtain ⟨rfl, rfl, rfl, r3, rfl, hq3⟩ := hq3
  show wp g X F_m_where 0 0 6 [(2, 178), (0, l), (0, what)] [(0, r3), (2, 178)] v ρ Z
  first | refine r_if_eq (pc := 6) hX 4 (tgt := 16) rfl (by decide) (⟨by omega, by omega⟩) (fun h6 => ?_) (fun h6 => ?_) | refine r_if_eq_any (pc := 6) hX 4 (tgt := 16) rfl (by decide) ?_ ?_
  · refine r_iconst (pc := 16) hX 8 rfl ?_
    refine r_goto (pc := 17) hX 9 (tgt := 21) rfl (by decide) ?_
    refine r_callV (as := [(0, 1)]) (st := []) (K := 12) (pc := 21) hX 11 rfl mo_m_throwsIf ml_X12_297 im_m_throwsIf se_m_throwsIf (c_throwsIf g v ρ Z hG (1) (by omega)) rfl rfl rfl hG.1 (by rw [hRm]; exact ⟨by decide, by decide⟩) (by rw [hRm]; exact ⟨by decide, by decide⟩) (Nat.le_of_ble_eq_true rfl) (fun o21 v21 ρ21 Z21 hq21 _ => ?_)
    obtain ⟨rfl, rfl, hfr21, r21, rfl, hq21⟩ := hq21
    have hSInv_21 : SInv (v21 180) := by rw [hfr21.1 180 (by decide) (by decide)]; exact hS
    obtain rfl : r21 = 1 := by omega
    show wp g X F_m_where 0 0 24 [(2, 178), (0, l), (0, what)] [(0, 1)] v21 ρ Z
    first | refine r_if_eq (pc := 24) hX 12 (tgt := 29) rfl (by decide) (⟨by omega, by omega⟩) (fun h24 => ?_) (fun h24 => ?_) | refine r_if_eq_any (pc := 24) hX 12 (tgt := 29) rfl (by decide) ?_ ?_
    · exact absurd h24 (by decide)
    · refine r_lconst (pc := 27) hX 13 rfl ?_
      show wp g X F_m_where 0 0 28 [(2, 178), (0, l), (0, what)] [(1, 0)] v21 ρ Z
      exact r_lret (pc := 28) hX 14 hQ rfl rfl (Nat.le_refl 0) (Nat.le_refl 0) ⟨rfl, rfl, (Fr.rf).tr hfr21 (by decide) (by decide), 0, rfl, trivial⟩
  · refine r_iload_n (pc := 9) hX 5 rfl rfl ?_
    refine r_callS (as := [(0, what)]) (st := [(2, 178)]) (pc := 10) hX 6 rfl mo_m_isPart ml_X12_381 stt_m_isPart (c_isPart g v ρ Z hG (what) (by omega)) rfl (by rw [hRm]; exact ⟨by decide, by decide⟩) (by rw [hRm]; exact ⟨by decide, by decide⟩) (Nat.le_of_ble_eq_true rfl) (fun o10 v10 ρ10 Z10 hq10 _ => ?_)
    obtain ⟨rfl, rfl, rfl, r10, rfl, hq10⟩ := hq10
    show wp g X F_m_where 0 0 13 [(2, 178), (0, l), (0, what)] [(0, r10), (2, 178)] v ρ Z
    first | refine r_if_ne (pc := 13) hX 7 (tgt := 20) rfl (by decide) (⟨by omega, by omega⟩) (fun h13 => ?_) (fun h13 => ?_) | refine r_if_ne_any (pc := 13) hX 7 (tgt := 20) rfl (by decide) ?_ ?_
    · refine r_iconst (pc := 20) hX 10 rfl ?_
      refine r_callV (as := [(0, 0)]) (st := []) (K := 12) (pc := 21) hX 11 rfl mo_m_throwsIf ml_X12_297 im_m_throwsIf se_m_throwsIf (c_throwsIf g v ρ Z hG (0) (by omega)) rfl rfl rfl hG.1 (by rw [hRm]; exact ⟨by decide, by decide⟩) (by rw [hRm]; exact ⟨by decide, by decide⟩) (Nat.le_of_ble_eq_true rfl) (fun o21 v21 ρ21 Z21 hq21 _ => ?_)
      obtain ⟨rfl, rfl, hfr21, r21, rfl, hq21⟩ := hq21
      have hSInv_21 : SInv (v21 180) := by rw [hfr21.1 180 (by decide) (by decide)]; exact hS
      obtain rfl : r21 = 0 := by omega
      show wp g X F_m_where 0 0 24 [(2, 178), (0, l), (0, what)] [(0, 0)] v21 ρ Z
      first | refine r_if_eq (pc := 24) hX 12 (tgt := 29) rfl (by decide) (⟨by omega, by omega⟩) (fun h24 => ?_) (fun h24 => ?_) | refine r_if_eq_any (pc := 24) hX 12 (tgt := 29) rfl (by decide) ?_ ?_
      · refine r_aload_n (pc := 29) hX 15 rfl rfl ?_
        refine r_callV (as := []) (st := []) (K := 12) (pc := 30) hX 16 rfl mo_m_weighs ml_X12_319 im_m_weighs se_m_weighs (c_weighs g v21 ρ Z hG  (hSInv_21)) rfl rfl rfl hG.1 (by rw [hRm]; exact ⟨by decide, by decide⟩) (by rw [hRm]; exact ⟨by decide, by decide⟩) (Nat.le_of_ble_eq_true rfl) (fun o30 v30 ρ30 Z30 hq30 _ => ?_)
        obtain ⟨rfl, rfl, hfr30, rfl, hq30⟩ := hq30
        have hSInv_30 : SInv (v30 180) := by rw [hfr30.1 180 (by decide) (by decide)]; exact hSInv_21
        show wp g X F_m_where 0 0 33 [(2, 178), (0, l), (0, what)] [] v30 ρ Z
        refine t_getR (pc := 33) hX 17 rfl rfl rfl fl_X12_62 rfl hG.1 (a_weight hG).1 ?_
        refine r_iload_n (pc := 37) hX 19 rfl rfl ?_
        refine e_lald (y := (v30 189 l)) (pc := 38) hX 20 rfl (a_weight hG).2.1 (a_weight hG).2.2 (by omega) (by omega) (rfl) ?_
        refine r_lany _ (fun z38 hz38 => ?_)
        refine r_aload_n (pc := 39) hX 21 rfl rfl ?_
        refine r_callV (as := []) (st := [(1, z38)]) (K := 12) (pc := 40) hX 22 rfl mo_m_weights ml_X12_349 im_m_weights se_m_weights (c_weights g v30 ρ Z hG  (hSInv_30)) rfl rfl rfl hG.1 (by rw [hRm]; exact ⟨by decide, by decide⟩) (by rw [hRm]; exact ⟨by decide, by decide⟩) (Nat.le_of_ble_eq_true rfl) (fun o40 v40 ρ40 Z40 hq40 _ => ?_)
        obtain ⟨rfl, rfl, rfl, r40, rfl, hq40⟩ := hq40
        show wp g X F_m_where 0 0 43 [(2, 178), (0, l), (0, what)] [(1, r40), (1, z38)] v30 ρ Z
        rw [hfr30.1 180 (by decide) (by decide)] at hq40
        have hs40 := hq30.rng hSInv_21 (by have := hSInv_21.c35; omega)
        refine r_iload_n (pc := 43) hX 23 rfl rfl ?_
        refine r_callS (as := [(1, z38), (1, r40), (0, what)]) (st := []) (pc := 44) hX 24 rfl mo_m_part ml_X12_387 stt_m_part (c_part g v30 ρ Z hG (z38) (r40) (what) (hz38) (by omega) (by omega)) rfl (by rw [hRm]; exact ⟨by decide, by decide⟩) (by rw [hRm]; exact ⟨by decide, by decide⟩) (Nat.le_of_ble_eq_true rfl) (fun o44 v44 ρ44 Z44 hq44 _ => ?_)
        obtain ⟨rfl, rfl, rfl, r44, rfl, hq44⟩ := hq44
        show wp g X F_m_where 0 0 47 [(2, 178), (0, l), (0, what)] [(1, r44)] v30 ρ Z
        exact r_lret (pc := 47) hX 25 hQ rfl rfl (Nat.le_refl 0) (Nat.le_refl 0) ⟨rfl, rfl, ((Fr.rf).tr hfr21 (by decide) (by decide)).tr hfr30 (by decide) (by decide), r44, rfl, trivial⟩
      · exact absurd (by decide) h24
    · refine r_iconst (pc := 16) hX 8 rfl ?_
      refine r_goto (pc := 17) hX 9 (tgt := 21) rfl (by decide) ?_
      refine r_callV (as := [(0, 1)]) (st := []) (K := 12) (pc := 21) hX 11 rfl mo_m_throwsIf ml_X12_297 im_m_throwsIf se_m_throwsIf (c_throwsIf g v ρ Z hG (1) (by omega)) rfl rfl rfl hG.1 (by rw [hRm]; exact ⟨by decide, by decide⟩) (by rw [hRm]; exact ⟨by decide, by decide⟩) (Nat.le_of_ble_eq_true rfl) (fun o21 v21 ρ21 Z21 hq21 _ => ?_)
      obtain ⟨rfl, rfl, hfr21, r21, rfl, hq21⟩ := hq21
      have hSInv_21 : SInv (v21 180) := by rw [hfr21.1 180 (by decide) (by decide)]; exact hS
      obtain rfl : r21 = 1 := by omega
      show wp g X F_m_where 0 0 24 [(2, 178), (0, l), (0, what)] [(0, 1)] v21 ρ Z
      first | refine r_if_eq (pc := 24) hX 12 (tgt := 29) rfl (by decide) (⟨by omega, by omega⟩) (fun h24 => ?_) (fun h24 => ?_) | refine r_if_eq_any (pc := 24) hX 12 (tgt := 29) rfl (by decide) ?_ ?_
      · exact absurd h24 (by decide)
      · refine r_lconst (pc := 27) hX 13 rfl ?_
        show wp g X F_m_where 0 0 28 [(2, 178), (0, l), (0, what)] [(1, 0)] v21 ρ Z
        exact r_lret (pc := 28) hX 14 hQ rfl rfl (Nat.le_refl 0) (Nat.le_refl 0) ⟨rfl, rfl, (Fr.rf).tr hfr21 (by decide) (by decide), 0, rfl, trivial⟩
set_option maxHeartbeats 4000000 in
set_option maxRecDepth 100000 in
theorem c_next (g : Gp) (v ρ : Mv) (Z : Mz) (hG : GM ρ Z) (c what : Int) (hS : SInv (v 180)) (hl : inR c) (hw : inR what) : Ok g 3 0 0 F_m_next [(2, 178), (0, c), (0, what)] v ρ Z (fun o v' ρ' Z' => ρ = ρ' ∧ Z = Z' ∧ Fr [189] [0] v v' ∧ ∃ r : Int, o = some (1, r) ∧ True) := by
  refine Ok.of mo_m_next (Nat.le_of_ble_eq_true rfl) ?_
  intro X hX hRm hxn hQ
  show wp g X F_m_next 0 0 0 [(2, 178), (0, c), (0, what), (3, 0), (3, 0), (3, 0)] [] v ρ Z
  have hb0 := hS.c0
  have hl3 := hS.lds
  refine r_aload_n (pc := 0) hX 0 rfl rfl ?_
  refine r_iload_n (pc := 1) hX 1 rfl rfl ?_
  refine r_iconst (pc := 2) hX 2 rfl ?_
  first | refine r_icmp_eq (pc := 3) hX 3 (tgt := 14) rfl (by decide) (⟨by omega, by omega⟩) (⟨by omega, by omega⟩) (fun h3 => ?_) (fun h3 => ?_) | refine r_icmp_eq_any (pc := 3) hX 3 (tgt := 14) rfl (by decide) ?_ ?_
  · refine r_iload_n (pc := 14) hX 8 rfl rfl ?_
    refine r_callS (as := [(0, what)]) (st := [(2, 178)]) (pc := 15) hX 9 rfl mo_m_isPart ml_X12_381 stt_m_isPart (c_isPart g v ρ Z hG (what) (by omega)) rfl (by rw [hRm]; exact ⟨by decide, by decide⟩) (by rw [hRm]; exact ⟨by decide, by decide⟩) (Nat.le_of_ble_eq_true rfl) (fun o15 v15 ρ15 Z15 hq15 _ => ?_)
    obtain ⟨rfl, rfl, rfl, r15, rfl, hq15⟩ := hq15
    show wp g X F_m_next 0 0 18 [(2, 178), (0, c), (0, what), (3, 0), (3, 0), (3, 0)] [(0, r15), (2, 178)] v ρ Z
    first | refine r_if_ne (pc := 18) hX 10 (tgt := 25) rfl (by decide) (⟨by omega, by omega⟩) (fun h18 => ?_) (fun h18 => ?_) | refine r_if_ne_any (pc := 18) hX 10 (tgt := 25) rfl (by decide) ?_ ?_
    · refine r_iconst (pc := 25) hX 13 rfl ?_
      refine r_callV (as := [(0, 0)]) (st := []) (K := 12) (pc := 26) hX 14 rfl mo_m_throwsIf ml_X12_297 im_m_throwsIf se_m_throwsIf (c_throwsIf g v ρ Z hG (0) (by omega)) rfl rfl rfl hG.1 (by rw [hRm]; exact ⟨by decide, by decide⟩) (by rw [hRm]; exact ⟨by decide, by decide⟩) (Nat.le_of_ble_eq_true rfl) (fun o26 v26 ρ26 Z26 hq26 _ => ?_)
      obtain ⟨rfl, rfl, hfr26, r26, rfl, hq26⟩ := hq26
      have hSInv_26 : SInv (v26 180) := by rw [hfr26.1 180 (by decide) (by decide)]; exact hS
      obtain rfl : r26 = 0 := by omega
      show wp g X F_m_next 0 0 29 [(2, 178), (0, c), (0, what), (3, 0), (3, 0), (3, 0)] [(0, 0)] v26 ρ Z
      first | refine r_if_eq (pc := 29) hX 15 (tgt := 34) rfl (by decide) (⟨by omega, by omega⟩) (fun h29 => ?_) (fun h29 => ?_) | refine r_if_eq_any (pc := 29) hX 15 (tgt := 34) rfl (by decide) ?_ ?_
      · refine r_aload_n (pc := 34) hX 18 rfl rfl ?_
        refine r_callV (as := []) (st := []) (K := 12) (pc := 35) hX 19 rfl mo_m_weighs ml_X12_319 im_m_weighs se_m_weighs (c_weighs g v26 ρ Z hG  (hSInv_26)) rfl rfl rfl hG.1 (by rw [hRm]; exact ⟨by decide, by decide⟩) (by rw [hRm]; exact ⟨by decide, by decide⟩) (Nat.le_of_ble_eq_true rfl) (fun o35 v35 ρ35 Z35 hq35 _ => ?_)
        obtain ⟨rfl, rfl, hfr35, rfl, hq35⟩ := hq35
        have hSInv_35 : SInv (v35 180) := by rw [hfr35.1 180 (by decide) (by decide)]; exact hSInv_26
        show wp g X F_m_next 0 0 38 [(2, 178), (0, c), (0, what), (3, 0), (3, 0), (3, 0)] [] v35 ρ Z
        refine r_lconst (pc := 38) hX 20 rfl ?_
        show wp g X F_m_next 0 0 39 [(2, 178), (0, c), (0, what), (3, 0), (3, 0), (3, 0)] [(1, 0)] v35 ρ Z
        refine r_lstore_n (ls' := [(2, 178), (0, c), (0, what), (1, 0), (3, 0), (3, 0)]) (pc := 39) hX 21 rfl (by decide) rfl ?_
        refine r_iconst (pc := 40) hX 22 rfl ?_
        refine r_istore (ls' := [(2, 178), (0, c), (0, what), (1, 0), (3, 0), (0, 0)]) (pc := 41) hX 23 rfl (by decide) rfl ?_
        have L43 : ∀ (n43 : Nat) (sm l : Int) , (0 ≤ l ∧ l ≤ 3) → (3 - l).toNat < n43 → wp g X F_m_next 0 0 43 [(2, 178), (0, c), (0, what), (1, sm), (3, 0), (0, l)] [] v35 ρ Z := by
          intro n43
          induction n43 with
          | zero => intro sm l il hme43; exact absurd hme43 (Nat.not_lt_zero _)
          | succ n43 ih43 =>
            intro sm l il hme43
            refine r_iload (pc := 43) hX 24 rfl rfl ?_
            refine r_aload_n (pc := 45) hX 25 rfl rfl ?_
            refine r_callV (as := []) (st := [(0, l)]) (K := 12) (pc := 46) hX 26 rfl mo_m_lands ml_X12_322 im_m_lands se_m_lands (c_lands g v35 ρ Z hG  (hSInv_35)) rfl rfl rfl hG.1 (by rw [hRm]; exact ⟨by decide, by decide⟩) (by rw [hRm]; exact ⟨by decide, by decide⟩) (Nat.le_of_ble_eq_true rfl) (fun o46 v46 ρ46 Z46 hq46 _ => ?_)
            obtain ⟨rfl, rfl, rfl, r46, rfl, hq46⟩ := hq46
            show wp g X F_m_next 0 0 49 [(2, 178), (0, c), (0, what), (1, sm), (3, 0), (0, l)] [(0, r46), (0, l)] v35 ρ Z
            first | refine r_icmp_ge (pc := 49) hX 27 (tgt := 93) rfl (by decide) (⟨by omega, by omega⟩) (⟨by omega, by omega⟩) (fun h49 => ?_) (fun h49 => ?_) | refine r_icmp_ge_any (pc := 49) hX 27 (tgt := 93) rfl (by decide) ?_ ?_
            · refine r_lload_n (pc := 93) hX 54 rfl rfl ?_
              refine r_lany _ (fun z93 hz93 => ?_)
              refine r_ldc2 (y := 12) (pc := 94) hX 55 rfl kl_X12_347 (by decide) ?_
              refine r_aload_n (pc := 97) hX 56 rfl rfl ?_
              refine r_callV (as := []) (st := [(1, 12), (1, z93)]) (K := 12) (pc := 98) hX 57 rfl mo_m_weights ml_X12_349 im_m_weights se_m_weights (c_weights g v35 ρ Z hG  (hSInv_35)) rfl rfl rfl hG.1 (by rw [hRm]; exact ⟨by decide, by decide⟩) (by rw [hRm]; exact ⟨by decide, by decide⟩) (Nat.le_of_ble_eq_true rfl) (fun o98 v98 ρ98 Z98 hq98 _ => ?_)
              obtain ⟨rfl, rfl, rfl, r98, rfl, hq98⟩ := hq98
              show wp g X F_m_next 0 0 101 [(2, 178), (0, c), (0, what), (1, sm), (3, 0), (0, l)] [(1, r98), (1, 12), (1, z93)] v35 ρ Z
              rw [hfr35.1 180 (by decide) (by decide)] at hq98
              have hs98 := hq35.rng hSInv_26 (by have := hSInv_26.c35; omega)
              refine r_lmul (pc := 101) hX 58 rfl ?_
              refine r_iload_n (pc := 102) hX 59 rfl rfl ?_
              refine r_callS (as := [(1, z93), (1, (12 * r98)), (0, what)]) (st := []) (pc := 103) hX 60 rfl mo_m_part ml_X12_387 stt_m_part (c_part g v35 ρ Z hG (z93) ((12 * r98)) (what) (hz93) (by omega) (by omega)) rfl (by rw [hRm]; exact ⟨by decide, by decide⟩) (by rw [hRm]; exact ⟨by decide, by decide⟩) (Nat.le_of_ble_eq_true rfl) (fun o103 v103 ρ103 Z103 hq103 _ => ?_)
              obtain ⟨rfl, rfl, rfl, r103, rfl, hq103⟩ := hq103
              show wp g X F_m_next 0 0 106 [(2, 178), (0, c), (0, what), (1, sm), (3, 0), (0, l)] [(1, r103)] v35 ρ Z
              exact r_lret (pc := 106) hX 61 hQ rfl rfl (Nat.le_refl 0) (Nat.le_refl 0) ⟨rfl, rfl, ((Fr.rf).tr hfr26 (by decide) (by decide)).tr hfr35 (by decide) (by decide), r103, rfl, trivial⟩
            · refine r_lload_n (pc := 52) hX 28 rfl rfl ?_
              refine t_getR (pc := 53) hX 29 rfl rfl rfl fl_X12_62 rfl hG.1 (a_weight hG).1 ?_
              refine r_iload (pc := 57) hX 31 rfl rfl ?_
              refine e_lald (y := (v35 189 l)) (pc := 59) hX 32 rfl (a_weight hG).2.1 (a_weight hG).2.2 (by omega) (by omega) (rfl) ?_
              refine t_getR (pc := 60) hX 33 rfl rfl rfl fl_X12_33 rfl hG.1 (a_s hG).1 ?_
              refine r_bipush (pc := 64) hX 35 rfl (by decide) ?_
              refine r_iconst (pc := 66) hX 36 rfl ?_
              refine r_iload (pc := 67) hX 37 rfl rfl ?_
              refine r_imul (pc := 69) hX 38 rfl ?_
              refine r_iadd (pc := 70) hX 39 rfl ?_
              refine r_iload_n (pc := 71) hX 40 rfl rfl ?_
              refine r_iconst (pc := 72) hX 41 rfl ?_
              first | refine r_icmp_ne (pc := 73) hX 42 (tgt := 80) rfl (by decide) (⟨by omega, by omega⟩) (⟨by omega, by omega⟩) (fun h73 => ?_) (fun h73 => ?_) | refine r_icmp_ne_any (pc := 73) hX 42 (tgt := 80) rfl (by decide) ?_ ?_
              · refine r_iload_n (pc := 80) hX 45 rfl rfl ?_
                refine r_iadd (pc := 81) hX 46 rfl ?_
                refine e_iald (y := (v35 180 ((17 + (5 * l)) + c))) (pc := 82) hX 47 rfl (a_s hG).2.1 (a_s hG).2.2 (by omega) (by omega) (rfl) ?_
                have hb82 := hSInv_35.c17 l c (by omega) (by omega) (by omega) (by omega)
                refine r_i2l (pc := 83) hX 48 rfl ⟨by omega, by omega⟩ ?_
                refine r_lmul (pc := 84) hX 49 rfl ?_
                refine r_ladd (pc := 85) hX 50 rfl ?_
                refine r_lstore_n (ls' := [(2, 178), (0, c), (0, what), (1, (sm + ((v35 189 l) * (v35 180 ((17 + (5 * l)) + c))))), (3, 0), (0, l)]) (pc := 86) hX 51 rfl (by decide) rfl ?_
                refine r_iinc (ls' := [(2, 178), (0, c), (0, what), (1, (sm + ((v35 189 l) * (v35 180 ((17 + (5 * l)) + c))))), (3, 0), (0, (l + 1))]) (pc := 87) hX 52 rfl rfl (by decide) rfl ?_
                refine r_goto (pc := 90) hX 53 (tgt := 43) rfl (by decide) ?_
                exact (ih43 (sm + ((v35 189 l) * (v35 180 ((17 + (5 * l)) + c)))) (l + 1) (by omega) (by omega))
              · refine r_iconst (pc := 76) hX 43 rfl ?_
                refine r_goto (pc := 77) hX 44 (tgt := 81) rfl (by decide) ?_
                refine r_iadd (pc := 81) hX 46 rfl ?_
                refine e_iald (y := (v35 180 ((17 + (5 * l)) + 4))) (pc := 82) hX 47 rfl (a_s hG).2.1 (a_s hG).2.2 (by omega) (by omega) (rfl) ?_
                have hb82 := hSInv_35.c17 l 4 (by omega) (by omega) (by omega) (by omega)
                refine r_i2l (pc := 83) hX 48 rfl ⟨by omega, by omega⟩ ?_
                refine r_lmul (pc := 84) hX 49 rfl ?_
                refine r_ladd (pc := 85) hX 50 rfl ?_
                refine r_lstore_n (ls' := [(2, 178), (0, c), (0, what), (1, (sm + ((v35 189 l) * (v35 180 ((17 + (5 * l)) + 4))))), (3, 0), (0, l)]) (pc := 86) hX 51 rfl (by decide) rfl ?_
                refine r_iinc (ls' := [(2, 178), (0, c), (0, what), (1, (sm + ((v35 189 l) * (v35 180 ((17 + (5 * l)) + 4))))), (3, 0), (0, (l + 1))]) (pc := 87) hX 52 rfl rfl (by decide) rfl ?_
                refine r_goto (pc := 90) hX 53 (tgt := 43) rfl (by decide) ?_
                exact (ih43 (sm + ((v35 189 l) * (v35 180 ((17 + (5 * l)) + 4)))) (l + 1) (by omega) (by omega))
        exact (L43 _ 0 0 (by omega) (Nat.lt_succ_self _))
      · exact absurd (by decide) h29
    · refine r_iconst (pc := 21) hX 11 rfl ?_
      refine r_goto (pc := 22) hX 12 (tgt := 26) rfl (by decide) ?_
      refine r_callV (as := [(0, 1)]) (st := []) (K := 12) (pc := 26) hX 14 rfl mo_m_throwsIf ml_X12_297 im_m_throwsIf se_m_throwsIf (c_throwsIf g v ρ Z hG (1) (by omega)) rfl rfl rfl hG.1 (by rw [hRm]; exact ⟨by decide, by decide⟩) (by rw [hRm]; exact ⟨by decide, by decide⟩) (Nat.le_of_ble_eq_true rfl) (fun o26 v26 ρ26 Z26 hq26 _ => ?_)
      obtain ⟨rfl, rfl, hfr26, r26, rfl, hq26⟩ := hq26
      have hSInv_26 : SInv (v26 180) := by rw [hfr26.1 180 (by decide) (by decide)]; exact hS
      obtain rfl : r26 = 1 := by omega
      show wp g X F_m_next 0 0 29 [(2, 178), (0, c), (0, what), (3, 0), (3, 0), (3, 0)] [(0, 1)] v26 ρ Z
      first | refine r_if_eq (pc := 29) hX 15 (tgt := 34) rfl (by decide) (⟨by omega, by omega⟩) (fun h29 => ?_) (fun h29 => ?_) | refine r_if_eq_any (pc := 29) hX 15 (tgt := 34) rfl (by decide) ?_ ?_
      · exact absurd h29 (by decide)
      · refine r_lconst (pc := 32) hX 16 rfl ?_
        show wp g X F_m_next 0 0 33 [(2, 178), (0, c), (0, what), (3, 0), (3, 0), (3, 0)] [(1, 0)] v26 ρ Z
        exact r_lret (pc := 33) hX 17 hQ rfl rfl (Nat.le_refl 0) (Nat.le_refl 0) ⟨rfl, rfl, (Fr.rf).tr hfr26 (by decide) (by decide), 0, rfl, trivial⟩
  · refine r_aload_n (pc := 6) hX 4 rfl rfl ?_
    refine r_iload_n (pc := 7) hX 5 rfl rfl ?_
    refine r_callV (as := [(0, c)]) (st := [(2, 178)]) (K := 12) (pc := 8) hX 6 rfl mo_m_isColour ml_X12_281 im_m_isColour se_m_isColour (c_isColour g v ρ Z hG (c) (hS) (by omega)) rfl rfl rfl hG.1 (by rw [hRm]; exact ⟨by decide, by decide⟩) (by rw [hRm]; exact ⟨by decide, by decide⟩) (Nat.le_of_ble_eq_true rfl) (fun o8 v8 ρ8 Z8 hq8 _ => ?_)
    obtain ⟨rfl, rfl, rfl, r8, rfl, hq8⟩ := hq8
    show wp g X F_m_next 0 0 11 [(2, 178), (0, c), (0, what), (3, 0), (3, 0), (3, 0)] [(0, r8), (2, 178)] v ρ Z
    first | refine r_if_eq (pc := 11) hX 7 (tgt := 21) rfl (by decide) (⟨by omega, by omega⟩) (fun h11 => ?_) (fun h11 => ?_) | refine r_if_eq_any (pc := 11) hX 7 (tgt := 21) rfl (by decide) ?_ ?_
    · refine r_iconst (pc := 21) hX 11 rfl ?_
      refine r_goto (pc := 22) hX 12 (tgt := 26) rfl (by decide) ?_
      refine r_callV (as := [(0, 1)]) (st := []) (K := 12) (pc := 26) hX 14 rfl mo_m_throwsIf ml_X12_297 im_m_throwsIf se_m_throwsIf (c_throwsIf g v ρ Z hG (1) (by omega)) rfl rfl rfl hG.1 (by rw [hRm]; exact ⟨by decide, by decide⟩) (by rw [hRm]; exact ⟨by decide, by decide⟩) (Nat.le_of_ble_eq_true rfl) (fun o26 v26 ρ26 Z26 hq26 _ => ?_)
      obtain ⟨rfl, rfl, hfr26, r26, rfl, hq26⟩ := hq26
      have hSInv_26 : SInv (v26 180) := by rw [hfr26.1 180 (by decide) (by decide)]; exact hS
      obtain rfl : r26 = 1 := by omega
      show wp g X F_m_next 0 0 29 [(2, 178), (0, c), (0, what), (3, 0), (3, 0), (3, 0)] [(0, 1)] v26 ρ Z
      first | refine r_if_eq (pc := 29) hX 15 (tgt := 34) rfl (by decide) (⟨by omega, by omega⟩) (fun h29 => ?_) (fun h29 => ?_) | refine r_if_eq_any (pc := 29) hX 15 (tgt := 34) rfl (by decide) ?_ ?_
      · exact absurd h29 (by decide)
      · refine r_lconst (pc := 32) hX 16 rfl ?_
        show wp g X F_m_next 0 0 33 [(2, 178), (0, c), (0, what), (3, 0), (3, 0), (3, 0)] [(1, 0)] v26 ρ Z
        exact r_lret (pc := 33) hX 17 hQ rfl rfl (Nat.le_refl 0) (Nat.le_refl 0) ⟨rfl, rfl, (Fr.rf).tr hfr26 (by decide) (by decide), 0, rfl, trivial⟩
    · refine r_iload_n (pc := 14) hX 8 rfl rfl ?_
      refine r_callS (as := [(0, what)]) (st := [(2, 178)]) (pc := 15) hX 9 rfl mo_m_isPart ml_X12_381 stt_m_isPart (c_isPart g v ρ Z hG (what) (by omega)) rfl (by rw [hRm]; exact ⟨by decide, by decide⟩) (by rw [hRm]; exact ⟨by decide, by decide⟩) (Nat.le_of_ble_eq_true rfl) (fun o15 v15 ρ15 Z15 hq15 _ => ?_)
      obtain ⟨rfl, rfl, rfl, r15, rfl, hq15⟩ := hq15
      show wp g X F_m_next 0 0 18 [(2, 178), (0, c), (0, what), (3, 0), (3, 0), (3, 0)] [(0, r15), (2, 178)] v ρ Z
      first | refine r_if_ne (pc := 18) hX 10 (tgt := 25) rfl (by decide) (⟨by omega, by omega⟩) (fun h18 => ?_) (fun h18 => ?_) | refine r_if_ne_any (pc := 18) hX 10 (tgt := 25) rfl (by decide) ?_ ?_
      · refine r_iconst (pc := 25) hX 13 rfl ?_
        refine r_callV (as := [(0, 0)]) (st := []) (K := 12) (pc := 26) hX 14 rfl mo_m_throwsIf ml_X12_297 im_m_throwsIf se_m_throwsIf (c_throwsIf g v ρ Z hG (0) (by omega)) rfl rfl rfl hG.1 (by rw [hRm]; exact ⟨by decide, by decide⟩) (by rw [hRm]; exact ⟨by decide, by decide⟩) (Nat.le_of_ble_eq_true rfl) (fun o26 v26 ρ26 Z26 hq26 _ => ?_)
        obtain ⟨rfl, rfl, hfr26, r26, rfl, hq26⟩ := hq26
        have hSInv_26 : SInv (v26 180) := by rw [hfr26.1 180 (by decide) (by decide)]; exact hS
        obtain rfl : r26 = 0 := by omega
        show wp g X F_m_next 0 0 29 [(2, 178), (0, c), (0, what), (3, 0), (3, 0), (3, 0)] [(0, 0)] v26 ρ Z
        first | refine r_if_eq (pc := 29) hX 15 (tgt := 34) rfl (by decide) (⟨by omega, by omega⟩) (fun h29 => ?_) (fun h29 => ?_) | refine r_if_eq_any (pc := 29) hX 15 (tgt := 34) rfl (by decide) ?_ ?_
        · refine r_aload_n (pc := 34) hX 18 rfl rfl ?_
          refine r_callV (as := []) (st := []) (K := 12) (pc := 35) hX 19 rfl mo_m_weighs ml_X12_319 im_m_weighs se_m_weighs (c_weighs g v26 ρ Z hG  (hSInv_26)) rfl rfl rfl hG.1 (by rw [hRm]; exact ⟨by decide, by decide⟩) (by rw [hRm]; exact ⟨by decide, by decide⟩) (Nat.le_of_ble_eq_true rfl) (fun o35 v35 ρ35 Z35 hq35 _ => ?_)
          obtain ⟨rfl, rfl, hfr35, rfl, hq35⟩ := hq35
          have hSInv_35 : SInv (v35 180) := by rw [hfr35.1 180 (by decide) (by decide)]; exact hSInv_26
          show wp g X F_m_next 0 0 38 [(2, 178), (0, c), (0, what), (3, 0), (3, 0), (3, 0)] [] v35 ρ Z
          refine r_lconst (pc := 38) hX 20 rfl ?_
          show wp g X F_m_next 0 0 39 [(2, 178), (0, c), (0, what), (3, 0), (3, 0), (3, 0)] [(1, 0)] v35 ρ Z
          refine r_lstore_n (ls' := [(2, 178), (0, c), (0, what), (1, 0), (3, 0), (3, 0)]) (pc := 39) hX 21 rfl (by decide) rfl ?_
          refine r_iconst (pc := 40) hX 22 rfl ?_
          refine r_istore (ls' := [(2, 178), (0, c), (0, what), (1, 0), (3, 0), (0, 0)]) (pc := 41) hX 23 rfl (by decide) rfl ?_
          have L43 : ∀ (n43 : Nat) (sm l : Int) , (0 ≤ l ∧ l ≤ 3) → (3 - l).toNat < n43 → wp g X F_m_next 0 0 43 [(2, 178), (0, c), (0, what), (1, sm), (3, 0), (0, l)] [] v35 ρ Z := by
            intro n43
            induction n43 with
            | zero => intro sm l il hme43; exact absurd hme43 (Nat.not_lt_zero _)
            | succ n43 ih43 =>
              intro sm l il hme43
              refine r_iload (pc := 43) hX 24 rfl rfl ?_
              refine r_aload_n (pc := 45) hX 25 rfl rfl ?_
              refine r_callV (as := []) (st := [(0, l)]) (K := 12) (pc := 46) hX 26 rfl mo_m_lands ml_X12_322 im_m_lands se_m_lands (c_lands g v35 ρ Z hG  (hSInv_35)) rfl rfl rfl hG.1 (by rw [hRm]; exact ⟨by decide, by decide⟩) (by rw [hRm]; exact ⟨by decide, by decide⟩) (Nat.le_of_ble_eq_true rfl) (fun o46 v46 ρ46 Z46 hq46 _ => ?_)
              obtain ⟨rfl, rfl, rfl, r46, rfl, hq46⟩ := hq46
              show wp g X F_m_next 0 0 49 [(2, 178), (0, c), (0, what), (1, sm), (3, 0), (0, l)] [(0, r46), (0, l)] v35 ρ Z
              first | refine r_icmp_ge (pc := 49) hX 27 (tgt := 93) rfl (by decide) (⟨by omega, by omega⟩) (⟨by omega, by omega⟩) (fun h49 => ?_) (fun h49 => ?_) | refine r_icmp_ge_any (pc := 49) hX 27 (tgt := 93) rfl (by decide) ?_ ?_
              · refine r_lload_n (pc := 93) hX 54 rfl rfl ?_
                refine r_lany _ (fun z93 hz93 => ?_)
                refine r_ldc2 (y := 12) (pc := 94) hX 55 rfl kl_X12_347 (by decide) ?_
                refine r_aload_n (pc := 97) hX 56 rfl rfl ?_
                refine r_callV (as := []) (st := [(1, 12), (1, z93)]) (K := 12) (pc := 98) hX 57 rfl mo_m_weights ml_X12_349 im_m_weights se_m_weights (c_weights g v35 ρ Z hG  (hSInv_35)) rfl rfl rfl hG.1 (by rw [hRm]; exact ⟨by decide, by decide⟩) (by rw [hRm]; exact ⟨by decide, by decide⟩) (Nat.le_of_ble_eq_true rfl) (fun o98 v98 ρ98 Z98 hq98 _ => ?_)
                obtain ⟨rfl, rfl, rfl, r98, rfl, hq98⟩ := hq98
                show wp g X F_m_next 0 0 101 [(2, 178), (0, c), (0, what), (1, sm), (3, 0), (0, l)] [(1, r98), (1, 12), (1, z93)] v35 ρ Z
                rw [hfr35.1 180 (by decide) (by decide)] at hq98
                have hs98 := hq35.rng hSInv_26 (by have := hSInv_26.c35; omega)
                refine r_lmul (pc := 101) hX 58 rfl ?_
                refine r_iload_n (pc := 102) hX 59 rfl rfl ?_
                refine r_callS (as := [(1, z93), (1, (12 * r98)), (0, what)]) (st := []) (pc := 103) hX 60 rfl mo_m_part ml_X12_387 stt_m_part (c_part g v35 ρ Z hG (z93) ((12 * r98)) (what) (hz93) (by omega) (by omega)) rfl (by rw [hRm]; exact ⟨by decide, by decide⟩) (by rw [hRm]; exact ⟨by decide, by decide⟩) (Nat.le_of_ble_eq_true rfl) (fun o103 v103 ρ103 Z103 hq103 _ => ?_)
                obtain ⟨rfl, rfl, rfl, r103, rfl, hq103⟩ := hq103
                show wp g X F_m_next 0 0 106 [(2, 178), (0, c), (0, what), (1, sm), (3, 0), (0, l)] [(1, r103)] v35 ρ Z
                exact r_lret (pc := 106) hX 61 hQ rfl rfl (Nat.le_refl 0) (Nat.le_refl 0) ⟨rfl, rfl, ((Fr.rf).tr hfr26 (by decide) (by decide)).tr hfr35 (by decide) (by decide), r103, rfl, trivial⟩
              · refine r_lload_n (pc := 52) hX 28 rfl rfl ?_
                refine t_getR (pc := 53) hX 29 rfl rfl rfl fl_X12_62 rfl hG.1 (a_weight hG).1 ?_
                refine r_iload (pc := 57) hX 31 rfl rfl ?_
                refine e_lald (y := (v35 189 l)) (pc := 59) hX 32 rfl (a_weight hG).2.1 (a_weight hG).2.2 (by omega) (by omega) (rfl) ?_
                refine t_getR (pc := 60) hX 33 rfl rfl rfl fl_X12_33 rfl hG.1 (a_s hG).1 ?_
                refine r_bipush (pc := 64) hX 35 rfl (by decide) ?_
                refine r_iconst (pc := 66) hX 36 rfl ?_
                refine r_iload (pc := 67) hX 37 rfl rfl ?_
                refine r_imul (pc := 69) hX 38 rfl ?_
                refine r_iadd (pc := 70) hX 39 rfl ?_
                refine r_iload_n (pc := 71) hX 40 rfl rfl ?_
                refine r_iconst (pc := 72) hX 41 rfl ?_
                first | refine r_icmp_ne (pc := 73) hX 42 (tgt := 80) rfl (by decide) (⟨by omega, by omega⟩) (⟨by omega, by omega⟩) (fun h73 => ?_) (fun h73 => ?_) | refine r_icmp_ne_any (pc := 73) hX 42 (tgt := 80) rfl (by decide) ?_ ?_
                · refine r_iload_n (pc := 80) hX 45 rfl rfl ?_
                  refine r_iadd (pc := 81) hX 46 rfl ?_
                  refine e_iald (y := (v35 180 ((17 + (5 * l)) + c))) (pc := 82) hX 47 rfl (a_s hG).2.1 (a_s hG).2.2 (by omega) (by omega) (rfl) ?_
                  have hb82 := hSInv_35.c17 l c (by omega) (by omega) (by omega) (by omega)
                  refine r_i2l (pc := 83) hX 48 rfl ⟨by omega, by omega⟩ ?_
                  refine r_lmul (pc := 84) hX 49 rfl ?_
                  refine r_ladd (pc := 85) hX 50 rfl ?_
                  refine r_lstore_n (ls' := [(2, 178), (0, c), (0, what), (1, (sm + ((v35 189 l) * (v35 180 ((17 + (5 * l)) + c))))), (3, 0), (0, l)]) (pc := 86) hX 51 rfl (by decide) rfl ?_
                  refine r_iinc (ls' := [(2, 178), (0, c), (0, what), (1, (sm + ((v35 189 l) * (v35 180 ((17 + (5 * l)) + c))))), (3, 0), (0, (l + 1))]) (pc := 87) hX 52 rfl rfl (by decide) rfl ?_
                  refine r_goto (pc := 90) hX 53 (tgt := 43) rfl (by decide) ?_
                  exact (ih43 (sm + ((v35 189 l) * (v35 180 ((17 + (5 * l)) + c)))) (l + 1) (by omega) (by omega))
                · refine r_iconst (pc := 76) hX 43 rfl ?_
                  refine r_goto (pc := 77) hX 44 (tgt := 81) rfl (by decide) ?_
                  refine r_iadd (pc := 81) hX 46 rfl ?_
                  refine e_iald (y := (v35 180 ((17 + (5 * l)) + 4))) (pc := 82) hX 47 rfl (a_s hG).2.1 (a_s hG).2.2 (by omega) (by omega) (rfl) ?_
                  have hb82 := hSInv_35.c17 l 4 (by omega) (by omega) (by omega) (by omega)
                  refine r_i2l (pc := 83) hX 48 rfl ⟨by omega, by omega⟩ ?_
                  refine r_lmul (pc := 84) hX 49 rfl ?_
                  refine r_ladd (pc := 85) hX 50 rfl ?_
                  refine r_lstore_n (ls' := [(2, 178), (0, c), (0, what), (1, (sm + ((v35 189 l) * (v35 180 ((17 + (5 * l)) + 4))))), (3, 0), (0, l)]) (pc := 86) hX 51 rfl (by decide) rfl ?_
                  refine r_iinc (ls' := [(2, 178), (0, c), (0, what), (1, (sm + ((v35 189 l) * (v35 180 ((17 + (5 * l)) + 4))))), (3, 0), (0, (l + 1))]) (pc := 87) hX 52 rfl rfl (by decide) rfl ?_
                  refine r_goto (pc := 90) hX 53 (tgt := 43) rfl (by decide) ?_
                  exact (ih43 (sm + ((v35 189 l) * (v35 180 ((17 + (5 * l)) + 4)))) (l + 1) (by omega) (by omega))
          exact (L43 _ 0 0 (by omega) (Nat.lt_succ_self _))
        · exact absurd (by decide) h29
      · refine r_iconst (pc := 21) hX 11 rfl ?_
        refine r_goto (pc := 22) hX 12 (tgt := 26) rfl (by decide) ?_
        refine r_callV (as := [(0, 1)]) (st := []) (K := 12) (pc := 26) hX 14 rfl mo_m_throwsIf ml_X12_297 im_m_throwsIf se_m_throwsIf (c_throwsIf g v ρ Z hG (1) (by omega)) rfl rfl rfl hG.1 (by rw [hRm]; exact ⟨by decide, by decide⟩) (by rw [hRm]; exact ⟨by decide, by decide⟩) (Nat.le_of_ble_eq_true rfl) (fun o26 v26 ρ26 Z26 hq26 _ => ?_)
        obtain ⟨rfl, rfl, hfr26, r26, rfl, hq26⟩ := hq26
        have hSInv_26 : SInv (v26 180) := by rw [hfr26.1 180 (by decide) (by decide)]; exact hS
        obtain rfl : r26 = 1 := by omega
        show wp g X F_m_next 0 0 29 [(2, 178), (0, c), (0, what), (3, 0), (3, 0), (3, 0)] [(0, 1)] v26 ρ Z
        first | refine r_if_eq (pc := 29) hX 15 (tgt := 34) rfl (by decide) (⟨by omega, by omega⟩) (fun h29 => ?_) (fun h29 => ?_) | refine r_if_eq_any (pc := 29) hX 15 (tgt := 34) rfl (by decide) ?_ ?_
        · exact absurd h29 (by decide)
        · refine r_lconst (pc := 32) hX 16 rfl ?_
          show wp g X F_m_next 0 0 33 [(2, 178), (0, c), (0, what), (3, 0), (3, 0), (3, 0)] [(1, 0)] v26 ρ Z
          exact r_lret (pc := 33) hX 17 hQ rfl rfl (Nat.le_refl 0) (Nat.le_refl 0) ⟨rfl, rfl, (Fr.rf).tr hfr26 (by decide) (by decide), 0, rfl, trivial⟩
set_option maxHeartbeats 4000000 in
set_option maxRecDepth 100000 in
theorem c_left (g : Gp) (v ρ : Mv) (Z : Mz) (hG : GM ρ Z) (what : Int) (hS : SInv (v 180)) (hw : inR what) : Ok g 5 0 0 F_m_left [(2, 178), (0, what)] v ρ Z (fun o v' ρ' Z' => ρ = ρ' ∧ Z = Z' ∧ Fr [185, 186, 189, 190, 191, 192, 193] [0, 31] v v' ∧ ∃ r : Int, o = some (1, r) ∧ True) := by
  refine Ok.of mo_m_left (Nat.le_of_ble_eq_true rfl) ?_
  intro X hX hRm hxn hQ
  show wp g X F_m_left 0 0 0 [(2, 178), (0, what), (3, 0), (3, 0), (3, 0)] [] v ρ Z
  refine r_aload_n (pc := 0) hX 0 rfl rfl ?_
  refine r_iload_n (pc := 1) hX 1 rfl rfl ?_
  refine r_callS (as := [(0, what)]) (st := [(2, 178)]) (pc := 2) hX 2 rfl mo_m_isPart ml_X12_381 stt_m_isPart (c_isPart g v ρ Z hG (what) (by omega)) rfl (by rw [hRm]; exact ⟨by decide, by decide⟩) (by rw [hRm]; exact ⟨by decide, by decide⟩) (Nat.le_of_ble_eq_true rfl) (fun o2 v2 ρ2 Z2 hq2 _ => ?_)
  obtain ⟨rfl, rfl, rfl, r2, rfl, hq2⟩ := hq2
  show wp g X F_m_left 0 0 5 [(2, 178), (0, what), (3, 0), (3, 0), (3, 0)] [(0, r2), (2, 178)] v ρ Z
  first | refine r_if_ne (pc := 5) hX 3 (tgt := 12) rfl (by decide) (⟨by omega, by omega⟩) (fun h5 => ?_) (fun h5 => ?_) | refine r_if_ne_any (pc := 5) hX 3 (tgt := 12) rfl (by decide) ?_ ?_
  · refine r_iconst (pc := 12) hX 6 rfl ?_
    refine r_callV (as := [(0, 0)]) (st := []) (K := 12) (pc := 13) hX 7 rfl mo_m_throwsIf ml_X12_297 im_m_throwsIf se_m_throwsIf (c_throwsIf g v ρ Z hG (0) (by omega)) rfl rfl rfl hG.1 (by rw [hRm]; exact ⟨by decide, by decide⟩) (by rw [hRm]; exact ⟨by decide, by decide⟩) (Nat.le_of_ble_eq_true rfl) (fun o13 v13 ρ13 Z13 hq13 _ => ?_)
    obtain ⟨rfl, rfl, hfr13, r13, rfl, hq13⟩ := hq13
    have hSInv_13 : SInv (v13 180) := by rw [hfr13.1 180 (by decide) (by decide)]; exact hS
    obtain rfl : r13 = 0 := by omega
    show wp g X F_m_left 0 0 16 [(2, 178), (0, what), (3, 0), (3, 0), (3, 0)] [(0, 0)] v13 ρ Z
    first | refine r_if_eq (pc := 16) hX 8 (tgt := 21) rfl (by decide) (⟨by omega, by omega⟩) (fun h16 => ?_) (fun h16 => ?_) | refine r_if_eq_any (pc := 16) hX 8 (tgt := 21) rfl (by decide) ?_ ?_
    · refine r_aload_n (pc := 21) hX 11 rfl rfl ?_
      refine r_callV (as := []) (st := []) (K := 12) (pc := 22) hX 12 rfl mo_m_goesNow ml_X12_384 im_m_goesNow se_m_goesNow (c_goesNow g v13 ρ Z hG  (hSInv_13)) rfl rfl rfl hG.1 (by rw [hRm]; exact ⟨by decide, by decide⟩) (by rw [hRm]; exact ⟨by decide, by decide⟩) (Nat.le_of_ble_eq_true rfl) (fun o22 v22 ρ22 Z22 hq22 _ => ?_)
      obtain ⟨rfl, rfl, hfr22, rfl, hq22⟩ := hq22
      have hSInv_22 : SInv (v22 180) := by rw [hfr22.1 180 (by decide) (by decide)]; exact hSInv_13
      show wp g X F_m_left 0 0 25 [(2, 178), (0, what), (3, 0), (3, 0), (3, 0)] [] v22 ρ Z
      refine r_lconst (pc := 25) hX 13 rfl ?_
      show wp g X F_m_left 0 0 26 [(2, 178), (0, what), (3, 0), (3, 0), (3, 0)] [(1, 0)] v22 ρ Z
      refine r_lstore_n (ls' := [(2, 178), (0, what), (1, 0), (3, 0), (3, 0)]) (pc := 26) hX 14 rfl (by decide) rfl ?_
      refine r_iconst (pc := 27) hX 15 rfl ?_
      refine r_istore (ls' := [(2, 178), (0, what), (1, 0), (3, 0), (0, 0)]) (pc := 28) hX 16 rfl (by decide) rfl ?_
      have L30 : ∀ (n30 : Nat) (sm k : Int) , (0 ≤ k ∧ k ≤ 13) → (13 - k).toNat < n30 → wp g X F_m_left 0 0 30 [(2, 178), (0, what), (1, sm), (3, 0), (0, k)] [] v22 ρ Z := by
        intro n30
        induction n30 with
        | zero => intro sm k ik hme30; exact absurd hme30 (Nat.not_lt_zero _)
        | succ n30 ih30 =>
          intro sm k ik hme30
          refine r_iload (pc := 30) hX 17 rfl rfl ?_
          refine r_bipush (pc := 32) hX 18 rfl (by decide) ?_
          first | refine r_icmp_ge (pc := 34) hX 19 (tgt := 57) rfl (by decide) (⟨by omega, by omega⟩) (⟨by omega, by omega⟩) (fun h34 => ?_) (fun h34 => ?_) | refine r_icmp_ge_any (pc := 34) hX 19 (tgt := 57) rfl (by decide) ?_ ?_
          · refine r_lload_n (pc := 57) hX 32 rfl rfl ?_
            refine r_lany _ (fun z57 hz57 => ?_)
            refine t_getL (y := (v22 178 31)) (pc := 58) hX 33 rfl rfl rfl fl_X12_357 rfl hG.1 (rfl) ?_
            refine r_iload_n (pc := 62) hX 35 rfl rfl ?_
            refine r_callS (as := [(1, z57), (1, (v22 178 31)), (0, what)]) (st := []) (pc := 63) hX 36 rfl mo_m_part ml_X12_387 stt_m_part (c_part g v22 ρ Z hG (z57) ((v22 178 31)) (what) (hz57) (by omega) (by omega)) rfl (by rw [hRm]; exact ⟨by decide, by decide⟩) (by rw [hRm]; exact ⟨by decide, by decide⟩) (Nat.le_of_ble_eq_true rfl) (fun o63 v63 ρ63 Z63 hq63 _ => ?_)
            obtain ⟨rfl, rfl, rfl, r63, rfl, hq63⟩ := hq63
            show wp g X F_m_left 0 0 66 [(2, 178), (0, what), (1, sm), (3, 0), (0, k)] [(1, r63)] v22 ρ Z
            exact r_lret (pc := 66) hX 37 hQ rfl rfl (Nat.le_refl 0) (Nat.le_refl 0) ⟨rfl, rfl, ((Fr.rf).tr hfr13 (by decide) (by decide)).tr hfr22 (by decide) (by decide), r63, rfl, trivial⟩
          · refine r_lload_n (pc := 37) hX 20 rfl rfl ?_
            refine r_iload (pc := 38) hX 21 rfl rfl ?_
            refine r_i2l (pc := 40) hX 22 rfl ⟨by omega, by omega⟩ ?_
            refine t_getR (pc := 41) hX 23 rfl rfl rfl fl_X12_74 rfl hG.1 (a_endsAt hG).1 ?_
            refine r_iload (pc := 45) hX 25 rfl rfl ?_
            refine e_lald (y := (v22 193 k)) (pc := 47) hX 26 rfl (a_endsAt hG).2.1 (a_endsAt hG).2.2 (by omega) (by omega) (rfl) ?_
            refine r_lmul (pc := 48) hX 27 rfl ?_
            refine r_ladd (pc := 49) hX 28 rfl ?_
            refine r_lstore_n (ls' := [(2, 178), (0, what), (1, (sm + (k * (v22 193 k)))), (3, 0), (0, k)]) (pc := 50) hX 29 rfl (by decide) rfl ?_
            refine r_iinc (ls' := [(2, 178), (0, what), (1, (sm + (k * (v22 193 k)))), (3, 0), (0, (k + 1))]) (pc := 51) hX 30 rfl rfl (by decide) rfl ?_
            refine r_goto (pc := 54) hX 31 (tgt := 30) rfl (by decide) ?_
            exact (ih30 (sm + (k * (v22 193 k))) (k + 1) (by omega) (by omega))
      exact (L30 _ 0 0 (by omega) (Nat.lt_succ_self _))
    · exact absurd (by decide) h16
  · refine r_iconst (pc := 8) hX 4 rfl ?_
    refine r_goto (pc := 9) hX 5 (tgt := 13) rfl (by decide) ?_
    refine r_callV (as := [(0, 1)]) (st := []) (K := 12) (pc := 13) hX 7 rfl mo_m_throwsIf ml_X12_297 im_m_throwsIf se_m_throwsIf (c_throwsIf g v ρ Z hG (1) (by omega)) rfl rfl rfl hG.1 (by rw [hRm]; exact ⟨by decide, by decide⟩) (by rw [hRm]; exact ⟨by decide, by decide⟩) (Nat.le_of_ble_eq_true rfl) (fun o13 v13 ρ13 Z13 hq13 _ => ?_)
    obtain ⟨rfl, rfl, hfr13, r13, rfl, hq13⟩ := hq13
    have hSInv_13 : SInv (v13 180) := by rw [hfr13.1 180 (by decide) (by decide)]; exact hS
    obtain rfl : r13 = 1 := by omega
    show wp g X F_m_left 0 0 16 [(2, 178), (0, what), (3, 0), (3, 0), (3, 0)] [(0, 1)] v13 ρ Z
    first | refine r_if_eq (pc := 16) hX 8 (tgt := 21) rfl (by decide) (⟨by omega, by omega⟩) (fun h16 => ?_) (fun h16 => ?_) | refine r_if_eq_any (pc := 16) hX 8 (tgt := 21) rfl (by decide) ?_ ?_
    · exact absurd h16 (by decide)
    · refine r_lconst (pc := 19) hX 9 rfl ?_
      show wp g X F_m_left 0 0 20 [(2, 178), (0, what), (3, 0), (3, 0), (3, 0)] [(1, 0)] v13 ρ Z
      exact r_lret (pc := 20) hX 10 hQ rfl rfl (Nat.le_refl 0) (Nat.le_refl 0) ⟨rfl, rfl, (Fr.rf).tr hfr13 (by decide) (by decide), 0, rfl, trivial⟩
set_option maxHeartbeats 4000000 in
set_option maxRecDepth 100000 in
theorem c_over (g : Gp) (v ρ : Mv) (Z : Mz) (hG : GM ρ Z) (n what : Int) (hS : SInv (v 180)) (hn : inR n) (hw : inR what) : Ok g 5 0 0 F_m_over [(2, 178), (0, n), (0, what)] v ρ Z (fun o v' ρ' Z' => ρ = ρ' ∧ Z = Z' ∧ Fr [185, 186, 189, 190, 191, 192, 193] [0, 31] v v' ∧ ∃ r : Int, o = some (1, r) ∧ True) := by
  refine Ok.of mo_m_over (Nat.le_of_ble_eq_true rfl) ?_
  intro X hX hRm hxn hQ
  show wp g X F_m_over 0 0 0 [(2, 178), (0, n), (0, what), (3, 0), (3, 0), (3, 0)] [] v ρ Z
  refine r_aload_n (pc := 0) hX 0 rfl rfl ?_
  refine r_iload_n (pc := 1) hX 1 rfl rfl ?_
  refine r_iconst (pc := 2) hX 2 rfl ?_
  refine r_bipush (pc := 3) hX 3 rfl (by decide) ?_
  refine r_callS (as := [(0, n), (0, 0), (0, 12)]) (st := [(2, 178)]) (pc := 5) hX 4 rfl mo_m_isIn ml_X12_222 stt_m_isIn (c_isIn g v ρ Z hG (n) (0) (12) (by omega) (by omega) (by omega)) rfl (by rw [hRm]; exact ⟨by decide, by decide⟩) (by rw [hRm]; exact ⟨by decide, by decide⟩) (Nat.le_of_ble_eq_true rfl) (fun o5 v5 ρ5 Z5 hq5 _ => ?_)
  obtain ⟨rfl, rfl, rfl, r5, rfl, hq5⟩ := hq5
  show wp g X F_m_over 0 0 8 [(2, 178), (0, n), (0, what), (3, 0), (3, 0), (3, 0)] [(0, r5), (2, 178)] v ρ Z
  first | refine r_if_eq (pc := 8) hX 5 (tgt := 18) rfl (by decide) (⟨by omega, by omega⟩) (fun h8 => ?_) (fun h8 => ?_) | refine r_if_eq_any (pc := 8) hX 5 (tgt := 18) rfl (by decide) ?_ ?_
  · refine r_iconst (pc := 18) hX 9 rfl ?_
    refine r_goto (pc := 19) hX 10 (tgt := 23) rfl (by decide) ?_
    refine r_callV (as := [(0, 1)]) (st := []) (K := 12) (pc := 23) hX 12 rfl mo_m_throwsIf ml_X12_297 im_m_throwsIf se_m_throwsIf (c_throwsIf g v ρ Z hG (1) (by omega)) rfl rfl rfl hG.1 (by rw [hRm]; exact ⟨by decide, by decide⟩) (by rw [hRm]; exact ⟨by decide, by decide⟩) (Nat.le_of_ble_eq_true rfl) (fun o23 v23 ρ23 Z23 hq23 _ => ?_)
    obtain ⟨rfl, rfl, hfr23, r23, rfl, hq23⟩ := hq23
    have hSInv_23 : SInv (v23 180) := by rw [hfr23.1 180 (by decide) (by decide)]; exact hS
    obtain rfl : r23 = 1 := by omega
    show wp g X F_m_over 0 0 26 [(2, 178), (0, n), (0, what), (3, 0), (3, 0), (3, 0)] [(0, 1)] v23 ρ Z
    first | refine r_if_eq (pc := 26) hX 13 (tgt := 31) rfl (by decide) (⟨by omega, by omega⟩) (fun h26 => ?_) (fun h26 => ?_) | refine r_if_eq_any (pc := 26) hX 13 (tgt := 31) rfl (by decide) ?_ ?_
    · exact absurd h26 (by decide)
    · refine r_lconst (pc := 29) hX 14 rfl ?_
      show wp g X F_m_over 0 0 30 [(2, 178), (0, n), (0, what), (3, 0), (3, 0), (3, 0)] [(1, 0)] v23 ρ Z
      exact r_lret (pc := 30) hX 15 hQ rfl rfl (Nat.le_refl 0) (Nat.le_refl 0) ⟨rfl, rfl, (Fr.rf).tr hfr23 (by decide) (by decide), 0, rfl, trivial⟩
  · refine r_iload_n (pc := 11) hX 6 rfl rfl ?_
    refine r_callS (as := [(0, what)]) (st := [(2, 178)]) (pc := 12) hX 7 rfl mo_m_isPart ml_X12_381 stt_m_isPart (c_isPart g v ρ Z hG (what) (by omega)) rfl (by rw [hRm]; exact ⟨by decide, by decide⟩) (by rw [hRm]; exact ⟨by decide, by decide⟩) (Nat.le_of_ble_eq_true rfl) (fun o12 v12 ρ12 Z12 hq12 _ => ?_)
    obtain ⟨rfl, rfl, rfl, r12, rfl, hq12⟩ := hq12
    show wp g X F_m_over 0 0 15 [(2, 178), (0, n), (0, what), (3, 0), (3, 0), (3, 0)] [(0, r12), (2, 178)] v ρ Z
    first | refine r_if_ne (pc := 15) hX 8 (tgt := 22) rfl (by decide) (⟨by omega, by omega⟩) (fun h15 => ?_) (fun h15 => ?_) | refine r_if_ne_any (pc := 15) hX 8 (tgt := 22) rfl (by decide) ?_ ?_
    · refine r_iconst (pc := 22) hX 11 rfl ?_
      refine r_callV (as := [(0, 0)]) (st := []) (K := 12) (pc := 23) hX 12 rfl mo_m_throwsIf ml_X12_297 im_m_throwsIf se_m_throwsIf (c_throwsIf g v ρ Z hG (0) (by omega)) rfl rfl rfl hG.1 (by rw [hRm]; exact ⟨by decide, by decide⟩) (by rw [hRm]; exact ⟨by decide, by decide⟩) (Nat.le_of_ble_eq_true rfl) (fun o23 v23 ρ23 Z23 hq23 _ => ?_)
      obtain ⟨rfl, rfl, hfr23, r23, rfl, hq23⟩ := hq23
      have hSInv_23 : SInv (v23 180) := by rw [hfr23.1 180 (by decide) (by decide)]; exact hS
      obtain rfl : r23 = 0 := by omega
      show wp g X F_m_over 0 0 26 [(2, 178), (0, n), (0, what), (3, 0), (3, 0), (3, 0)] [(0, 0)] v23 ρ Z
      first | refine r_if_eq (pc := 26) hX 13 (tgt := 31) rfl (by decide) (⟨by omega, by omega⟩) (fun h26 => ?_) (fun h26 => ?_) | refine r_if_eq_any (pc := 26) hX 13 (tgt := 31) rfl (by decide) ?_ ?_
      · refine r_aload_n (pc := 31) hX 16 rfl rfl ?_
        refine r_callV (as := []) (st := []) (K := 12) (pc := 32) hX 17 rfl mo_m_goesNow ml_X12_384 im_m_goesNow se_m_goesNow (c_goesNow g v23 ρ Z hG  (hSInv_23)) rfl rfl rfl hG.1 (by rw [hRm]; exact ⟨by decide, by decide⟩) (by rw [hRm]; exact ⟨by decide, by decide⟩) (Nat.le_of_ble_eq_true rfl) (fun o32 v32 ρ32 Z32 hq32 _ => ?_)
        obtain ⟨rfl, rfl, hfr32, rfl, hq32⟩ := hq32
        have hSInv_32 : SInv (v32 180) := by rw [hfr32.1 180 (by decide) (by decide)]; exact hSInv_23
        show wp g X F_m_over 0 0 35 [(2, 178), (0, n), (0, what), (3, 0), (3, 0), (3, 0)] [] v32 ρ Z
        refine r_lconst (pc := 35) hX 18 rfl ?_
        show wp g X F_m_over 0 0 36 [(2, 178), (0, n), (0, what), (3, 0), (3, 0), (3, 0)] [(1, 0)] v32 ρ Z
        refine r_lstore_n (ls' := [(2, 178), (0, n), (0, what), (1, 0), (3, 0), (3, 0)]) (pc := 36) hX 19 rfl (by decide) rfl ?_
        refine r_iconst (pc := 37) hX 20 rfl ?_
        refine r_istore (ls' := [(2, 178), (0, n), (0, what), (1, 0), (3, 0), (0, 0)]) (pc := 38) hX 21 rfl (by decide) rfl ?_
        have L40 : ∀ (n40 : Nat) (sm k : Int) , (0 ≤ k ∧ k ≤ n + 1) → (n + 1 - k).toNat < n40 → wp g X F_m_over 0 0 40 [(2, 178), (0, n), (0, what), (1, sm), (3, 0), (0, k)] [] v32 ρ Z := by
          intro n40
          induction n40 with
          | zero => intro sm k ik hme40; exact absurd hme40 (Nat.not_lt_zero _)
          | succ n40 ih40 =>
            intro sm k ik hme40
            refine r_iload (pc := 40) hX 22 rfl rfl ?_
            refine r_iload_n (pc := 42) hX 23 rfl rfl ?_
            first | refine r_icmp_gt (pc := 43) hX 24 (tgt := 62) rfl (by decide) (⟨by omega, by omega⟩) (⟨by omega, by omega⟩) (fun h43 => ?_) (fun h43 => ?_) | refine r_icmp_gt_any (pc := 43) hX 24 (tgt := 62) rfl (by decide) ?_ ?_
            · refine r_lload_n (pc := 62) hX 34 rfl rfl ?_
              refine r_lany _ (fun z62 hz62 => ?_)
              refine t_getL (y := (v32 178 31)) (pc := 63) hX 35 rfl rfl rfl fl_X12_357 rfl hG.1 (rfl) ?_
              refine r_iload_n (pc := 67) hX 37 rfl rfl ?_
              refine r_callS (as := [(1, z62), (1, (v32 178 31)), (0, what)]) (st := []) (pc := 68) hX 38 rfl mo_m_part ml_X12_387 stt_m_part (c_part g v32 ρ Z hG (z62) ((v32 178 31)) (what) (hz62) (by omega) (by omega)) rfl (by rw [hRm]; exact ⟨by decide, by decide⟩) (by rw [hRm]; exact ⟨by decide, by decide⟩) (Nat.le_of_ble_eq_true rfl) (fun o68 v68 ρ68 Z68 hq68 _ => ?_)
              obtain ⟨rfl, rfl, rfl, r68, rfl, hq68⟩ := hq68
              show wp g X F_m_over 0 0 71 [(2, 178), (0, n), (0, what), (1, sm), (3, 0), (0, k)] [(1, r68)] v32 ρ Z
              exact r_lret (pc := 71) hX 39 hQ rfl rfl (Nat.le_refl 0) (Nat.le_refl 0) ⟨rfl, rfl, ((Fr.rf).tr hfr23 (by decide) (by decide)).tr hfr32 (by decide) (by decide), r68, rfl, trivial⟩
            · refine r_lload_n (pc := 46) hX 25 rfl rfl ?_
              refine t_getR (pc := 47) hX 26 rfl rfl rfl fl_X12_74 rfl hG.1 (a_endsAt hG).1 ?_
              refine r_iload (pc := 51) hX 28 rfl rfl ?_
              refine e_lald (y := (v32 193 k)) (pc := 53) hX 29 rfl (a_endsAt hG).2.1 (a_endsAt hG).2.2 (by omega) (by omega) (rfl) ?_
              refine r_ladd (pc := 54) hX 30 rfl ?_
              refine r_lstore_n (ls' := [(2, 178), (0, n), (0, what), (1, (sm + (v32 193 k))), (3, 0), (0, k)]) (pc := 55) hX 31 rfl (by decide) rfl ?_
              refine r_iinc (ls' := [(2, 178), (0, n), (0, what), (1, (sm + (v32 193 k))), (3, 0), (0, (k + 1))]) (pc := 56) hX 32 rfl rfl (by decide) rfl ?_
              refine r_goto (pc := 59) hX 33 (tgt := 40) rfl (by decide) ?_
              exact (ih40 (sm + (v32 193 k)) (k + 1) (by omega) (by omega))
        exact (L40 _ 0 0 (by omega) (Nat.lt_succ_self _))
      · exact absurd (by decide) h26
    · refine r_iconst (pc := 18) hX 9 rfl ?_
      refine r_goto (pc := 19) hX 10 (tgt := 23) rfl (by decide) ?_
      refine r_callV (as := [(0, 1)]) (st := []) (K := 12) (pc := 23) hX 12 rfl mo_m_throwsIf ml_X12_297 im_m_throwsIf se_m_throwsIf (c_throwsIf g v ρ Z hG (1) (by omega)) rfl rfl rfl hG.1 (by rw [hRm]; exact ⟨by decide, by decide⟩) (by rw [hRm]; exact ⟨by decide, by decide⟩) (Nat.le_of_ble_eq_true rfl) (fun o23 v23 ρ23 Z23 hq23 _ => ?_)
      obtain ⟨rfl, rfl, hfr23, r23, rfl, hq23⟩ := hq23
      have hSInv_23 : SInv (v23 180) := by rw [hfr23.1 180 (by decide) (by decide)]; exact hS
      obtain rfl : r23 = 1 := by omega
      show wp g X F_m_over 0 0 26 [(2, 178), (0, n), (0, what), (3, 0), (3, 0), (3, 0)] [(0, 1)] v23 ρ Z
      first | refine r_if_eq (pc := 26) hX 13 (tgt := 31) rfl (by decide) (⟨by omega, by omega⟩) (fun h26 => ?_) (fun h26 => ?_) | refine r_if_eq_any (pc := 26) hX 13 (tgt := 31) rfl (by decide) ?_ ?_
      · exact absurd h26 (by decide)
      · refine r_lconst (pc := 29) hX 14 rfl ?_
        show wp g X F_m_over 0 0 30 [(2, 178), (0, n), (0, what), (3, 0), (3, 0), (3, 0)] [(1, 0)] v23 ρ Z
        exact r_lret (pc := 30) hX 15 hQ rfl rfl (Nat.le_refl 0) (Nat.le_refl 0) ⟨rfl, rfl, (Fr.rf).tr hfr23 (by decide) (by decide), 0, rfl, trivial⟩
set_option maxHeartbeats 4000000 in
set_option maxRecDepth 100000 in
theorem c_favourite (g : Gp) (v ρ : Mv) (Z : Mz) (hG : GM ρ Z)  (hS : SInv (v 180)) : Ok g 5 0 0 F_m_favourite [(2, 178)] v ρ Z (fun o v' ρ' Z' => ρ = ρ' ∧ Z = Z' ∧ Fr [185, 186, 189, 190, 191, 192, 193] [0, 31] v v' ∧ ∃ r : Int, o = some (0, r) ∧ True) := by
  refine Ok.of mo_m_favourite (Nat.le_of_ble_eq_true rfl) ?_
  intro X hX hRm hxn hQ
  show wp g X F_m_favourite 0 0 0 [(2, 178), (3, 0), (3, 0)] [] v ρ Z
  refine r_aload_n (pc := 0) hX 0 rfl rfl ?_
  refine r_iconst (pc := 1) hX 1 rfl ?_
  refine r_putI (pc := 2) hX 2 rfl fl_X12_1 rfl (fun _ h => by cases h; rfl) hG.1 (by decide) ?_
  refine r_aload_n (pc := 5) hX 3 rfl rfl ?_
  refine r_callV (as := []) (st := []) (K := 12) (pc := 6) hX 4 rfl mo_m_goesNow ml_X12_384 im_m_goesNow se_m_goesNow (c_goesNow g (up v 178 0 0) ρ Z hG  (by rw [up_f (by decide)]; exact hS)) rfl rfl rfl hG.1 (by rw [hRm]; exact ⟨by decide, by decide⟩) (by rw [hRm]; exact ⟨by decide, by decide⟩) (Nat.le_of_ble_eq_true rfl) (fun o6 v6 ρ6 Z6 hq6 _ => ?_)
  obtain ⟨rfl, rfl, hfr6, rfl, hq6⟩ := hq6
  try simp only [up_f (show (180 : Int) ≠ 178 by decide)] at hq6
  have hSInv_6 : SInv (v6 180) := by rw [hfr6.1 180 (by decide) (by decide), up_f (by decide)]; exact hS
  show wp g X F_m_favourite 0 0 9 [(2, 178), (3, 0), (3, 0)] [] v6 ρ Z
  refine r_iconst (pc := 9) hX 5 rfl ?_
  refine r_istore_n (ls' := [(2, 178), (0, (-1)), (3, 0)]) (pc := 10) hX 6 rfl (by decide) rfl ?_
  refine r_iconst (pc := 11) hX 7 rfl ?_
  refine r_istore_n (ls' := [(2, 178), (0, (-1)), (0, 0)]) (pc := 12) hX 8 rfl (by decide) rfl ?_
  have L13 : ∀ (n13 : Nat) (b q : Int) , (0 ≤ q ∧ q ≤ 3 ∧ -1 ≤ b ∧ b < q ∧ b ≤ 2) → (3 - q).toNat < n13 → wp g X F_m_favourite 0 0 13 [(2, 178), (0, b), (0, q)] [] v6 ρ Z := by
    intro n13
    induction n13 with
    | zero => intro b q iq hme13; exact absurd hme13 (Nat.not_lt_zero _)
    | succ n13 ih13 =>
      intro b q iq hme13
      refine r_iload_n (pc := 13) hX 9 rfl rfl ?_
      refine t_getR (pc := 14) hX 10 rfl rfl rfl fl_X12_33 rfl hG.1 (a_s hG).1 ?_
      refine r_iconst (pc := 18) hX 12 rfl ?_
      refine e_iald (y := (v6 180 2)) (pc := 19) hX 13 rfl (a_s hG).2.1 (a_s hG).2.2 (by omega) (by omega) (rfl) ?_
      have hb19 := hSInv_6.c2
      first | refine r_icmp_ge (pc := 20) hX 14 (tgt := 51) rfl (by decide) (⟨by omega, by omega⟩) (⟨by omega, by omega⟩) (fun h20 => ?_) (fun h20 => ?_) | refine r_icmp_ge_any (pc := 20) hX 14 (tgt := 51) rfl (by decide) ?_ ?_
      · refine r_iload_n (pc := 51) hX 31 rfl rfl ?_
        exact r_iret (pc := 52) hX 32 hQ rfl rfl (Nat.le_refl 0) (Nat.le_refl 0) ⟨rfl, rfl, ((Fr.rf).fld (k := 0) (by decide)).tr hfr6 (by decide) (by decide), b, rfl, trivial⟩
      · refine r_iload_n (pc := 23) hX 15 rfl rfl ?_
        first | refine r_if_lt (pc := 24) hX 16 (tgt := 43) rfl (by decide) (⟨by omega, by omega⟩) (fun h24 => ?_) (fun h24 => ?_) | refine r_if_lt_any (pc := 24) hX 16 (tgt := 43) rfl (by decide) ?_ ?_
        · refine r_iload_n (pc := 43) hX 27 rfl rfl ?_
          refine r_istore_n (ls' := [(2, 178), (0, q), (0, q)]) (pc := 44) hX 28 rfl (by decide) rfl ?_
          refine r_iinc (ls' := [(2, 178), (0, q), (0, (q + 1))]) (pc := 45) hX 29 rfl rfl (by decide) rfl ?_
          refine r_goto (pc := 48) hX 30 (tgt := 13) rfl (by decide) ?_
          exact (ih13 q (q + 1) (by omega) (by omega))
        · refine t_getR (pc := 27) hX 17 rfl rfl rfl fl_X12_71 rfl hG.1 (a_wonBy hG).1 ?_
          refine r_iload_n (pc := 31) hX 19 rfl rfl ?_
          refine e_lald (y := (v6 192 q)) (pc := 32) hX 20 rfl (a_wonBy hG).2.1 (a_wonBy hG).2.2 (by omega) (by omega) (rfl) ?_
          refine t_getR (pc := 33) hX 21 rfl rfl rfl fl_X12_71 rfl hG.1 (a_wonBy hG).1 ?_
          refine r_iload_n (pc := 37) hX 23 rfl rfl ?_
          refine e_lald (y := (v6 192 b)) (pc := 38) hX 24 rfl (a_wonBy hG).2.1 (a_wonBy hG).2.2 (by omega) (by omega) (rfl) ?_
          refine r_lcmp_any (pc := 39) hX 25 rfl (fun z39 hz39a hz39b => ?_)
          first | refine r_if_le (pc := 40) hX 26 (tgt := 45) rfl (by decide) (⟨by omega, by omega⟩) (fun h40 => ?_) (fun h40 => ?_) | refine r_if_le_any (pc := 40) hX 26 (tgt := 45) rfl (by decide) ?_ ?_
          · refine r_iinc (ls' := [(2, 178), (0, b), (0, (q + 1))]) (pc := 45) hX 29 rfl rfl (by decide) rfl ?_
            refine r_goto (pc := 48) hX 30 (tgt := 13) rfl (by decide) ?_
            exact (ih13 b (q + 1) (by omega) (by omega))
          · refine r_iload_n (pc := 43) hX 27 rfl rfl ?_
            refine r_istore_n (ls' := [(2, 178), (0, q), (0, q)]) (pc := 44) hX 28 rfl (by decide) rfl ?_
            refine r_iinc (ls' := [(2, 178), (0, q), (0, (q + 1))]) (pc := 45) hX 29 rfl rfl (by decide) rfl ?_
            refine r_goto (pc := 48) hX 30 (tgt := 13) rfl (by decide) ?_
            exact (ih13 q (q + 1) (by omega) (by omega))
  exact (L13 _ (-1) 0 (by omega) (Nat.lt_succ_self _))
set_option maxHeartbeats 4000000 in
set_option maxRecDepth 100000 in
theorem c_luck (g : Gp) (v ρ : Mv) (Z : Mz) (hG : GM ρ Z) (what : Int) (hS : SInv (v 180)) (hw : inR what) : Ok g 3 0 0 F_m_luck [(2, 178), (0, what)] v ρ Z (fun o v' ρ' Z' => ρ = ρ' ∧ Z = Z' ∧ Fr [189] [0] v v' ∧ ∃ r : Int, o = some (1, r) ∧ True) := by
  refine Ok.of mo_m_luck (Nat.le_of_ble_eq_true rfl) ?_
  intro X hX hRm hxn hQ
  show wp g X F_m_luck 0 0 0 [(2, 178), (0, what)] [] v ρ Z
  refine r_aload_n (pc := 0) hX 0 rfl rfl ?_
  refine r_iload_n (pc := 1) hX 1 rfl rfl ?_
  refine r_callS (as := [(0, what)]) (st := [(2, 178)]) (pc := 2) hX 2 rfl mo_m_isPart ml_X12_381 stt_m_isPart (c_isPart g v ρ Z hG (what) (by omega)) rfl (by rw [hRm]; exact ⟨by decide, by decide⟩) (by rw [hRm]; exact ⟨by decide, by decide⟩) (Nat.le_of_ble_eq_true rfl) (fun o2 v2 ρ2 Z2 hq2 _ => ?_)
  obtain ⟨rfl, rfl, rfl, r2, rfl, hq2⟩ := hq2
  show wp g X F_m_luck 0 0 5 [(2, 178), (0, what)] [(0, r2), (2, 178)] v ρ Z
  first | refine r_if_ne (pc := 5) hX 3 (tgt := 12) rfl (by decide) (⟨by omega, by omega⟩) (fun h5 => ?_) (fun h5 => ?_) | refine r_if_ne_any (pc := 5) hX 3 (tgt := 12) rfl (by decide) ?_ ?_
  · refine r_iconst (pc := 12) hX 6 rfl ?_
    refine r_callV (as := [(0, 0)]) (st := []) (K := 12) (pc := 13) hX 7 rfl mo_m_throwsIf ml_X12_297 im_m_throwsIf se_m_throwsIf (c_throwsIf g v ρ Z hG (0) (by omega)) rfl rfl rfl hG.1 (by rw [hRm]; exact ⟨by decide, by decide⟩) (by rw [hRm]; exact ⟨by decide, by decide⟩) (Nat.le_of_ble_eq_true rfl) (fun o13 v13 ρ13 Z13 hq13 _ => ?_)
    obtain ⟨rfl, rfl, hfr13, r13, rfl, hq13⟩ := hq13
    have hSInv_13 : SInv (v13 180) := by rw [hfr13.1 180 (by decide) (by decide)]; exact hS
    obtain rfl : r13 = 0 := by omega
    show wp g X F_m_luck 0 0 16 [(2, 178), (0, what)] [(0, 0)] v13 ρ Z
    first | refine r_if_eq (pc := 16) hX 8 (tgt := 21) rfl (by decide) (⟨by omega, by omega⟩) (fun h16 => ?_) (fun h16 => ?_) | refine r_if_eq_any (pc := 16) hX 8 (tgt := 21) rfl (by decide) ?_ ?_
    · refine r_aload_n (pc := 21) hX 11 rfl rfl ?_
      refine r_callV (as := []) (st := []) (K := 12) (pc := 22) hX 12 rfl mo_m_weighs ml_X12_319 im_m_weighs se_m_weighs (c_weighs g v13 ρ Z hG  (hSInv_13)) rfl rfl rfl hG.1 (by rw [hRm]; exact ⟨by decide, by decide⟩) (by rw [hRm]; exact ⟨by decide, by decide⟩) (Nat.le_of_ble_eq_true rfl) (fun o22 v22 ρ22 Z22 hq22 _ => ?_)
      obtain ⟨rfl, rfl, hfr22, rfl, hq22⟩ := hq22
      have hSInv_22 : SInv (v22 180) := by rw [hfr22.1 180 (by decide) (by decide)]; exact hSInv_13
      show wp g X F_m_luck 0 0 25 [(2, 178), (0, what)] [] v22 ρ Z
      refine r_iload_n (pc := 25) hX 13 rfl rfl ?_
      first | refine r_if_ne (pc := 26) hX 14 (tgt := 34) rfl (by decide) (⟨by omega, by omega⟩) (fun h26 => ?_) (fun h26 => ?_) | refine r_if_ne_any (pc := 26) hX 14 (tgt := 34) rfl (by decide) ?_ ?_
      · refine r_aload_n (pc := 34) hX 18 rfl rfl ?_
        refine r_callV (as := []) (st := []) (K := 12) (pc := 35) hX 19 rfl mo_m_weighsFirst ml_X12_416 im_m_weighsFirst se_m_weighsFirst (c_weighsFirst g v22 ρ Z hG  (hSInv_22)) rfl rfl rfl hG.1 (by rw [hRm]; exact ⟨by decide, by decide⟩) (by rw [hRm]; exact ⟨by decide, by decide⟩) (Nat.le_of_ble_eq_true rfl) (fun o35 v35 ρ35 Z35 hq35 _ => ?_)
        obtain ⟨rfl, rfl, hfr35, rfl, hq35⟩ := hq35
        have hSInv_35 : SInv (v35 180) := by rw [hfr35.1 180 (by decide) (by decide)]; exact hSInv_22
        show wp g X F_m_luck 0 0 38 [(2, 178), (0, what)] [] v35 ρ Z
        refine r_aload_n (pc := 38) hX 20 rfl rfl ?_
        refine r_callV (as := []) (st := []) (K := 12) (pc := 39) hX 21 rfl mo_m_weights ml_X12_349 im_m_weights se_m_weights (c_weights g v35 ρ Z hG  (hSInv_35)) rfl rfl rfl hG.1 (by rw [hRm]; exact ⟨by decide, by decide⟩) (by rw [hRm]; exact ⟨by decide, by decide⟩) (Nat.le_of_ble_eq_true rfl) (fun o39 v39 ρ39 Z39 hq39 _ => ?_)
        obtain ⟨rfl, rfl, rfl, r39, rfl, hq39⟩ := hq39
        show wp g X F_m_luck 0 0 42 [(2, 178), (0, what)] [(1, r39)] v35 ρ Z
        refine t_getR (pc := 42) hX 22 rfl rfl rfl fl_X12_33 rfl hG.1 (a_s hG).1 ?_
        refine r_bipush (pc := 46) hX 24 rfl (by decide) ?_
        refine e_iald (y := (v35 180 35)) (pc := 48) hX 25 rfl (a_s hG).2.1 (a_s hG).2.2 (by omega) (by omega) (rfl) ?_
        have hb48 := hSInv_35.c35
        refine r_callS (as := [(0, (v35 180 35))]) (st := [(1, r39)]) (pc := 49) hX 26 rfl mo_m_twelves ml_X12_353 stt_m_twelves (c_twelves g v35 ρ Z hG ((v35 180 35)) (by omega)) rfl (by rw [hRm]; exact ⟨by decide, by decide⟩) (by rw [hRm]; exact ⟨by decide, by decide⟩) (Nat.le_of_ble_eq_true rfl) (fun o49 v49 ρ49 Z49 hq49 _ => ?_)
        obtain ⟨rfl, rfl, rfl, r49, rfl, hq49⟩ := hq49
        show wp g X F_m_luck 0 0 52 [(2, 178), (0, what)] [(1, r49), (1, r39)] v35 ρ Z
        refine r_lmul (pc := 52) hX 27 rfl ?_
        exact r_lret (pc := 53) hX 28 hQ rfl rfl (Nat.le_refl 0) (Nat.le_refl 0) ⟨rfl, rfl, (((Fr.rf).tr hfr13 (by decide) (by decide)).tr hfr22 (by decide) (by decide)).tr hfr35 (by decide) (by decide), (r39 * r49), rfl, trivial⟩
      · refine r_aload_n (pc := 29) hX 15 rfl rfl ?_
        refine r_callV (as := []) (st := []) (K := 12) (pc := 30) hX 16 rfl mo_m_weights ml_X12_349 im_m_weights se_m_weights (c_weights g v22 ρ Z hG  (hSInv_22)) rfl rfl rfl hG.1 (by rw [hRm]; exact ⟨by decide, by decide⟩) (by rw [hRm]; exact ⟨by decide, by decide⟩) (Nat.le_of_ble_eq_true rfl) (fun o30 v30 ρ30 Z30 hq30 _ => ?_)
        obtain ⟨rfl, rfl, rfl, r30, rfl, hq30⟩ := hq30
        show wp g X F_m_luck 0 0 33 [(2, 178), (0, what)] [(1, r30)] v22 ρ Z
        exact r_lret (pc := 33) hX 17 hQ rfl rfl (Nat.le_refl 0) (Nat.le_refl 0) ⟨rfl, rfl, ((Fr.rf).tr hfr13 (by decide) (by decide)).tr hfr22 (by decide) (by decide), r30, rfl, trivial⟩
    · exact absurd (by decide) h16
  · refine r_iconst (pc := 8) hX 4 rfl ?_
    refine r_goto (pc := 9) hX 5 (tgt := 13) rfl (by decide) ?_
    refine r_callV (as := [(0, 1)]) (st := []) (K := 12) (pc := 13) hX 7 rfl mo_m_throwsIf ml_X12_297 im_m_throwsIf se_m_throwsIf (c_throwsIf g v ρ Z hG (1) (by omega)) rfl rfl rfl hG.1 (by rw [hRm]; exact ⟨by decide, by decide⟩) (by rw [hRm]; exact ⟨by decide, by decide⟩) (Nat.le_of_ble_eq_true rfl) (fun o13 v13 ρ13 Z13 hq13 _ => ?_)
    obtain ⟨rfl, rfl, hfr13, r13, rfl, hq13⟩ := hq13
    have hSInv_13 : SInv (v13 180) := by rw [hfr13.1 180 (by decide) (by decide)]; exact hS
    obtain rfl : r13 = 1 := by omega
    show wp g X F_m_luck 0 0 16 [(2, 178), (0, what)] [(0, 1)] v13 ρ Z
    first | refine r_if_eq (pc := 16) hX 8 (tgt := 21) rfl (by decide) (⟨by omega, by omega⟩) (fun h16 => ?_) (fun h16 => ?_) | refine r_if_eq_any (pc := 16) hX 8 (tgt := 21) rfl (by decide) ?_ ?_
    · exact absurd h16 (by decide)
    · refine r_lconst (pc := 19) hX 9 rfl ?_
      show wp g X F_m_luck 0 0 20 [(2, 178), (0, what)] [(1, 0)] v13 ρ Z
      exact r_lret (pc := 20) hX 10 hQ rfl rfl (Nat.le_refl 0) (Nat.le_refl 0) ⟨rfl, rfl, (Fr.rf).tr hfr13 (by decide) (by decide), 0, rfl, trivial⟩
