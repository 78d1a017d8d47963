set_option maxHeartbeats 4000000 in
set_option maxRecDepth 100000 in
theorem c_draws (g : Gp) (v ρ : Mv) (Z : Mz) (hG : GM ρ Z) (sd : Int) (hS : SInv (v 180)) (hn : 1 ≤ v 180 1) : Ok g 4 0 0 F_m_draws [(2, 178), (0, sd)] v ρ Z (fun o v' ρ' Z' => ρ = ρ' ∧ Z = Z' ∧ Fr [180, 185, 186, 189] [46] v v' ∧ o = none ∧ (SInv (v' 180)) ∧ (RdEq (v 180) (v' 180))) := by
  refine Ok.of mo_m_draws (Nat.le_of_ble_eq_true rfl) ?_
  intro X hX hRm hxn hQ
  show wp g X F_m_draws 0 0 0 [(2, 178), (0, sd), (3, 0), (3, 0), (3, 0), (3, 0), (3, 0)] [] v ρ Z
  have hb1 := hS.c1
  have hb35 := hS.c35
  have hb4 := hS.c4
  have hld := hS.lds
  refine r_aload_n (pc := 0) hX 0 rfl rfl ?_
  refine r_iload_n (pc := 1) hX 1 rfl rfl ?_
  refine r_putI (pc := 2) hX 2 rfl fl_X12_461 rfl (fun _ h => by cases h; rfl) hG.1 (by decide) ?_
  refine r_aload_n (pc := 5) hX 3 rfl rfl ?_
  refine r_callV (as := []) (st := []) (K := 12) (pc := 6) hX 4 rfl mo_m_weighs ml_X12_319 im_m_weighs se_m_weighs (c_weighs g (up v 178 46 sd) ρ Z hG  (by rw [up_f (by decide)]; exact hS)) rfl rfl rfl hG.1 (by rw [hRm]; exact ⟨by decide, by decide⟩) (by rw [hRm]; exact ⟨by decide, by decide⟩) (Nat.le_of_ble_eq_true rfl) (fun o6 v6 ρ6 Z6 hq6 _ => ?_)
  obtain ⟨rfl, rfl, hfr6, rfl, hq6⟩ := hq6
  try simp only [up_f (show (180 : Int) ≠ 178 by decide)] at hq6
  have hSInv_6 : SInv (v6 180) := by rw [hfr6.1 180 (by decide) (by decide), up_f (by decide)]; exact hS
  show wp g X F_m_draws 0 0 9 [(2, 178), (0, sd), (3, 0), (3, 0), (3, 0), (3, 0), (3, 0)] [] v6 ρ Z
  try simp only [up_f (show (180 : Int) ≠ 178 by decide)] at hq6
  have es6 : v6 180 = v 180 := by rw [hfr6.1 180 (by decide) (by decide), up_f (by decide)]
  have hca := csF_all hS hq6
  refine r_iconst (pc := 9) hX 5 rfl ?_
  refine r_istore_n (ls' := [(2, 178), (0, sd), (0, 0), (3, 0), (3, 0), (3, 0), (3, 0)]) (pc := 10) hX 6 rfl (by decide) rfl ?_
  refine r_iconst (pc := 11) hX 7 rfl ?_
  refine r_istore_n (ls' := [(2, 178), (0, sd), (0, 0), (0, 0), (3, 0), (3, 0), (3, 0)]) (pc := 12) hX 8 rfl (by decide) rfl ?_
  have L13 : ∀ (n13 : Nat) (sm l : Int) , (0 ≤ l ∧ l ≤ ldsF (v 180)) → (sm = csF (v 180) (v6 189) l.toNat) → (ldsF (v 180) - l).toNat < n13 → wp g X F_m_draws 0 0 13 [(2, 178), (0, sd), (0, sm), (0, l), (3, 0), (3, 0), (3, 0)] [] v6 ρ Z := by
    intro n13
    induction n13 with
    | zero => intro sm l il is hme13; exact absurd hme13 (Nat.not_lt_zero _)
    | succ n13 ih13 =>
      intro sm l il is hme13
      refine r_iload_n (pc := 13) hX 9 rfl rfl ?_
      refine r_aload_n (pc := 14) hX 10 rfl rfl ?_
      refine r_callV (as := []) (st := [(0, l)]) (K := 12) (pc := 15) hX 11 rfl mo_m_lands ml_X12_322 im_m_lands se_m_lands (c_lands g v6 ρ Z hG  (hSInv_6)) rfl rfl rfl hG.1 (by rw [hRm]; exact ⟨by decide, by decide⟩) (by rw [hRm]; exact ⟨by decide, by decide⟩) (Nat.le_of_ble_eq_true rfl) (fun o15 v15 ρ15 Z15 hq15 _ => ?_)
      obtain ⟨rfl, rfl, rfl, r15, rfl, hq15⟩ := hq15
      show wp g X F_m_draws 0 0 18 [(2, 178), (0, sd), (0, sm), (0, l), (3, 0), (3, 0), (3, 0)] [(0, r15), (0, l)] v6 ρ Z
      rw [es6] at hq15
      first | refine r_icmp_ge (pc := 18) hX 12 (tgt := 54) rfl (by decide) (⟨by omega, by omega⟩) (⟨by omega, by omega⟩) (fun h18 => ?_) (fun h18 => ?_) | refine r_icmp_ge_any (pc := 18) hX 12 (tgt := 54) rfl (by decide) ?_ ?_
      · refine r_aload_n (pc := 54) hX 33 rfl rfl ?_
        refine r_iload_n (pc := 55) hX 34 rfl rfl ?_
        refine r_callV (as := [(0, sm)]) (st := []) (K := 12) (pc := 56) hX 35 rfl mo_m_draw ml_X12_465 im_m_draw se_m_draw (c_draw g v6 ρ Z hG (sm) (by rw [is, show l = ldsF (v 180) by omega]; omega)) rfl rfl rfl hG.1 (by rw [hRm]; exact ⟨by decide, by decide⟩) (by rw [hRm]; exact ⟨by decide, by decide⟩) (Nat.le_of_ble_eq_true rfl) (fun o56 v56 ρ56 Z56 hq56 _ => ?_)
        obtain ⟨rfl, rfl, hfr56, r56, rfl, hq56⟩ := hq56
        have hSInv_56 : SInv (v56 180) := by rw [hfr56.1 180 (by decide) (by decide)]; exact hSInv_6
        show wp g X F_m_draws 0 0 59 [(2, 178), (0, sd), (0, sm), (0, l), (3, 0), (3, 0), (3, 0)] [(0, r56)] v56 ρ Z
        rw [is, show l = ldsF (v 180) by omega] at hq56
        have es56 : v56 180 = v 180 := (hfr56.1 180 (by decide) (by decide)).trans es6
        have ew56 : v56 189 = v6 189 := hfr56.1 189 (by decide) (by decide)
        refine r_istore_n (ls' := [(2, 178), (0, sd), (0, sm), (0, r56), (3, 0), (3, 0), (3, 0)]) (pc := 59) hX 36 rfl (by decide) rfl ?_
        refine r_iconst (pc := 60) hX 37 rfl ?_
        refine r_istore (ls' := [(2, 178), (0, sd), (0, sm), (0, r56), (0, 0), (3, 0), (3, 0)]) (pc := 61) hX 38 rfl (by decide) rfl ?_
        have L63 : ∀ (n63 : Nat) (x l : Int) , (0 ≤ l ∧ l ≤ ldsF (v 180)) → (0 ≤ x ∧ x ≤ 27) → (x + csF (v 180) (v6 189) l.toNat = r56) → (ldsF (v 180) - l).toNat < n63 → wp g X F_m_draws 0 0 63 [(2, 178), (0, sd), (0, sm), (0, x), (0, l), (3, 0), (3, 0)] [] v56 ρ Z := by
          intro n63
          induction n63 with
          | zero => intro x l il ix is hme63; exact absurd hme63 (Nat.not_lt_zero _)
          | succ n63 ih63 =>
            intro x l il ix is hme63
            have hlt : l < ldsF (v 180) := by
              by_cases e : l = ldsF (v 180)
              · rw [e] at is; omega
              · omega
            have hwl := wt_in hS (by omega) hq6 (l := l) (by omega) hlt
            have e14 : v56 180 (14 + l) = v 180 (14 + l) := by rw [es56]
            have ewl : v56 189 l = v6 189 l := by rw [ew56]
            have hcs := csF_s (f := v 180) (w := v6 189) (i := l) (by omega)
            have hcl := hS.c14 l (by omega) (by omega)
            refine t_getR (pc := 63) hX 39 rfl rfl rfl fl_X12_62 rfl hG.1 (a_weight hG).1 ?_
            refine r_iload (pc := 67) hX 41 rfl rfl ?_
            refine e_lald (y := (v56 189 l)) (pc := 69) hX 42 rfl (a_weight hG).2.1 (a_weight hG).2.2 (by omega) (by omega) (rfl) ?_
            refine r_lconst (pc := 70) hX 43 rfl ?_
            show wp g X F_m_draws 0 0 71 [(2, 178), (0, sd), (0, sm), (0, x), (0, l), (3, 0), (3, 0)] [(1, 0), (1, (v56 189 l))] v56 ρ Z
            refine r_lcmp (pc := 71) hX 44 rfl (⟨by omega, by omega⟩) (⟨by omega, by omega⟩) ?_
            refine r_if_eq (pc := 72) hX 45 (tgt := 89) rfl (by decide) (cmpI_in _ _) (fun h72 => ?_) (fun h72 => ?_)
            · rw [cmpI_eq] at h72
              refine r_iload_n (pc := 89) hX 54 rfl rfl ?_
              refine t_getR (pc := 90) hX 55 rfl rfl rfl fl_X12_62 rfl hG.1 (a_weight hG).1 ?_
              refine r_iload (pc := 94) hX 57 rfl rfl ?_
              refine e_lald (y := (v56 189 l)) (pc := 96) hX 58 rfl (a_weight hG).2.1 (a_weight hG).2.2 (by omega) (by omega) (rfl) ?_
              refine r_lconst (pc := 97) hX 59 rfl ?_
              show wp g X F_m_draws 0 0 98 [(2, 178), (0, sd), (0, sm), (0, x), (0, l), (3, 0), (3, 0)] [(1, 0), (1, (v56 189 l)), (0, x)] v56 ρ Z
              refine r_lcmp (pc := 98) hX 60 rfl (⟨by omega, by omega⟩) (⟨by omega, by omega⟩) ?_
              refine r_if_ne (pc := 99) hX 61 (tgt := 106) rfl (by decide) (cmpI_in _ _) (fun h99 => ?_) (fun h99 => ?_)
              · rw [Ne, cmpI_eq] at h99
                refine t_getR (pc := 106) hX 64 rfl rfl rfl fl_X12_33 rfl hG.1 (a_s hG).1 ?_
                refine r_bipush (pc := 110) hX 66 rfl (by decide) ?_
                refine r_iload (pc := 112) hX 67 rfl rfl ?_
                refine r_iadd (pc := 114) hX 68 rfl ?_
                refine e_iald (y := (v56 180 (14 + l))) (pc := 115) hX 69 rfl (a_s hG).2.1 (a_s hG).2.2 (by omega) (by omega) (rfl) ?_
                have hb115 := hSInv_56.c14 l (by omega) (by omega)
                refine r_isub (pc := 116) hX 70 rfl ?_
                refine r_istore_n (ls' := [(2, 178), (0, sd), (0, sm), (0, (x - (v56 180 (14 + l)))), (0, l), (3, 0), (3, 0)]) (pc := 117) hX 71 rfl (by decide) rfl ?_
                refine r_iinc (ls' := [(2, 178), (0, sd), (0, sm), (0, (x - (v56 180 (14 + l)))), (0, (l + 1)), (3, 0), (3, 0)]) (pc := 118) hX 72 rfl rfl (by decide) rfl ?_
                refine r_goto (pc := 121) hX 73 (tgt := 63) rfl (by decide) ?_
                exact (ih63 (x - (v56 180 (14 + l))) (l + 1) (by omega) (by omega) (by first | (exfalso; omega) | (rw [hcs, if_neg (by omega)]; omega) | (rw [hcs, if_pos (by omega)]; omega)) (by omega))
              · rw [Ne, cmpI_eq] at h99
                refine r_iconst (pc := 102) hX 62 rfl ?_
                refine r_goto (pc := 103) hX 63 (tgt := 116) rfl (by decide) ?_
                refine r_isub (pc := 116) hX 70 rfl ?_
                refine r_istore_n (ls' := [(2, 178), (0, sd), (0, sm), (0, (x - 0)), (0, l), (3, 0), (3, 0)]) (pc := 117) hX 71 rfl (by decide) rfl ?_
                refine r_iinc (ls' := [(2, 178), (0, sd), (0, sm), (0, (x - 0)), (0, (l + 1)), (3, 0), (3, 0)]) (pc := 118) hX 72 rfl rfl (by decide) rfl ?_
                refine r_goto (pc := 121) hX 73 (tgt := 63) rfl (by decide) ?_
                exact (ih63 (x - 0) (l + 1) (by omega) (by omega) (by first | (exfalso; omega) | (rw [hcs, if_neg (by omega)]; omega) | (rw [hcs, if_pos (by omega)]; omega)) (by omega))
            · rw [cmpI_eq] at h72
              refine r_iload_n (pc := 75) hX 46 rfl rfl ?_
              refine t_getR (pc := 76) hX 47 rfl rfl rfl fl_X12_33 rfl hG.1 (a_s hG).1 ?_
              refine r_bipush (pc := 80) hX 49 rfl (by decide) ?_
              refine r_iload (pc := 82) hX 50 rfl rfl ?_
              refine r_iadd (pc := 84) hX 51 rfl ?_
              refine e_iald (y := (v56 180 (14 + l))) (pc := 85) hX 52 rfl (a_s hG).2.1 (a_s hG).2.2 (by omega) (by omega) (rfl) ?_
              have hb85 := hSInv_56.c14 l (by omega) (by omega)
              first | refine r_icmp_lt (pc := 86) hX 53 (tgt := 124) rfl (by decide) (⟨by omega, by omega⟩) (⟨by omega, by omega⟩) (fun h86 => ?_) (fun h86 => ?_) | refine r_icmp_lt_any (pc := 86) hX 53 (tgt := 124) rfl (by decide) ?_ ?_
              · have L124 : ∀ (n124 : Nat) (v124 : Mv) , (Fr [180, 185, 186, 189] [46] v v124) → (SInv (v124 180)) → (RdEq (v 180) (v124 180)) → (Fz (v124 180) l) → (v 180 4 - v124 180 35).toNat < n124 → wp g X F_m_draws 0 0 124 [(2, 178), (0, sd), (0, sm), (0, x), (0, l), (3, 0), (3, 0)] [] v124 ρ Z := by
                  intro n124
                  induction n124 with
                  | zero => intro v124 hfr124 hSInv_124 ir iz hme124; exact absurd hme124 (Nat.not_lt_zero _)
                  | succ n124 ih124 =>
                    intro v124 hfr124 hSInv_124 ir iz hme124
                    have i35 := hSInv_124.c35
                    have i4 := ir 4 (by omega)
                    have i1 := ir 1 (by omega)
                    have il2 : 0 ≤ l ∧ l ≤ 2 := by omega
                    refine r_aload_n (pc := 124) hX 74 rfl rfl ?_
                    refine r_callV (as := []) (st := []) (K := 12) (pc := 125) hX 75 rfl mo_m_isOver ml_X12_310 im_m_isOver se_m_isOver (c_isOver g v124 ρ Z hG  (hSInv_124)) rfl rfl rfl hG.1 (by rw [hRm]; exact ⟨by decide, by decide⟩) (by rw [hRm]; exact ⟨by decide, by decide⟩) (Nat.le_of_ble_eq_true rfl) (fun o125 v125 ρ125 Z125 hq125 _ => ?_)
                    obtain ⟨rfl, rfl, hfr125, r125, rfl, hq125⟩ := hq125
                    have hSInv_125 : SInv (v125 180) := by rw [hfr125.1 180 (by decide) (by decide)]; exact hSInv_124
                    show wp g X F_m_draws 0 0 128 [(2, 178), (0, sd), (0, sm), (0, x), (0, l), (3, 0), (3, 0)] [(0, r125)] v125 ρ Z
                    have es125 : v125 180 = v124 180 := hfr125.1 180 (by decide) (by decide)
                    first | refine r_if_ne (pc := 128) hX 76 (tgt := 197) rfl (by decide) (⟨by omega, by omega⟩) (fun h128 => ?_) (fun h128 => ?_) | refine r_if_ne_any (pc := 128) hX 76 (tgt := 197) rfl (by decide) ?_ ?_
                    · exact r_vret (pc := 197) hX 114 hQ rfl rfl (Nat.le_refl 0) (Nat.le_refl 0) ⟨rfl, rfl, (hfr124).tr hfr125 (by decide) (by decide), rfl, (hSInv_125), (by rw [es125]; exact ir)⟩
                    · refine r_aload_n (pc := 131) hX 77 rfl rfl ?_
                      refine r_bipush (pc := 132) hX 78 rfl (by decide) ?_
                      refine r_callV (as := [(0, 12)]) (st := []) (K := 12) (pc := 134) hX 79 rfl mo_m_draw ml_X12_465 im_m_draw se_m_draw (c_draw g v125 ρ Z hG (12) (by omega)) rfl rfl rfl hG.1 (by rw [hRm]; exact ⟨by decide, by decide⟩) (by rw [hRm]; exact ⟨by decide, by decide⟩) (Nat.le_of_ble_eq_true rfl) (fun o134 v134 ρ134 Z134 hq134 _ => ?_)
                      obtain ⟨rfl, rfl, hfr134, r134, rfl, hq134⟩ := hq134
                      have hSInv_134 : SInv (v134 180) := by rw [hfr134.1 180 (by decide) (by decide)]; exact hSInv_125
                      show wp g X F_m_draws 0 0 137 [(2, 178), (0, sd), (0, sm), (0, x), (0, l), (3, 0), (3, 0)] [(0, r134)] v134 ρ Z
                      have es134 : v134 180 = v124 180 := (hfr134.1 180 (by decide) (by decide)).trans es125
                      refine r_istore (ls' := [(2, 178), (0, sd), (0, sm), (0, x), (0, l), (0, r134), (3, 0)]) (pc := 137) hX 80 rfl (by decide) rfl ?_
                      refine r_iconst (pc := 139) hX 81 rfl ?_
                      refine r_istore (ls' := [(2, 178), (0, sd), (0, sm), (0, x), (0, l), (0, r134), (0, 0)]) (pc := 140) hX 82 rfl (by decide) rfl ?_
                      have L142 : ∀ (n142 : Nat) (d c : Int) , (0 ≤ c ∧ c ≤ 5 ∧ 0 ≤ d ∧ d ≤ 11) → (d + opF (v124 180) l c.toNat = r134) → (5 - c).toNat < n142 → wp g X F_m_draws 0 0 142 [(2, 178), (0, sd), (0, sm), (0, x), (0, l), (0, d), (0, c)] [] v134 ρ Z := by
                        intro n142
                        induction n142 with
                        | zero => intro d c ic id hme142; exact absurd hme142 (Nat.not_lt_zero _)
                        | succ n142 ih142 =>
                          intro d c ic id hme142
                          have hc5 : c ≤ 4 := by
                            by_cases e : c = 5
                            · subst e
                              have h12 := opF_5 hSInv_124 il2.1 il2.2
                              have id2 : d + opF (v124 180) l 5 = r134 := id
                              omega
                            · omega
                          refine r_iload (pc := 142) hX 83 rfl rfl ?_
                          refine t_getR (pc := 144) hX 84 rfl rfl rfl fl_X12_33 rfl hG.1 (a_s hG).1 ?_
                          refine r_bipush (pc := 148) hX 86 rfl (by decide) ?_
                          refine r_iconst (pc := 150) hX 87 rfl ?_
                          refine r_iload (pc := 151) hX 88 rfl rfl ?_
                          refine r_imul (pc := 153) hX 89 rfl ?_
                          refine r_iadd (pc := 154) hX 90 rfl ?_
                          refine r_iload (pc := 155) hX 91 rfl rfl ?_
                          refine r_iadd (pc := 157) hX 92 rfl ?_
                          refine e_iald (y := (v134 180 ((17 + (5 * l)) + c))) (pc := 158) hX 93 rfl (a_s hG).2.1 (a_s hG).2.2 (by omega) (by omega) (rfl) ?_
                          have hb158 := hSInv_134.c17 l c (by omega) (by omega) (by omega) (by omega)
                          first | refine r_icmp_lt (pc := 159) hX 94 (tgt := 188) rfl (by decide) (⟨by omega, by omega⟩) (⟨by omega, by omega⟩) (fun h159 => ?_) (fun h159 => ?_) | refine r_icmp_lt_any (pc := 159) hX 94 (tgt := 188) rfl (by decide) ?_ ?_
                          · refine r_aload_n (pc := 188) hX 110 rfl rfl ?_
                            refine r_iload (pc := 189) hX 111 rfl rfl ?_
                            refine r_callV (as := [(0, c)]) (st := []) (K := 12) (pc := 191) hX 112 rfl mo_m_coming ml_X12_344 im_m_coming se_m_coming (c_coming g v134 ρ Z hG (c) (hSInv_134) (by omega) (by rw [es134]; exact (hq125.2.1 (by omega)).1) (⟨l, by rw [es134]; exact iz, by omega⟩)) rfl rfl rfl hG.1 (by rw [hRm]; exact ⟨by decide, by decide⟩) (by rw [hRm]; exact ⟨by decide, by decide⟩) (Nat.le_of_ble_eq_true rfl) (fun o191 v191 ρ191 Z191 hq191 _ => ?_)
                            obtain ⟨rfl, rfl, hfr191, rfl, hq191⟩ := hq191
                            show wp g X F_m_draws 0 0 194 [(2, 178), (0, sd), (0, sm), (0, x), (0, l), (0, d), (0, c)] [] v191 ρ Z
                            refine r_goto (pc := 194) hX 113 (tgt := 124) rfl (by decide) ?_
                            refine r_wk (ls' := [(2, 178), (0, sd), (0, sm), (0, x), (0, l), (3, 0), (3, 0)]) ⟨Or.inr rfl, Or.inr rfl, Or.inr rfl, Or.inr rfl, Or.inr rfl, Or.inl rfl, Or.inl rfl, trivial⟩ ?_
                            exact (ih124  v191 ((((hfr124).tr hfr125 (by decide) (by decide)).tr hfr134 (by decide) (by decide)).tr hfr191 (by decide) (by decide)) (hq191.1) (by have := hq191.2.1; rw [es134] at this; exact ir.tr this) (hq191.2.2.2 l (by rw [es134]; exact iz) (by omega)) (by have := hq191.2.2.1; rw [es134] at this; have := (hq125.2.1 (by omega)).1; have := ir 4 (by omega); omega))
                          · refine r_iload (pc := 162) hX 95 rfl rfl ?_
                            refine t_getR (pc := 164) hX 96 rfl rfl rfl fl_X12_33 rfl hG.1 (a_s hG).1 ?_
                            refine r_bipush (pc := 168) hX 98 rfl (by decide) ?_
                            refine r_iconst (pc := 170) hX 99 rfl ?_
                            refine r_iload (pc := 171) hX 100 rfl rfl ?_
                            refine r_imul (pc := 173) hX 101 rfl ?_
                            refine r_iadd (pc := 174) hX 102 rfl ?_
                            refine r_iload (pc := 175) hX 103 rfl rfl ?_
                            refine r_iadd (pc := 177) hX 104 rfl ?_
                            refine e_iald (y := (v134 180 ((17 + (5 * l)) + c))) (pc := 178) hX 105 rfl (a_s hG).2.1 (a_s hG).2.2 (by omega) (by omega) (rfl) ?_
                            have hb178 := hSInv_134.c17 l c (by omega) (by omega) (by omega) (by omega)
                            refine r_isub (pc := 179) hX 106 rfl ?_
                            refine r_istore (ls' := [(2, 178), (0, sd), (0, sm), (0, x), (0, l), (0, (d - (v134 180 ((17 + (5 * l)) + c)))), (0, c)]) (pc := 180) hX 107 rfl (by decide) rfl ?_
                            refine r_iinc (ls' := [(2, 178), (0, sd), (0, sm), (0, x), (0, l), (0, (d - (v134 180 ((17 + (5 * l)) + c)))), (0, (c + 1))]) (pc := 182) hX 108 rfl rfl (by decide) rfl ?_
                            refine r_goto (pc := 185) hX 109 (tgt := 142) rfl (by decide) ?_
                            exact (ih142 (d - (v134 180 ((17 + (5 * l)) + c))) (c + 1) (by omega) (by
          rw [opF_s (by omega)]
          have e9 : v134 180 (17 + 5 * l + c) = v124 180 (17 + 5 * l + c) := by rw [es134]
          omega) (by omega))
                      exact (L142 _ r134 0 (by omega) (by show r134 + 0 = r134; omega) (Nat.lt_succ_self _))
                exact (L124 _  v56 ((((Fr.rf).fld (k := 46) (by decide)).tr hfr6 (by decide) (by decide)).tr hfr56 (by decide) (by decide)) (hSInv_56) (by rw [es56]; exact RdEq.rf) (by rw [es56]; exact ⟨by omega, hld.2.2 l (by omega) hlt, fun i a b => wt_inv hS (by omega) (by omega) (v 180 35).toNat (by omega) (by rw [← hq6 l (by omega) hlt]; omega) i a (by omega)⟩) (Nat.lt_succ_self _))
              · refine r_iload_n (pc := 89) hX 54 rfl rfl ?_
                refine t_getR (pc := 90) hX 55 rfl rfl rfl fl_X12_62 rfl hG.1 (a_weight hG).1 ?_
                refine r_iload (pc := 94) hX 57 rfl rfl ?_
                refine e_lald (y := (v56 189 l)) (pc := 96) hX 58 rfl (a_weight hG).2.1 (a_weight hG).2.2 (by omega) (by omega) (rfl) ?_
                refine r_lconst (pc := 97) hX 59 rfl ?_
                show wp g X F_m_draws 0 0 98 [(2, 178), (0, sd), (0, sm), (0, x), (0, l), (3, 0), (3, 0)] [(1, 0), (1, (v56 189 l)), (0, x)] v56 ρ Z
                refine r_lcmp (pc := 98) hX 60 rfl (⟨by omega, by omega⟩) (⟨by omega, by omega⟩) ?_
                refine r_if_ne (pc := 99) hX 61 (tgt := 106) rfl (by decide) (cmpI_in _ _) (fun h99 => ?_) (fun h99 => ?_)
                · rw [Ne, cmpI_eq] at h99
                  refine t_getR (pc := 106) hX 64 rfl rfl rfl fl_X12_33 rfl hG.1 (a_s hG).1 ?_
                  refine r_bipush (pc := 110) hX 66 rfl (by decide) ?_
                  refine r_iload (pc := 112) hX 67 rfl rfl ?_
                  refine r_iadd (pc := 114) hX 68 rfl ?_
                  refine e_iald (y := (v56 180 (14 + l))) (pc := 115) hX 69 rfl (a_s hG).2.1 (a_s hG).2.2 (by omega) (by omega) (rfl) ?_
                  have hb115 := hSInv_56.c14 l (by omega) (by omega)
                  refine r_isub (pc := 116) hX 70 rfl ?_
                  refine r_istore_n (ls' := [(2, 178), (0, sd), (0, sm), (0, (x - (v56 180 (14 + l)))), (0, l), (3, 0), (3, 0)]) (pc := 117) hX 71 rfl (by decide) rfl ?_
                  refine r_iinc (ls' := [(2, 178), (0, sd), (0, sm), (0, (x - (v56 180 (14 + l)))), (0, (l + 1)), (3, 0), (3, 0)]) (pc := 118) hX 72 rfl rfl (by decide) rfl ?_
                  refine r_goto (pc := 121) hX 73 (tgt := 63) rfl (by decide) ?_
                  exact (ih63 (x - (v56 180 (14 + l))) (l + 1) (by omega) (by omega) (by first | (exfalso; omega) | (rw [hcs, if_neg (by omega)]; omega) | (rw [hcs, if_pos (by omega)]; omega)) (by omega))
                · rw [Ne, cmpI_eq] at h99
                  refine r_iconst (pc := 102) hX 62 rfl ?_
                  refine r_goto (pc := 103) hX 63 (tgt := 116) rfl (by decide) ?_
                  refine r_isub (pc := 116) hX 70 rfl ?_
                  refine r_istore_n (ls' := [(2, 178), (0, sd), (0, sm), (0, (x - 0)), (0, l), (3, 0), (3, 0)]) (pc := 117) hX 71 rfl (by decide) rfl ?_
                  refine r_iinc (ls' := [(2, 178), (0, sd), (0, sm), (0, (x - 0)), (0, (l + 1)), (3, 0), (3, 0)]) (pc := 118) hX 72 rfl rfl (by decide) rfl ?_
                  refine r_goto (pc := 121) hX 73 (tgt := 63) rfl (by decide) ?_
                  exact (ih63 (x - 0) (l + 1) (by omega) (by omega) (by first | (exfalso; omega) | (rw [hcs, if_neg (by omega)]; omega) | (rw [hcs, if_pos (by omega)]; omega)) (by omega))
        exact (L63 _ r56 0 (by omega) (by omega) (by show r56 + 0 = r56; omega) (Nat.lt_succ_self _))
      · refine r_iload_n (pc := 21) hX 13 rfl rfl ?_
        refine t_getR (pc := 22) hX 14 rfl rfl rfl fl_X12_62 rfl hG.1 (a_weight hG).1 ?_
        refine r_iload_n (pc := 26) hX 16 rfl rfl ?_
        refine e_lald (y := (v6 189 l)) (pc := 27) hX 17 rfl (a_weight hG).2.1 (a_weight hG).2.2 (by omega) (by omega) (rfl) ?_
        have hwl := wt_in hS (by omega) hq6 (l := l) (by omega) (by omega)
        refine r_lconst (pc := 28) hX 18 rfl ?_
        show wp g X F_m_draws 0 0 29 [(2, 178), (0, sd), (0, sm), (0, l), (3, 0), (3, 0), (3, 0)] [(1, 0), (1, (v6 189 l)), (0, sm)] v6 ρ Z
        refine r_lcmp (pc := 29) hX 19 rfl (⟨by omega, by omega⟩) (⟨by omega, by omega⟩) ?_
        refine r_if_le (pc := 30) hX 20 (tgt := 45) rfl (by decide) (cmpI_in _ _) (fun h30 => ?_) (fun h30 => ?_)
        · rw [← Int.not_lt, cmpI_gt] at h30
          refine r_iconst (pc := 45) hX 28 rfl ?_
          refine r_iadd (pc := 46) hX 29 rfl ?_
          refine r_istore_n (ls' := [(2, 178), (0, sd), (0, (sm + 0)), (0, l), (3, 0), (3, 0), (3, 0)]) (pc := 47) hX 30 rfl (by decide) rfl ?_
          refine r_iinc (ls' := [(2, 178), (0, sd), (0, (sm + 0)), (0, (l + 1)), (3, 0), (3, 0), (3, 0)]) (pc := 48) hX 31 rfl rfl (by decide) rfl ?_
          refine r_goto (pc := 51) hX 32 (tgt := 13) rfl (by decide) ?_
          exact (ih13 (sm + 0) (l + 1) (by omega) (by first | (rw [csF_s (by omega), if_pos (by omega), ← is, es6]) | (rw [csF_s (by omega), if_neg (by omega), ← is])) (by omega))
        · rw [← Int.not_lt, cmpI_gt] at h30
          refine t_getR (pc := 33) hX 21 rfl rfl rfl fl_X12_33 rfl hG.1 (a_s hG).1 ?_
          refine r_bipush (pc := 37) hX 23 rfl (by decide) ?_
          refine r_iload_n (pc := 39) hX 24 rfl rfl ?_
          refine r_iadd (pc := 40) hX 25 rfl ?_
          refine e_iald (y := (v6 180 (14 + l))) (pc := 41) hX 26 rfl (a_s hG).2.1 (a_s hG).2.2 (by omega) (by omega) (rfl) ?_
          have hb41 := hSInv_6.c14 l (by omega) (by omega)
          refine r_goto (pc := 42) hX 27 (tgt := 46) rfl (by decide) ?_
          refine r_iadd (pc := 46) hX 29 rfl ?_
          refine r_istore_n (ls' := [(2, 178), (0, sd), (0, (sm + (v6 180 (14 + l)))), (0, l), (3, 0), (3, 0), (3, 0)]) (pc := 47) hX 30 rfl (by decide) rfl ?_
          refine r_iinc (ls' := [(2, 178), (0, sd), (0, (sm + (v6 180 (14 + l)))), (0, (l + 1)), (3, 0), (3, 0), (3, 0)]) (pc := 48) hX 31 rfl rfl (by decide) rfl ?_
          refine r_goto (pc := 51) hX 32 (tgt := 13) rfl (by decide) ?_
          exact (ih13 (sm + (v6 180 (14 + l))) (l + 1) (by omega) (by first | (rw [csF_s (by omega), if_pos (by omega), ← is, es6]) | (rw [csF_s (by omega), if_neg (by omega), ← is])) (by omega))
  exact (L13 _ 0 0 (by omega) (rfl) (Nat.lt_succ_self _))
set_option maxHeartbeats 4000000 in
set_option maxRecDepth 100000 in
theorem c_drawn (g : Gp) (v ρ : Mv) (Z : Mz) (hG : GM ρ Z) (sd : Int) (hS : SInv (v 180)) (hU : UInv (v 180) (v 187) (v 178 25)) : Ok g 5 0 0 F_m_drawn [(2, 178), (0, sd)] v ρ Z (fun o v' ρ' Z' => ρ = ρ' ∧ Z = Z' ∧ Fr [180, 185, 186, 187, 189] [0, 25, 46] v v' ∧ ∃ r : Int, o = some (0, r) ∧ (SRU v v')) := by
  refine Ok.of mo_m_drawn (Nat.le_of_ble_eq_true rfl) ?_
  intro X hX hRm hxn hQ
  show wp g X F_m_drawn 0 0 0 [(2, 178), (0, sd)] [] v ρ Z
  have hb1 := hS.c1
  refine r_aload_n (pc := 0) hX 0 rfl rfl ?_
  refine r_iconst (pc := 1) hX 1 rfl ?_
  refine r_putI (pc := 2) hX 2 rfl fl_X12_1 rfl (fun _ h => by cases h; rfl) hG.1 (by decide) ?_
  refine r_aload_n (pc := 5) hX 3 rfl rfl ?_
  refine r_callV (as := []) (st := []) (K := 12) (pc := 6) hX 4 rfl mo_m_isOver ml_X12_310 im_m_isOver se_m_isOver (c_isOver g (up v 178 0 0) ρ Z hG  (by rw [up_f (by decide)]; exact hS)) rfl rfl rfl hG.1 (by rw [hRm]; exact ⟨by decide, by decide⟩) (by rw [hRm]; exact ⟨by decide, by decide⟩) (Nat.le_of_ble_eq_true rfl) (fun o6 v6 ρ6 Z6 hq6 _ => ?_)
  obtain ⟨rfl, rfl, hfr6, r6, rfl, hq6⟩ := hq6
  try simp only [up_f (show (180 : Int) ≠ 178 by decide)] at hq6
  have hSInv_6 : SInv (v6 180) := by rw [hfr6.1 180 (by decide) (by decide), up_f (by decide)]; exact hS
  have hk6_25 : v6 178 25 = (v 178 25) := (hfr6.2 25 (by decide)).trans ((up_k (by decide)).trans (rfl))
  show wp g X F_m_drawn 0 0 9 [(2, 178), (0, sd)] [(0, r6)] v6 ρ Z
  have es6 : v6 180 = v 180 := by rw [hfr6.1 180 (by decide) (by decide), up_f (by decide)]
  have eu6 : v6 187 = v 187 := by rw [hfr6.1 187 (by decide) (by decide), up_f (by decide)]
  first | refine r_if_ne (pc := 9) hX 5 (tgt := 21) rfl (by decide) (⟨by omega, by omega⟩) (fun h9 => ?_) (fun h9 => ?_) | refine r_if_ne_any (pc := 9) hX 5 (tgt := 21) rfl (by decide) ?_ ?_
  · refine r_bipush (pc := 21) hX 11 rfl (by decide) ?_
    exact r_iret (pc := 23) hX 12 hQ rfl rfl (Nat.le_refl 0) (Nat.le_refl 0) ⟨rfl, rfl, ((Fr.rf).fld (k := 0) (by decide)).tr hfr6 (by decide) (by decide), (-2), rfl, (SRU.same hS hU es6 eu6 hk6_25)⟩
  · refine t_getR (pc := 12) hX 6 rfl rfl rfl fl_X12_33 rfl hG.1 (a_s hG).1 ?_
    refine r_iconst (pc := 16) hX 8 rfl ?_
    refine e_iald (y := (v6 180 1)) (pc := 17) hX 9 rfl (a_s hG).2.1 (a_s hG).2.2 (by omega) (by omega) (rfl) ?_
    have hb17 := hSInv_6.c1
    first | refine r_if_ne (pc := 18) hX 10 (tgt := 24) rfl (by decide) (⟨by omega, by omega⟩) (fun h18 => ?_) (fun h18 => ?_) | refine r_if_ne_any (pc := 18) hX 10 (tgt := 24) rfl (by decide) ?_ ?_
    · refine r_aload_n (pc := 24) hX 13 rfl rfl ?_
      refine r_callV (as := []) (st := []) (K := 12) (pc := 25) hX 14 rfl mo_m_keep ml_X12_328 im_m_keep se_m_keep (c_keep g v6 ρ Z hG  (hSInv_6) (by rw [es6, eu6, hk6_25]; exact hU)) rfl rfl rfl hG.1 (by rw [hRm]; exact ⟨by decide, by decide⟩) (by rw [hRm]; exact ⟨by decide, by decide⟩) (Nat.le_of_ble_eq_true rfl) (fun o25 v25 ρ25 Z25 hq25 _ => ?_)
      obtain ⟨rfl, rfl, hfr25, rfl, hq25⟩ := hq25
      have hSInv_25 : SInv (v25 180) := by rw [hfr25.1 180 (by decide) (by decide)]; exact hSInv_6
      show wp g X F_m_drawn 0 0 28 [(2, 178), (0, sd)] [] v25 ρ Z
      have es25 : v25 180 = v 180 := by rw [hfr25.1 180 (by decide) (by decide), es6]
      have hU25 : UInv (v25 180) (v25 187) (v25 178 25) := by rw [es25]; rw [es6] at hq25; exact hq25
      refine r_aload_n (pc := 28) hX 15 rfl rfl ?_
      refine r_iload_n (pc := 29) hX 16 rfl rfl ?_
      refine r_callV (as := [(0, sd)]) (st := []) (K := 12) (pc := 30) hX 17 rfl mo_m_draws ml_X12_468 im_m_draws se_m_draws (c_draws g v25 ρ Z hG (sd) (hSInv_25) (by rw [es25]; rw [es6] at *; omega)) rfl rfl rfl hG.1 (by rw [hRm]; exact ⟨by decide, by decide⟩) (by rw [hRm]; exact ⟨by decide, by decide⟩) (Nat.le_of_ble_eq_true rfl) (fun o30 v30 ρ30 Z30 hq30 _ => ?_)
      obtain ⟨rfl, rfl, hfr30, rfl, hq30⟩ := hq30
      have hk30_25 : v30 178 25 = (v25 178 25) := (hfr30.2 25 (by decide)).trans (rfl)
      show wp g X F_m_drawn 0 0 33 [(2, 178), (0, sd)] [] v30 ρ Z
      refine r_aload_n (pc := 33) hX 18 rfl rfl ?_
      refine r_callV (as := []) (st := []) (K := 12) (pc := 34) hX 19 rfl mo_m_winner ml_X12_316 im_m_winner se_m_winner (c_winner g v30 ρ Z hG  (hq30.1)) rfl rfl rfl hG.1 (by rw [hRm]; exact ⟨by decide, by decide⟩) (by rw [hRm]; exact ⟨by decide, by decide⟩) (Nat.le_of_ble_eq_true rfl) (fun o34 v34 ρ34 Z34 hq34 _ => ?_)
      obtain ⟨rfl, rfl, hfr34, r34, rfl, hq34⟩ := hq34
      have hk34_25 : v34 178 25 = (v30 178 25) := (hfr34.2 25 (by decide)).trans (rfl)
      show wp g X F_m_drawn 0 0 37 [(2, 178), (0, sd)] [(0, r34)] v34 ρ Z
      exact r_iret (pc := 37) hX 20 hQ rfl rfl (Nat.le_refl 0) (Nat.le_refl 0) ⟨rfl, rfl, (((((Fr.rf).fld (k := 0) (by decide)).tr hfr6 (by decide) (by decide)).tr hfr25 (by decide) (by decide)).tr hfr30 (by decide) (by decide)).tr hfr34 (by decide) (by decide), r34, rfl, (by
        unfold SRU; rw [hfr34.1 180 (by decide) (by decide), hfr34.1 187 (by decide) (by decide), hfr30.1 187 (by decide) (by decide), hfr34.2 25 (by decide), hfr30.2 25 (by decide)]; exact ⟨hq30.1, by have := hq30.2; rw [es25] at this; exact this, hU25.rd hq30.2⟩)⟩
    · refine r_bipush (pc := 21) hX 11 rfl (by decide) ?_
      exact r_iret (pc := 23) hX 12 hQ rfl rfl (Nat.le_refl 0) (Nat.le_refl 0) ⟨rfl, rfl, ((Fr.rf).fld (k := 0) (by decide)).tr hfr6 (by decide) (by decide), (-2), rfl, (SRU.same hS hU es6 eu6 hk6_25)⟩
set_option maxHeartbeats 4000000 in
set_option maxRecDepth 100000 in
theorem c_wins (g : Gp) (v ρ : Mv) (Z : Mz) (hG : GM ρ Z) (q n sd : Int) (hS : SInv (v 180)) (hq : inR q) (hn : inR n) : Ok g 5 0 0 F_m_wins [(2, 178), (0, q), (0, n), (0, sd)] v ρ Z (fun o v' ρ' Z' => ρ = ρ' ∧ Z = Z' ∧ Fr [180, 185, 186, 188, 189] [0, 46] v v' ∧ ∃ r : Int, o = some (0, r) ∧ (v' 180 = v 180)) := by
  refine Ok.of mo_m_wins (Nat.le_of_ble_eq_true rfl) ?_
  intro X hX hRm hxn hQ
  show wp g X F_m_wins 0 0 0 [(2, 178), (0, q), (0, n), (0, sd), (3, 0), (3, 0)] [] v ρ Z
  have hb1 := hS.c1
  have hb2 := hS.c2
  refine r_aload_n (pc := 0) hX 0 rfl rfl ?_
  refine r_iconst (pc := 1) hX 1 rfl ?_
  refine r_putI (pc := 2) hX 2 rfl fl_X12_1 rfl (fun _ h => by cases h; rfl) hG.1 (by decide) ?_
  refine r_aload_n (pc := 5) hX 3 rfl rfl ?_
  refine r_iload_n (pc := 6) hX 4 rfl rfl ?_
  refine r_callV (as := [(0, q)]) (st := []) (K := 12) (pc := 7) hX 5 rfl mo_m_isPlayer ml_X12_294 im_m_isPlayer se_m_isPlayer (c_isPlayer g (up v 178 0 0) ρ Z hG (q) (by rw [up_f (by decide)]; exact hS) (by omega)) rfl rfl rfl hG.1 (by rw [hRm]; exact ⟨by decide, by decide⟩) (by rw [hRm]; exact ⟨by decide, by decide⟩) (Nat.le_of_ble_eq_true rfl) (fun o7 v7 ρ7 Z7 hq7 _ => ?_)
  obtain ⟨rfl, rfl, rfl, r7, rfl, hq7⟩ := hq7
  try simp only [up_f (show (180 : Int) ≠ 178 by decide)] at hq7
  show wp g X F_m_wins 0 0 10 [(2, 178), (0, q), (0, n), (0, sd), (3, 0), (3, 0)] [(0, r7)] (up v 178 0 0) ρ Z
  first | refine r_if_eq (pc := 10) hX 6 (tgt := 39) rfl (by decide) (⟨by omega, by omega⟩) (fun h10 => ?_) (fun h10 => ?_) | refine r_if_eq_any (pc := 10) hX 6 (tgt := 39) rfl (by decide) ?_ ?_
  · refine r_iconst (pc := 39) hX 20 rfl ?_
    exact r_iret (pc := 40) hX 21 hQ rfl rfl (Nat.le_refl 0) (Nat.le_refl 0) ⟨rfl, rfl, (Fr.rf).fld (k := 0) (by decide), (-1), rfl, (by first | exact es24 | exact up_f (by decide))⟩
  · refine r_iload_n (pc := 13) hX 7 rfl rfl ?_
    refine r_iconst (pc := 14) hX 8 rfl ?_
    refine r_bipush (pc := 15) hX 9 rfl (by decide) ?_
    refine r_callS (as := [(0, n), (0, 1), (0, 60)]) (st := []) (pc := 17) hX 10 rfl mo_m_isIn ml_X12_222 stt_m_isIn (c_isIn g (up v 178 0 0) ρ Z hG (n) (1) (60) (by omega) (by omega) (by omega)) rfl (by rw [hRm]; exact ⟨by decide, by decide⟩) (by rw [hRm]; exact ⟨by decide, by decide⟩) (Nat.le_of_ble_eq_true rfl) (fun o17 v17 ρ17 Z17 hq17 _ => ?_)
    obtain ⟨rfl, rfl, rfl, r17, rfl, hq17⟩ := hq17
    try simp only [up_f (show (180 : Int) ≠ 178 by decide)] at hq17
    show wp g X F_m_wins 0 0 20 [(2, 178), (0, q), (0, n), (0, sd), (3, 0), (3, 0)] [(0, r17)] (up v 178 0 0) ρ Z
    first | refine r_if_eq (pc := 20) hX 11 (tgt := 39) rfl (by decide) (⟨by omega, by omega⟩) (fun h20 => ?_) (fun h20 => ?_) | refine r_if_eq_any (pc := 20) hX 11 (tgt := 39) rfl (by decide) ?_ ?_
    · refine r_iconst (pc := 39) hX 20 rfl ?_
      exact r_iret (pc := 40) hX 21 hQ rfl rfl (Nat.le_refl 0) (Nat.le_refl 0) ⟨rfl, rfl, (Fr.rf).fld (k := 0) (by decide), (-1), rfl, (by first | exact es24 | exact up_f (by decide))⟩
    · refine r_aload_n (pc := 23) hX 12 rfl rfl ?_
      refine r_callV (as := []) (st := []) (K := 12) (pc := 24) hX 13 rfl mo_m_isOver ml_X12_310 im_m_isOver se_m_isOver (c_isOver g (up v 178 0 0) ρ Z hG  (by rw [up_f (by decide)]; exact hS)) rfl rfl rfl hG.1 (by rw [hRm]; exact ⟨by decide, by decide⟩) (by rw [hRm]; exact ⟨by decide, by decide⟩) (Nat.le_of_ble_eq_true rfl) (fun o24 v24 ρ24 Z24 hq24 _ => ?_)
      obtain ⟨rfl, rfl, hfr24, r24, rfl, hq24⟩ := hq24
      try simp only [up_f (show (180 : Int) ≠ 178 by decide)] at hq24
      have hSInv_24 : SInv (v24 180) := by rw [hfr24.1 180 (by decide) (by decide), up_f (by decide)]; exact hS
      show wp g X F_m_wins 0 0 27 [(2, 178), (0, q), (0, n), (0, sd), (3, 0), (3, 0)] [(0, r24)] v24 ρ Z
      have es24 : v24 180 = v 180 := by rw [hfr24.1 180 (by decide) (by decide), up_f (by decide)]
      first | refine r_if_ne (pc := 27) hX 14 (tgt := 39) rfl (by decide) (⟨by omega, by omega⟩) (fun h27 => ?_) (fun h27 => ?_) | refine r_if_ne_any (pc := 27) hX 14 (tgt := 39) rfl (by decide) ?_ ?_
      · refine r_iconst (pc := 39) hX 20 rfl ?_
        exact r_iret (pc := 40) hX 21 hQ rfl rfl (Nat.le_refl 0) (Nat.le_refl 0) ⟨rfl, rfl, ((Fr.rf).fld (k := 0) (by decide)).tr hfr24 (by decide) (by decide), (-1), rfl, (by first | exact es24 | exact up_f (by decide))⟩
      · refine t_getR (pc := 30) hX 15 rfl rfl rfl fl_X12_33 rfl hG.1 (a_s hG).1 ?_
        refine r_iconst (pc := 34) hX 17 rfl ?_
        refine e_iald (y := (v24 180 1)) (pc := 35) hX 18 rfl (a_s hG).2.1 (a_s hG).2.2 (by omega) (by omega) (rfl) ?_
        have hb35 := hSInv_24.c1
        first | refine r_if_ne (pc := 36) hX 19 (tgt := 41) rfl (by decide) (⟨by omega, by omega⟩) (fun h36 => ?_) (fun h36 => ?_) | refine r_if_ne_any (pc := 36) hX 19 (tgt := 41) rfl (by decide) ?_ ?_
        · refine r_aload_n (pc := 41) hX 22 rfl rfl ?_
          refine r_callV (as := []) (st := []) (K := 12) (pc := 42) hX 23 rfl mo_m_tries ml_X12_471 im_m_tries se_m_tries (c_tries g v24 ρ Z hG  ) rfl rfl rfl hG.1 (by rw [hRm]; exact ⟨by decide, by decide⟩) (by rw [hRm]; exact ⟨by decide, by decide⟩) (Nat.le_of_ble_eq_true rfl) (fun o42 v42 ρ42 Z42 hq42 _ => ?_)
          obtain ⟨rfl, rfl, hfr42, rfl, hq42⟩ := hq42
          have hSInv_42 : SInv (v42 180) := by rw [hfr42.1 180 (by decide) (by decide)]; exact hSInv_24
          show wp g X F_m_wins 0 0 45 [(2, 178), (0, q), (0, n), (0, sd), (3, 0), (3, 0)] [] v42 ρ Z
          refine r_iconst (pc := 45) hX 24 rfl ?_
          refine r_istore (ls' := [(2, 178), (0, q), (0, n), (0, sd), (0, 0), (3, 0)]) (pc := 46) hX 25 rfl (by decide) rfl ?_
          refine r_iconst (pc := 48) hX 26 rfl ?_
          refine r_istore (ls' := [(2, 178), (0, q), (0, n), (0, sd), (0, 0), (0, 0)]) (pc := 49) hX 27 rfl (by decide) rfl ?_
          have L51 : ∀ (n51 : Nat) (w i : Int) (v51 : Mv) , (Fr [180, 185, 186, 188, 189] [0, 46] v v51) → (SInv (v51 180)) → (0 ≤ i ∧ i ≤ n) → (v51 180 = v 180) → (∀ k, 0 ≤ k → k < 22 → v51 188 k = v 180 (35 + k)) → (n - i).toNat < n51 → wp g X F_m_wins 0 0 51 [(2, 178), (0, q), (0, n), (0, sd), (0, w), (0, i)] [] v51 ρ Z := by
            intro n51
            induction n51 with
            | zero => intro w i v51 hfr51 hSInv_51 ii e180 ib hme51; exact absurd hme51 (Nat.not_lt_zero _)
            | succ n51 ih51 =>
              intro w i v51 hfr51 hSInv_51 ii e180 ib hme51
              refine r_iload (pc := 51) hX 28 rfl rfl ?_
              refine r_iload_n (pc := 53) hX 29 rfl rfl ?_
              first | refine r_icmp_ge (pc := 54) hX 30 (tgt := 93) rfl (by decide) (⟨by omega, by omega⟩) (⟨by omega, by omega⟩) (fun h54 => ?_) (fun h54 => ?_) | refine r_icmp_ge_any (pc := 54) hX 30 (tgt := 93) rfl (by decide) ?_ ?_
              · refine r_iload (pc := 93) hX 50 rfl rfl ?_
                exact r_iret (pc := 95) hX 51 hQ rfl rfl (Nat.le_refl 0) (Nat.le_refl 0) ⟨rfl, rfl, hfr51, w, rfl, (e180)⟩
              · refine r_aload_n (pc := 57) hX 31 rfl rfl ?_
                refine r_iload_n (pc := 58) hX 32 rfl rfl ?_
                refine r_iload (pc := 59) hX 33 rfl rfl ?_
                refine r_iadd (pc := 61) hX 34 rfl ?_
                refine r_callV (as := [(0, (sd + i))]) (st := []) (K := 12) (pc := 62) hX 35 rfl mo_m_draws ml_X12_468 im_m_draws se_m_draws (c_draws g v51 ρ Z hG ((sd + i)) (hSInv_51) (by rw [e180]; rw [es24] at *; omega)) rfl rfl rfl hG.1 (by rw [hRm]; exact ⟨by decide, by decide⟩) (by rw [hRm]; exact ⟨by decide, by decide⟩) (Nat.le_of_ble_eq_true rfl) (fun o62 v62 ρ62 Z62 hq62 _ => ?_)
                obtain ⟨rfl, rfl, hfr62, rfl, hq62⟩ := hq62
                show wp g X F_m_wins 0 0 65 [(2, 178), (0, q), (0, n), (0, sd), (0, w), (0, i)] [] v62 ρ Z
                refine r_iload (pc := 65) hX 36 rfl rfl ?_
                refine r_aload_n (pc := 67) hX 37 rfl rfl ?_
                refine r_callV (as := []) (st := [(0, w)]) (K := 12) (pc := 68) hX 38 rfl mo_m_winner ml_X12_316 im_m_winner se_m_winner (c_winner g v62 ρ Z hG  (hq62.1)) rfl rfl rfl hG.1 (by rw [hRm]; exact ⟨by decide, by decide⟩) (by rw [hRm]; exact ⟨by decide, by decide⟩) (Nat.le_of_ble_eq_true rfl) (fun o68 v68 ρ68 Z68 hq68 _ => ?_)
                obtain ⟨rfl, rfl, hfr68, r68, rfl, hq68⟩ := hq68
                show wp g X F_m_wins 0 0 71 [(2, 178), (0, q), (0, n), (0, sd), (0, w), (0, i)] [(0, r68), (0, w)] v68 ρ Z
                have es68 : v68 180 = v62 180 := hfr68.1 180 (by decide) (by decide)
                have eb68 : v68 188 = v51 188 := (hfr68.1 188 (by decide) (by decide)).trans (hfr62.1 188 (by decide) (by decide))
                refine r_iload_n (pc := 71) hX 39 rfl rfl ?_
                first | refine r_icmp_ne (pc := 72) hX 40 (tgt := 79) rfl (by decide) (⟨by omega, by omega⟩) (⟨by omega, by omega⟩) (fun h72 => ?_) (fun h72 => ?_) | refine r_icmp_ne_any (pc := 72) hX 40 (tgt := 79) rfl (by decide) ?_ ?_
                · refine r_iconst (pc := 79) hX 43 rfl ?_
                  refine r_iadd (pc := 80) hX 44 rfl ?_
                  refine r_istore (ls' := [(2, 178), (0, q), (0, n), (0, sd), (0, (w + 0)), (0, i)]) (pc := 81) hX 45 rfl (by decide) rfl ?_
                  refine r_aload_n (pc := 83) hX 46 rfl rfl ?_
                  refine r_callV (as := []) (st := []) (K := 12) (pc := 84) hX 47 rfl mo_m_back ml_X12_474 im_m_back se_m_back (c_back g v68 ρ Z hG  ) rfl rfl rfl hG.1 (by rw [hRm]; exact ⟨by decide, by decide⟩) (by rw [hRm]; exact ⟨by decide, by decide⟩) (Nat.le_of_ble_eq_true rfl) (fun o84 v84 ρ84 Z84 hq84 _ => ?_)
                  obtain ⟨rfl, rfl, hfr84, rfl, hq84⟩ := hq84
                  show wp g X F_m_wins 0 0 87 [(2, 178), (0, q), (0, n), (0, sd), (0, (w + 0)), (0, i)] [] v84 ρ Z
                  have eb84 : v84 188 = v51 188 := (hfr84.1 188 (by decide) (by decide)).trans eb68
                  have e84 : v84 180 = v 180 := by
                    funext k
                    by_cases e : 35 ≤ k ∧ k < 57
                    · have z := hq84.2 (k - 35) (by omega) (by omega)
                      rw [eb68, ib _ (by omega) (by omega), show 35 + (k - 35) = k by omega] at z
                      exact z
                    · rw [hq84.1 k e, es68, hq62.2 k e, e180]
                  refine r_iinc (ls' := [(2, 178), (0, q), (0, n), (0, sd), (0, (w + 0)), (0, (i + 1))]) (pc := 87) hX 48 rfl rfl (by decide) rfl ?_
                  refine r_goto (pc := 90) hX 49 (tgt := 51) rfl (by decide) ?_
                  exact (ih51 (w + 0) (i + 1) v84 ((((hfr51).tr hfr62 (by decide) (by decide)).tr hfr68 (by decide) (by decide)).tr hfr84 (by decide) (by decide)) (by rw [e84]; exact hS) (by omega) (e84) (by rw [eb84]; exact ib) (by omega))
                · refine r_iconst (pc := 75) hX 41 rfl ?_
                  refine r_goto (pc := 76) hX 42 (tgt := 80) rfl (by decide) ?_
                  refine r_iadd (pc := 80) hX 44 rfl ?_
                  refine r_istore (ls' := [(2, 178), (0, q), (0, n), (0, sd), (0, (w + 1)), (0, i)]) (pc := 81) hX 45 rfl (by decide) rfl ?_
                  refine r_aload_n (pc := 83) hX 46 rfl rfl ?_
                  refine r_callV (as := []) (st := []) (K := 12) (pc := 84) hX 47 rfl mo_m_back ml_X12_474 im_m_back se_m_back (c_back g v68 ρ Z hG  ) rfl rfl rfl hG.1 (by rw [hRm]; exact ⟨by decide, by decide⟩) (by rw [hRm]; exact ⟨by decide, by decide⟩) (Nat.le_of_ble_eq_true rfl) (fun o84 v84 ρ84 Z84 hq84 _ => ?_)
                  obtain ⟨rfl, rfl, hfr84, rfl, hq84⟩ := hq84
                  show wp g X F_m_wins 0 0 87 [(2, 178), (0, q), (0, n), (0, sd), (0, (w + 1)), (0, i)] [] v84 ρ Z
                  have eb84 : v84 188 = v51 188 := (hfr84.1 188 (by decide) (by decide)).trans eb68
                  have e84 : v84 180 = v 180 := by
                    funext k
                    by_cases e : 35 ≤ k ∧ k < 57
                    · have z := hq84.2 (k - 35) (by omega) (by omega)
                      rw [eb68, ib _ (by omega) (by omega), show 35 + (k - 35) = k by omega] at z
                      exact z
                    · rw [hq84.1 k e, es68, hq62.2 k e, e180]
                  refine r_iinc (ls' := [(2, 178), (0, q), (0, n), (0, sd), (0, (w + 1)), (0, (i + 1))]) (pc := 87) hX 48 rfl rfl (by decide) rfl ?_
                  refine r_goto (pc := 90) hX 49 (tgt := 51) rfl (by decide) ?_
                  exact (ih51 (w + 1) (i + 1) v84 ((((hfr51).tr hfr62 (by decide) (by decide)).tr hfr68 (by decide) (by decide)).tr hfr84 (by decide) (by decide)) (by rw [e84]; exact hS) (by omega) (e84) (by rw [eb84]; exact ib) (by omega))
          exact (L51 _ 0 0 v42 ((((Fr.rf).fld (k := 0) (by decide)).tr hfr24 (by decide) (by decide)).tr hfr42 (by decide) (by decide)) (by first | exact hSInv_42) (by omega) (by rw [hfr42.1 180 (by decide) (by decide), es24]) (by rw [es24] at hq42; exact hq42) (Nat.lt_succ_self _))
        · refine r_iconst (pc := 39) hX 20 rfl ?_
          exact r_iret (pc := 40) hX 21 hQ rfl rfl (Nat.le_refl 0) (Nat.le_refl 0) ⟨rfl, rfl, ((Fr.rf).fld (k := 0) (by decide)).tr hfr24 (by decide) (by decide), (-1), rfl, (by first | exact es24 | exact up_f (by decide))⟩
