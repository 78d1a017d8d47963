set_option maxHeartbeats 4000000 in
set_option maxRecDepth 100000 in
theorem c_road (g : Gp) (v ρ : Mv) (Z : Mz) (hG : GM ρ Z)  (hS : SInv (v 180)) (hU : UInv (v 180) (v 187) (v 178 25)) (hl : 0 ≤ v 178 2 ∧ v 178 2 ≤ 940) (hn : inR (v 178 14) ∧ 0 ≤ v 178 11 ∧ v 178 11 ≤ 4) : Ok g 7 0 0 F_m_road [(2, 178)] v ρ Z (fun o v' ρ' Z' => ρ = ρ' ∧ Z = Z' ∧ Fr [180, 181, 183] [0, 2, 3, 4, 5, 11, 12, 13, 14, 15, 16, 17, 18, 19, 20, 25] v v' ∧ ∃ r : Int, o = some (0, r) ∧ (SInv (v' 180)) ∧ (UInv (v' 180) (v' 187) (v' 178 25)) ∧ (inR (v' 178 14) ∧ 0 ≤ v' 178 11 ∧ v' 178 11 ≤ 4 ∧ v' 178 2 = 0)) := by
  refine Ok.of mo_m_road (Nat.le_of_ble_eq_true rfl) ?_
  intro X hX hRm hxn hQ
  show wp g X F_m_road 0 0 0 [(2, 178), (3, 0)] [] v ρ Z
  refine r_aload_n (pc := 0) hX 0 rfl rfl ?_
  refine r_iconst (pc := 1) hX 1 rfl ?_
  refine r_putI (pc := 2) hX 2 rfl fl_X12_1 rfl (fun _ h => by cases h; rfl) hG.1 (by decide) ?_
  refine r_aload_n (pc := 5) hX 3 rfl rfl ?_
  refine r_sipush (pc := 6) hX 4 rfl (by decide) ?_
  refine r_callV (as := [(0, 900)]) (st := []) (K := 12) (pc := 9) hX 5 rfl mo_m_taken ml_X12_266 im_m_taken se_m_taken (c_taken g (up v 178 0 0) ρ Z hG (900) ) rfl rfl rfl hG.1 (by rw [hRm]; exact ⟨by decide, by decide⟩) (by rw [hRm]; exact ⟨by decide, by decide⟩) (Nat.le_of_ble_eq_true rfl) (fun o9 v9 ρ9 Z9 hq9 _ => ?_)
  obtain ⟨rfl, rfl, hfr9, rfl, hq9⟩ := hq9
  try simp only [up_f (show (180 : Int) ≠ 178 by decide), up_k (show (2 : Int) ≠ 0 by decide)] at hq9
  have hSInv_9 : SInv (v9 180) := by rw [hfr9.1 180 (by decide) (by decide), up_f (by decide)]; exact hS
  have hk9_11 : v9 178 11 = (v 178 11) := (hfr9.2 11 (by decide)).trans ((up_k (by decide)).trans (rfl))
  have hk9_14 : v9 178 14 = (v 178 14) := (hfr9.2 14 (by decide)).trans ((up_k (by decide)).trans (rfl))
  have hk9_25 : v9 178 25 = (v 178 25) := (hfr9.2 25 (by decide)).trans ((up_k (by decide)).trans (rfl))
  show wp g X F_m_road 0 0 12 [(2, 178), (3, 0)] [] v9 ρ Z
  refine r_aload_n (pc := 12) hX 6 rfl rfl ?_
  refine r_iconst (pc := 13) hX 7 rfl ?_
  refine r_putI (pc := 14) hX 8 rfl fl_X12_207 rfl (fun _ h => by cases h; rfl) hG.1 (by decide) ?_
  refine r_aload_n (pc := 17) hX 9 rfl rfl ?_
  refine r_iconst (pc := 18) hX 10 rfl ?_
  refine r_putI (pc := 19) hX 11 rfl fl_X12_269 rfl (fun _ h => by cases h; rfl) hG.1 (by decide) ?_
  refine r_aload_n (pc := 22) hX 12 rfl rfl ?_
  refine r_iconst (pc := 23) hX 13 rfl ?_
  refine r_putI (pc := 24) hX 14 rfl fl_X12_241 rfl (fun _ h => by cases h; rfl) hG.1 (by decide) ?_
  refine r_aload_n (pc := 27) hX 15 rfl rfl ?_
  refine r_callV (as := []) (st := []) (K := 12) (pc := 28) hX 16 rfl mo_m_clears ml_X12_174 im_m_clears se_m_clears (c_clears g (up (up (up v9 178 15 0) 178 19 0) 178 20 0) ρ Z hG  ) rfl rfl rfl hG.1 (by rw [hRm]; exact ⟨by decide, by decide⟩) (by rw [hRm]; exact ⟨by decide, by decide⟩) (Nat.le_of_ble_eq_true rfl) (fun o28 v28 ρ28 Z28 hq28 _ => ?_)
  obtain ⟨rfl, rfl, hfr28, rfl, hq28⟩ := hq28
  try simp only [up_f (show (180 : Int) ≠ 178 by decide)] at hq28
  have hSInv_28 : SInv (v28 180) := by rw [hfr28.1 180 (by decide) (by decide), up_f (by decide), up_f (by decide), up_f (by decide)]; exact hSInv_9
  have hk28_2 : v28 178 2 = (v9 178 2) := (hfr28.2 2 (by decide)).trans ((up_k (by decide)).trans ((up_k (by decide)).trans ((up_k (by decide)).trans (rfl))))
  have hk28_3 : v28 178 3 = (v9 178 3) := (hfr28.2 3 (by decide)).trans ((up_k (by decide)).trans ((up_k (by decide)).trans ((up_k (by decide)).trans (rfl))))
  have hk28_4 : v28 178 4 = (v9 178 4) := (hfr28.2 4 (by decide)).trans ((up_k (by decide)).trans ((up_k (by decide)).trans ((up_k (by decide)).trans (rfl))))
  have hk28_5 : v28 178 5 = (v9 178 5) := (hfr28.2 5 (by decide)).trans ((up_k (by decide)).trans ((up_k (by decide)).trans ((up_k (by decide)).trans (rfl))))
  have hk28_11 : v28 178 11 = (v9 178 11) := (hfr28.2 11 (by decide)).trans ((up_k (by decide)).trans ((up_k (by decide)).trans ((up_k (by decide)).trans (rfl))))
  have hk28_14 : v28 178 14 = (v9 178 14) := (hfr28.2 14 (by decide)).trans ((up_k (by decide)).trans ((up_k (by decide)).trans ((up_k (by decide)).trans (rfl))))
  have hk28_25 : v28 178 25 = (v9 178 25) := (hfr28.2 25 (by decide)).trans ((up_k (by decide)).trans ((up_k (by decide)).trans ((up_k (by decide)).trans (rfl))))
  show wp g X F_m_road 0 0 31 [(2, 178), (3, 0)] [] v28 ρ Z
  refine r_aload_n (pc := 31) hX 17 rfl rfl ?_
  refine r_callV (as := []) (st := []) (K := 12) (pc := 32) hX 18 rfl mo_m_go ml_X12_219 im_m_go se_m_go (c_go g v28 ρ Z hG  (by omega)) rfl rfl rfl hG.1 (by rw [hRm]; exact ⟨by decide, by decide⟩) (by rw [hRm]; exact ⟨by decide, by decide⟩) (Nat.le_of_ble_eq_true rfl) (fun o32 v32 ρ32 Z32 hq32 _ => ?_)
  obtain ⟨rfl, rfl, hfr32, rfl, hq32⟩ := hq32
  have hSInv_32 : SInv (v32 180) := by rw [hfr32.1 180 (by decide) (by decide)]; exact hSInv_28
  have hk32_2 : v32 178 2 = (v28 178 2) := (hfr32.2 2 (by decide)).trans (rfl)
  have hk32_3 : v32 178 3 = (v28 178 3) := (hfr32.2 3 (by decide)).trans (rfl)
  have hk32_5 : v32 178 5 = (v28 178 5) := (hfr32.2 5 (by decide)).trans (rfl)
  have hk32_25 : v32 178 25 = (v28 178 25) := (hfr32.2 25 (by decide)).trans (rfl)
  show wp g X F_m_road 0 0 35 [(2, 178), (3, 0)] [] v32 ρ Z
  have L35 : ∀ (n35 : Nat) (v35 : Mv) , (Fr [180, 181, 183] [0, 2, 3, 4, 5, 11, 12, 13, 14, 15, 16, 17, 18, 19, 20, 25] v v35) → (0 ≤ v35 178 4 ∧ v35 178 4 ≤ v35 178 3 ∧ v35 178 3 ≤ 940 ∧ 0 ≤ v35 178 11 ∧ v35 178 11 ≤ 4 ∧ inR (v35 178 5) ∧ inR (v35 178 14)) → (HInv (v35 181)) → (v35 180 = v 180) → (v35 178 25 = v 178 25) → (v35 178 2 = 0) → (940 - v35 178 4).toNat < n35 → wp g X F_m_road 0 0 35 [(2, 178), (3, 0)] [] v35 ρ Z := by
    intro n35
    induction n35 with
    | zero => intro v35 hfr35 il ihv e180 e25 e2 hme35; exact absurd hme35 (Nat.not_lt_zero _)
    | succ n35 ih35 =>
      intro v35 hfr35 il ihv e180 e25 e2 hme35
      have eu35 : v35 187 = v 187 := hfr35.1 187 (by decide) (by decide)
      refine t_getI (y := (v35 178 11)) (pc := 35) hX 19 rfl rfl rfl fl_X12_190 rfl hG.1 (rfl) ?_
      first | refine r_if_eq (pc := 39) hX 21 (tgt := 78) rfl (by decide) (⟨by omega, by omega⟩) (fun h39 => ?_) (fun h39 => ?_) | refine r_if_eq_any (pc := 39) hX 21 (tgt := 78) rfl (by decide) ?_ ?_
      · refine r_iconst (pc := 78) hX 41 rfl ?_
        refine r_istore_n (ls' := [(2, 178), (0, 0)]) (pc := 79) hX 42 rfl (by decide) rfl ?_
        have L80 : ∀ (n80 : Nat) (i : Int) (v80 : Mv) , (Fr [180, 181, 183] [0, 2, 3, 4, 5, 11, 12, 13, 14, 15, 16, 17, 18, 19, 20, 25] v v80) → (0 ≤ i ∧ i ≤ 238) → (0 ≤ v80 178 11 ∧ v80 178 11 ≤ 4 ∧ inR (v80 178 14) ∧ v80 178 2 = 0) → (HInv (v80 181)) → (∀ k, 0 ≤ k → k < i → k < 35 → v80 180 k = v80 181 k) → (∀ k, 35 ≤ k → k < i → v80 180 k = 0) → (238 - i).toNat < n80 → wp g X F_m_road 0 0 80 [(2, 178), (0, i)] [] v80 ρ Z := by
          intro n80
          induction n80 with
          | zero => intro i v80 hfr80 ii jl ihv ia iz hme80; exact absurd hme80 (Nat.not_lt_zero _)
          | succ n80 ih80 =>
            intro i v80 hfr80 ii jl ihv ia iz hme80
            refine r_iload_n (pc := 80) hX 43 rfl rfl ?_
            refine r_sipush (pc := 81) hX 44 rfl (by decide) ?_
            first | refine r_icmp_ge (pc := 84) hX 45 (tgt := 115) rfl (by decide) (⟨by omega, by omega⟩) (⟨by omega, by omega⟩) (fun h84 => ?_) (fun h84 => ?_) | refine r_icmp_ge_any (pc := 84) hX 45 (tgt := 115) rfl (by decide) ?_ ?_
            · refine r_aload_n (pc := 115) hX 61 rfl rfl ?_
              refine r_callV (as := []) (st := []) (K := 12) (pc := 116) hX 62 rfl mo_m_greys ml_X12_177 im_m_greys se_m_greys (c_greys g v80 ρ Z hG  (ihv.cg (fun k a b => ia k a (by omega) b))) rfl rfl rfl hG.1 (by rw [hRm]; exact ⟨by decide, by decide⟩) (by rw [hRm]; exact ⟨by decide, by decide⟩) (Nat.le_of_ble_eq_true rfl) (fun o116 v116 ρ116 Z116 hq116 _ => ?_)
              obtain ⟨rfl, rfl, hfr116, rfl, hq116⟩ := hq116
              have hk116_2 : v116 178 2 = (v80 178 2) := (hfr116.2 2 (by decide)).trans (rfl)
              have hk116_3 : v116 178 3 = (v80 178 3) := (hfr116.2 3 (by decide)).trans (rfl)
              have hk116_4 : v116 178 4 = (v80 178 4) := (hfr116.2 4 (by decide)).trans (rfl)
              have hk116_5 : v116 178 5 = (v80 178 5) := (hfr116.2 5 (by decide)).trans (rfl)
              have hk116_11 : v116 178 11 = (v80 178 11) := (hfr116.2 11 (by decide)).trans (rfl)
              have hk116_14 : v116 178 14 = (v80 178 14) := (hfr116.2 14 (by decide)).trans (rfl)
              have hk116_25 : v116 178 25 = (v80 178 25) := (hfr116.2 25 (by decide)).trans (rfl)
              show wp g X F_m_road 0 0 119 [(2, 178), (0, i)] [] v116 ρ Z
              refine r_iconst (pc := 119) hX 63 rfl ?_
              refine r_istore_n (ls' := [(2, 178), (0, 0)]) (pc := 120) hX 64 rfl (by decide) rfl ?_
              have L121 : ∀ (n121 : Nat) (i : Int) (v121 : Mv) , (Fr [180, 181, 183] [0, 2, 3, 4, 5, 11, 12, 13, 14, 15, 16, 17, 18, 19, 20, 25] v v121) → (0 ≤ i ∧ i ≤ 10) → (0 ≤ v121 178 11 ∧ v121 178 11 ≤ 4 ∧ inR (v121 178 14) ∧ v121 178 2 = 0) → (RInv (v121 180)) → (∀ k, 35 ≤ k → k < 238 → v121 180 k = 0) → (10 - i).toNat < n121 → wp g X F_m_road 0 0 121 [(2, 178), (0, i)] [] v121 ρ Z := by
                intro n121
                induction n121 with
                | zero => intro i v121 hfr121 ii jl jr jz hme121; exact absurd hme121 (Nat.not_lt_zero _)
                | succ n121 ih121 =>
                  intro i v121 hfr121 ii jl jr jz hme121
                  refine r_iload_n (pc := 121) hX 65 rfl rfl ?_
                  refine r_bipush (pc := 122) hX 66 rfl (by decide) ?_
                  first | refine r_icmp_ge (pc := 124) hX 67 (tgt := 148) rfl (by decide) (⟨by omega, by omega⟩) (⟨by omega, by omega⟩) (fun h124 => ?_) (fun h124 => ?_) | refine r_icmp_ge_any (pc := 124) hX 67 (tgt := 148) rfl (by decide) ?_ ?_
                  · refine r_iconst (pc := 148) hX 80 rfl ?_
                    refine r_istore_n (ls' := [(2, 178), (0, 0)]) (pc := 149) hX 81 rfl (by decide) rfl ?_
                    have L150 : ∀ (n150 : Nat) (i : Int) (v150 : Mv) , (Fr [180, 181, 183] [0, 2, 3, 4, 5, 11, 12, 13, 14, 15, 16, 17, 18, 19, 20, 25] v v150) → (0 ≤ i ∧ i ≤ 3) → (0 ≤ v150 178 11 ∧ v150 178 11 ≤ 4 ∧ inR (v150 178 14) ∧ v150 178 2 = 0) → (RInv (v150 180)) → (∀ k, 35 ≤ k → k < 238 → ¬ (42 ≤ k ∧ k < 45) → v150 180 k = 0) → (∀ q, 0 ≤ q → q < i → v150 180 (42 + q) = v150 180 (32 + q)) → (3 - i).toNat < n150 → wp g X F_m_road 0 0 150 [(2, 178), (0, i)] [] v150 ρ Z := by
                      intro n150
                      induction n150 with
                      | zero => intro i v150 hfr150 ii jl jr jz jq hme150; exact absurd hme150 (Nat.not_lt_zero _)
                      | succ n150 ih150 =>
                        intro i v150 hfr150 ii jl jr jz jq hme150
                        refine r_iload_n (pc := 150) hX 82 rfl rfl ?_
                        refine r_iconst (pc := 151) hX 83 rfl ?_
                        first | refine r_icmp_ge (pc := 152) hX 84 (tgt := 179) rfl (by decide) (⟨by omega, by omega⟩) (⟨by omega, by omega⟩) (fun h152 => ?_) (fun h152 => ?_) | refine r_icmp_ge_any (pc := 152) hX 84 (tgt := 179) rfl (by decide) ?_ ?_
                        · refine r_aload_n (pc := 179) hX 99 rfl rfl ?_
                          refine r_iconst (pc := 180) hX 100 rfl ?_
                          refine r_putI (pc := 181) hX 101 rfl fl_X12_278 rfl (fun _ h => by cases h; rfl) hG.1 (by decide) ?_
                          refine t_getI (y := (v150 178 19)) (pc := 184) hX 102 rfl rfl rfl fl_X12_269 rfl hG.1 ((up_k (by decide)).trans (rfl)) ?_
                          show wp g X F_m_road 0 0 188 [(2, 178), (0, i)] [(0, (v150 178 19))] (up v150 178 25 0) ρ Z
                          exact r_iret (pc := 188) hX 104 hQ rfl rfl (Nat.le_refl 0) (Nat.le_refl 0) ⟨rfl, rfl, (hfr150).fld (k := 25) (by decide), (v150 178 19), rfl, (by rw [up_f (by decide)]; exact SInv.new jr jz (fun q a b => jq q a (by omega))), (by rw [up_s]; exact UInv.none), (by (repeat (first | rw [up_k (by decide)] | rw [up_s] | rw [up_r (by decide)])); omega)⟩
                        · refine t_getR (pc := 155) hX 85 rfl rfl rfl fl_X12_33 rfl hG.1 (a_s hG).1 ?_
                          refine r_bipush (pc := 159) hX 87 rfl (by decide) ?_
                          refine r_iload_n (pc := 161) hX 88 rfl rfl ?_
                          refine r_iadd (pc := 162) hX 89 rfl ?_
                          refine t_getR (pc := 163) hX 90 rfl rfl rfl fl_X12_33 rfl hG.1 (a_s hG).1 ?_
                          refine r_bipush (pc := 167) hX 92 rfl (by decide) ?_
                          refine r_iload_n (pc := 169) hX 93 rfl rfl ?_
                          refine r_iadd (pc := 170) hX 94 rfl ?_
                          refine e_iald (y := (v150 180 (32 + i))) (pc := 171) hX 95 rfl (a_s hG).2.1 (a_s hG).2.2 (by omega) (by omega) (rfl) ?_
                          refine e_iast (pc := 172) hX 96 rfl (a_s hG).2.1 (a_s hG).2.2 (by decide) (by omega) (by omega) ?_
                          refine r_iinc (ls' := [(2, 178), (0, (i + 1))]) (pc := 173) hX 97 rfl rfl (by decide) rfl ?_
                          refine r_goto (pc := 176) hX 98 (tgt := 150) rfl (by decide) ?_
                          exact (ih150 (i + 1) (up v150 180 (42 + i) (v150 180 (32 + i))) ((hfr150).arr (r := 180) (by decide) (by decide)) (by omega) (by (repeat (first | rw [up_k (by decide)] | rw [up_s] | rw [up_r (by decide)])); omega) (jr.cg (fun k hk => up_k (by omega))) (fun k a b c => by rw [up_k (by omega)]; exact jz k a b c) (fun q a b => by
          rw [up_k (show 32 + q ≠ 42 + i by omega)]
          by_cases e : q = i
          · subst e; rw [up_s]
          · rw [up_k (by omega)]; exact jq q a (by omega)) (by omega))
                    exact (L150 _ 0 v121 (hfr121) (by omega) (jl) (jr) (fun k a b _ => jz k a b) (fun q a b => by omega) (Nat.lt_succ_self _))
                  · refine t_getR (pc := 127) hX 68 rfl rfl rfl fl_X12_43 rfl hG.1 (a_names hG).1 ?_
                    refine r_iload_n (pc := 131) hX 70 rfl rfl ?_
                    refine t_getR (pc := 132) hX 71 rfl rfl rfl fl_X12_43 rfl hG.1 (a_names hG).1 ?_
                    refine r_bipush (pc := 136) hX 73 rfl (by decide) ?_
                    refine r_iload_n (pc := 138) hX 74 rfl rfl ?_
                    refine r_iadd (pc := 139) hX 75 rfl ?_
                    refine e_lald (y := (v121 183 (10 + i))) (pc := 140) hX 76 rfl (a_names hG).2.1 (a_names hG).2.2 (by omega) (by omega) (rfl) ?_
                    refine e_last (pc := 141) hX 77 rfl (a_names hG).2.1 (a_names hG).2.2 (by decide) (by omega) (by omega) ?_
                    refine r_iinc (ls' := [(2, 178), (0, (i + 1))]) (pc := 142) hX 78 rfl rfl (by decide) rfl ?_
                    refine r_goto (pc := 145) hX 79 (tgt := 121) rfl (by decide) ?_
                    exact (ih121 (i + 1) (up v121 183 i (v121 183 (10 + i))) ((hfr121).arr (r := 183) (by decide) (by decide)) (by omega) (by (repeat (first | rw [up_k (by decide)] | rw [up_s] | rw [up_r (by decide)])); omega) (by rw [up_f (by decide)]; exact jr) (by rw [up_f (by decide)]; exact jz) (by omega))
              exact (L121 _ 0 v116 ((hfr80).tr hfr116 (by decide) (by decide)) (by omega) (by omega) (hq116.1) (fun k a b => by rw [hq116.2 k a]; exact iz k a (by omega)) (Nat.lt_succ_self _))
            · refine t_getR (pc := 87) hX 46 rfl rfl rfl fl_X12_33 rfl hG.1 (a_s hG).1 ?_
              refine r_iload_n (pc := 91) hX 48 rfl rfl ?_
              refine r_iload_n (pc := 92) hX 49 rfl rfl ?_
              refine r_bipush (pc := 93) hX 50 rfl (by decide) ?_
              first | refine r_icmp_ge (pc := 95) hX 51 (tgt := 107) rfl (by decide) (⟨by omega, by omega⟩) (⟨by omega, by omega⟩) (fun h95 => ?_) (fun h95 => ?_) | refine r_icmp_ge_any (pc := 95) hX 51 (tgt := 107) rfl (by decide) ?_ ?_
              · refine r_iconst (pc := 107) hX 57 rfl ?_
                refine e_iast (pc := 108) hX 58 rfl (a_s hG).2.1 (a_s hG).2.2 (by decide) (by omega) (by omega) ?_
                refine r_iinc (ls' := [(2, 178), (0, (i + 1))]) (pc := 109) hX 59 rfl rfl (by decide) rfl ?_
                refine r_goto (pc := 112) hX 60 (tgt := 80) rfl (by decide) ?_
                exact (ih80 (i + 1) (up v80 180 i 0) ((hfr80).arr (r := 180) (by decide) (by decide)) (by omega) (by (repeat (first | rw [up_k (by decide)] | rw [up_s] | rw [up_r (by decide)])); omega) (by rw [up_f (by decide)]; exact ihv) (fun k a b c => by
          rw [up_f (show (181 : Int) ≠ 180 by decide)]
          by_cases e : k = i
          · subst e; first | (exfalso; omega) | rw [up_s]
          · rw [up_k e]; exact ia k a (by omega) c) (fun k a b => by
          by_cases e : k = i
          · subst e; first | (exfalso; omega) | rw [up_s]
          · rw [up_k e]; exact iz k a (by omega)) (by omega))
              · refine t_getR (pc := 98) hX 52 rfl rfl rfl fl_X12_37 rfl hG.1 (a_h hG).1 ?_
                refine r_iload_n (pc := 102) hX 54 rfl rfl ?_
                refine e_iald (y := (v80 181 i)) (pc := 103) hX 55 rfl (a_h hG).2.1 (a_h hG).2.2 (by omega) (by omega) (rfl) ?_
                refine r_goto (pc := 104) hX 56 (tgt := 108) rfl (by decide) ?_
                refine e_iast (pc := 108) hX 58 rfl (a_s hG).2.1 (a_s hG).2.2 (by decide) (by omega) (by omega) ?_
                refine r_iinc (ls' := [(2, 178), (0, (i + 1))]) (pc := 109) hX 59 rfl rfl (by decide) rfl ?_
                refine r_goto (pc := 112) hX 60 (tgt := 80) rfl (by decide) ?_
                exact (ih80 (i + 1) (up v80 180 i (v80 181 i)) ((hfr80).arr (r := 180) (by decide) (by decide)) (by omega) (by (repeat (first | rw [up_k (by decide)] | rw [up_s] | rw [up_r (by decide)])); omega) (by rw [up_f (by decide)]; exact ihv) (fun k a b c => by
          rw [up_f (show (181 : Int) ≠ 180 by decide)]
          by_cases e : k = i
          · subst e; first | (exfalso; omega) | rw [up_s]
          · rw [up_k e]; exact ia k a (by omega) c) (fun k a b => by
          by_cases e : k = i
          · subst e; first | (exfalso; omega) | rw [up_s]
          · rw [up_k e]; exact iz k a (by omega)) (by omega))
        exact (L80 _ 0 v35 (hfr35) (by omega) (by omega) (ihv) (fun k a b c => by omega) (fun k a b => by omega) (Nat.lt_succ_self _))
      · refine r_aload_n (pc := 42) hX 22 rfl rfl ?_
        refine r_callV (as := []) (st := []) (K := 12) (pc := 43) hX 23 rfl mo_m_line ml_X12_272 im_m_line se_m_line (c_line g v35 ρ Z hG  (by omega) (ihv)) rfl rfl rfl hG.1 (by rw [hRm]; exact ⟨by decide, by decide⟩) (by rw [hRm]; exact ⟨by decide, by decide⟩) (Nat.le_of_ble_eq_true rfl) (fun o43 v43 ρ43 Z43 hq43 _ => ?_)
        obtain ⟨rfl, rfl, hfr43, r43, rfl, hq43⟩ := hq43
        have hk43_2 : v43 178 2 = (v35 178 2) := (hfr43.2 2 (by decide)).trans (rfl)
        have hk43_3 : v43 178 3 = (v35 178 3) := (hfr43.2 3 (by decide)).trans (rfl)
        have hk43_5 : v43 178 5 = (v35 178 5) := (hfr43.2 5 (by decide)).trans (rfl)
        have hk43_25 : v43 178 25 = (v35 178 25) := (hfr43.2 25 (by decide)).trans (rfl)
        show wp g X F_m_road 0 0 46 [(2, 178), (3, 0)] [(0, r43)] v43 ρ Z
        have hI43 : r43 ≠ 0 → HInv (v43 181) := fun b => by
          rcases hq43.2 with c | ⟨-, c, -⟩
          · exact absurd c b
          · exact c
        have hG43 : r43 = 0 ∨ r43 = 1 ∧ (v35 178 4 < v43 178 4 ∨ v43 178 11 = 0 ∨ v43 178 11 = 4) := by
          rcases hq43.2 with c | ⟨a, -, c⟩
          · exact Or.inl c
          · exact Or.inr ⟨a, c⟩
        replace hq43 := hq43.1
        first | refine r_if_eq (pc := 46) hX 24 (tgt := 58) rfl (by decide) (⟨by omega, by omega⟩) (fun h46 => ?_) (fun h46 => ?_) | refine r_if_eq_any (pc := 46) hX 24 (tgt := 58) rfl (by decide) ?_ ?_
        · refine r_iconst (pc := 58) hX 29 rfl ?_
          refine t_getI (y := (v43 178 16)) (pc := 59) hX 30 rfl rfl rfl fl_X12_210 rfl hG.1 (rfl) ?_
          refine r_isub (pc := 63) hX 32 rfl ?_
          exact r_iret (pc := 64) hX 33 hQ rfl rfl (Nat.le_refl 0) (Nat.le_refl 0) ⟨rfl, rfl, (hfr35).tr hfr43 (by decide) (by decide), ((-1) - (v43 178 16)), rfl, (by first | (rw [hfr43.1 180 (by decide) (by decide), e180]; exact hS) | (rw [hfr52.1 180 (by decide) (by decide), hfr43.1 180 (by decide) (by decide), e180]; exact hS)), (by first | (rw [hfr43.1 180 (by decide) (by decide), e180, hfr43.1 187 (by decide) (by decide), eu35, hk43_25, e25]; exact hU) | (rw [hfr52.1 180 (by decide) (by decide), hfr43.1 180 (by decide) (by decide), e180, hfr52.1 187 (by decide) (by decide), hfr43.1 187 (by decide) (by decide), eu35, hk52_25, hk43_25, e25]; exact hU)), (by omega)⟩
        · refine r_aload_n (pc := 49) hX 25 rfl rfl ?_
          refine r_bipush (pc := 50) hX 26 rfl (by decide) ?_
          refine r_callV (as := [(0, 59)]) (st := []) (K := 12) (pc := 52) hX 27 rfl mo_m_sign ml_X12_275 im_m_sign se_m_sign (c_sign g v43 ρ Z hG (59) (by omega)) rfl rfl rfl hG.1 (by rw [hRm]; exact ⟨by decide, by decide⟩) (by rw [hRm]; exact ⟨by decide, by decide⟩) (Nat.le_of_ble_eq_true rfl) (fun o52 v52 ρ52 Z52 hq52 _ => ?_)
          obtain ⟨rfl, rfl, hfr52, r52, rfl, hq52⟩ := hq52
          have hk52_2 : v52 178 2 = (v43 178 2) := (hfr52.2 2 (by decide)).trans (rfl)
          have hk52_3 : v52 178 3 = (v43 178 3) := (hfr52.2 3 (by decide)).trans (rfl)
          have hk52_5 : v52 178 5 = (v43 178 5) := (hfr52.2 5 (by decide)).trans (rfl)
          have hk52_25 : v52 178 25 = (v43 178 25) := (hfr52.2 25 (by decide)).trans (rfl)
          show wp g X F_m_road 0 0 55 [(2, 178), (3, 0)] [(0, r52)] v52 ρ Z
          first | refine r_if_ne (pc := 55) hX 28 (tgt := 65) rfl (by decide) (⟨by omega, by omega⟩) (fun h55 => ?_) (fun h55 => ?_) | refine r_if_ne_any (pc := 55) hX 28 (tgt := 65) rfl (by decide) ?_ ?_
          · refine r_aload_n (pc := 65) hX 34 rfl rfl ?_
            refine r_dup (pc := 66) hX 35 rfl (show (2 : Nat) ≠ 1 by decide) ?_
            refine e_getI (y := (v52 178 19)) (pc := 67) hX 36 rfl fl_X12_269 rfl hG.1 (rfl) ?_
            refine r_iconst (pc := 70) hX 37 rfl ?_
            refine r_iadd (pc := 71) hX 38 rfl ?_
            refine r_putI (pc := 72) hX 39 rfl fl_X12_269 rfl (fun _ h => by cases h; rfl) hG.1 (by decide) ?_
            refine r_goto (pc := 75) hX 40 (tgt := 35) rfl (by decide) ?_
            exact (ih35  (up v52 178 19 ((v52 178 19) + 1)) ((((hfr35).tr hfr43 (by decide) (by decide)).tr hfr52 (by decide) (by decide)).fld (k := 19) (by decide)) (by (repeat (first | rw [up_k (by decide)] | rw [up_s] | rw [up_r (by decide)])); omega) (by rw [up_f (by decide), hfr52.1 181 (by decide) (by decide)]; exact hI43 (by omega)) (by rw [up_f (by decide), hfr52.1 180 (by decide) (by decide), hfr43.1 180 (by decide) (by decide)]; exact e180) (by (repeat (first | rw [up_k (by decide)] | rw [up_s] | rw [up_r (by decide)])); omega) (by (repeat (first | rw [up_k (by decide)] | rw [up_s] | rw [up_r (by decide)])); omega) (by (repeat (first | rw [up_k (by decide)] | rw [up_s] | rw [up_r (by decide)])); omega))
          · refine r_iconst (pc := 58) hX 29 rfl ?_
            refine t_getI (y := (v52 178 16)) (pc := 59) hX 30 rfl rfl rfl fl_X12_210 rfl hG.1 (rfl) ?_
            refine r_isub (pc := 63) hX 32 rfl ?_
            exact r_iret (pc := 64) hX 33 hQ rfl rfl (Nat.le_refl 0) (Nat.le_refl 0) ⟨rfl, rfl, ((hfr35).tr hfr43 (by decide) (by decide)).tr hfr52 (by decide) (by decide), ((-1) - (v52 178 16)), rfl, (by first | (rw [hfr43.1 180 (by decide) (by decide), e180]; exact hS) | (rw [hfr52.1 180 (by decide) (by decide), hfr43.1 180 (by decide) (by decide), e180]; exact hS)), (by first | (rw [hfr43.1 180 (by decide) (by decide), e180, hfr43.1 187 (by decide) (by decide), eu35, hk43_25, e25]; exact hU) | (rw [hfr52.1 180 (by decide) (by decide), hfr43.1 180 (by decide) (by decide), e180, hfr52.1 187 (by decide) (by decide), hfr43.1 187 (by decide) (by decide), eu35, hk52_25, hk43_25, e25]; exact hU)), (by omega)⟩
  exact (L35 _  v32 ((((((((Fr.rf).fld (k := 0) (by decide)).tr hfr9 (by decide) (by decide)).fld (k := 15) (by decide)).fld (k := 19) (by decide)).fld (k := 20) (by decide)).tr hfr28 (by decide) (by decide)).tr hfr32 (by decide) (by decide)) (by omega) (by rw [hfr32.1 181 (by decide) (by decide)]; exact HInv.start hq28.1 hq28.2.1 hq28.2.2) (by rw [hfr32.1 180 (by decide) (by decide), hfr28.1 180 (by decide) (by decide)]; (repeat rw [up_f (by decide)]); rw [hfr9.1 180 (by decide) (by decide), up_f (by decide)]) (by omega) (by omega) (Nat.lt_succ_self _))
