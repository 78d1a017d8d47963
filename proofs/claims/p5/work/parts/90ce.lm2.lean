set_option maxHeartbeats 4000000 in
set_option maxRecDepth 100000 in
theorem c_logL (g : Gp) (v ρ : Mv) (Z : Mz) (hG : GM ρ Z) {N : Int → Int} (a : Int) (hS : SInv (v 180)) (hU : UInv (v 180) (v 187) (v 178 25)) (ha : inR a) (hl : 0 ≤ v 178 2 ∧ v 178 2 ≤ 940) (hn : inR (v 178 14) ∧ 0 ≤ v 178 11 ∧ v 178 11 ≤ 4) (hh : 0 ≤ v 178 49 ∧ v 178 49 ≤ 1) (hrs : RsI (v 184)) (hNm : ∀ j, 0 ≤ j → j < v 180 0 → NmW (N (0 + j)) (v 183 (0 + j))) (hNp : ∀ j, 0 ≤ j → j < v 180 2 → NmW (N (7 + j)) (v 183 (7 + j))) : Ok g 6 0 0 F_m_log [(2, 178), (0, a)] v ρ Z (fun o v' ρ' Z' => ρ = ρ' ∧ Z = Z' ∧ Fr [180, 182, 185, 186, 187, 188, 189, 204] [0, 2, 3, 4, 5, 11, 12, 13, 14, 15, 16, 17, 18, 25, 47, 49] v v' ∧ ∃ r : Int, o = some (0, r) ∧ (SInv (v' 180)) ∧ (UInv (v' 180) (v' 187) (v' 178 25)) ∧ (inR (v' 178 14) ∧ 0 ≤ v' 178 11 ∧ v' 178 11 ≤ 4 ∧ 0 ≤ v' 178 2 ∧ v' 178 2 ≤ 940 ∧ 0 ≤ v' 178 49 ∧ v' 178 49 ≤ 1 ∧ (0 ≤ a ∧ a ≤ 1 ∧ v' 178 2 = 0 ∨ (a < 0 ∨ 1 < a) ∧ v' 178 2 = v 178 2)) ∧ (∀ k, k < 35 → v' 180 k = v 180 k) ∧ (((a < 0 ∨ 1 < a) ∧ v' 178 15 = v 178 15 ∨ 0 ≤ a ∧ a ≤ 1 ∧ v' 178 15 = (lA (cb (v 178 2) (v 179)) (v 178 2) 400 (fun x => fnd N x 0 (v 180 0).toNat 0) (fun x => fnd N x 7 (v 180 2).toNat 0) 0 0).1))) := by
  refine Ok.of mo_m_log (Nat.le_of_ble_eq_true rfl) ?_
  intro X hX hRm hxn hQ
  show wp g X F_m_log 0 0 0 [(2, 178), (0, a), (3, 0), (3, 0)] [] v ρ Z
  have hcbs := cb_sam (v 178 2) (v 179)
  refine r_aload_n (pc := 0) hX 0 rfl rfl ?_
  refine r_iconst (pc := 1) hX 1 rfl ?_
  refine r_putI (pc := 2) hX 2 rfl fl_X12_1 rfl (fun _ h => by cases h; rfl) hG.1 (by decide) ?_
  refine r_iload_n (pc := 5) hX 3 rfl rfl ?_
  refine r_iconst (pc := 6) hX 4 rfl ?_
  refine r_iconst (pc := 7) hX 5 rfl ?_
  refine r_callS (as := [(0, a), (0, 0), (0, 1)]) (st := []) (pc := 8) hX 6 rfl mo_m_isIn ml_X12_222 stt_m_isIn (c_isIn g (up v 178 0 0) ρ Z hG (a) (0) (1) (by omega) (by omega) (by omega)) rfl (by rw [hRm]; exact ⟨by decide, by decide⟩) (by rw [hRm]; exact ⟨by decide, by decide⟩) (Nat.le_of_ble_eq_true rfl) (fun o8 v8 ρ8 Z8 hq8 _ => ?_)
  obtain ⟨rfl, rfl, rfl, r8, rfl, hq8⟩ := hq8
  try simp only [up_f (show (180 : Int) ≠ 178 by decide)] at hq8
  show wp g X F_m_log 0 0 11 [(2, 178), (0, a), (3, 0), (3, 0)] [(0, r8)] (up v 178 0 0) ρ Z
  first | refine r_if_ne (pc := 11) hX 7 (tgt := 18) rfl (by decide) (⟨by omega, by omega⟩) (fun h11 => ?_) (fun h11 => ?_) | refine r_if_ne_any (pc := 11) hX 7 (tgt := 18) rfl (by decide) ?_ ?_
  · refine r_aload_n (pc := 18) hX 10 rfl rfl ?_
    refine r_sipush (pc := 19) hX 11 rfl (by decide) ?_
    refine r_callV (as := [(0, 400)]) (st := []) (K := 12) (pc := 22) hX 12 rfl mo_m_taken ml_X12_266 im_m_taken se_m_taken (c_taken g (up v 178 0 0) ρ Z hG (400) ) rfl rfl rfl hG.1 (by rw [hRm]; exact ⟨by decide, by decide⟩) (by rw [hRm]; exact ⟨by decide, by decide⟩) (Nat.le_of_ble_eq_true rfl) (fun o22 v22 ρ22 Z22 hq22 _ => ?_)
    obtain ⟨rfl, rfl, hfr22, rfl, hq22⟩ := hq22
    try simp only [up_f (show (180 : Int) ≠ 178 by decide), up_k (show (2 : Int) ≠ 0 by decide)] at hq22
    have hSInv_22 : SInv (v22 180) := by rw [hfr22.1 180 (by decide) (by decide), up_f (by decide)]; exact hS
    have hRsI_22 : RsI (v22 184) := by rw [hfr22.1 184 (by decide) (by decide), up_f (by decide)]; exact hrs
    have hk22_11 : v22 178 11 = (v 178 11) := (hfr22.2 11 (by decide)).trans ((up_k (by decide)).trans (rfl))
    have hk22_14 : v22 178 14 = (v 178 14) := (hfr22.2 14 (by decide)).trans ((up_k (by decide)).trans (rfl))
    have hk22_25 : v22 178 25 = (v 178 25) := (hfr22.2 25 (by decide)).trans ((up_k (by decide)).trans (rfl))
    have hk22_47 : v22 178 47 = (v 178 47) := (hfr22.2 47 (by decide)).trans ((up_k (by decide)).trans (rfl))
    have hk22_49 : v22 178 49 = (v 178 49) := (hfr22.2 49 (by decide)).trans ((up_k (by decide)).trans (rfl))
    have hk22_15 : v22 178 15 = (v 178 15) := (hfr22.2 15 (by decide)).trans ((up_k (by decide)).trans (rfl))
    show wp g X F_m_log 0 0 25 [(2, 178), (0, a), (3, 0), (3, 0)] [] v22 ρ Z
    refine r_aload_n (pc := 25) hX 13 rfl rfl ?_
    refine r_iconst (pc := 26) hX 14 rfl ?_
    refine r_putI (pc := 27) hX 15 rfl fl_X12_207 rfl (fun _ h => by cases h; rfl) hG.1 (by decide) ?_
    refine r_aload_n (pc := 30) hX 16 rfl rfl ?_
    refine r_iconst (pc := 31) hX 17 rfl ?_
    refine r_putI (pc := 32) hX 18 rfl fl_X12_477 rfl (fun _ h => by cases h; rfl) hG.1 (by decide) ?_
    refine r_aload_n (pc := 35) hX 19 rfl rfl ?_
    refine r_callV (as := []) (st := []) (K := 12) (pc := 36) hX 20 rfl mo_m_go ml_X12_219 im_m_go se_m_go (c_goF g (up (up v22 178 15 0) 178 47 0) ρ Z hG  (by (repeat (first | rw [up_k (by decide)] | rw [up_s] | rw [up_r (by decide)])); omega)) rfl rfl rfl hG.1 (by rw [hRm]; exact ⟨by decide, by decide⟩) (by rw [hRm]; exact ⟨by decide, by decide⟩) (Nat.le_of_ble_eq_true rfl) (fun o36 v36 ρ36 Z36 hq36 _ => ?_)
    obtain ⟨rfl, rfl, hfr36, rfl, hq36⟩ := hq36
    try simp only [up_f (show (179 : Int) ≠ 178 by decide), up_f (show (180 : Int) ≠ 178 by decide), up_k (show (3 : Int) ≠ 15 by decide), up_k (show (3 : Int) ≠ 47 by decide), up_k (show (4 : Int) ≠ 15 by decide), up_k (show (4 : Int) ≠ 47 by decide), up_k (show (5 : Int) ≠ 15 by decide), up_k (show (5 : Int) ≠ 47 by decide)] at hq36
    have hSInv_36 : SInv (v36 180) := by rw [hfr36.1 180 (by decide) (by decide), up_f (by decide), up_f (by decide)]; exact hSInv_22
    have hRsI_36 : RsI (v36 184) := by rw [hfr36.1 184 (by decide) (by decide), up_f (by decide), up_f (by decide)]; exact hRsI_22
    have hk36_2 : v36 178 2 = (v22 178 2) := (hfr36.2 2 (by decide)).trans ((up_k (by decide)).trans ((up_k (by decide)).trans (rfl)))
    have hk36_3 : v36 178 3 = (v22 178 3) := (hfr36.2 3 (by decide)).trans ((up_k (by decide)).trans ((up_k (by decide)).trans (rfl)))
    have hk36_5 : v36 178 5 = (v22 178 5) := (hfr36.2 5 (by decide)).trans ((up_k (by decide)).trans ((up_k (by decide)).trans (rfl)))
    have hk36_25 : v36 178 25 = (v22 178 25) := (hfr36.2 25 (by decide)).trans ((up_k (by decide)).trans ((up_k (by decide)).trans (rfl)))
    have hk36_47 : v36 178 47 = 0 := (hfr36.2 47 (by decide)).trans (up_s _ _ _ _)
    have hk36_49 : v36 178 49 = (v22 178 49) := (hfr36.2 49 (by decide)).trans ((up_k (by decide)).trans ((up_k (by decide)).trans (rfl)))
    have hk36_15 : v36 178 15 = 0 := (hfr36.2 15 (by decide)).trans ((up_k (by decide)).trans (up_s _ _ _ _))
    show wp g X F_m_log 0 0 39 [(2, 178), (0, a), (3, 0), (3, 0)] [] v36 ρ Z
    have hT36 : TkM (cb (v 178 2) (v 179)) (v 178 2) 400 v36 0 := by
      have z := tkM_of (F := (cb (v 178 2) (v 179))) (n := (v 178 2)) (m := 400) (v := (up (up v22 178 15 0) 178 47 0)) (v' := v36) (by (repeat (first | rw [up_k (by decide)] | rw [up_s] | rw [up_r (by decide)])); omega) (by (repeat (first | rw [up_k (by decide)] | rw [up_s] | rw [up_r (by decide)])); omega) ⟨by (repeat rw [up_f (by decide)]); rw [hfr22.1 179 (by decide) (by decide), up_f (by decide)]; exact hcbs, by first | ((repeat (first | rw [up_k (by decide)] | rw [up_s] | rw [up_r (by decide)])); done) | ((repeat (first | rw [up_k (by decide)] | rw [up_s] | rw [up_r (by decide)])); omega)⟩ (hfr36.1 179 (by decide) (by decide)) (by (repeat (first | rw [up_k (by decide)] | rw [up_s] | rw [up_r (by decide)])); omega) (by (repeat (first | rw [up_k (by decide)] | rw [up_s] | rw [up_r (by decide)])); omega) (hfr36.2 3 (by decide)) (hfr36.2 5 (by decide)) (hfr36.2 15 (by decide)) hq36.2.1 hq36.2.2.1 hq36.2.2.2.1 hq36.2.2.2.2.1 hq36.2.2.2.2.2
      rw [show (up (up v22 178 15 0) 178 47 0) 178 4 = 0 from by (repeat (first | rw [up_k (by decide)] | rw [up_s] | rw [up_r (by decide)])); omega] at z
      exact z
    replace hq36 := hq36.1
    have L39 : ∀ (n39 : Nat) (v39 : Mv) , (Fr [180, 182, 185, 186, 187, 188, 189, 204] [0, 2, 3, 4, 5, 11, 12, 13, 14, 15, 16, 17, 18, 25, 47, 49] v v39) → (RsI (v39 184)) → (0 ≤ v39 178 4 ∧ v39 178 4 ≤ v39 178 3 ∧ v39 178 3 ≤ 940 ∧ 0 ≤ v39 178 11 ∧ v39 178 11 ≤ 4 ∧ inR (v39 178 5) ∧ inR (v39 178 14)) → (v39 180 = v 180) → (v39 187 = v 187) → (v39 178 25 = v 178 25) → (0 ≤ v39 178 47 ∧ v39 178 47 ≤ 40) → (∀ t, 0 ≤ t → t < v39 178 47 → RdL (v39 182) (v 180) (3 * t)) → (v39 178 2 = 0) → (v39 178 49 = v 178 49) → (LgI (cb (v 178 2) (v 179)) (v 178 2) 400 (fun x => fnd N x 0 (v 180 0).toNat 0) (fun x => fnd N x 7 (v 180 2).toNat 0) v39) → (940 - v39 178 4).toNat < n39 → wp g X F_m_log 0 0 39 [(2, 178), (0, a), (3, 0), (3, 0)] [] v39 ρ Z := by
      intro n39
      induction n39 with
      | zero => intro v39 hfr39 hRsI_39 il e180 e187 e25 jt jd e2 e49 iq hme39; exact absurd hme39 (Nat.not_lt_zero _)
      | succ n39 ih39 =>
        intro v39 hfr39 hRsI_39 il e180 e187 e25 jt jd e2 e49 iq hme39
        have e183 : v39 183 = v 183 := hfr39.1 183 (by decide) (by decide)
        have e184 : v39 184 = v 184 := hfr39.1 184 (by decide) (by decide)
        obtain ⟨pg, hTg, heq⟩ := iq
        have hTk := hTg.2.2.2.2.2.2.1
        refine t_getI (y := (v39 178 11)) (pc := 39) hX 21 rfl rfl rfl fl_X12_190 rfl hG.1 (rfl) ?_
        first | refine r_if_eq (pc := 43) hX 23 (tgt := 83) rfl (by decide) (⟨by omega, by omega⟩) (fun h43 => ?_) (fun h43 => ?_) | refine r_if_eq_any (pc := 43) hX 23 (tgt := 83) rfl (by decide) ?_ ?_
        · have hdn := heq.trans (lA_end (by omega) (by omega))
          refine r_aload_n (pc := 83) hX 43 rfl rfl ?_
          refine r_callV (as := []) (st := []) (K := 12) (pc := 84) hX 44 rfl mo_m_tries ml_X12_471 im_m_tries se_m_tries (c_tries g v39 ρ Z hG  ) rfl rfl rfl hG.1 (by rw [hRm]; exact ⟨by decide, by decide⟩) (by rw [hRm]; exact ⟨by decide, by decide⟩) (Nat.le_of_ble_eq_true rfl) (fun o84 v84 ρ84 Z84 hq84 _ => ?_)
          obtain ⟨rfl, rfl, hfr84, rfl, hq84⟩ := hq84
          have hRsI_84 : RsI (v84 184) := by rw [hfr84.1 184 (by decide) (by decide)]; exact hRsI_39
          have hk84_2 : v84 178 2 = (v39 178 2) := (hfr84.2 2 (by decide)).trans (rfl)
          have hk84_3 : v84 178 3 = (v39 178 3) := (hfr84.2 3 (by decide)).trans (rfl)
          have hk84_4 : v84 178 4 = (v39 178 4) := (hfr84.2 4 (by decide)).trans (rfl)
          have hk84_5 : v84 178 5 = (v39 178 5) := (hfr84.2 5 (by decide)).trans (rfl)
          have hk84_11 : v84 178 11 = (v39 178 11) := (hfr84.2 11 (by decide)).trans (rfl)
          have hk84_14 : v84 178 14 = (v39 178 14) := (hfr84.2 14 (by decide)).trans (rfl)
          have hk84_25 : v84 178 25 = (v39 178 25) := (hfr84.2 25 (by decide)).trans (rfl)
          have hk84_47 : v84 178 47 = (v39 178 47) := (hfr84.2 47 (by decide)).trans (rfl)
          have hk84_49 : v84 178 49 = (v39 178 49) := (hfr84.2 49 (by decide)).trans (rfl)
          have hk84_15 : v84 178 15 = (v39 178 15) := (hfr84.2 15 (by decide)).trans (rfl)
          show wp g X F_m_log 0 0 87 [(2, 178), (0, a), (3, 0), (3, 0)] [] v84 ρ Z
          refine r_iconst (pc := 87) hX 45 rfl ?_
          refine r_istore_n (ls' := [(2, 178), (0, a), (0, 0), (3, 0)]) (pc := 88) hX 46 rfl (by decide) rfl ?_
          have L89 : ∀ (n89 : Nat) (i : Int) (v89 : Mv) , (Fr [180, 182, 185, 186, 187, 188, 189, 204] [0, 2, 3, 4, 5, 11, 12, 13, 14, 15, 16, 17, 18, 25, 47, 49] v v89) → (RsI (v89 184)) → (0 ≤ i ∧ i ≤ 4) → (v89 180 = v 180) → (v89 187 = v 187) → (v89 178 25 = v 178 25) → (0 ≤ v89 178 47 ∧ v89 178 47 ≤ 40) → (∀ t, 0 ≤ t → t < v89 178 47 → RdL (v89 182) (v 180) (3 * t)) → (0 ≤ v89 178 11 ∧ v89 178 11 ≤ 4 ∧ inR (v89 178 14) ∧ v89 178 2 = 0) → (∀ k, 0 ≤ k → k < 22 → v89 188 k = v 180 (35 + k)) → (v89 178 15 = 0) → (4 - i).toNat < n89 → wp g X F_m_log 0 0 89 [(2, 178), (0, a), (0, i), (3, 0)] [] v89 ρ Z := by
            intro n89
            induction n89 with
            | zero => intro i v89 hfr89 hRsI_89 ii e180 e187 e25 jt jd jl jb i15 hme89; exact absurd hme89 (Nat.not_lt_zero _)
            | succ n89 ih89 =>
              intro i v89 hfr89 hRsI_89 ii e180 e187 e25 jt jd jl jb i15 hme89
              refine r_iload_n (pc := 89) hX 47 rfl rfl ?_
              refine r_iconst (pc := 90) hX 48 rfl ?_
              first | refine r_icmp_ge (pc := 91) hX 49 (tgt := 107) rfl (by decide) (⟨by omega, by omega⟩) (⟨by omega, by omega⟩) (fun h91 => ?_) (fun h91 => ?_) | refine r_icmp_ge_any (pc := 91) hX 49 (tgt := 107) rfl (by decide) ?_ ?_
              · refine r_iconst (pc := 107) hX 57 rfl ?_
                refine r_istore_n (ls' := [(2, 178), (0, a), (0, (-1)), (3, 0)]) (pc := 108) hX 58 rfl (by decide) rfl ?_
                refine r_iconst (pc := 109) hX 59 rfl ?_
                refine r_istore_n (ls' := [(2, 178), (0, a), (0, (-1)), (0, 0)]) (pc := 110) hX 60 rfl (by decide) rfl ?_
                have L111 : ∀ (n111 : Nat) (w i : Int) (v111 : Mv) , (Fr [180, 182, 185, 186, 187, 188, 189, 204] [0, 2, 3, 4, 5, 11, 12, 13, 14, 15, 16, 17, 18, 25, 47, 49] v v111) → (RsI (v111 184)) → (SInv (v111 180)) → (0 ≤ i ∧ i ≤ v111 178 47) → (RdEq (v 180) (v111 180)) → (v111 187 = v 187) → (v111 178 25 = v 178 25) → (0 ≤ v111 178 47 ∧ v111 178 47 ≤ 40) → (∀ t, 0 ≤ t → t < v111 178 47 → RdL (v111 182) (v 180) (3 * t)) → (0 ≤ v111 178 11 ∧ v111 178 11 ≤ 4 ∧ inR (v111 178 14) ∧ v111 178 2 = 0) → (∀ k, 0 ≤ k → k < 22 → v111 188 k = v 180 (35 + k)) → (v111 178 15 = 0) → (v111 178 47 - i).toNat < n111 → wp g X F_m_log 0 0 111 [(2, 178), (0, a), (0, w), (0, i)] [] v111 ρ Z := by
                  intro n111
                  induction n111 with
                  | zero => intro w i v111 hfr111 hRsI_111 hSInv_111 ii er e187 e25 jt jd jl jb i15 hme111; exact absurd hme111 (Nat.not_lt_zero _)
                  | succ n111 ih111 =>
                    intro w i v111 hfr111 hRsI_111 hSInv_111 ii er e187 e25 jt jd jl jb i15 hme111
                    refine r_iload_n (pc := 111) hX 61 rfl rfl ?_
                    refine t_getI (y := (v111 178 47)) (pc := 112) hX 62 rfl rfl rfl fl_X12_477 rfl hG.1 (rfl) ?_
                    have L166 : wp g X F_m_log 0 0 166 [(2, 178), (0, a), (0, w), (0, i)] [] v111 ρ Z := by
                      refine t_getR (pc := 166) hX 94 rfl rfl rfl fl_X12_111 rfl hG.1 (a_loggedAt hG).1 ?_
                      refine r_iconst (pc := 170) hX 96 rfl ?_
                      refine t_getR (pc := 171) hX 97 rfl rfl rfl fl_X12_33 rfl hG.1 (a_s hG).1 ?_
                      refine r_bipush (pc := 175) hX 99 rfl (by decide) ?_
                      refine e_iald (y := (v111 180 35)) (pc := 177) hX 100 rfl (a_s hG).2.1 (a_s hG).2.2 (by omega) (by omega) (rfl) ?_
                      have hb177 := hSInv_111.c35
                      refine e_iast (pc := 178) hX 101 rfl (a_loggedAt hG).2.1 (a_loggedAt hG).2.2 (by decide) (by omega) (by omega) ?_
                      refine t_getR (pc := 179) hX 102 rfl rfl rfl fl_X12_111 rfl hG.1 (a_loggedAt hG).1 ?_
                      refine r_iconst (pc := 183) hX 104 rfl ?_
                      refine r_aload_n (pc := 184) hX 105 rfl rfl ?_
                      refine r_callV (as := []) (st := [(0, 3), (2, 204)]) (K := 12) (pc := 185) hX 106 rfl mo_m_winner ml_X12_316 im_m_winner se_m_winner (c_winner g (up v111 204 2 (v111 180 35)) ρ Z hG  (by rw [up_f (by decide)]; exact hSInv_111)) rfl rfl rfl hG.1 (by rw [hRm]; exact ⟨by decide, by decide⟩) (by rw [hRm]; exact ⟨by decide, by decide⟩) (Nat.le_of_ble_eq_true rfl) (fun o185 v185 ρ185 Z185 hq185 _ => ?_)
                      obtain ⟨rfl, rfl, hfr185, r185, rfl, hq185⟩ := hq185
                      try simp only [up_f (show (180 : Int) ≠ 204 by decide)] at hq185
                      have hSInv_185 : SInv (v185 180) := by rw [hfr185.1 180 (by decide) (by decide), up_f (by decide)]; exact hSInv_111
                      have hRsI_185 : RsI (v185 184) := by rw [hfr185.1 184 (by decide) (by decide), up_f (by decide)]; exact hRsI_111
                      have hk185_2 : v185 178 2 = (v111 178 2) := (hfr185.2 2 (by decide)).trans ((up_r (by decide)).trans (rfl))
                      have hk185_3 : v185 178 3 = (v111 178 3) := (hfr185.2 3 (by decide)).trans ((up_r (by decide)).trans (rfl))
                      have hk185_4 : v185 178 4 = (v111 178 4) := (hfr185.2 4 (by decide)).trans ((up_r (by decide)).trans (rfl))
                      have hk185_5 : v185 178 5 = (v111 178 5) := (hfr185.2 5 (by decide)).trans ((up_r (by decide)).trans (rfl))
                      have hk185_11 : v185 178 11 = (v111 178 11) := (hfr185.2 11 (by decide)).trans ((up_r (by decide)).trans (rfl))
                      have hk185_14 : v185 178 14 = (v111 178 14) := (hfr185.2 14 (by decide)).trans ((up_r (by decide)).trans (rfl))
                      have hk185_25 : v185 178 25 = (v111 178 25) := (hfr185.2 25 (by decide)).trans ((up_r (by decide)).trans (rfl))
                      have hk185_47 : v185 178 47 = (v111 178 47) := (hfr185.2 47 (by decide)).trans ((up_r (by decide)).trans (rfl))
                      have hk185_49 : v185 178 49 = (v111 178 49) := (hfr185.2 49 (by decide)).trans ((up_r (by decide)).trans (rfl))
                      have hk185_15 : v185 178 15 = (v111 178 15) := (hfr185.2 15 (by decide)).trans ((up_r (by decide)).trans (rfl))
                      show wp g X F_m_log 0 0 188 [(2, 178), (0, a), (0, w), (0, i)] [(0, r185), (0, 3), (2, 204)] v185 ρ Z
                      refine e_iast (pc := 188) hX 107 rfl (a_loggedAt hG).2.1 (a_loggedAt hG).2.2 (by decide) (by omega) (by omega) ?_
                      refine r_aload_n (pc := 189) hX 108 rfl rfl ?_
                      refine r_iconst (pc := 190) hX 109 rfl ?_
                      refine r_putZ (pc := 191) hX 110 rfl fl_X12_486 rfl (fun _ h => by cases h; rfl) ⟨by omega, by omega⟩ hG.1 (by decide) ?_
                      have hU185 : UInv ((up (up v185 204 3 r185) 178 49 1) 180) ((up (up v185 204 3 r185) 178 49 1) 187) ((up (up v185 204 3 r185) 178 49 1) 178 25) := by
                        rw [up_f (show (180 : Int) ≠ 178 by decide), up_f (show (180 : Int) ≠ 204 by decide), up_f (show (187 : Int) ≠ 178 by decide), up_f (show (187 : Int) ≠ 204 by decide), up_k (show (25 : Int) ≠ 49 by decide), up_f (show (178 : Int) ≠ 204 by decide), hfr185.1 180 (by decide) (by decide), hfr185.1 187 (by decide) (by decide), hk185_25, up_f (show (180 : Int) ≠ 204 by decide), up_f (show (187 : Int) ≠ 204 by decide), e187, e25]
                        exact hU.rd er
                      refine r_iload_n (pc := 194) hX 111 rfl rfl ?_
                      refine r_iconst (pc := 195) hX 112 rfl ?_
                      have L248 : ∀ (v248 : Mv) , (Fr [180, 182, 185, 186, 187, 188, 189, 204] [0, 2, 3, 4, 5, 11, 12, 13, 14, 15, 16, 17, 18, 25, 47, 49] v v248) → (RsI (v248 184)) → (SInv (v248 180)) → (RdEq (v 180) (v248 180)) → (UInv (v248 180) (v248 187) (v248 178 25)) → (v248 178 49 = 1) → (0 ≤ v248 178 11 ∧ v248 178 11 ≤ 4 ∧ inR (v248 178 14) ∧ v248 178 2 = 0) → (∀ k, 0 ≤ k → k < 22 → v248 188 k = v 180 (35 + k)) → (v248 178 15 = 0) → wp g X F_m_log 0 0 248 [(2, 178), (0, a), (0, w), (3, 0)] [] v248 ρ Z := by
                        intro v248 hfr248 hRsI_248 hSInv_248 er ju j49 jl jb i15c
                        refine r_iload_n (pc := 248) hX 143 rfl rfl ?_
                        first | refine r_if_ne (pc := 249) hX 144 (tgt := 256) rfl (by decide) (⟨by omega, by omega⟩) (fun h249 => ?_) (fun h249 => ?_) | refine r_if_ne_any (pc := 249) hX 144 (tgt := 256) rfl (by decide) ?_ ?_
                        · refine r_iload_n (pc := 256) hX 147 rfl rfl ?_
                          exact r_iret (pc := 257) hX 148 hQ rfl rfl (Nat.le_refl 0) (Nat.le_refl 0) ⟨rfl, rfl, hfr248, w, rfl, (by first | exact hSInv_248 | (rw [e253]; exact hS)), (by first | exact ju | (rw [e253, hfr253.1 187 (by decide) (by decide), hk253_25]; exact ju.rd er.sy)), (by omega), (fun k hk => by first | exact er k (by omega) | rw [e253]), (Or.inr ⟨by omega, by omega, by rw [hdn]; first | exact i15c | (rw [hk253_15]; exact i15c)⟩)⟩
                        · refine r_aload_n (pc := 252) hX 145 rfl rfl ?_
                          refine r_callV (as := []) (st := []) (K := 12) (pc := 253) hX 146 rfl mo_m_back ml_X12_474 im_m_back se_m_back (c_back g v248 ρ Z hG  ) rfl rfl rfl hG.1 (by rw [hRm]; exact ⟨by decide, by decide⟩) (by rw [hRm]; exact ⟨by decide, by decide⟩) (Nat.le_of_ble_eq_true rfl) (fun o253 v253 ρ253 Z253 hq253 _ => ?_)
                          obtain ⟨rfl, rfl, hfr253, rfl, hq253⟩ := hq253
                          have hRsI_253 : RsI (v253 184) := by rw [hfr253.1 184 (by decide) (by decide)]; exact hRsI_248
                          have hk253_2 : v253 178 2 = (v248 178 2) := (hfr253.2 2 (by decide)).trans (rfl)
                          have hk253_3 : v253 178 3 = (v248 178 3) := (hfr253.2 3 (by decide)).trans (rfl)
                          have hk253_4 : v253 178 4 = (v248 178 4) := (hfr253.2 4 (by decide)).trans (rfl)
                          have hk253_5 : v253 178 5 = (v248 178 5) := (hfr253.2 5 (by decide)).trans (rfl)
                          have hk253_11 : v253 178 11 = (v248 178 11) := (hfr253.2 11 (by decide)).trans (rfl)
                          have hk253_14 : v253 178 14 = (v248 178 14) := (hfr253.2 14 (by decide)).trans (rfl)
                          have hk253_25 : v253 178 25 = (v248 178 25) := (hfr253.2 25 (by decide)).trans (rfl)
                          have hk253_47 : v253 178 47 = (v248 178 47) := (hfr253.2 47 (by decide)).trans (rfl)
                          have hk253_49 : v253 178 49 = (v248 178 49) := (hfr253.2 49 (by decide)).trans (rfl)
                          have hk253_15 : v253 178 15 = (v248 178 15) := (hfr253.2 15 (by decide)).trans (rfl)
                          show wp g X F_m_log 0 0 256 [(2, 178), (0, a), (0, w), (3, 0)] [] v253 ρ Z
                          have e253 : v253 180 = v 180 := (er.tr hq253.1).ext (fun k a b => by rw [hq253.2 k a b]; exact jb k a b)
                          refine r_iload_n (pc := 256) hX 147 rfl rfl ?_
                          exact r_iret (pc := 257) hX 148 hQ rfl rfl (Nat.le_refl 0) (Nat.le_refl 0) ⟨rfl, rfl, (hfr248).tr hfr253 (by decide) (by decide), w, rfl, (by first | exact hSInv_248 | (rw [e253]; exact hS)), (by first | exact ju | (rw [e253, hfr253.1 187 (by decide) (by decide), hk253_25]; exact ju.rd er.sy)), (by omega), (fun k hk => by first | exact er k (by omega) | rw [e253]), (Or.inr ⟨by omega, by omega, by rw [hdn]; first | exact i15c | (rw [hk253_15]; exact i15c)⟩)⟩
                      first | refine r_icmp_ne (pc := 196) hX 113 (tgt := 248) rfl (by decide) (⟨by omega, by omega⟩) (⟨by omega, by omega⟩) (fun h196 => ?_) (fun h196 => ?_) | refine r_icmp_ne_any (pc := 196) hX 113 (tgt := 248) rfl (by decide) ?_ ?_
                      · refine r_wk (ls' := [(2, 178), (0, a), (0, w), (3, 0)]) ⟨Or.inr rfl, Or.inr rfl, Or.inr rfl, Or.inl rfl, trivial⟩ ?_
                        exact (L248  (up (up v185 204 3 r185) 178 49 1) (((((hfr111).arr (r := 204) (by decide) (by decide)).tr hfr185 (by decide) (by decide)).arr (r := 204) (by decide) (by decide)).fld (k := 49) (by decide)) (by rw [up_f (by decide), up_f (by decide)]; exact hRsI_185) (by first | exact hSInv_214 | ((repeat rw [up_f (by decide)]); exact hSInv_185)) (by first | exact er | ((repeat rw [up_f (by decide)]); rw [hfr185.1 180 (by decide) (by decide)]; (repeat rw [up_f (by decide)]); exact er)) (by first | exact UInv.set hS er ju jm.1 jm.2 (fun k a b => jw k a (by omega)) | exact hU185) (by first | exact j49 | rw [up_s]) (by (repeat (first | rw [up_k (by decide)] | rw [up_s] | rw [up_r (by decide)])); omega) (by first | exact jb | ((repeat rw [up_f (by decide)]); rw [hfr185.1 188 (by decide) (by decide)]; (repeat rw [up_f (by decide)]); exact jb)) (by (repeat (first | rw [up_k (by decide)] | rw [up_s] | rw [up_r (by decide)])); omega) )
                      · refine t_getR (pc := 199) hX 114 rfl rfl rfl fl_X12_111 rfl hG.1 (a_loggedAt hG).1 ?_
                        refine r_iconst (pc := 203) hX 116 rfl ?_
                        refine e_iald (y := (v185 204 1)) (pc := 204) hX 117 rfl (a_loggedAt hG).2.1 (a_loggedAt hG).2.2 (by omega) (by omega) ((up_r (by decide)).trans ((up_k (by decide)).trans (rfl))) ?_
                        first | refine r_if_le (pc := 205) hX 118 (tgt := 248) rfl (by decide) (⟨by omega, by omega⟩) (fun h205 => ?_) (fun h205 => ?_) | refine r_if_le_any (pc := 205) hX 118 (tgt := 248) rfl (by decide) ?_ ?_
                        · refine r_wk (ls' := [(2, 178), (0, a), (0, w), (3, 0)]) ⟨Or.inr rfl, Or.inr rfl, Or.inr rfl, Or.inl rfl, trivial⟩ ?_
                          exact (L248  (up (up v185 204 3 r185) 178 49 1) (((((hfr111).arr (r := 204) (by decide) (by decide)).tr hfr185 (by decide) (by decide)).arr (r := 204) (by decide) (by decide)).fld (k := 49) (by decide)) (by rw [up_f (by decide), up_f (by decide)]; exact hRsI_185) (by first | exact hSInv_214 | ((repeat rw [up_f (by decide)]); exact hSInv_185)) (by first | exact er | ((repeat rw [up_f (by decide)]); rw [hfr185.1 180 (by decide) (by decide)]; (repeat rw [up_f (by decide)]); exact er)) (by first | exact UInv.set hS er ju jm.1 jm.2 (fun k a b => jw k a (by omega)) | exact hU185) (by first | exact j49 | rw [up_s]) (by (repeat (first | rw [up_k (by decide)] | rw [up_s] | rw [up_r (by decide)])); omega) (by first | exact jb | ((repeat rw [up_f (by decide)]); rw [hfr185.1 188 (by decide) (by decide)]; (repeat rw [up_f (by decide)]); exact jb)) (by (repeat (first | rw [up_k (by decide)] | rw [up_s] | rw [up_r (by decide)])); omega) )
                        · refine r_aload_n (pc := 208) hX 119 rfl rfl ?_
                          refine r_callV (as := []) (st := []) (K := 12) (pc := 209) hX 120 rfl mo_m_keep ml_X12_328 im_m_keep se_m_keep (c_keepX g (up (up v185 204 3 r185) 178 49 1) ρ Z hG  (by rw [up_f (by decide), up_f (by decide)]; exact hSInv_185) (hU185)) rfl rfl rfl hG.1 (by rw [hRm]; exact ⟨by decide, by decide⟩) (by rw [hRm]; exact ⟨by decide, by decide⟩) (Nat.le_of_ble_eq_true rfl) (fun o209 v209 ρ209 Z209 hq209 _ => ?_)
                          obtain ⟨rfl, rfl, hfr209, rfl, hq209⟩ := hq209
                          try simp only [up_f (show (180 : Int) ≠ 178 by decide), up_f (show (180 : Int) ≠ 204 by decide)] at hq209
                          have hSInv_209 : SInv (v209 180) := by rw [hfr209.1 180 (by decide) (by decide), up_f (by decide), up_f (by decide)]; exact hSInv_185
                          have hRsI_209 : RsI (v209 184) := by rw [hfr209.1 184 (by decide) (by decide), up_f (by decide), up_f (by decide)]; exact hRsI_185
                          have hk209_2 : v209 178 2 = (v185 178 2) := (hfr209.2 2 (by decide)).trans ((up_k (by decide)).trans ((up_r (by decide)).trans (rfl)))
                          have hk209_3 : v209 178 3 = (v185 178 3) := (hfr209.2 3 (by decide)).trans ((up_k (by decide)).trans ((up_r (by decide)).trans (rfl)))
                          have hk209_4 : v209 178 4 = (v185 178 4) := (hfr209.2 4 (by decide)).trans ((up_k (by decide)).trans ((up_r (by decide)).trans (rfl)))
                          have hk209_5 : v209 178 5 = (v185 178 5) := (hfr209.2 5 (by decide)).trans ((up_k (by decide)).trans ((up_r (by decide)).trans (rfl)))
                          have hk209_11 : v209 178 11 = (v185 178 11) := (hfr209.2 11 (by decide)).trans ((up_k (by decide)).trans ((up_r (by decide)).trans (rfl)))
                          have hk209_14 : v209 178 14 = (v185 178 14) := (hfr209.2 14 (by decide)).trans ((up_k (by decide)).trans ((up_r (by decide)).trans (rfl)))
                          have hk209_47 : v209 178 47 = (v185 178 47) := (hfr209.2 47 (by decide)).trans ((up_k (by decide)).trans ((up_r (by decide)).trans (rfl)))
                          have hk209_49 : v209 178 49 = 1 := (hfr209.2 49 (by decide)).trans (up_s _ _ _ _)
                          have hk209_15 : v209 178 15 = (v185 178 15) := (hfr209.2 15 (by decide)).trans ((up_k (by decide)).trans ((up_r (by decide)).trans (rfl)))
                          show wp g X F_m_log 0 0 212 [(2, 178), (0, a), (0, w), (0, i)] [] v209 ρ Z
                          refine r_iconst (pc := 212) hX 121 rfl ?_
                          refine r_istore_n (ls' := [(2, 178), (0, a), (0, w), (0, 0)]) (pc := 213) hX 122 rfl (by decide) rfl ?_
                          have L214 : ∀ (n214 : Nat) (i : Int) (v214 : Mv) , (Fr [180, 182, 185, 186, 187, 188, 189, 204] [0, 2, 3, 4, 5, 11, 12, 13, 14, 15, 16, 17, 18, 25, 47, 49] v v214) → (RsI (v214 184)) → (SInv (v214 180)) → (0 ≤ i ∧ i ≤ 22) → (RdEq (v 180) (v214 180)) → (1 ≤ v214 178 25 ∧ v214 178 25 ≤ 8) → (UInv (v214 180) (v214 187) (v214 178 25 - 1)) → (∀ k, 0 ≤ k → k < i → v214 187 (22 * (v214 178 25 - 1) + k) = v 180 (35 + k)) → (v214 178 49 = 1) → (0 ≤ v214 178 11 ∧ v214 178 11 ≤ 4 ∧ inR (v214 178 14) ∧ v214 178 2 = 0) → (∀ k, 0 ≤ k → k < 22 → v214 188 k = v 180 (35 + k)) → (v214 178 15 = 0) → (22 - i).toNat < n214 → wp g X F_m_log 0 0 214 [(2, 178), (0, a), (0, w), (0, i)] [] v214 ρ Z := by
                            intro n214
                            induction n214 with
                            | zero => intro i v214 hfr214 hRsI_214 hSInv_214 ii er jm ju jw j49 jl jb i15 hme214; exact absurd hme214 (Nat.not_lt_zero _)
                            | succ n214 ih214 =>
                              intro i v214 hfr214 hRsI_214 hSInv_214 ii er jm ju jw j49 jl jb i15 hme214
                              refine r_iload_n (pc := 214) hX 123 rfl rfl ?_
                              refine r_bipush (pc := 215) hX 124 rfl (by decide) ?_
                              first | refine r_icmp_ge (pc := 217) hX 125 (tgt := 248) rfl (by decide) (⟨by omega, by omega⟩) (⟨by omega, by omega⟩) (fun h217 => ?_) (fun h217 => ?_) | refine r_icmp_ge_any (pc := 217) hX 125 (tgt := 248) rfl (by decide) ?_ ?_
                              · refine r_wk (ls' := [(2, 178), (0, a), (0, w), (3, 0)]) ⟨Or.inr rfl, Or.inr rfl, Or.inr rfl, Or.inl rfl, trivial⟩ ?_
                                exact (L248  v214 (hfr214) (hRsI_214) (by first | exact hSInv_214 | ((repeat rw [up_f (by decide)]); exact hSInv_185)) (by first | exact er | ((repeat rw [up_f (by decide)]); rw [hfr185.1 180 (by decide) (by decide)]; (repeat rw [up_f (by decide)]); exact er)) (by first | exact UInv.set hS er ju jm.1 jm.2 (fun k a b => jw k a (by omega)) | exact hU185) (by first | exact j49 | rw [up_s]) (by (repeat (first | rw [up_k (by decide)] | rw [up_s] | rw [up_r (by decide)])); omega) (by first | exact jb | ((repeat rw [up_f (by decide)]); rw [hfr185.1 188 (by decide) (by decide)]; (repeat rw [up_f (by decide)]); exact jb)) (by (repeat (first | rw [up_k (by decide)] | rw [up_s] | rw [up_r (by decide)])); omega) )
                              · refine t_getR (pc := 220) hX 126 rfl rfl rfl fl_X12_56 rfl hG.1 (a_undone hG).1 ?_
                                refine r_bipush (pc := 224) hX 128 rfl (by decide) ?_
                                refine t_getI (y := (v214 178 25)) (pc := 226) hX 129 rfl rfl rfl fl_X12_278 rfl hG.1 (rfl) ?_
                                refine r_iconst (pc := 230) hX 131 rfl ?_
                                refine r_isub (pc := 231) hX 132 rfl ?_
                                refine r_imul (pc := 232) hX 133 rfl ?_
                                refine r_iload_n (pc := 233) hX 134 rfl rfl ?_
                                refine r_iadd (pc := 234) hX 135 rfl ?_
                                refine t_getR (pc := 235) hX 136 rfl rfl rfl fl_X12_59 rfl hG.1 (a_before hG).1 ?_
                                refine r_iload_n (pc := 239) hX 138 rfl rfl ?_
                                refine e_iald (y := (v214 188 i)) (pc := 240) hX 139 rfl (a_before hG).2.1 (a_before hG).2.2 (by omega) (by omega) (rfl) ?_
                                refine e_iast (pc := 241) hX 140 rfl (a_undone hG).2.1 (a_undone hG).2.2 (by decide) (by omega) (by omega) ?_
                                refine r_iinc (ls' := [(2, 178), (0, a), (0, w), (0, (i + 1))]) (pc := 242) hX 141 rfl rfl (by decide) rfl ?_
                                refine r_goto (pc := 245) hX 142 (tgt := 214) rfl (by decide) ?_
                                exact (ih214 (i + 1) (up v214 187 ((22 * ((v214 178 25) - 1)) + i) (v214 188 i)) ((hfr214).arr (r := 187) (by decide) (by decide)) (by rw [up_f (by decide)]; exact hRsI_214) (by (repeat rw [up_f (by decide)]); exact hSInv_214) (by omega) (by (repeat rw [up_f (by decide)]); exact er) (by (repeat (first | rw [up_k (by decide)] | rw [up_s] | rw [up_r (by decide)])); omega) (by rw [up_f (show (180 : Int) ≠ 187 by decide), up_f (show (178 : Int) ≠ 187 by decide)]; exact ju.wr (fun k a => up_k (by omega))) (fun k a b => by
          rw [up_f (show (178 : Int) ≠ 187 by decide)]
          by_cases e : k = i
          · subst e; rw [up_s]; exact jb k a (by omega)
          · rw [up_k (by omega)]; exact jw k a (by omega)) (by (repeat (first | rw [up_k (by decide)] | rw [up_s] | rw [up_r (by decide)])); omega) (by (repeat (first | rw [up_k (by decide)] | rw [up_s] | rw [up_r (by decide)])); omega) (by (repeat rw [up_f (by decide)]); exact jb) (by (repeat (first | rw [up_k (by decide)] | rw [up_s] | rw [up_r (by decide)])); omega) (by omega))
                          exact (L214 _ 0 v209 ((((((hfr111).arr (r := 204) (by decide) (by decide)).tr hfr185 (by decide) (by decide)).arr (r := 204) (by decide) (by decide)).fld (k := 49) (by decide)).tr hfr209 (by decide) (by decide)) (hRsI_209) (hSInv_209) (by omega) (by rw [hfr209.1 180 (by decide) (by decide)]; (repeat rw [up_f (by decide)]); rw [hfr185.1 180 (by decide) (by decide)]; (repeat rw [up_f (by decide)]); exact er) (by have z := hq209.1.2.1; omega) (by rw [hfr209.1 180 (by decide) (by decide)]; exact hq209.1.less hq209.2) (fun k a b => by omega) (by rw [hk209_49]) (by omega) (by rw [hfr209.1 188 (by decide) (by decide)]; (repeat rw [up_f (by decide)]); rw [hfr185.1 188 (by decide) (by decide)]; (repeat rw [up_f (by decide)]); exact jb) (by (repeat (first | rw [up_k (by decide)] | rw [up_s] | rw [up_r (by decide)])); omega) (Nat.lt_succ_self _))
                    first | refine r_icmp_ge (pc := 116) hX 64 (tgt := 166) rfl (by decide) (⟨by omega, by omega⟩) (⟨by omega, by omega⟩) (fun h116 => ?_) (fun h116 => ?_) | refine r_icmp_ge_any (pc := 116) hX 64 (tgt := 166) rfl (by decide) ?_ ?_
                    · exact (L166   )
                    · refine r_iload_n (pc := 119) hX 65 rfl rfl ?_
                      first | refine r_if_ge (pc := 120) hX 66 (tgt := 166) rfl (by decide) (⟨by omega, by omega⟩) (fun h120 => ?_) (fun h120 => ?_) | refine r_if_ge_any (pc := 120) hX 66 (tgt := 166) rfl (by decide) ?_ ?_
                      · exact (L166   )
                      · refine t_getR (pc := 123) hX 67 rfl rfl rfl fl_X12_111 rfl hG.1 (a_loggedAt hG).1 ?_
                        refine r_iconst (pc := 127) hX 69 rfl ?_
                        refine r_aload_n (pc := 128) hX 70 rfl rfl ?_
                        refine r_iconst (pc := 129) hX 71 rfl ?_
                        refine r_iload_n (pc := 130) hX 72 rfl rfl ?_
                        refine r_imul (pc := 131) hX 73 rfl ?_
                        refine r_callV (as := [(0, (3 * i))]) (st := [(0, 0), (2, 204)]) (K := 12) (pc := 132) hX 74 rfl mo_m_does ml_X12_483 im_m_does se_m_does (c_does g v111 ρ Z hG ((3 * i)) (hSInv_111) (by omega) ((jd i (by omega) (by omega)).cg rfl rfl rfl er)) rfl rfl rfl hG.1 (by rw [hRm]; exact ⟨by decide, by decide⟩) (by rw [hRm]; exact ⟨by decide, by decide⟩) (Nat.le_of_ble_eq_true rfl) (fun o132 v132 ρ132 Z132 hq132 _ => ?_)
                        obtain ⟨rfl, rfl, hfr132, r132, rfl, hq132⟩ := hq132
                        have hRsI_132 : RsI (v132 184) := by rw [hfr132.1 184 (by decide) (by decide)]; exact hRsI_111
                        have hk132_2 : v132 178 2 = (v111 178 2) := (hfr132.2 2 (by decide)).trans (rfl)
                        have hk132_3 : v132 178 3 = (v111 178 3) := (hfr132.2 3 (by decide)).trans (rfl)
                        have hk132_4 : v132 178 4 = (v111 178 4) := (hfr132.2 4 (by decide)).trans (rfl)
                        have hk132_5 : v132 178 5 = (v111 178 5) := (hfr132.2 5 (by decide)).trans (rfl)
                        have hk132_11 : v132 178 11 = (v111 178 11) := (hfr132.2 11 (by decide)).trans (rfl)
                        have hk132_14 : v132 178 14 = (v111 178 14) := (hfr132.2 14 (by decide)).trans (rfl)
                        have hk132_25 : v132 178 25 = (v111 178 25) := (hfr132.2 25 (by decide)).trans (rfl)
                        have hk132_47 : v132 178 47 = (v111 178 47) := (hfr132.2 47 (by decide)).trans (rfl)
                        have hk132_49 : v132 178 49 = (v111 178 49) := (hfr132.2 49 (by decide)).trans (rfl)
                        have hk132_15 : v132 178 15 = (v111 178 15) := (hfr132.2 15 (by decide)).trans (rfl)
                        show wp g X F_m_log 0 0 135 [(2, 178), (0, a), (0, w), (0, i)] [(0, r132), (0, 0), (2, 204)] v132 ρ Z
                        refine e_iast (pc := 135) hX 75 rfl (a_loggedAt hG).2.1 (a_loggedAt hG).2.2 (by decide) (by omega) (by omega) ?_
                        refine t_getR (pc := 136) hX 76 rfl rfl rfl fl_X12_111 rfl hG.1 (a_loggedAt hG).1 ?_
                        refine r_iconst (pc := 140) hX 78 rfl ?_
                        refine e_iald (y := r132) (pc := 141) hX 79 rfl (a_loggedAt hG).2.1 (a_loggedAt hG).2.2 (by omega) (by omega) (up_s _ _ _ _) ?_
                        first | refine r_if_le (pc := 142) hX 80 (tgt := 150) rfl (by decide) (⟨by omega, by omega⟩) (fun h142 => ?_) (fun h142 => ?_) | refine r_if_le_any (pc := 142) hX 80 (tgt := 150) rfl (by decide) ?_ ?_
                        · refine t_getR (pc := 150) hX 84 rfl rfl rfl fl_X12_111 rfl hG.1 (a_loggedAt hG).1 ?_
                          refine r_iconst (pc := 154) hX 86 rfl ?_
                          refine r_dup2i (pc := 155) hX 87 rfl (show (0 : Nat) ≠ 1 by decide) (show (2 : Nat) ≠ 1 by decide) ?_
                          refine e_iald (y := (v132 204 1)) (pc := 156) hX 88 rfl (a_loggedAt hG).2.1 (a_loggedAt hG).2.2 (by omega) (by omega) ((up_k (by decide)).trans (rfl)) ?_
                          refine r_iconst (pc := 157) hX 89 rfl ?_
                          refine r_iadd (pc := 158) hX 90 rfl ?_
                          refine e_iast (pc := 159) hX 91 rfl (a_loggedAt hG).2.1 (a_loggedAt hG).2.2 (by decide) (by omega) (by omega) ?_
                          refine r_iinc (ls' := [(2, 178), (0, a), (0, w), (0, (i + 1))]) (pc := 160) hX 92 rfl rfl (by decide) rfl ?_
                          refine r_goto (pc := 163) hX 93 (tgt := 111) rfl (by decide) ?_
                          exact (ih111 w (i + 1) (up (up v132 204 0 r132) 204 1 ((v132 204 1) + 1)) ((((hfr111).tr hfr132 (by decide) (by decide)).arr (r := 204) (by decide) (by decide)).arr (r := 204) (by decide) (by decide)) (by rw [up_f (by decide), up_f (by decide)]; exact hRsI_132) (by (repeat rw [up_f (by decide)]); exact hq132.1) (by (repeat (first | rw [up_k (by decide)] | rw [up_s] | rw [up_r (by decide)])); omega) (by (repeat rw [up_f (by decide)]); exact er.tr hq132.2) (by (repeat rw [up_f (by decide)]); rw [hfr132.1 187 (by decide) (by decide)]; exact e187) (by (repeat (first | rw [up_k (by decide)] | rw [up_s] | rw [up_r (by decide)])); omega) (by (repeat (first | rw [up_k (by decide)] | rw [up_s] | rw [up_r (by decide)])); omega) (by rw [up_f (show (182 : Int) ≠ 204 by decide), up_f (show (178 : Int) ≠ 204 by decide)]; (try rw [up_f (show (182 : Int) ≠ 204 by decide), up_f (show (178 : Int) ≠ 204 by decide)]); rw [hk132_47, hfr132.1 182 (by decide) (by decide)]; exact jd) (by (repeat (first | rw [up_k (by decide)] | rw [up_s] | rw [up_r (by decide)])); omega) (by (repeat rw [up_f (by decide)]); rw [hfr132.1 188 (by decide) (by decide)]; exact jb) (by (repeat (first | rw [up_k (by decide)] | rw [up_s] | rw [up_r (by decide)])); omega) (by (repeat (first | rw [up_k (by decide)] | rw [up_s] | rw [up_r (by decide)])); omega))
                        · refine r_iload_n (pc := 145) hX 81 rfl rfl ?_
                          refine r_istore_n (ls' := [(2, 178), (0, a), (0, i), (0, i)]) (pc := 146) hX 82 rfl (by decide) rfl ?_
                          refine r_goto (pc := 147) hX 83 (tgt := 160) rfl (by decide) ?_
                          refine r_iinc (ls' := [(2, 178), (0, a), (0, i), (0, (i + 1))]) (pc := 160) hX 92 rfl rfl (by decide) rfl ?_
                          refine r_goto (pc := 163) hX 93 (tgt := 111) rfl (by decide) ?_
                          exact (ih111 i (i + 1) (up v132 204 0 r132) (((hfr111).tr hfr132 (by decide) (by decide)).arr (r := 204) (by decide) (by decide)) (by rw [up_f (by decide)]; exact hRsI_132) (by (repeat rw [up_f (by decide)]); exact hq132.1) (by (repeat (first | rw [up_k (by decide)] | rw [up_s] | rw [up_r (by decide)])); omega) (by (repeat rw [up_f (by decide)]); exact er.tr hq132.2) (by (repeat rw [up_f (by decide)]); rw [hfr132.1 187 (by decide) (by decide)]; exact e187) (by (repeat (first | rw [up_k (by decide)] | rw [up_s] | rw [up_r (by decide)])); omega) (by (repeat (first | rw [up_k (by decide)] | rw [up_s] | rw [up_r (by decide)])); omega) (by rw [up_f (show (182 : Int) ≠ 204 by decide), up_f (show (178 : Int) ≠ 204 by decide)]; (try rw [up_f (show (182 : Int) ≠ 204 by decide), up_f (show (178 : Int) ≠ 204 by decide)]); rw [hk132_47, hfr132.1 182 (by decide) (by decide)]; exact jd) (by (repeat (first | rw [up_k (by decide)] | rw [up_s] | rw [up_r (by decide)])); omega) (by (repeat rw [up_f (by decide)]); rw [hfr132.1 188 (by decide) (by decide)]; exact jb) (by (repeat (first | rw [up_k (by decide)] | rw [up_s] | rw [up_r (by decide)])); omega) (by (repeat (first | rw [up_k (by decide)] | rw [up_s] | rw [up_r (by decide)])); omega))
                exact (L111 _ (-1) 0 v89 (hfr89) (hRsI_89) (by rw [e180]; exact hS) (by omega) (by rw [e180]; exact RdEq.rf) (e187) (e25) (jt) (jd) (jl) (jb) (by (repeat (first | rw [up_k (by decide)] | rw [up_s] | rw [up_r (by decide)])); omega) (Nat.lt_succ_self _))
              · refine t_getR (pc := 94) hX 50 rfl rfl rfl fl_X12_111 rfl hG.1 (a_loggedAt hG).1 ?_
                refine r_iload_n (pc := 98) hX 52 rfl rfl ?_
                refine r_iconst (pc := 99) hX 53 rfl ?_
                refine e_iast (pc := 100) hX 54 rfl (a_loggedAt hG).2.1 (a_loggedAt hG).2.2 (by decide) (by omega) (by omega) ?_
                refine r_iinc (ls' := [(2, 178), (0, a), (0, (i + 1)), (3, 0)]) (pc := 101) hX 55 rfl rfl (by decide) rfl ?_
                refine r_goto (pc := 104) hX 56 (tgt := 89) rfl (by decide) ?_
                exact (ih89 (i + 1) (up v89 204 i 0) ((hfr89).arr (r := 204) (by decide) (by decide)) (by rw [up_f (by decide)]; exact hRsI_89) (by omega) (by (repeat rw [up_f (by decide)]); exact e180) (by (repeat rw [up_f (by decide)]); exact e187) (by (repeat (first | rw [up_k (by decide)] | rw [up_s] | rw [up_r (by decide)])); omega) (by (repeat (first | rw [up_k (by decide)] | rw [up_s] | rw [up_r (by decide)])); omega) (by rw [up_f (show (182 : Int) ≠ 204 by decide), up_f (show (178 : Int) ≠ 204 by decide)]; exact jd) (by (repeat (first | rw [up_k (by decide)] | rw [up_s] | rw [up_r (by decide)])); omega) (by (repeat rw [up_f (by decide)]); exact jb) (by (repeat (first | rw [up_k (by decide)] | rw [up_s] | rw [up_r (by decide)])); omega) (by omega))
          exact (L89 _ 0 v84 ((hfr39).tr hfr84 (by decide) (by decide)) (hRsI_84) (by omega) (by rw [hfr84.1 180 (by decide) (by decide)]; exact e180) (by rw [hfr84.1 187 (by decide) (by decide)]; exact e187) (by omega) (by omega) (by rw [hk84_47, hfr84.1 182 (by decide) (by decide)]; exact jd) (by omega) (by rw [e180] at hq84; exact hq84) (by rw [hk84_15]; exact hTg.2.2.2.2.1.2) (Nat.lt_succ_self _))
        · refine r_aload_n (pc := 46) hX 24 rfl rfl ?_
          refine r_callV (as := []) (st := []) (K := 12) (pc := 47) hX 25 rfl mo_m_logLine ml_X12_480 im_m_logLine se_m_logLine (c_logLineL g v39 ρ Z hG  (by (repeat (first | rw [up_k (by decide)] | rw [up_s] | rw [up_r (by decide)])); omega) (hTg) (by rw [e180]; exact hS) (by omega) (by rw [e184]; exact hrs) (by rw [e180, e183]; exact hNm) (by rw [e180, e183]; exact hNp)) rfl rfl rfl hG.1 (by rw [hRm]; exact ⟨by decide, by decide⟩) (by rw [hRm]; exact ⟨by decide, by decide⟩) (Nat.le_of_ble_eq_true rfl) (fun o47 v47 ρ47 Z47 hq47 _ => ?_)
          obtain ⟨rfl, rfl, hfr47, r47, rfl, hq47⟩ := hq47
          have hRsI_47 : RsI (v47 184) := by rw [hfr47.1 184 (by decide) (by decide)]; exact hRsI_39
          have hk47_2 : v47 178 2 = (v39 178 2) := (hfr47.2 2 (by decide)).trans (rfl)
          have hk47_3 : v47 178 3 = (v39 178 3) := (hfr47.2 3 (by decide)).trans (rfl)
          have hk47_5 : v47 178 5 = (v39 178 5) := (hfr47.2 5 (by decide)).trans (rfl)
          have hk47_25 : v47 178 25 = (v39 178 25) := (hfr47.2 25 (by decide)).trans (rfl)
          have hk47_47 : v47 178 47 = (v39 178 47) := (hfr47.2 47 (by decide)).trans (rfl)
          have hk47_49 : v47 178 49 = (v39 178 49) := (hfr47.2 49 (by decide)).trans (rfl)
          show wp g X F_m_log 0 0 50 [(2, 178), (0, a), (3, 0), (3, 0)] [(0, r47)] v47 ρ Z
          have hk47 := hq47.2.2.1
          have hL47 := hq47.2.2.2
          rw [e180] at hL47
          have hR47 : r47 ≠ 0 → RdL (v47 182) (v39 180) (3 * v39 178 47) := fun b => by
            rcases hq47.2.1 with c | ⟨-, -, c, -⟩
            · exact absurd c b
            · exact c
          have hG47 : r47 = 0 ∨ r47 = 1 ∧ v39 178 47 ≤ 39 ∧ (v39 178 4 < v47 178 4 ∨ v47 178 11 = 0 ∨ v47 178 11 = 4) := by
            rcases hq47.2.1 with c | ⟨a, b, -, c⟩
            · exact Or.inl c
            · exact Or.inr ⟨a, b, c⟩
          replace hq47 := hq47.1
          first | refine r_if_eq (pc := 50) hX 26 (tgt := 62) rfl (by decide) (⟨by omega, by omega⟩) (fun h50 => ?_) (fun h50 => ?_) | refine r_if_eq_any (pc := 50) hX 26 (tgt := 62) rfl (by decide) ?_ ?_
          · refine r_bipush (pc := 62) hX 31 rfl (by decide) ?_
            refine t_getI (y := (v47 178 16)) (pc := 64) hX 32 rfl rfl rfl fl_X12_210 rfl hG.1 (rfl) ?_
            refine r_isub (pc := 68) hX 34 rfl ?_
            exact r_iret (pc := 69) hX 35 hQ rfl rfl (Nat.le_refl 0) (Nat.le_refl 0) ⟨rfl, rfl, (hfr39).tr hfr47 (by decide) (by decide), ((-2) - (v47 178 16)), rfl, (by first | (rw [hfr47.1 180 (by decide) (by decide), e180]; exact hS) | (rw [hfr56.1 180 (by decide) (by decide), hfr47.1 180 (by decide) (by decide), e180]; exact hS)), (by first | (rw [hfr47.1 180 (by decide) (by decide), e180, hfr47.1 187 (by decide) (by decide), e187, hk47_25, e25]; exact hU) | (rw [hfr56.1 180 (by decide) (by decide), hfr47.1 180 (by decide) (by decide), e180, hfr56.1 187 (by decide) (by decide), hfr47.1 187 (by decide) (by decide), e187, hk56_25, hk47_25, e25]; exact hU)), (by omega), (fun k _ => by first | rw [hfr47.1 180 (by decide) (by decide), e180] | rw [hfr56.1 180 (by decide) (by decide), hfr47.1 180 (by decide) (by decide), e180]), (Or.inr ⟨by omega, by omega, by
        first
        | (rcases hs56 with ⟨a, _⟩ | ⟨_, a, b, _⟩; exact absurd a (by omega); rw [heq, lA_sg (by omega) (by omega) heL a]; exact b)
        | (rcases hL47 with ⟨a, _⟩ | ⟨_, q, a, b, c, d, _⟩; exact absurd a (by omega); rw [heq, lA_bad (by omega) (by omega) b c]; exact d)⟩)⟩
          · refine r_aload_n (pc := 53) hX 27 rfl rfl ?_
            refine r_bipush (pc := 54) hX 28 rfl (by decide) ?_
            obtain ⟨qe, heL, hTq⟩ := (hL47.resolve_right (fun z => absurd z.1 (by omega))).2
            refine r_callV (as := [(0, 59)]) (st := []) (K := 12) (pc := 56) hX 29 rfl mo_m_sign ml_X12_275 im_m_sign se_m_sign (c_signF g v47 ρ Z hG (59) (by (repeat (first | rw [up_k (by decide)] | rw [up_s] | rw [up_r (by decide)])); omega) (hTq) (by omega)) rfl rfl rfl hG.1 (by rw [hRm]; exact ⟨by decide, by decide⟩) (by rw [hRm]; exact ⟨by decide, by decide⟩) (Nat.le_of_ble_eq_true rfl) (fun o56 v56 ρ56 Z56 hq56 _ => ?_)
            obtain ⟨rfl, rfl, hfr56, r56, rfl, hq56⟩ := hq56
            have hRsI_56 : RsI (v56 184) := by rw [hfr56.1 184 (by decide) (by decide)]; exact hRsI_47
            have hk56_2 : v56 178 2 = (v47 178 2) := (hfr56.2 2 (by decide)).trans (rfl)
            have hk56_3 : v56 178 3 = (v47 178 3) := (hfr56.2 3 (by decide)).trans (rfl)
            have hk56_5 : v56 178 5 = (v47 178 5) := (hfr56.2 5 (by decide)).trans (rfl)
            have hk56_25 : v56 178 25 = (v47 178 25) := (hfr56.2 25 (by decide)).trans (rfl)
            have hk56_47 : v56 178 47 = (v47 178 47) := (hfr56.2 47 (by decide)).trans (rfl)
            have hk56_49 : v56 178 49 = (v47 178 49) := (hfr56.2 49 (by decide)).trans (rfl)
            show wp g X F_m_log 0 0 59 [(2, 178), (0, a), (3, 0), (3, 0)] [(0, r56)] v56 ρ Z
            have hs56 := hq56.2.2
            replace hq56 := And.intro hq56.1 hq56.2.1
            first | refine r_if_ne (pc := 59) hX 30 (tgt := 70) rfl (by decide) (⟨by omega, by omega⟩) (fun h59 => ?_) (fun h59 => ?_) | refine r_if_ne_any (pc := 59) hX 30 (tgt := 70) rfl (by decide) ?_ ?_
            · have hm56 := ((hs56.resolve_right (fun z => absurd z.1 (by omega))).2)
              have h3_ : v47 178 11 = 3 := hTq.2.2.2.2.2.2.1.trans (mk_t hm56.1).1
              refine r_aload_n (pc := 70) hX 36 rfl rfl ?_
              refine r_dup (pc := 71) hX 37 rfl (show (2 : Nat) ≠ 1 by decide) ?_
              refine e_getI (y := (v56 178 47)) (pc := 72) hX 38 rfl fl_X12_477 rfl hG.1 (rfl) ?_
              refine r_iconst (pc := 75) hX 39 rfl ?_
              refine r_iadd (pc := 76) hX 40 rfl ?_
              refine r_putI (pc := 77) hX 41 rfl fl_X12_477 rfl (fun _ h => by cases h; rfl) hG.1 (by decide) ?_
              refine r_goto (pc := 80) hX 42 (tgt := 39) rfl (by decide) ?_
              exact (ih39  (up v56 178 47 ((v56 178 47) + 1)) ((((hfr39).tr hfr47 (by decide) (by decide)).tr hfr56 (by decide) (by decide)).fld (k := 47) (by decide)) (by rw [up_f (by decide)]; exact hRsI_56) (by (repeat (first | rw [up_k (by decide)] | rw [up_s] | rw [up_r (by decide)])); omega) (by (repeat rw [up_f (by decide)]); rw [hfr56.1 180 (by decide) (by decide), hfr47.1 180 (by decide) (by decide)]; exact e180) (by (repeat rw [up_f (by decide)]); rw [hfr56.1 187 (by decide) (by decide), hfr47.1 187 (by decide) (by decide)]; exact e187) (by (repeat (first | rw [up_k (by decide)] | rw [up_s] | rw [up_r (by decide)])); omega) (by (repeat (first | rw [up_k (by decide)] | rw [up_s] | rw [up_r (by decide)])); omega) (fun t a b => by
          rw [up_s] at b
          rw [up_f (show (182 : Int) ≠ 178 by decide), hfr56.1 182 (by decide) (by decide)]
          by_cases e : t < v39 178 47
          · exact (jd t a e).cg (hk47 _ (by omega)) (hk47 _ (by omega)) (hk47 _ (by omega)) RdEq.rf
          · rw [show t = v39 178 47 by omega, ← e180]; exact hR47 (by omega)) (by (repeat (first | rw [up_k (by decide)] | rw [up_s] | rw [up_r (by decide)])); omega) (by (repeat (first | rw [up_k (by decide)] | rw [up_s] | rw [up_r (by decide)])); omega) (⟨_, hm56.2.fld (by decide), heq.trans ((lA_st (by omega) (by omega) heL hm56.1).trans (by rw [up_s, hk56_47, hk47_47]))⟩) (by (repeat (first | rw [up_k (by decide)] | rw [up_s] | rw [up_r (by decide)])); omega))
            · refine r_bipush (pc := 62) hX 31 rfl (by decide) ?_
              refine t_getI (y := (v56 178 16)) (pc := 64) hX 32 rfl rfl rfl fl_X12_210 rfl hG.1 (rfl) ?_
              refine r_isub (pc := 68) hX 34 rfl ?_
              exact r_iret (pc := 69) hX 35 hQ rfl rfl (Nat.le_refl 0) (Nat.le_refl 0) ⟨rfl, rfl, ((hfr39).tr hfr47 (by decide) (by decide)).tr hfr56 (by decide) (by decide), ((-2) - (v56 178 16)), rfl, (by first | (rw [hfr47.1 180 (by decide) (by decide), e180]; exact hS) | (rw [hfr56.1 180 (by decide) (by decide), hfr47.1 180 (by decide) (by decide), e180]; exact hS)), (by first | (rw [hfr47.1 180 (by decide) (by decide), e180, hfr47.1 187 (by decide) (by decide), e187, hk47_25, e25]; exact hU) | (rw [hfr56.1 180 (by decide) (by decide), hfr47.1 180 (by decide) (by decide), e180, hfr56.1 187 (by decide) (by decide), hfr47.1 187 (by decide) (by decide), e187, hk56_25, hk47_25, e25]; exact hU)), (by omega), (fun k _ => by first | rw [hfr47.1 180 (by decide) (by decide), e180] | rw [hfr56.1 180 (by decide) (by decide), hfr47.1 180 (by decide) (by decide), e180]), (Or.inr ⟨by omega, by omega, by
        first
        | (rcases hs56 with ⟨a, _⟩ | ⟨_, a, b, _⟩; exact absurd a (by omega); rw [heq, lA_sg (by omega) (by omega) heL a]; exact b)
        | (rcases hL47 with ⟨a, _⟩ | ⟨_, q, a, b, c, d, _⟩; exact absurd a (by omega); rw [heq, lA_bad (by omega) (by omega) b c]; exact d)⟩)⟩
    exact (L39 _  v36 ((((((Fr.rf).fld (k := 0) (by decide)).tr hfr22 (by decide) (by decide)).fld (k := 15) (by decide)).fld (k := 47) (by decide)).tr hfr36 (by decide) (by decide)) (hRsI_36) (by omega) (by rw [hfr36.1 180 (by decide) (by decide)]; (repeat rw [up_f (by decide)]); rw [hfr22.1 180 (by decide) (by decide), up_f (by decide)]) (by rw [hfr36.1 187 (by decide) (by decide)]; (repeat rw [up_f (by decide)]); rw [hfr22.1 187 (by decide) (by decide), up_f (by decide)]) (by omega) (by omega) (fun t a b => by omega) (by omega) (by omega) (⟨0, hT36, by rw [hk36_47]⟩) (Nat.lt_succ_self _))
  · refine r_sipush (pc := 14) hX 8 rfl (by decide) ?_
    show wp g X F_m_log 0 0 17 [(2, 178), (0, a), (3, 0), (3, 0)] [(0, (-1000))] (up v 178 0 0) ρ Z
    exact r_iret (pc := 17) hX 9 hQ rfl rfl (Nat.le_refl 0) (Nat.le_refl 0) ⟨rfl, rfl, (Fr.rf).fld (k := 0) (by decide), (-1000), rfl, (by (repeat rw [up_f (by decide)]); exact hS), (by
        have z : UInv (up v 178 0 0 180) (up v 178 0 0 187) (up v 178 0 0 178 25) := by rw [up_f (by decide), up_f (by decide), up_k (by decide)]; exact hU
        exact z), (by (repeat (first | rw [up_k (by decide)] | rw [up_s] | rw [up_r (by decide)])); omega), (fun k _ => by rw [up_f (by decide)]), (Or.inl ⟨by omega, by rw [up_k (by decide)]⟩)⟩
