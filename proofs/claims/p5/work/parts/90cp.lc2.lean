set_option maxHeartbeats 4000000 in
set_option maxRecDepth 100000 in
theorem c_X1_readL (g : Gp) (ω : Rw) (v ρ : Mv) (Z : Mz) (hH : HT ω v ρ Z) {L q : Int} {s : Rd} (t : Int) (ht : ω t = 15) (o : Int) (ho : ω o = 5) (hR : RcI v ρ o L q s) : Ok g 9 0 0 F_X1_read [(2, t), (2, o)] v ρ Z (fun o9 v' ρ' Z' => ρ = ρ' ∧ Z = Z' ∧ FrW ω [2, 15, 16, 17, 18] v v' ∧ HT ω v' ρ Z ∧ ∃ r : Int, o9 = some (0, r) ∧ (0 ≤ r ∧ r ≤ 1) ∧ ((r = 1 → LgO (v' (ρ t 1)) (v' (ρ t 2)) (v' t 4))) ∧ (v' (ρ t 0) 1 = v (ρ t 0) 1) ∧ (LdC (cb (v (ρ t 0) 1) (v (ρ (ρ t 0) 0))) (v (ρ t 0) 1) 400 (fun x => fnd s.N x 0 (s.H 0).toNat 0) (fun x => fnd s.N x 7 (s.H 2).toNat 0) v' ρ t r)) := by
  refine Ok.of mo_X1_read (Nat.le_of_ble_eq_true rfl) ?_
  intro X hX hRm hxn hQ
  show wp g X F_X1_read 0 0 0 [(2, t), (2, o), (3, 0)] [] v ρ Z
  have hw0 : ω (ρ t 0) = 2 := hH.rf ht (by decide) rfl
  have hw1 : ω (ρ t 1) = 16 := hH.rf ht (by decide) rfl
  have hw2 : ω (ρ t 2) = 17 := hH.rf ht (by decide) rfl
  have hw3 : ω (ρ (ρ t 0) 0) = 3 := hH.rf hw0 (by decide) rfl
  have hcbs := cb_sam (v (ρ t 0) 1) (v (ρ (ρ t 0) 0))
  refine r_aload_n (pc := 0) hX 0 rfl rfl ?_
  refine r_iconst (pc := 1) hX 1 rfl ?_
  refine r_putI (pc := 2) hX 2 rfl fl_X1_25 rfl (fun _ h => by cases h; rfl) (hH.kd ht (by decide)) (hH.g4 ht (by decide)) ?_
  have hH_2 : HT ω (up v t 4 0) ρ Z := hH.upR ht (by decide) rfl (by omega) (by omega)
  show wp g X F_X1_read 0 0 5 [(2, t), (2, o), (3, 0)] [] (up v t 4 0) ρ Z
  refine t_getR (q := (ρ t 0)) (pc := 5) hX 3 rfl rfl rfl fl_X1_21 rfl (hH_2.kd ht (by decide)) (rfl) ?_
  have hw5_ : ω (ρ t 0) = 2 := hH.rf ht (by decide) rfl
  refine r_sipush (pc := 9) hX 5 rfl (by decide) ?_
  refine r_callV (as := [(0, 400)]) (st := []) (K := 8) (pc := 12) hX 6 rfl mo_X8_open ml_X1_29 im_X8_open se_X8_open (c_X8_openF g ω (up v t 4 0) ρ Z hH_2 (ρ t 0) hw5_ (400) (by omega)) rfl rfl rfl (hH_2.kd hw5_ (by decide)) (by rw [hRm]; exact ⟨by decide, by decide⟩) (by rw [hRm]; exact ⟨by decide, by decide⟩) (Nat.le_of_ble_eq_true rfl) (fun o12 v12 ρv12 Zv12 hq12 _ => ?_)
  obtain ⟨rfl, rfl, hfr12, hH12, rfl, hq12⟩ := hq12
  show wp g X F_X1_read 0 0 15 [(2, t), (2, o), (3, 0)] [] v12 ρ Z
  refine t_getR (q := (ρ t 0)) (pc := 15) hX 7 rfl rfl rfl fl_X1_21 rfl (hH12.kd ht (by decide)) (rfl) ?_
  refine r_callV (as := []) (st := []) (K := 8) (pc := 19) hX 9 rfl mo_X8_advance ml_X1_35 im_X8_advance se_X8_advance (c_X8_advanceF g ω v12 ρ Z hH12 (ρ t 0) hw5_ (by have z1 : 0 ≤ v12 (ρ t 0) 1 ∧ v12 (ρ t 0) 1 ≤ 940 := hH12.rg hw0 (by decide) rfl; omega)) rfl rfl rfl (hH12.kd hw5_ (by decide)) (by rw [hRm]; exact ⟨by decide, by decide⟩) (by rw [hRm]; exact ⟨by decide, by decide⟩) (Nat.le_of_ble_eq_true rfl) (fun o19 v19 ρv19 Zv19 hq19 _ => ?_)
  obtain ⟨rfl, rfl, hfr19, hH19, rfl, hq19⟩ := hq19
  show wp g X F_X1_read 0 0 22 [(2, t), (2, o), (3, 0)] [] v19 ρ Z
  have hlen : 0 ≤ v (ρ t 0) 1 ∧ v (ρ t 0) 1 ≤ 940 := hH.rg hw0 (by decide) rfl
  have hn12 : v12 (ρ t 0) 1 = v (ρ t 0) 1 := hq12.1.trans (up_r (rne hw0 ht (by decide)))
  have hB12 : v12 (ρ (ρ t 0) 0) = v (ρ (ρ t 0) 0) := (hfr12 _ (by rw [hw3]; decide)).trans (up_f (rne hw3 ht (by decide)))
  have hB19 : v19 (ρ (ρ t 0) 0) = v12 (ρ (ρ t 0) 0) := hfr19 _ (by rw [hw3]; decide)
  have hz := tkC_of (F := (cb (v (ρ t 0) 1) (v (ρ (ρ t 0) 0)))) (n := (v (ρ t 0) 1)) (m := 400) (v := v12) (v' := v19) (ρ := ρ) (t := ρ t 0) hn12 hq12.2.1 ⟨by rw [hB12]; exact hcbs, hq12.2.2.2⟩ hB19 (by omega) (by omega) hq19.1 hq19.2.1 hq19.2.2.1 hq19.2.2.2.1 hq19.2.2.2.2.1 hq19.2.2.2.2.2.1 hq19.2.2.2.2.2.2
  rw [hq12.2.2.1] at hz
  have eL19 : v19 (ρ t 0) 1 = v (ρ t 0) 1 := (hq19.2.2.2.2.2.2 1 (Or.inl rfl)).trans hn12
  have e4 : v19 t 4 = 0 := (hfr19.at ht (by decide) 4).trans ((hfr12.at ht (by decide) 4).trans (up_s _ _ _ _))
  refine r_iconst (pc := 22) hX 10 rfl ?_
  refine r_istore_n (ls' := [(2, t), (2, o), (0, 0)]) (pc := 23) hX 11 rfl (by decide) rfl ?_
  have L24 : ∀ (n24 : Nat) (i : Int) (v24 : Mv) , (FrW ω [2, 15, 16, 17, 18] v v24) → (HT ω v24 ρ Z) → (0 ≤ i ∧ i ≤ 41) → (v24 (ρ t 0) 1 = v (ρ t 0) 1) → (LgO (v24 (ρ t 1)) (v24 (ρ t 2)) (v24 t 4)) → (i = v24 t 4) → (LgC (cb (v (ρ t 0) 1) (v (ρ (ρ t 0) 0))) (v (ρ t 0) 1) 400 (fun x => fnd s.N x 0 (s.H 0).toNat 0) (fun x => fnd s.N x 7 (s.H 2).toNat 0) v24 ρ t i) → (41 - i).toNat < n24 → wp g X F_X1_read 0 0 24 [(2, t), (2, o), (0, i)] [] v24 ρ Z := by
    intro n24
    induction n24 with
    | zero => intro i v24 hfr24 hH24 ii et ig i4 iq hme24; exact absurd hme24 (Nat.not_lt_zero _)
    | succ n24 ih24 =>
      intro i v24 hfr24 hH24 ii et ig i4 iq hme24
      obtain ⟨pg, hTg, heq⟩ := iq
      have hk4 := hTg.k4
      have hR24 : RcI v24 ρ o L q s := hR.frO hH ho (hfr24.keep (by decide))
      have hr24 : 0 ≤ v24 t 4 ∧ v24 t 4 ≤ 40 := hH24.rg ht (by decide) rfl
      refine r_iload_n (pc := 24) hX 12 rfl rfl ?_
      refine r_bipush (pc := 25) hX 13 rfl (by decide) ?_
      have L109 : (tk (cb (v (ρ t 0) 1) (v (ρ (ρ t 0) 0))) (v (ρ t 0) 1) 400 pg = 0) → wp g X F_X1_read 0 0 109 [(2, t), (2, o), (0, i)] [] v24 ρ Z := by
        intro i109
        refine r_iconst (pc := 109) hX 53 rfl ?_
        exact r_zret (pc := 110) hX 54 hQ rfl rfl ⟨by omega, by omega⟩ (Nat.le_of_ble_eq_true rfl) (Nat.le_of_ble_eq_true rfl) ⟨rfl, rfl, hfr24, hH24, 1, rfl, (by omega), (fun _ => ig), ((rfl).trans (by omega)), (Or.inl ⟨rfl, by rw [heq, lA_end (by omega) i109], hTg.2.2.2.2.1.2⟩)⟩
      first | refine r_icmp_gt (pc := 27) hX 14 (tgt := 109) rfl (by decide) (⟨by omega, by omega⟩) (⟨by omega, by omega⟩) (fun h27 => ?_) (fun h27 => ?_) | refine r_icmp_gt_any (pc := 27) hX 14 (tgt := 109) rfl (by decide) ?_ ?_
      · exact (L109  (by omega) )
      · refine t_getR (q := (ρ t 0)) (pc := 30) hX 15 rfl rfl rfl fl_X1_21 rfl (hH24.kd ht (by decide)) (rfl) ?_
        refine r_callV (as := []) (st := []) (K := 8) (pc := 34) hX 17 rfl mo_X8_isEnd ml_X1_38 im_X8_isEnd se_X8_isEnd (c_X8_isEndF g ω v24 ρ Z hH24 (ρ t 0) hw5_ ) rfl rfl rfl (hH24.kd hw5_ (by decide)) (by rw [hRm]; exact ⟨by decide, by decide⟩) (by rw [hRm]; exact ⟨by decide, by decide⟩) (Nat.le_of_ble_eq_true rfl) (fun o34 v34 ρv34 Zv34 hq34 _ => ?_)
        obtain ⟨rfl, rfl, rfl, r34, rfl, hq34⟩ := hq34
        show wp g X F_X1_read 0 0 37 [(2, t), (2, o), (0, i)] [(0, r34)] v24 ρ Z
        first | refine r_if_ne (pc := 37) hX 18 (tgt := 109) rfl (by decide) (⟨by omega, by omega⟩) (fun h37 => ?_) (fun h37 => ?_) | refine r_if_ne_any (pc := 37) hX 18 (tgt := 109) rfl (by decide) ?_ ?_
        · exact (L109  (by omega) )
        · refine r_aload_n (pc := 40) hX 19 rfl rfl ?_
          refine r_aload_n (pc := 41) hX 20 rfl rfl ?_
          refine r_callV (as := [(2, o)]) (st := []) (K := 1) (pc := 42) hX 21 rfl mo_X1_readActor ml_X1_42 im_X1_readActor se_X1_readActor (c_X1_readActorL g ω v24 ρ Z hH24 t ht o ho (hTg) (hR24)) rfl rfl rfl (hH24.kd ht (by decide)) (by rw [hRm]; exact ⟨by decide, by decide⟩) (by rw [hRm]; exact ⟨by decide, by decide⟩) (Nat.le_of_ble_eq_true rfl) (fun o42 v42 ρv42 Zv42 hq42 _ => ?_)
          obtain ⟨rfl, rfl, hfr42, hH42, r42, rfl, hq42⟩ := hq42
          have hw42_ : ω (ρ t 1) = 16 := hH.rf ht (by decide) rfl
          have hwf1_ : ω (ρ t 2) = 17 := hH.rf ht (by decide) rfl
          show wp g X F_X1_read 0 0 45 [(2, t), (2, o), (0, i)] [(0, r42)] v42 ρ Z
          have hA42 := hq42.2.2.2
          replace hq42 := And.intro hq42.1 (And.intro hq42.2.1 hq42.2.2.1)
          rw [← i4] at hA42
          have L56 : ∀ (v56 : Mv) , (FrW ω [2, 15, 16, 17, 18] v v56) → (HT ω v56 ρ Z) → (v56 (ρ t 0) 1 = v (ρ t 0) 1) → ((lA (cb (v (ρ t 0) 1) (v (ρ (ρ t 0) 0))) (v (ρ t 0) 1) 400 (fun x => fnd s.N x 0 (s.H 0).toNat 0) (fun x => fnd s.N x 7 (s.H 2).toNat 0) 0 0).1 ≠ 0 ∧ v56 (ρ t 0) 9 = (lA (cb (v (ρ t 0) 1) (v (ρ (ρ t 0) 0))) (v (ρ t 0) 1) 400 (fun x => fnd s.N x 0 (s.H 0).toNat 0) (fun x => fnd s.N x 7 (s.H 2).toNat 0) 0 0).1 ∧ v56 (ρ t 0) 10 = (lA (cb (v (ρ t 0) 1) (v (ρ (ρ t 0) 0))) (v (ρ t 0) 1) 400 (fun x => fnd s.N x 0 (s.H 0).toNat 0) (fun x => fnd s.N x 7 (s.H 2).toNat 0) 0 0).2) → wp g X F_X1_read 0 0 56 [(2, t), (2, o), (0, i)] [] v56 ρ Z := by
            intro v56 hfr56 hH56 et iB
            refine r_iconst (pc := 56) hX 27 rfl ?_
            exact r_zret (pc := 57) hX 28 hQ rfl rfl ⟨by omega, by omega⟩ (Nat.le_of_ble_eq_true rfl) (Nat.le_of_ble_eq_true rfl) ⟨rfl, rfl, hfr56, hH56, 0, rfl, (by omega), (fun e => by omega), ((rfl).trans (by omega)), (Or.inr ⟨rfl, iB⟩)⟩
          first | refine r_if_eq (pc := 45) hX 22 (tgt := 56) rfl (by decide) (⟨by omega, by omega⟩) (fun h45 => ?_) (fun h45 => ?_) | refine r_if_eq_any (pc := 45) hX 22 (tgt := 56) rfl (by decide) ?_ ?_
          · exact (L56  v42 ((hfr24).tr hfr42 (by decide)) (hH42) ((rfl).trans (by omega)) (by first | exact hA42.fin (by omega) (by omega) (by omega) heq | exact hC50.fin (by omega) hla (by omega) (by omega) heq) )
          · obtain ⟨qa, hla, hTa, hka⟩ := (hA42.resolve_right (fun z => absurd z.1 (by omega))).2
            have e442 : v42 t 4 = v24 t 4 := hfr42.at ht (by decide) 4
            have hga : v42 (ρ t 1) (v42 t 4) = 9 ∧ decide (ky (cb (v (ρ t 0) 1) (v (ρ (ρ t 0) 0))) (v (ρ t 0) 1) 400 pg = 9) = true ∨ v42 (ρ t 1) (v42 t 4) ≠ 9 ∧ decide (ky (cb (v (ρ t 0) 1) (v (ρ (ρ t 0) 0))) (v (ρ t 0) 1) 400 pg = 9) = false := by
              rw [e442, ← i4, hka]
              exact lAct_g hla
            have h39a := (hq42.2.1 (by omega)).1
            have hR42 : RcI v42 ρ o L q s := hR24.frO hH24 ho (hfr42.keep (by decide))
            refine r_aload_n (pc := 48) hX 23 rfl rfl ?_
            refine r_aload_n (pc := 49) hX 24 rfl rfl ?_
            refine r_callV (as := [(2, o)]) (st := []) (K := 1) (pc := 50) hX 25 rfl mo_X1_readColour ml_X1_46 im_X1_readColour se_X1_readColour (c_X1_readColourL g ω v42 ρ Z hH42 t ht o ho (hTa) (hR42) (hga) (by omega)) rfl rfl rfl (hH42.kd ht (by decide)) (by rw [hRm]; exact ⟨by decide, by decide⟩) (by rw [hRm]; exact ⟨by decide, by decide⟩) (Nat.le_of_ble_eq_true rfl) (fun o50 v50 ρv50 Zv50 hq50 _ => ?_)
            obtain ⟨rfl, rfl, hfr50, hH50, r50, rfl, hq50⟩ := hq50
            show wp g X F_X1_read 0 0 53 [(2, t), (2, o), (0, i)] [(0, r50)] v50 ρ Z
            have hC50 := hq50.2.2
            replace hq50 := And.intro hq50.1 hq50.2.1
            first | refine r_if_ne (pc := 53) hX 26 (tgt := 58) rfl (by decide) (⟨by omega, by omega⟩) (fun h53 => ?_) (fun h53 => ?_) | refine r_if_ne_any (pc := 53) hX 26 (tgt := 58) rfl (by decide) ?_ ?_
            · have hc50 := (hC50.resolve_right (fun z => absurd z.1 (by omega))).2
              have heL := lLine_c hla hc50.1
              refine t_getR (q := (ρ t 0)) (pc := 58) hX 29 rfl rfl rfl fl_X1_21 rfl (hH50.kd ht (by decide)) (rfl) ?_
              refine r_callV (as := []) (st := []) (K := 8) (pc := 62) hX 31 rfl mo_X8_advance ml_X1_35 im_X8_advance se_X8_advance (c_X8_advanceT g ω v50 ρ Z hH50 (ρ t 0) hw5_ (hc50.2)) rfl rfl rfl (hH50.kd hw5_ (by decide)) (by rw [hRm]; exact ⟨by decide, by decide⟩) (by rw [hRm]; exact ⟨by decide, by decide⟩) (Nat.le_of_ble_eq_true rfl) (fun o62 v62 ρv62 Zv62 hq62 _ => ?_)
              obtain ⟨rfl, rfl, hfr62, hH62, rfl, hq62⟩ := hq62
              show wp g X F_X1_read 0 0 65 [(2, t), (2, o), (0, i)] [] v62 ρ Z
              have eL62 : v62 (ρ t 0) 1 = v50 (ρ t 0) 1 := hq62.2.2.1.trans hc50.2.2.2.1.symm
              refine t_getR (q := (ρ t 0)) (pc := 65) hX 32 rfl rfl rfl fl_X1_21 rfl (hH62.kd ht (by decide)) (rfl) ?_
              refine r_bipush (pc := 69) hX 34 rfl (by decide) ?_
              refine r_callV (as := [(0, 59)]) (st := []) (K := 8) (pc := 71) hX 35 rfl mo_X8_isMark ml_X1_49 im_X8_isMark se_X8_isMark (c_X8_isMarkT g ω v62 ρ Z hH62 (ρ t 0) hw5_ (59) (hq62) (by omega)) rfl rfl rfl (hH62.kd hw5_ (by decide)) (by rw [hRm]; exact ⟨by decide, by decide⟩) (by rw [hRm]; exact ⟨by decide, by decide⟩) (Nat.le_of_ble_eq_true rfl) (fun o71 v71 ρv71 Zv71 hq71 _ => ?_)
              obtain ⟨rfl, rfl, rfl, r71, rfl, hq71⟩ := hq71
              show wp g X F_X1_read 0 0 74 [(2, t), (2, o), (0, i)] [(0, r71)] v62 ρ Z
              first | refine r_if_ne (pc := 74) hX 36 (tgt := 86) rfl (by decide) (⟨by omega, by omega⟩) (fun h74 => ?_) (fun h74 => ?_) | refine r_if_ne_any (pc := 74) hX 36 (tgt := 86) rfl (by decide) ?_ ?_
              · have hm71 := (Hd.o hq71.2).resolve_right (fun z => absurd z.1 (by omega))
                refine r_aload_n (pc := 86) hX 42 rfl rfl ?_
                refine r_dup (pc := 87) hX 43 rfl (show (2 : Nat) ≠ 1 by decide) ?_
                refine e_getI (y := (v24 t 4)) (pc := 88) hX 44 rfl fl_X1_25 rfl (hH62.kd ht (by decide)) ((hfr62.at ht (by decide) 4).trans ((hfr50.at ht (by decide) 4).trans ((hfr42.at ht (by decide) 4).trans (rfl)))) ?_
                have hb88 : 0 ≤ (v24 t 4) ∧ (v24 t 4) ≤ 40 := hH24.rg ht (by decide) rfl
                refine r_iconst (pc := 91) hX 45 rfl ?_
                refine r_iadd (pc := 92) hX 46 rfl ?_
                have hz93 := (hq42.2.1 (by omega)).1
                refine r_putI (pc := 93) hX 47 rfl fl_X1_25 rfl (fun _ h => by cases h; rfl) (hH62.kd ht (by decide)) (hH62.g4 ht (by decide)) ?_
                have hH_93 : HT ω (up v62 t 4 ((v24 t 4) + 1)) ρ Z := hH62.upR ht (by decide) rfl (by omega) (by omega)
                show wp g X F_X1_read 0 0 96 [(2, t), (2, o), (0, i)] [] (up v62 t 4 ((v24 t 4) + 1)) ρ Z
                refine t_getR (q := (ρ t 0)) (pc := 96) hX 48 rfl rfl rfl fl_X1_21 rfl (hH_93.kd ht (by decide)) (rfl) ?_
                refine r_callV (as := []) (st := []) (K := 8) (pc := 100) hX 50 rfl mo_X8_advance ml_X1_35 im_X8_advance se_X8_advance (c_X8_advanceT g ω (up v62 t 4 ((v24 t 4) + 1)) ρ Z hH_93 (ρ t 0) hw5_ (hq62.ot hw0 hw3 ht (by decide))) rfl rfl rfl (hH_93.kd hw5_ (by decide)) (by rw [hRm]; exact ⟨by decide, by decide⟩) (by rw [hRm]; exact ⟨by decide, by decide⟩) (Nat.le_of_ble_eq_true rfl) (fun o100 v100 ρv100 Zv100 hq100 _ => ?_)
                obtain ⟨rfl, rfl, hfr100, hH100, rfl, hq100⟩ := hq100
                show wp g X F_X1_read 0 0 103 [(2, t), (2, o), (0, i)] [] v100 ρ Z
                have eL100 : v100 (ρ t 0) 1 = v62 (ρ t 0) 1 := hq100.2.2.1.trans hq62.2.2.1.symm
                refine r_iinc (ls' := [(2, t), (2, o), (0, (i + 1))]) (pc := 103) hX 51 rfl rfl (by decide) rfl ?_
                refine r_goto (pc := 106) hX 52 (tgt := 24) rfl (by decide) ?_
                exact (ih24 (i + 1) v100 ((((((hfr24).tr hfr42 (by decide)).tr hfr50 (by decide)).tr hfr62 (by decide)).up (r := t) ht (by decide)).tr hfr100 (by decide)) (hH100) (by omega) ((rfl).trans (by omega)) (by rw [(show v100 (ρ t 1) = v42 (ρ t 1) from (hfr100.rw hw42_ (by decide)).trans ((up_f (rne hw42_ ht (by decide))).trans ((hfr62.rw hw42_ (by decide)).trans ((hfr50.rw hw42_ (by decide)).trans (rfl))))), (show v100 (ρ t 2) = v42 (ρ t 2) from (hfr100.rw hwf1_ (by decide)).trans ((up_f (rne hwf1_ ht (by decide))).trans ((hfr62.rw hwf1_ (by decide)).trans ((hfr50.rw hwf1_ (by decide)).trans (rfl))))), (show v100 t 4 = ((v24 t 4) + 1) from (hfr100.at ht (by decide) 4).trans (up_s _ _ _ _))]; exact ig.step (hq42.2.1 (by omega)).2.1 (hq42.2.1 (by omega)).2.2) (by have a := hfr100.at ht (by decide) 4; rw [up_s] at a; have b := hfr62.at ht (by decide) 4; have c := hfr50.at ht (by decide) 4; have d := hfr42.at ht (by decide) 4; omega) (⟨_, hq100, heq.trans (lA_st (by omega) (by omega) heL hm71.2)⟩) (by omega))
              · have hm71 := (Hd.o hq71.2).resolve_left (fun z => absurd z.1 (by omega))
                refine t_getR (q := (ρ t 0)) (pc := 77) hX 37 rfl rfl rfl fl_X1_21 rfl (hH62.kd ht (by decide)) (rfl) ?_
                refine r_iconst (pc := 81) hX 39 rfl ?_
                refine r_callV (as := [(0, 1)]) (st := []) (K := 8) (pc := 82) hX 40 rfl mo_X8_refuse ml_X1_53 im_X8_refuse se_X8_refuse (c_X8_refuseF g ω v62 ρ Z hH62 (ρ t 0) hw5_ (1) (by omega)) rfl rfl rfl (hH62.kd hw5_ (by decide)) (by rw [hRm]; exact ⟨by decide, by decide⟩) (by rw [hRm]; exact ⟨by decide, by decide⟩) (Nat.le_of_ble_eq_true rfl) (fun o82 v82 ρv82 Zv82 hq82 _ => ?_)
                obtain ⟨rfl, rfl, hfr82, hH82, r82, rfl, hq82⟩ := hq82
                show wp g X F_X1_read 0 0 85 [(2, t), (2, o), (0, i)] [(0, r82)] v82 ρ Z
                have eL82 : v82 (ρ t 0) 1 = v62 (ρ t 0) 1 := hq82.2.2 1 (by decide) (by decide)
                exact r_zret (pc := 85) hX 41 hQ rfl rfl ⟨by omega, by omega⟩ (Nat.le_of_ble_eq_true rfl) (Nat.le_of_ble_eq_true rfl) ⟨rfl, rfl, ((((hfr24).tr hfr42 (by decide)).tr hfr50 (by decide)).tr hfr62 (by decide)).tr hfr82 (by decide), hH82, r82, rfl, (by omega), (fun e => by omega), ((rfl).trans (by omega)), (by have e := heq.trans (lA_sg (by omega) (by omega) heL hm71.2); exact Or.inr ⟨hq82.1, by rw [e]; show (1 : Int) ≠ 0; decide, by rw [e]; exact hq82.2.1.1, by rw [e]; exact hq82.2.1.2.trans hq62.k5⟩)⟩
            · exact (L56  v50 (((hfr24).tr hfr42 (by decide)).tr hfr50 (by decide)) (hH50) ((rfl).trans (by omega)) (by first | exact hA42.fin (by omega) (by omega) (by omega) heq | exact hC50.fin (by omega) hla (by omega) (by omega) heq) )
  exact (L24 _ 0 v19 ((((FrW.rf).up (r := t) ht (by decide)).tr hfr12 (by decide)).tr hfr19 (by decide)) (hH19) (by omega) ((rfl).trans (by omega)) (by rw [(show v19 t 4 = 0 from (hfr19.at ht (by decide) 4).trans ((hfr12.at ht (by decide) 4).trans (up_s _ _ _ _)))]; exact LgO.none) (e4.symm) (⟨0, hz, rfl⟩) (Nat.lt_succ_self _))
