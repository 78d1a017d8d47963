set_option maxHeartbeats 4000000 in
set_option maxRecDepth 100000 in
theorem c_X1_readActorL (g : Gp) (ω : Rw) (v ρ : Mv) (Z : Mz) (hH : HT ω v ρ Z) {F : Int → Int} {n m p L q : Int} {s : Rd} (t : Int) (ht : ω t = 15) (o : Int) (ho : ω o = 5) (hT : TkC F n m v ρ (ρ t 0) p) (hR : RcI v ρ o L q s) : Ok g 8 0 0 F_X1_readActor [(2, t), (2, o)] v ρ Z (fun o9 v' ρ' Z' => ρ = ρ' ∧ Z = Z' ∧ FrW ω [2, 16, 17] v v' ∧ HT ω v' ρ Z ∧ ∃ r : Int, o9 = some (0, r) ∧ (0 ≤ r ∧ r ≤ 1) ∧ ((r = 1 → v t 4 ≤ 39 ∧ (v' (ρ t 1) (v t 4) ≠ 9 → 0 ≤ v' (ρ t 2) (v t 4)) ∧ ∀ k, k ≠ v t 4 → v' (ρ t 1) k = v (ρ t 1) k ∧ v' (ρ t 2) k = v (ρ t 2) k)) ∧ (v' (ρ t 0) 1 = v (ρ t 0) 1) ∧ (LaC F n m (fun x => fnd s.N x 7 (s.H 2).toNat 0) v' ρ t (v t 4) p r)) := by
  refine Ok.of mo_X1_readActor (Nat.le_of_ble_eq_true rfl) ?_
  intro X hX hRm hxn hQ
  show wp g X F_X1_readActor 0 0 0 [(2, t), (2, o), (3, 0), (3, 0)] [] v ρ Z
  have hw0 : ω (ρ t 0) = 2 := hH.rf ht (by decide) rfl
  have hw1 : ω (ρ t 1) = 16 := hH.rf ht (by decide) rfl
  have hw2 : ω (ρ t 2) = 17 := hH.rf ht (by decide) rfl
  have hg_o_10 : 0 ≤ v o 10 ∧ v o 10 ≤ 3 := hH.rg ho (by decide) rfl
  have hw3 : ω (ρ (ρ t 0) 0) = 3 := hH.rf hw0 (by decide) rfl
  have hw33 : ω (ρ t 3) = 18 := hH.rf ht (by decide) rfl
  have hr4 : 0 ≤ v t 4 ∧ v t 4 ≤ 40 := hH.rg ht (by decide) rfl
  have hk7 := hT.k7
  refine t_getR (q := (ρ t 0)) (pc := 0) hX 0 rfl rfl rfl fl_X1_21 rfl (hH.kd ht (by decide)) (rfl) ?_
  have hw0_ : ω (ρ t 0) = 2 := hH.rf ht (by decide) rfl
  refine e_getI (y := (v (ρ t 0) 7)) (pc := 4) hX 2 rfl fl_X1_57 rfl (hH.kd hw0_ (by decide)) (rfl) ?_
  have hb4 : (-1) ≤ (v (ρ t 0) 7) ∧ (v (ρ t 0) 7) ≤ 21 := hH.rg hw0_ (by decide) rfl
  refine r_bipush (pc := 7) hX 3 rfl (by decide) ?_
  have L17 : ∀ (cm : Int) , (cm = 0 ∨ cm = 1 ∧ v (ρ t 0) 7 = 9) → (cm = 1 ∧ ky F n m p = 9 ∨ cm = 0 ∧ ky F n m p ≠ 9) → wp g X F_X1_readActor 0 0 17 [(2, t), (2, o), (3, 0), (3, 0)] [(0, cm)] v ρ Z := by
    intro cm ic ic2
    refine r_istore_n (ls' := [(2, t), (2, o), (0, cm), (3, 0)]) (pc := 17) hX 8 rfl (by decide) rfl ?_
    refine r_iload_n (pc := 18) hX 9 rfl rfl ?_
    have L41 : (cm = 1 ∨ nm F n m p = true) → wp g X F_X1_readActor 0 0 41 [(2, t), (2, o), (0, cm), (3, 0)] [] v ρ Z := by
      intro i41n
      refine r_iload_n (pc := 41) hX 20 rfl rfl ?_
      have L60 : ∀ (who : Int) , (-1 ≤ who ∧ who ≤ 2) → (cm = 1 ∨ nm F n m p = true ∧ who = fnd s.N (tn F n p) 7 (s.H 2).toNat 0) → wp g X F_X1_readActor 0 0 60 [(2, t), (2, o), (0, cm), (3, 0)] [(0, who)] v ρ Z := by
        intro who iw iw2
        refine r_istore_n (ls' := [(2, t), (2, o), (0, cm), (0, who)]) (pc := 60) hX 29 rfl (by decide) rfl ?_
        refine r_iload_n (pc := 61) hX 30 rfl rfl ?_
        have L79 : (cm = 1 ∨ 0 ≤ who) → wp g X F_X1_readActor 0 0 79 [(2, t), (2, o), (0, cm), (0, who)] [] v ρ Z := by
          intro i79
          refine t_getI (y := (v t 4)) (pc := 79) hX 40 rfl rfl rfl fl_X1_25 rfl (hH.kd ht (by decide)) (rfl) ?_
          have hb79 : 0 ≤ (v t 4) ∧ (v t 4) ≤ 40 := hH.rg ht (by decide) rfl
          refine r_bipush (pc := 83) hX 42 rfl (by decide) ?_
          first | refine r_icmp_lt (pc := 85) hX 43 (tgt := 97) rfl (by decide) (⟨by omega, by omega⟩) (⟨by omega, by omega⟩) (fun h85 => ?_) (fun h85 => ?_) | refine r_icmp_lt_any (pc := 85) hX 43 (tgt := 97) rfl (by decide) ?_ ?_
          · refine r_iload_n (pc := 97) hX 49 rfl rfl ?_
            have L141 : ∀ (v141 : Mv) , (FrW ω [2, 16, 17] v v141) → (HT ω v141 ρ Z) → (v141 (ρ t 0) 7 = 9 ∨ 0 ≤ who) → (v141 (ρ t 0) 1 = v (ρ t 0) 1) → (v141 (ρ t 1) = v (ρ t 1)) → (v141 (ρ t 2) = v (ρ t 2)) → (∃ q, lAct F n m (fun x => fnd s.N x 7 (s.H 2).toNat 0) (v t 4) p = (0, q) ∧ TkC F n m v141 ρ (ρ t 0) q) → wp g X F_X1_readActor 0 0 141 [(2, t), (2, o), (0, cm), (0, who)] [] v141 ρ Z := by
              intro v141 hfr141 hH141 i41 et ea ew iq
              refine t_getR (q := (ρ t 2)) (pc := 141) hX 69 rfl rfl rfl fl_X1_15 rfl (hH141.kd ht (by decide)) (rfl) ?_
              have hw141_ : ω (ρ t 2) = 17 := hH.rf ht (by decide) rfl
              refine t_getI (y := (v t 4)) (pc := 145) hX 71 rfl rfl rfl fl_X1_25 rfl (hH141.kd ht (by decide)) ((hfr141.at ht (by decide) 4).trans (rfl)) ?_
              refine r_iload_n (pc := 149) hX 73 rfl rfl ?_
              refine e_iast (n := 40) (pc := 150) hX 74 rfl (hH141.kd hw141_ (by decide)) (hH141.ln hw141_ (by decide)) (hH141.g4 hw141_ (by decide)) (by omega) (by omega) ?_
              have hH_150 : HT ω (up v141 (ρ t 2) (v t 4) who) ρ Z := hH141.upR hw141_ (by decide) rfl (by omega) (by omega)
              refine t_getR (q := (ρ t 1)) (pc := 151) hX 75 rfl rfl rfl fl_X1_11 rfl (hH_150.kd ht (by decide)) (rfl) ?_
              have hw151_ : ω (ρ t 1) = 16 := hH.rf ht (by decide) rfl
              refine t_getI (y := (v t 4)) (pc := 155) hX 77 rfl rfl rfl fl_X1_25 rfl (hH_150.kd ht (by decide)) ((up_r (rne ht hw141_ (by decide))).trans ((hfr141.at ht (by decide) 4).trans (rfl))) ?_
              refine t_getR (q := (ρ t 0)) (pc := 159) hX 79 rfl rfl rfl fl_X1_21 rfl (hH_150.kd ht (by decide)) (rfl) ?_
              refine e_getI (y := (v141 (ρ t 0) 7)) (pc := 163) hX 81 rfl fl_X1_57 rfl (hH_150.kd hw0_ (by decide)) ((up_r (rne hw0_ hw141_ (by decide))).trans (rfl)) ?_
              have hb163 : (-1) ≤ (v141 (ρ t 0) 7) ∧ (v141 (ρ t 0) 7) ≤ 21 := hH141.rg hw0_ (by decide) rfl
              refine e_iast (n := 40) (pc := 166) hX 82 rfl (hH_150.kd hw151_ (by decide)) (hH_150.ln hw151_ (by decide)) (hH_150.g4 hw151_ (by decide)) (by omega) (by omega) ?_
              have hH_166 : HT ω (up (up v141 (ρ t 2) (v t 4) who) (ρ t 1) (v t 4) (v141 (ρ t 0) 7)) ρ Z := hH_150.upR hw151_ (by decide) rfl (by omega) (by omega)
              refine r_iconst (pc := 167) hX 83 rfl ?_
              exact r_zret (pc := 168) hX 84 hQ rfl rfl ⟨by omega, by omega⟩ (Nat.le_of_ble_eq_true rfl) (Nat.le_of_ble_eq_true rfl) ⟨rfl, rfl, ((hfr141).up (r := (ρ t 2)) hw141_ (by decide)).up (r := (ρ t 1)) hw151_ (by decide), hH_166, 1, rfl, (by omega), (fun _ => ⟨by omega, by rw [up_s, up_r (rne hw2 hw1 (by decide)), up_s]; omega, fun k hk => ⟨by rw [up_k hk, up_r (rne hw1 hw2 (by decide)), ea], by rw [up_r (rne hw2 hw1 (by decide)), up_k hk, ew]⟩⟩), (((up_r (rne hw0_ hw151_ (by decide))).trans ((up_r (rne hw0_ hw141_ (by decide))).trans (rfl))).trans (by omega)), (by
        obtain ⟨q, a, b⟩ := iq
        exact Or.inl ⟨rfl, q, a, (b.ot hw0 hw3 hw2 (by decide)).ot hw0 hw3 hw1 (by decide), by rw [up_s]; have z := b.k7; first | exact z | omega⟩)⟩
            first | refine r_if_ne (pc := 98) hX 50 (tgt := 141) rfl (by decide) (⟨by omega, by omega⟩) (fun h98 => ?_) (fun h98 => ?_) | refine r_if_ne_any (pc := 98) hX 50 (tgt := 141) rfl (by decide) ?_ ?_
            · exact (L141  v (FrW.rf) (hH) (by omega) ((rfl).trans (by omega)) ((rfl).trans (by first | rfl | assumption)) ((rfl).trans (by first | rfl | assumption)) (by first | exact ⟨p, lAct_c0 (by omega) (by omega), hT⟩ | (have z := iw2.resolve_left (by omega); exact ⟨tp F n m p, lAct_v0 z.1 (by show fnd s.N (tn F n p) 7 (s.H 2).toNat 0 ≠ -1; omega) (by omega) (by omega), hq105⟩)) )
            · refine t_getR (q := (ρ t 0)) (pc := 101) hX 51 rfl rfl rfl fl_X1_21 rfl (hH.kd ht (by decide)) (rfl) ?_
              refine r_callV (as := []) (st := []) (K := 8) (pc := 105) hX 53 rfl mo_X8_advance ml_X1_35 im_X8_advance se_X8_advance (c_X8_advanceT g ω v ρ Z hH (ρ t 0) hw0_ (hT)) rfl rfl rfl (hH.kd hw0_ (by decide)) (by rw [hRm]; exact ⟨by decide, by decide⟩) (by rw [hRm]; exact ⟨by decide, by decide⟩) (Nat.le_of_ble_eq_true rfl) (fun o105 v105 ρv105 Zv105 hq105 _ => ?_)
              obtain ⟨rfl, rfl, hfr105, hH105, rfl, hq105⟩ := hq105
              show wp g X F_X1_readActor 0 0 108 [(2, t), (2, o), (0, cm), (0, who)] [] v105 ρ Z
              have hk105 := hq105.k7
              have eL105 : v105 (ρ t 0) 1 = v (ρ t 0) 1 := hq105.2.2.1.trans hT.2.2.1.symm
              refine t_getR (q := (ρ t 0)) (pc := 108) hX 54 rfl rfl rfl fl_X1_21 rfl (hH105.kd ht (by decide)) (rfl) ?_
              refine e_getI (y := (v105 (ρ t 0) 7)) (pc := 112) hX 56 rfl fl_X1_57 rfl (hH105.kd hw0_ (by decide)) (rfl) ?_
              have hb112 : (-1) ≤ (v105 (ρ t 0) 7) ∧ (v105 (ρ t 0) 7) ≤ 21 := hH105.rg hw0_ (by decide) rfl
              refine r_bipush (pc := 115) hX 57 rfl (by decide) ?_
              first | refine r_icmp_eq (pc := 117) hX 58 (tgt := 141) rfl (by decide) (⟨by omega, by omega⟩) (⟨by omega, by omega⟩) (fun h117 => ?_) (fun h117 => ?_) | refine r_icmp_eq_any (pc := 117) hX 58 (tgt := 141) rfl (by decide) ?_ ?_
              · exact (L141  v105 ((FrW.rf).tr hfr105 (by decide)) (hH105) (by omega) ((rfl).trans (by omega)) (((hfr105.rw (hH.rf ht (by decide) (show rfO 15 1 = some 16 from rfl)) (by decide)).trans (rfl)).trans (by first | rfl | assumption)) (((hfr105.rw (hH.rf ht (by decide) (show rfO 15 2 = some 17 from rfl)) (by decide)).trans (rfl)).trans (by first | rfl | assumption)) (by first | exact ⟨p, lAct_c0 (by omega) (by omega), hT⟩ | (have z := iw2.resolve_left (by omega); exact ⟨tp F n m p, lAct_v0 z.1 (by show fnd s.N (tn F n p) 7 (s.H 2).toNat 0 ≠ -1; omega) (by omega) (by omega), hq105⟩)) )
              · refine t_getR (q := (ρ t 0)) (pc := 120) hX 59 rfl rfl rfl fl_X1_21 rfl (hH105.kd ht (by decide)) (rfl) ?_
                refine e_getI (y := (v105 (ρ t 0) 7)) (pc := 124) hX 61 rfl fl_X1_57 rfl (hH105.kd hw0_ (by decide)) (rfl) ?_
                refine r_bipush (pc := 127) hX 62 rfl (by decide) ?_
                first | refine r_icmp_eq (pc := 129) hX 63 (tgt := 141) rfl (by decide) (⟨by omega, by omega⟩) (⟨by omega, by omega⟩) (fun h129 => ?_) (fun h129 => ?_) | refine r_icmp_eq_any (pc := 129) hX 63 (tgt := 141) rfl (by decide) ?_ ?_
                · exact (L141  v105 ((FrW.rf).tr hfr105 (by decide)) (hH105) (by omega) ((rfl).trans (by omega)) (((hfr105.rw (hH.rf ht (by decide) (show rfO 15 1 = some 16 from rfl)) (by decide)).trans (rfl)).trans (by first | rfl | assumption)) (((hfr105.rw (hH.rf ht (by decide) (show rfO 15 2 = some 17 from rfl)) (by decide)).trans (rfl)).trans (by first | rfl | assumption)) (by first | exact ⟨p, lAct_c0 (by omega) (by omega), hT⟩ | (have z := iw2.resolve_left (by omega); exact ⟨tp F n m p, lAct_v0 z.1 (by show fnd s.N (tn F n p) 7 (s.H 2).toNat 0 ≠ -1; omega) (by omega) (by omega), hq105⟩)) )
                · refine t_getR (q := (ρ t 0)) (pc := 132) hX 64 rfl rfl rfl fl_X1_21 rfl (hH105.kd ht (by decide)) (rfl) ?_
                  refine r_iconst (pc := 136) hX 66 rfl ?_
                  refine r_callV (as := [(0, 1)]) (st := []) (K := 8) (pc := 137) hX 67 rfl mo_X8_refuse ml_X1_53 im_X8_refuse se_X8_refuse (c_X8_refuseF g ω v105 ρ Z hH105 (ρ t 0) hw0_ (1) (by omega)) rfl rfl rfl (hH105.kd hw0_ (by decide)) (by rw [hRm]; exact ⟨by decide, by decide⟩) (by rw [hRm]; exact ⟨by decide, by decide⟩) (Nat.le_of_ble_eq_true rfl) (fun o137 v137 ρv137 Zv137 hq137 _ => ?_)
                  obtain ⟨rfl, rfl, hfr137, hH137, r137, rfl, hq137⟩ := hq137
                  show wp g X F_X1_readActor 0 0 140 [(2, t), (2, o), (0, cm), (0, who)] [(0, r137)] v137 ρ Z
                  have eL137 : v137 (ρ t 0) 1 = v105 (ρ t 0) 1 := hq137.2.2 1 (by decide) (by decide)
                  exact r_zret (pc := 140) hX 68 hQ rfl rfl ⟨by omega, by omega⟩ (Nat.le_of_ble_eq_true rfl) (Nat.le_of_ble_eq_true rfl) ⟨rfl, rfl, ((FrW.rf).tr hfr105 (by decide)).tr hfr137 (by decide), hH137, r137, rfl, (by omega), (fun e => by omega), ((rfl).trans (by omega)), (by
        have z := iw2.resolve_left (by omega)
        exact Or.inr ⟨hq137.1, tp F n m p, 1, lAct_v1 z.1 (by show fnd s.N (tn F n p) 7 (s.H 2).toNat 0 ≠ -1; omega) (by omega) (by omega), by decide, hq137.2.1.1, hq137.2.1.2.trans hq105.k5⟩)⟩
          · refine t_getR (q := (ρ t 0)) (pc := 88) hX 44 rfl rfl rfl fl_X1_21 rfl (hH.kd ht (by decide)) (rfl) ?_
            refine r_iconst (pc := 92) hX 46 rfl ?_
            refine r_callV (as := [(0, 4)]) (st := []) (K := 8) (pc := 93) hX 47 rfl mo_X8_refuse ml_X1_53 im_X8_refuse se_X8_refuse (c_X8_refuseF g ω v ρ Z hH (ρ t 0) hw0_ (4) (by omega)) rfl rfl rfl (hH.kd hw0_ (by decide)) (by rw [hRm]; exact ⟨by decide, by decide⟩) (by rw [hRm]; exact ⟨by decide, by decide⟩) (Nat.le_of_ble_eq_true rfl) (fun o93 v93 ρv93 Zv93 hq93 _ => ?_)
            obtain ⟨rfl, rfl, hfr93, hH93, r93, rfl, hq93⟩ := hq93
            show wp g X F_X1_readActor 0 0 96 [(2, t), (2, o), (0, cm), (0, who)] [(0, r93)] v93 ρ Z
            have eL93 : v93 (ρ t 0) 1 = v (ρ t 0) 1 := hq93.2.2 1 (by decide) (by decide)
            exact r_zret (pc := 96) hX 48 hQ rfl rfl ⟨by omega, by omega⟩ (Nat.le_of_ble_eq_true rfl) (Nat.le_of_ble_eq_true rfl) ⟨rfl, rfl, (FrW.rf).tr hfr93 (by decide), hH93, r93, rfl, (by omega), (fun e => by omega), ((rfl).trans (by omega)), (by
        rcases ic2 with ⟨a, b⟩ | ⟨a, b⟩
        · exact Or.inr ⟨hq93.1, p, 4, lAct_c4 b (by omega), by decide, hq93.2.1.1, hq93.2.1.2.trans hT.k5⟩
        · have z := iw2.resolve_left (by omega)
          exact Or.inr ⟨hq93.1, p, 4, lAct_4 z.1 (by show fnd s.N (tn F n p) 7 (s.H 2).toNat 0 ≠ -1; omega) (by omega), by decide, hq93.2.1.1, hq93.2.1.2.trans hT.k5⟩)⟩
        first | refine r_if_ne (pc := 62) hX 31 (tgt := 79) rfl (by decide) (⟨by omega, by omega⟩) (fun h62 => ?_) (fun h62 => ?_) | refine r_if_ne_any (pc := 62) hX 31 (tgt := 79) rfl (by decide) ?_ ?_
        · exact (L79  (by omega) )
        · refine r_iload_n (pc := 65) hX 32 rfl rfl ?_
          refine r_iconst (pc := 66) hX 33 rfl ?_
          first | refine r_icmp_ne (pc := 67) hX 34 (tgt := 79) rfl (by decide) (⟨by omega, by omega⟩) (⟨by omega, by omega⟩) (fun h67 => ?_) (fun h67 => ?_) | refine r_icmp_ne_any (pc := 67) hX 34 (tgt := 79) rfl (by decide) ?_ ?_
          · exact (L79  (by omega) )
          · refine t_getR (q := (ρ t 0)) (pc := 70) hX 35 rfl rfl rfl fl_X1_21 rfl (hH.kd ht (by decide)) (rfl) ?_
            refine r_iconst (pc := 74) hX 37 rfl ?_
            refine r_callV (as := [(0, 3)]) (st := []) (K := 8) (pc := 75) hX 38 rfl mo_X8_refuse ml_X1_53 im_X8_refuse se_X8_refuse (c_X8_refuseF g ω v ρ Z hH (ρ t 0) hw0_ (3) (by omega)) rfl rfl rfl (hH.kd hw0_ (by decide)) (by rw [hRm]; exact ⟨by decide, by decide⟩) (by rw [hRm]; exact ⟨by decide, by decide⟩) (Nat.le_of_ble_eq_true rfl) (fun o75 v75 ρv75 Zv75 hq75 _ => ?_)
            obtain ⟨rfl, rfl, hfr75, hH75, r75, rfl, hq75⟩ := hq75
            show wp g X F_X1_readActor 0 0 78 [(2, t), (2, o), (0, cm), (0, who)] [(0, r75)] v75 ρ Z
            have eL75 : v75 (ρ t 0) 1 = v (ρ t 0) 1 := hq75.2.2 1 (by decide) (by decide)
            exact r_zret (pc := 78) hX 39 hQ rfl rfl ⟨by omega, by omega⟩ (Nat.le_of_ble_eq_true rfl) (Nat.le_of_ble_eq_true rfl) ⟨rfl, rfl, (FrW.rf).tr hfr75 (by decide), hH75, r75, rfl, (by omega), (fun e => by omega), ((rfl).trans (by omega)), (by
        obtain ⟨a, b⟩ := iw2.resolve_left (by omega)
        exact Or.inr ⟨hq75.1, p, 3, lAct_3 a (by show fnd s.N (tn F n p) 7 (s.H 2).toNat 0 = -1; omega), by decide, hq75.2.1.1, hq75.2.1.2.trans hT.k5⟩)⟩
      first | refine r_if_eq (pc := 42) hX 21 (tgt := 49) rfl (by decide) (⟨by omega, by omega⟩) (fun h42 => ?_) (fun h42 => ?_) | refine r_if_eq_any (pc := 42) hX 21 (tgt := 49) rfl (by decide) ?_ ?_
      · have hnm0 : nm F n m p = true := i41n.resolve_left (fun z => by omega)
        have hnm := hT.nam hnm0
        refine r_aload_n (pc := 49) hX 24 rfl rfl ?_
        refine t_getR (q := (ρ t 0)) (pc := 50) hX 25 rfl rfl rfl fl_X1_21 rfl (hH.kd ht (by decide)) (rfl) ?_
        refine e_getL (y := (v (ρ t 0) 8)) (pc := 54) hX 27 rfl fl_X1_63 rfl (hH.kd hw0_ (by decide)) (rfl) ?_
        refine r_callV (as := [(1, (v (ρ t 0) 8))]) (st := []) (K := 4) (pc := 57) hX 28 rfl mo_X4_playerNamed ml_X1_67 im_X4_playerNamed se_X4_playerNamed (c_X4_playerNamedF g ω v ρ Z hH o ho ((v (ρ t 0) 8)) (hR) (by rw [hnm.1]; exact hnm.2.1)) rfl rfl rfl (hH.kd ho (by decide)) (by rw [hRm]; exact ⟨by decide, by decide⟩) (by rw [hRm]; exact ⟨by decide, by decide⟩) (Nat.le_of_ble_eq_true rfl) (fun o57 v57 ρv57 Zv57 hq57 _ => ?_)
        obtain ⟨rfl, rfl, rfl, r57, rfl, hq57⟩ := hq57
        show wp g X F_X1_readActor 0 0 60 [(2, t), (2, o), (0, cm), (3, 0)] [(0, r57)] v ρ Z
        have ec : r57 = fnd s.N (tn F n p) 7 (s.H 2).toNat 0 := by
          have z := hq57.2
          rw [hnm.1] at z
          exact z
        replace hq57 := hq57.1
        exact (L60 r57 (by omega) (by first | exact Or.inl (by omega) | exact Or.inr ⟨hnm0, ec⟩) )
      · refine r_iconst (pc := 45) hX 22 rfl ?_
        refine r_goto (pc := 46) hX 23 (tgt := 60) rfl (by decide) ?_
        exact (L60 (-1) (by omega) (by first | exact Or.inl (by omega) | exact Or.inr ⟨hnm0, ec⟩) )
    first | refine r_if_ne (pc := 19) hX 10 (tgt := 41) rfl (by decide) (⟨by omega, by omega⟩) (fun h19 => ?_) (fun h19 => ?_) | refine r_if_ne_any (pc := 19) hX 10 (tgt := 41) rfl (by decide) ?_ ?_
    · exact (L41  (by first | exact Or.inl (by omega) | exact Or.inr ((Hd.o hq26.2).resolve_right (fun z => absurd z.1 (by omega))).2) )
    · refine t_getR (q := (ρ t 0)) (pc := 22) hX 11 rfl rfl rfl fl_X1_21 rfl (hH.kd ht (by decide)) (rfl) ?_
      refine r_callV (as := []) (st := []) (K := 8) (pc := 26) hX 13 rfl mo_X8_isName ml_X1_60 im_X8_isName se_X8_isName (c_X8_isNameT g ω v ρ Z hH (ρ t 0) hw0_ (hT)) rfl rfl rfl (hH.kd hw0_ (by decide)) (by rw [hRm]; exact ⟨by decide, by decide⟩) (by rw [hRm]; exact ⟨by decide, by decide⟩) (Nat.le_of_ble_eq_true rfl) (fun o26 v26 ρv26 Zv26 hq26 _ => ?_)
      obtain ⟨rfl, rfl, rfl, r26, rfl, hq26⟩ := hq26
      show wp g X F_X1_readActor 0 0 29 [(2, t), (2, o), (0, cm), (3, 0)] [(0, r26)] v ρ Z
      first | refine r_if_ne (pc := 29) hX 14 (tgt := 41) rfl (by decide) (⟨by omega, by omega⟩) (fun h29 => ?_) (fun h29 => ?_) | refine r_if_ne_any (pc := 29) hX 14 (tgt := 41) rfl (by decide) ?_ ?_
      · exact (L41  (by first | exact Or.inl (by omega) | exact Or.inr ((Hd.o hq26.2).resolve_right (fun z => absurd z.1 (by omega))).2) )
      · have hn26 := (Hd.o hq26.2).resolve_left (fun z => absurd z.1 (by omega))
        refine t_getR (q := (ρ t 0)) (pc := 32) hX 15 rfl rfl rfl fl_X1_21 rfl (hH.kd ht (by decide)) (rfl) ?_
        refine r_iconst (pc := 36) hX 17 rfl ?_
        refine r_callV (as := [(0, 1)]) (st := []) (K := 8) (pc := 37) hX 18 rfl mo_X8_refuse ml_X1_53 im_X8_refuse se_X8_refuse (c_X8_refuseF g ω v ρ Z hH (ρ t 0) hw0_ (1) (by omega)) rfl rfl rfl (hH.kd hw0_ (by decide)) (by rw [hRm]; exact ⟨by decide, by decide⟩) (by rw [hRm]; exact ⟨by decide, by decide⟩) (Nat.le_of_ble_eq_true rfl) (fun o37 v37 ρv37 Zv37 hq37 _ => ?_)
        obtain ⟨rfl, rfl, hfr37, hH37, r37, rfl, hq37⟩ := hq37
        show wp g X F_X1_readActor 0 0 40 [(2, t), (2, o), (0, cm), (3, 0)] [(0, r37)] v37 ρ Z
        have eL37 : v37 (ρ t 0) 1 = v (ρ t 0) 1 := hq37.2.2 1 (by decide) (by decide)
        exact r_zret (pc := 40) hX 19 hQ rfl rfl ⟨by omega, by omega⟩ (Nat.le_of_ble_eq_true rfl) (Nat.le_of_ble_eq_true rfl) ⟨rfl, rfl, (FrW.rf).tr hfr37 (by decide), hH37, r37, rfl, (by omega), (fun e => by omega), ((rfl).trans (by omega)), (Or.inr ⟨hq37.1, p, 1, lAct_1 (by omega) hn26.2, by decide, hq37.2.1.1, hq37.2.1.2.trans hT.k5⟩)⟩
  first | refine r_icmp_ne (pc := 9) hX 4 (tgt := 16) rfl (by decide) (⟨by omega, by omega⟩) (⟨by omega, by omega⟩) (fun h9 => ?_) (fun h9 => ?_) | refine r_icmp_ne_any (pc := 9) hX 4 (tgt := 16) rfl (by decide) ?_ ?_
  · refine r_iconst (pc := 16) hX 7 rfl ?_
    exact (L17 0 (by omega) (by omega) )
  · refine r_iconst (pc := 12) hX 5 rfl ?_
    refine r_goto (pc := 13) hX 6 (tgt := 17) rfl (by decide) ?_
    exact (L17 1 (by omega) (by omega) )
set_option maxHeartbeats 4000000 in
set_option maxRecDepth 100000 in
theorem c_X1_readColourL (g : Gp) (ω : Rw) (v ρ : Mv) (Z : Mz) (hH : HT ω v ρ Z) {F : Int → Int} {n m p L q : Int} {s : Rd} {gy : Bool} (t : Int) (ht : ω t = 15) (o : Int) (ho : ω o = 5) (hT : TkC F n m v ρ (ρ t 0) p) (hR : RcI v ρ o L q s) (hg : v (ρ t 1) (v t 4) = 9 ∧ gy = true ∨ v (ρ t 1) (v t 4) ≠ 9 ∧ gy = false) (h39 : v t 4 ≤ 39) : Ok g 8 0 0 F_X1_readColour [(2, t), (2, o)] v ρ Z (fun o9 v' ρ' Z' => ρ = ρ' ∧ Z = Z' ∧ FrW ω [2, 18] v v' ∧ HT ω v' ρ Z ∧ ∃ r : Int, o9 = some (0, r) ∧ (0 ≤ r ∧ r ≤ 1) ∧ (v' (ρ t 0) 1 = v (ρ t 0) 1) ∧ (LcC F n m (fun x => fnd s.N x 0 (s.H 0).toNat 0) v' ρ t p r gy)) := by
  refine Ok.of mo_X1_readColour (Nat.le_of_ble_eq_true rfl) ?_
  intro X hX hRm hxn hQ
  show wp g X F_X1_readColour 0 0 0 [(2, t), (2, o)] [] v ρ Z
  have hw0 : ω (ρ t 0) = 2 := hH.rf ht (by decide) rfl
  have hw1 : ω (ρ t 1) = 16 := hH.rf ht (by decide) rfl
  have hw2 : ω (ρ t 2) = 17 := hH.rf ht (by decide) rfl
  have hg_o_8 : 0 ≤ v o 8 ∧ v o 8 ≤ 4 := hH.rg ho (by decide) rfl
  have hw3 : ω (ρ (ρ t 0) 0) = 3 := hH.rf hw0 (by decide) rfl
  have hw33 : ω (ρ t 3) = 18 := hH.rf ht (by decide) rfl
  have hr4 : 0 ≤ v t 4 ∧ v t 4 ≤ 40 := hH.rg ht (by decide) rfl
  refine t_getI (y := (v t 4)) (pc := 0) hX 0 rfl rfl rfl fl_X1_25 rfl (hH.kd ht (by decide)) (rfl) ?_
  have hb0 : 0 ≤ (v t 4) ∧ (v t 4) ≤ 40 := hH.rg ht (by decide) rfl
  refine r_bipush (pc := 4) hX 2 rfl (by decide) ?_
  first | refine r_icmp_lt (pc := 6) hX 3 (tgt := 11) rfl (by decide) (⟨by omega, by omega⟩) (⟨by omega, by omega⟩) (fun h6 => ?_) (fun h6 => ?_) | refine r_icmp_lt_any (pc := 6) hX 3 (tgt := 11) rfl (by decide) ?_ ?_
  · refine t_getR (q := (ρ t 0)) (pc := 11) hX 6 rfl rfl rfl fl_X1_21 rfl (hH.kd ht (by decide)) (rfl) ?_
    have hw11_ : ω (ρ t 0) = 2 := hH.rf ht (by decide) rfl
    refine r_callV (as := []) (st := []) (K := 8) (pc := 15) hX 8 rfl mo_X8_advance ml_X1_35 im_X8_advance se_X8_advance (c_X8_advanceT g ω v ρ Z hH (ρ t 0) hw11_ (hT)) rfl rfl rfl (hH.kd hw11_ (by decide)) (by rw [hRm]; exact ⟨by decide, by decide⟩) (by rw [hRm]; exact ⟨by decide, by decide⟩) (Nat.le_of_ble_eq_true rfl) (fun o15 v15 ρv15 Zv15 hq15 _ => ?_)
    obtain ⟨rfl, rfl, hfr15, hH15, rfl, hq15⟩ := hq15
    show wp g X F_X1_readColour 0 0 18 [(2, t), (2, o)] [] v15 ρ Z
    have hk15 := hq15.k7
    have eL15 : v15 (ρ t 0) 1 = v (ρ t 0) 1 := hq15.2.2.1.trans hT.2.2.1.symm
    have ea15 : ∀ k, v15 (ρ t 1) k = v (ρ t 1) k := fun k => hfr15.at hw1 (by decide) k
    have e415 : v15 t 4 = v t 4 := hfr15.at ht (by decide) 4
    have ea15b := ea15 (v t 4)
    have hR15 : RcI v15 ρ o L q s := hR.frO hH ho (hfr15.keep (by decide))
    refine t_getR (q := (ρ t 0)) (pc := 18) hX 9 rfl rfl rfl fl_X1_21 rfl (hH15.kd ht (by decide)) (rfl) ?_
    refine e_getI (y := (v15 (ρ t 0) 7)) (pc := 22) hX 11 rfl fl_X1_57 rfl (hH15.kd hw11_ (by decide)) (rfl) ?_
    have hb22 : (-1) ≤ (v15 (ρ t 0) 7) ∧ (v15 (ρ t 0) 7) ≤ 21 := hH15.rg hw11_ (by decide) rfl
    refine r_bipush (pc := 25) hX 12 rfl (by decide) ?_
    have L56 : (gy = false ∨ ky F n m (tp F n m p) ≠ 10) → wp g X F_X1_readColour 0 0 56 [(2, t), (2, o)] [] v15 ρ Z := by
      intro i56
      refine t_getR (q := (ρ t 0)) (pc := 56) hX 29 rfl rfl rfl fl_X1_21 rfl (hH15.kd ht (by decide)) (rfl) ?_
      refine r_callV (as := []) (st := []) (K := 8) (pc := 60) hX 31 rfl mo_X8_isName ml_X1_60 im_X8_isName se_X8_isName (c_X8_isNameT g ω v15 ρ Z hH15 (ρ t 0) hw11_ (hq15)) rfl rfl rfl (hH15.kd hw11_ (by decide)) (by rw [hRm]; exact ⟨by decide, by decide⟩) (by rw [hRm]; exact ⟨by decide, by decide⟩) (Nat.le_of_ble_eq_true rfl) (fun o60 v60 ρv60 Zv60 hq60 _ => ?_)
      obtain ⟨rfl, rfl, rfl, r60, rfl, hq60⟩ := hq60
      show wp g X F_X1_readColour 0 0 63 [(2, t), (2, o)] [(0, r60)] v15 ρ Z
      first | refine r_if_ne (pc := 63) hX 32 (tgt := 75) rfl (by decide) (⟨by omega, by omega⟩) (fun h63 => ?_) (fun h63 => ?_) | refine r_if_ne_any (pc := 63) hX 32 (tgt := 75) rfl (by decide) ?_ ?_
      · have hn60 := (Hd.o hq60.2).resolve_right (fun z => absurd z.1 (by omega))
        have hnm := hq15.nam hn60.2
        refine t_getR (q := (ρ t 3)) (pc := 75) hX 38 rfl rfl rfl fl_X1_18 rfl (hH15.kd ht (by decide)) (rfl) ?_
        have hw75_ : ω (ρ t 3) = 18 := hH.rf ht (by decide) rfl
        refine t_getI (y := (v t 4)) (pc := 79) hX 40 rfl rfl rfl fl_X1_25 rfl (hH15.kd ht (by decide)) ((hfr15.at ht (by decide) 4).trans (rfl)) ?_
        refine r_aload_n (pc := 83) hX 42 rfl rfl ?_
        refine t_getR (q := (ρ t 0)) (pc := 84) hX 43 rfl rfl rfl fl_X1_21 rfl (hH15.kd ht (by decide)) (rfl) ?_
        refine e_getL (y := (v15 (ρ t 0) 8)) (pc := 88) hX 45 rfl fl_X1_63 rfl (hH15.kd hw11_ (by decide)) (rfl) ?_
        refine r_callV (as := [(1, (v15 (ρ t 0) 8))]) (st := [(0, (v t 4)), (2, (ρ t 3))]) (K := 4) (pc := 91) hX 46 rfl mo_X4_colourNamed ml_X1_73 im_X4_colourNamed se_X4_colourNamed (c_X4_colourNamedF g ω v15 ρ Z hH15 o ho ((v15 (ρ t 0) 8)) (hR15) (by rw [hnm.1]; exact hnm.2.1)) rfl rfl rfl (hH15.kd ho (by decide)) (by rw [hRm]; exact ⟨by decide, by decide⟩) (by rw [hRm]; exact ⟨by decide, by decide⟩) (Nat.le_of_ble_eq_true rfl) (fun o91 v91 ρv91 Zv91 hq91 _ => ?_)
        obtain ⟨rfl, rfl, rfl, r91, rfl, hq91⟩ := hq91
        try rw [show (v15 o 8) = (v o 8) from (hfr15.at ho (by decide) 8).trans (rfl)] at hq91
        show wp g X F_X1_readColour 0 0 94 [(2, t), (2, o)] [(0, r91), (0, (v t 4)), (2, (ρ t 3))] v15 ρ Z
        have ec : r91 = fnd s.N (tn F n (tp F n m p)) 0 (s.H 0).toNat 0 := by
          have z := hq91.2
          rw [hnm.1] at z
          exact z
        replace hq91 := hq91.1
        refine e_iast (n := 40) (pc := 94) hX 47 rfl (hH15.kd hw75_ (by decide)) (hH15.ln hw75_ (by decide)) (hH15.g4 hw75_ (by decide)) (by omega) (by omega) ?_
        have hH_94 : HT ω (up v15 (ρ t 3) (v t 4) r91) ρ Z := hH15.upR hw75_ (by decide) rfl (by omega) (by omega)
        refine t_getR (q := (ρ t 3)) (pc := 95) hX 48 rfl rfl rfl fl_X1_18 rfl (hH_94.kd ht (by decide)) (rfl) ?_
        refine t_getI (y := (v t 4)) (pc := 99) hX 50 rfl rfl rfl fl_X1_25 rfl (hH_94.kd ht (by decide)) ((up_r (rne ht hw75_ (by decide))).trans ((hfr15.at ht (by decide) 4).trans (rfl))) ?_
        refine e_iald (y := r91) (n := 40) (pc := 103) hX 52 rfl (hH_94.kd hw75_ (by decide)) (hH_94.ln hw75_ (by decide)) (by omega) (by omega) (up_s _ _ _ _) ?_
        refine r_iconst (pc := 104) hX 53 rfl ?_
        first | refine r_icmp_ne (pc := 105) hX 54 (tgt := 119) rfl (by decide) (⟨by omega, by omega⟩) (⟨by omega, by omega⟩) (fun h105 => ?_) (fun h105 => ?_) | refine r_icmp_ne_any (pc := 105) hX 54 (tgt := 119) rfl (by decide) ?_ ?_
        · refine r_iconst (pc := 119) hX 60 rfl ?_
          refine r_goto (pc := 120) hX 61 (tgt := 124) rfl (by decide) ?_
          exact r_zret (pc := 124) hX 63 hQ rfl rfl ⟨by omega, by omega⟩ (Nat.le_of_ble_eq_true rfl) (Nat.le_of_ble_eq_true rfl) ⟨rfl, rfl, ((FrW.rf).tr hfr15 (by decide)).up (r := (ρ t 3)) hw75_ (by decide), hH_94, 1, rfl, (by omega), (((up_r (rne hw11_ hw75_ (by decide))).trans (rfl)).trans (by omega)), (by first | exact Or.inl ⟨rfl, lCol_0 hn60.2 (by show fnd s.N (tn F n (tp F n m p)) 0 (s.H 0).toNat 0 ≠ -1; omega), hq15.ot hw0 hw3 hw33 (by decide)⟩ | exact Or.inr ⟨rfl, 3, lCol_3 hn60.2 (by show fnd s.N (tn F n (tp F n m p)) 0 (s.H 0).toNat 0 = -1; omega), by decide, hq113.2.1.1, by first | exact hq113.2.1.2.trans hq15.k5 | exact hq113.2.1.2.trans ((up_r (rne hw0 hw33 (by decide))).trans hq15.k5)⟩ | exact absurd hq113.1 (by omega))⟩
        · refine t_getR (q := (ρ t 0)) (pc := 108) hX 55 rfl rfl rfl fl_X1_21 rfl (hH_94.kd ht (by decide)) (rfl) ?_
          refine r_iconst (pc := 112) hX 57 rfl ?_
          refine r_callV (as := [(0, 3)]) (st := []) (K := 8) (pc := 113) hX 58 rfl mo_X8_refuse ml_X1_53 im_X8_refuse se_X8_refuse (c_X8_refuseF g ω (up v15 (ρ t 3) (v t 4) r91) ρ Z hH_94 (ρ t 0) hw11_ (3) (by omega)) rfl rfl rfl (hH_94.kd hw11_ (by decide)) (by rw [hRm]; exact ⟨by decide, by decide⟩) (by rw [hRm]; exact ⟨by decide, by decide⟩) (Nat.le_of_ble_eq_true rfl) (fun o113 v113 ρv113 Zv113 hq113 _ => ?_)
          obtain ⟨rfl, rfl, hfr113, hH113, r113, rfl, hq113⟩ := hq113
          try rw [show ((up v15 (ρ t 3) (v t 4) r91) (ρ t 0) 5) = (v15 (ρ t 0) 5) from (up_r (rne hw11_ hw75_ (by decide))).trans (rfl)] at hq113
          show wp g X F_X1_readColour 0 0 116 [(2, t), (2, o)] [(0, r113)] v113 ρ Z
          have eL113 : v113 (ρ t 0) 1 = v15 (ρ t 0) 1 := (hq113.2.2 1 (by decide) (by decide)).trans (up_r (rne hw0 hw33 (by decide)))
          first | refine r_if_eq (pc := 116) hX 59 (tgt := 123) rfl (by decide) (⟨by omega, by omega⟩) (fun h116 => ?_) (fun h116 => ?_) | refine r_if_eq_any (pc := 116) hX 59 (tgt := 123) rfl (by decide) ?_ ?_
          · refine r_iconst (pc := 123) hX 62 rfl ?_
            exact r_zret (pc := 124) hX 63 hQ rfl rfl ⟨by omega, by omega⟩ (Nat.le_of_ble_eq_true rfl) (Nat.le_of_ble_eq_true rfl) ⟨rfl, rfl, (((FrW.rf).tr hfr15 (by decide)).up (r := (ρ t 3)) hw75_ (by decide)).tr hfr113 (by decide), hH113, 0, rfl, (by omega), ((rfl).trans (by omega)), (by first | exact Or.inl ⟨rfl, lCol_0 hn60.2 (by show fnd s.N (tn F n (tp F n m p)) 0 (s.H 0).toNat 0 ≠ -1; omega), hq15.ot hw0 hw3 hw33 (by decide)⟩ | exact Or.inr ⟨rfl, 3, lCol_3 hn60.2 (by show fnd s.N (tn F n (tp F n m p)) 0 (s.H 0).toNat 0 = -1; omega), by decide, hq113.2.1.1, by first | exact hq113.2.1.2.trans hq15.k5 | exact hq113.2.1.2.trans ((up_r (rne hw0 hw33 (by decide))).trans hq15.k5)⟩ | exact absurd hq113.1 (by omega))⟩
          · refine r_iconst (pc := 119) hX 60 rfl ?_
            refine r_goto (pc := 120) hX 61 (tgt := 124) rfl (by decide) ?_
            exact r_zret (pc := 124) hX 63 hQ rfl rfl ⟨by omega, by omega⟩ (Nat.le_of_ble_eq_true rfl) (Nat.le_of_ble_eq_true rfl) ⟨rfl, rfl, (((FrW.rf).tr hfr15 (by decide)).up (r := (ρ t 3)) hw75_ (by decide)).tr hfr113 (by decide), hH113, 1, rfl, (by omega), ((rfl).trans (by omega)), (by first | exact Or.inl ⟨rfl, lCol_0 hn60.2 (by show fnd s.N (tn F n (tp F n m p)) 0 (s.H 0).toNat 0 ≠ -1; omega), hq15.ot hw0 hw3 hw33 (by decide)⟩ | exact Or.inr ⟨rfl, 3, lCol_3 hn60.2 (by show fnd s.N (tn F n (tp F n m p)) 0 (s.H 0).toNat 0 = -1; omega), by decide, hq113.2.1.1, by first | exact hq113.2.1.2.trans hq15.k5 | exact hq113.2.1.2.trans ((up_r (rne hw0 hw33 (by decide))).trans hq15.k5)⟩ | exact absurd hq113.1 (by omega))⟩
      · have hn60 := (Hd.o hq60.2).resolve_left (fun z => absurd z.1 (by omega))
        refine t_getR (q := (ρ t 0)) (pc := 66) hX 33 rfl rfl rfl fl_X1_21 rfl (hH15.kd ht (by decide)) (rfl) ?_
        refine r_iconst (pc := 70) hX 35 rfl ?_
        refine r_callV (as := [(0, 1)]) (st := []) (K := 8) (pc := 71) hX 36 rfl mo_X8_refuse ml_X1_53 im_X8_refuse se_X8_refuse (c_X8_refuseF g ω v15 ρ Z hH15 (ρ t 0) hw11_ (1) (by omega)) rfl rfl rfl (hH15.kd hw11_ (by decide)) (by rw [hRm]; exact ⟨by decide, by decide⟩) (by rw [hRm]; exact ⟨by decide, by decide⟩) (Nat.le_of_ble_eq_true rfl) (fun o71 v71 ρv71 Zv71 hq71 _ => ?_)
        obtain ⟨rfl, rfl, hfr71, hH71, r71, rfl, hq71⟩ := hq71
        show wp g X F_X1_readColour 0 0 74 [(2, t), (2, o)] [(0, r71)] v71 ρ Z
        have eL71 : v71 (ρ t 0) 1 = v15 (ρ t 0) 1 := hq71.2.2 1 (by decide) (by decide)
        exact r_zret (pc := 74) hX 37 hQ rfl rfl ⟨by omega, by omega⟩ (Nat.le_of_ble_eq_true rfl) (Nat.le_of_ble_eq_true rfl) ⟨rfl, rfl, ((FrW.rf).tr hfr15 (by decide)).tr hfr71 (by decide), hH71, r71, rfl, (by omega), ((rfl).trans (by omega)), (Or.inr ⟨hq71.1, 1, lCol_1 i56 hn60.2, by decide, hq71.2.1.1, hq71.2.1.2.trans hq15.k5⟩)⟩
    first | refine r_icmp_ne (pc := 27) hX 13 (tgt := 56) rfl (by decide) (⟨by omega, by omega⟩) (⟨by omega, by omega⟩) (fun h27 => ?_) (fun h27 => ?_) | refine r_icmp_ne_any (pc := 27) hX 13 (tgt := 56) rfl (by decide) ?_ ?_
    · exact (L56  (by first | exact Or.inr (by omega) | (rcases hg with ⟨a, _⟩ | ⟨_, b⟩ <;> first | exact Or.inl b | (exfalso; omega))) )
    · refine t_getR (q := (ρ t 1)) (pc := 30) hX 14 rfl rfl rfl fl_X1_11 rfl (hH15.kd ht (by decide)) (rfl) ?_
      have hw30_ : ω (ρ t 1) = 16 := hH.rf ht (by decide) rfl
      refine t_getI (y := (v t 4)) (pc := 34) hX 16 rfl rfl rfl fl_X1_25 rfl (hH15.kd ht (by decide)) ((hfr15.at ht (by decide) 4).trans (rfl)) ?_
      refine e_iald (y := (v (ρ t 1) (v t 4))) (n := 40) (pc := 38) hX 18 rfl (hH15.kd hw30_ (by decide)) (hH15.ln hw30_ (by decide)) (by omega) (by omega) ((hfr15.at hw30_ (by decide) (v t 4)).trans (rfl)) ?_
      have hb38 : (-1) ≤ (v (ρ t 1) (v t 4)) ∧ (v (ρ t 1) (v t 4)) ≤ 21 := hH.rg hw30_ (by decide) rfl
      refine r_bipush (pc := 39) hX 19 rfl (by decide) ?_
      first | refine r_icmp_ne (pc := 41) hX 20 (tgt := 56) rfl (by decide) (⟨by omega, by omega⟩) (⟨by omega, by omega⟩) (fun h41 => ?_) (fun h41 => ?_) | refine r_icmp_ne_any (pc := 41) hX 20 (tgt := 56) rfl (by decide) ?_ ?_
      · exact (L56  (by first | exact Or.inr (by omega) | (rcases hg with ⟨a, _⟩ | ⟨_, b⟩ <;> first | exact Or.inl b | (exfalso; omega))) )
      · refine t_getR (q := (ρ t 3)) (pc := 44) hX 21 rfl rfl rfl fl_X1_18 rfl (hH15.kd ht (by decide)) (rfl) ?_
        have hw44_ : ω (ρ t 3) = 18 := hH.rf ht (by decide) rfl
        refine t_getI (y := (v t 4)) (pc := 48) hX 23 rfl rfl rfl fl_X1_25 rfl (hH15.kd ht (by decide)) ((hfr15.at ht (by decide) 4).trans (rfl)) ?_
        refine r_iconst (pc := 52) hX 25 rfl ?_
        refine e_iast (n := 40) (pc := 53) hX 26 rfl (hH15.kd hw44_ (by decide)) (hH15.ln hw44_ (by decide)) (hH15.g4 hw44_ (by decide)) (by omega) (by omega) ?_
        have hH_53 : HT ω (up v15 (ρ t 3) (v t 4) (-1)) ρ Z := hH15.upR hw44_ (by decide) rfl (by omega) (by omega)
        refine r_iconst (pc := 54) hX 27 rfl ?_
        exact r_zret (pc := 55) hX 28 hQ rfl rfl ⟨by omega, by omega⟩ (Nat.le_of_ble_eq_true rfl) (Nat.le_of_ble_eq_true rfl) ⟨rfl, rfl, ((FrW.rf).tr hfr15 (by decide)).up (r := (ρ t 3)) hw44_ (by decide), hH_53, 1, rfl, (by omega), (((up_r (rne hw11_ hw44_ (by decide))).trans (rfl)).trans (by omega)), (Or.inl ⟨rfl, by rw [show gy = true from by rcases hg with ⟨_, b⟩ | ⟨a, _⟩; exact b; exfalso; omega]; exact lCol_g (by omega), hq15.ot hw0 hw3 hw33 (by decide)⟩)⟩
  · refine r_iconst (pc := 9) hX 4 rfl ?_
    exact r_zret (pc := 10) hX 5 hQ rfl rfl ⟨by omega, by omega⟩ (Nat.le_of_ble_eq_true rfl) (Nat.le_of_ble_eq_true rfl) ⟨rfl, rfl, FrW.rf, hH, 0, rfl, (by omega), ((rfl).trans (by omega)), (absurd h39 (by omega))⟩
