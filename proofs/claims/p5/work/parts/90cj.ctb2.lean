set_option maxHeartbeats 4000000 in
set_option maxRecDepth 100000 in
theorem c_X7_readOneS5 (g : Gp) (ω : Rw) (v ρ : Mv) (Z : Mz) (hH : HT ω v ρ Z) {F : Int → Int} {n m p L q : Int} {s : Rd} (t : Int) (ht : ω t = 21) (o : Int) (ho : ω o = 5) (d : Int) (hT : TkC F n m v ρ (ρ t 0) p) (hR : RcI v ρ o L q s) (hd : d = 5) : Ok g 16 0 0 F_X7_readOne [(2, t), (2, o), (0, d)] v ρ Z (fun o9 v' ρ' Z' => ρ = ρ' ∧ Z = Z' ∧ FrW ω [2, 19, 20] v v' ∧ HT ω v' ρ Z ∧ ∃ r : Int, o9 = some (0, r) ∧ (0 ≤ r ∧ r ≤ 1) ∧ (OnC F n m (fun x => fnd s.N x 0 (s.H 0).toNat 0) v' ρ t d (v (ρ t 1) 4) p r)) := by
  refine Ok.of mo_X7_readOne (Nat.le_of_ble_eq_true rfl) ?_
  intro X hX hRm hxn hQ
  show wp g X F_X7_readOne 0 0 0 [(2, t), (2, o), (0, d), (3, 0), (3, 0)] [] v ρ Z
  have hw0 : ω (ρ t 0) = 2 := hH.rf ht (by decide) rfl
  have hw3 : ω (ρ (ρ t 0) 0) = 3 := hH.rf hw0 (by decide) rfl
  have hw1 : ω (ρ t 1) = 19 := hH.rf ht (by decide) rfl
  have hn9 : n ≤ 940 := by
    have z1 : 0 ≤ v (ρ t 0) 1 ∧ v (ρ t 0) 1 ≤ 940 := hH.rg hw0 (by decide) rfl
    have z := hT.2.2.1
    omega
  have hp0 := hT.1
  have hp1 := hT.2.1
  have ho4 : 0 ≤ v (ρ t 1) 4 ∧ v (ρ t 1) 4 ≤ 20 := hH.rg hw1 (by decide) rfl
  refine t_getR (q := (ρ t 0)) (pc := 0) hX 0 rfl rfl rfl fl_X7_18 rfl (hH.kd ht (by decide)) (rfl) ?_
  have hw0_ : ω (ρ t 0) = 2 := hH.rf ht (by decide) rfl
  refine r_bipush (pc := 4) hX 2 rfl (by decide) ?_
  refine r_callV (as := [(0, 40)]) (st := []) (K := 8) (pc := 6) hX 3 rfl mo_X8_isMark ml_X7_54 im_X8_isMark se_X8_isMark (c_X8_isMarkT g ω v ρ Z hH (ρ t 0) hw0_ (40) (hT) (by omega)) rfl rfl rfl (hH.kd hw0_ (by decide)) (by rw [hRm]; exact ⟨by decide, by decide⟩) (by rw [hRm]; exact ⟨by decide, by decide⟩) (Nat.le_of_ble_eq_true rfl) (fun o6 v6 ρv6 Zv6 hq6 _ => ?_)
  obtain ⟨rfl, rfl, rfl, r6, rfl, hq6⟩ := hq6
  show wp g X F_X7_readOne 0 0 9 [(2, t), (2, o), (0, d), (3, 0), (3, 0)] [(0, r6)] v ρ Z
  refine r_istore_n (ls' := [(2, t), (2, o), (0, d), (0, r6), (3, 0)]) (pc := 9) hX 4 rfl (by decide) rfl ?_
  refine r_iload_n (pc := 10) hX 5 rfl rfl ?_
  have L47 : (mk F n m p 40 = true ∨ 13 ≤ ky F n m p ∧ ky F n m p ≤ 21) → wp g X F_X7_readOne 0 0 47 [(2, t), (2, o), (0, d), (0, r6), (3, 0)] [] v ρ Z := by
    intro i47
    refine t_getR (q := (ρ t 1)) (pc := 47) hX 22 rfl rfl rfl fl_X7_12 rfl (hH.kd ht (by decide)) (rfl) ?_
    have hw47_ : ω (ρ t 1) = 19 := hH.rf ht (by decide) rfl
    refine e_getI (y := (v (ρ t 1) 4)) (pc := 51) hX 24 rfl fl_X7_58 rfl (hH.kd hw47_ (by decide)) (rfl) ?_
    have hb51 : 0 ≤ (v (ρ t 1) 4) ∧ (v (ρ t 1) 4) ≤ 20 := hH.rg hw47_ (by decide) rfl
    refine r_bipush (pc := 54) hX 25 rfl (by decide) ?_
    have L65 : (20 ≤ v (ρ t 1) 4 ∨ 8 < d) → wp g X F_X7_readOne 0 0 65 [(2, t), (2, o), (0, d), (0, r6), (3, 0)] [] v ρ Z := by
      intro i65
      refine t_getR (q := (ρ t 0)) (pc := 65) hX 30 rfl rfl rfl fl_X7_18 rfl (hH.kd ht (by decide)) (rfl) ?_
      refine r_iconst (pc := 69) hX 32 rfl ?_
      refine r_callV (as := [(0, 4)]) (st := []) (K := 8) (pc := 70) hX 33 rfl mo_X8_refuse ml_X7_39 im_X8_refuse se_X8_refuse (c_X8_refuseF g ω v ρ Z hH (ρ t 0) hw0_ (4) (by omega)) rfl rfl rfl (hH.kd hw0_ (by decide)) (by rw [hRm]; exact ⟨by decide, by decide⟩) (by rw [hRm]; exact ⟨by decide, by decide⟩) (Nat.le_of_ble_eq_true rfl) (fun o70 v70 ρv70 Zv70 hq70 _ => ?_)
      obtain ⟨rfl, rfl, hfr70, hH70, r70, rfl, hq70⟩ := hq70
      show wp g X F_X7_readOne 0 0 73 [(2, t), (2, o), (0, d), (0, r6), (3, 0)] [(0, r70)] v70 ρ Z
      exact r_zret (pc := 73) hX 34 hQ rfl rfl ⟨by omega, by omega⟩ (Nat.le_of_ble_eq_true rfl) (Nat.le_of_ble_eq_true rfl) ⟨rfl, rfl, (FrW.rf).tr hfr70 (by decide), hH70, r70, rfl, (by omega), (by rw [hq70.1]; exact OnC.many hn9 hp0 hp1 ⟨hq70.2.1.1, hq70.2.1.2.trans hT.k5⟩ i47 i65)⟩
    first | refine r_icmp_ge (pc := 56) hX 26 (tgt := 65) rfl (by decide) (⟨by omega, by omega⟩) (⟨by omega, by omega⟩) (fun h56 => ?_) (fun h56 => ?_) | refine r_icmp_ge_any (pc := 56) hX 26 (tgt := 65) rfl (by decide) ?_ ?_
    · exact (L65  (by omega) )
    · refine r_iload_n (pc := 59) hX 27 rfl rfl ?_
      refine r_bipush (pc := 60) hX 28 rfl (by decide) ?_
      first | refine r_icmp_le (pc := 62) hX 29 (tgt := 74) rfl (by decide) (⟨by omega, by omega⟩) (⟨by omega, by omega⟩) (fun h62 => ?_) (fun h62 => ?_) | refine r_icmp_le_any (pc := 62) hX 29 (tgt := 74) rfl (by decide) ?_ ?_
      · refine t_getR (q := (ρ t 1)) (pc := 74) hX 35 rfl rfl rfl fl_X7_12 rfl (hH.kd ht (by decide)) (rfl) ?_
        refine r_dup (pc := 78) hX 37 rfl (show (2 : Nat) ≠ 1 by decide) ?_
        refine e_getI (y := (v (ρ t 1) 4)) (pc := 79) hX 38 rfl fl_X7_58 rfl (hH.kd hw47_ (by decide)) (rfl) ?_
        refine r_iconst (pc := 82) hX 39 rfl ?_
        refine r_iadd (pc := 83) hX 40 rfl ?_
        refine r_putI (pc := 84) hX 41 rfl fl_X7_58 rfl (fun _ h => by cases h; rfl) (hH.kd hw47_ (by decide)) (hH.g4 hw47_ (by decide)) ?_
        have hH_84 : HT ω (up v (ρ t 1) 4 ((v (ρ t 1) 4) + 1)) ρ Z := hH.upR hw47_ (by decide) rfl (by omega) (by omega)
        show wp g X F_X7_readOne 0 0 87 [(2, t), (2, o), (0, d), (0, r6), (3, 0)] [] (up v (ρ t 1) 4 ((v (ρ t 1) 4) + 1)) ρ Z
        refine r_iload_n (pc := 87) hX 42 rfl rfl ?_
        have L102 : ∀ (kk : Int) , (-1 ≤ kk ∧ kk ≤ 21) → (Hd (kk = -1 ∧ mk F n m p 40 = true ∨ kk = ky F n m p ∧ mk F n m p 40 = false ∧ 13 ≤ kk)) → wp g X F_X7_readOne 0 0 102 [(2, t), (2, o), (0, d), (0, r6), (3, 0)] [(0, kk)] (up v (ρ t 1) 4 ((v (ρ t 1) 4) + 1)) ρ Z := by
          intro kk ik ik2
          refine r_istore (ls' := [(2, t), (2, o), (0, d), (0, r6), (0, kk)]) (pc := 102) hX 49 rfl (by decide) rfl ?_
          refine t_getR (q := (ρ t 0)) (pc := 104) hX 50 rfl rfl rfl fl_X7_18 rfl (hH_84.kd ht (by decide)) (rfl) ?_
          refine r_callV (as := []) (st := []) (K := 8) (pc := 108) hX 52 rfl mo_X8_advance ml_X7_28 im_X8_advance se_X8_advance (c_X8_advanceT g ω (up v (ρ t 1) 4 ((v (ρ t 1) 4) + 1)) ρ Z hH_84 (ρ t 0) hw0_ (hT.ot hw0 hw3 hw1 (by decide))) rfl rfl rfl (hH_84.kd hw0_ (by decide)) (by rw [hRm]; exact ⟨by decide, by decide⟩) (by rw [hRm]; exact ⟨by decide, by decide⟩) (Nat.le_of_ble_eq_true rfl) (fun o108 v108 ρv108 Zv108 hq108 _ => ?_)
          obtain ⟨rfl, rfl, hfr108, hH108, rfl, hq108⟩ := hq108
          show wp g X F_X7_readOne 0 0 111 [(2, t), (2, o), (0, d), (0, r6), (0, kk)] [] v108 ρ Z
          have e108 : v108 (ρ t 1) 4 = v (ρ t 1) 4 + 1 := (hfr108.at hw1 (by decide) 4).trans (up_s _ _ _ _)
          have hR108 : RcI v108 ρ o L q s := hR.frO hH ho (fun r hr => (hfr108.keep (by decide) r hr).trans (up_inW hw1 rfl r hr))
          refine r_iload (pc := 111) hX 53 rfl rfl ?_
          have L273 : (18 ≤ kk) → wp g X F_X7_readOne 0 0 273 [(2, t), (2, o), (0, d), (0, r6), (0, kk)] [] v108 ρ Z := by
            intro i273
            have hm6 := (Hd.o ik2).resolve_left (fun z => absurd z.1 (by omega))
            refine r_aload_n (pc := 273) hX 98 rfl rfl ?_
            refine r_iload (pc := 274) hX 99 rfl rfl ?_
            refine r_callV (as := [(0, kk)]) (st := []) (K := 7) (pc := 276) hX 100 rfl mo_X7_readComparison ml_X7_68 im_X7_readComparison se_X7_readComparison (c_X7_readComparisonS (C := (fun x => fnd s.N x 0 (s.H 0).toNat 0)) g ω v108 ρ Z hH108 t ht (kk) (hq108) (i273)) rfl rfl rfl (hH108.kd ht (by decide)) (by rw [hRm]; exact ⟨by decide, by decide⟩) (by rw [hRm]; exact ⟨by decide, by decide⟩) (Nat.le_of_ble_eq_true rfl) (fun o276 v276 ρv276 Zv276 hq276 _ => ?_)
            obtain ⟨rfl, rfl, hfr276, hH276, r276, rfl, hq276⟩ := hq276
            show wp g X F_X7_readOne 0 0 279 [(2, t), (2, o), (0, d), (0, r6), (0, kk)] [(0, r276)] v276 ρ Z
            exact r_zret (pc := 279) hX 101 hQ rfl rfl ⟨by omega, by omega⟩ (Nat.le_of_ble_eq_true rfl) (Nat.le_of_ble_eq_true rfl) ⟨rfl, rfl, (((FrW.rf).up (r := (ρ t 1)) hw47_ (by decide)).tr hfr108 (by decide)).tr hfr276 (by decide), hH276, r276, rfl, (by omega), (OnC.leaf (v1 := v108) hn9 hp0 hp1 hm6.2.1 (by omega) (by omega) (by omega) e108 (by rw [← hm6.1]; exact hq276.2))⟩
          have L254 : (kk = 14 ∨ kk = 15 ∨ kk = 17) → wp g X F_X7_readOne 0 0 254 [(2, t), (2, o), (0, d), (0, r6), (0, kk)] [] v108 ρ Z := by
            intro i254
            have hm4 := (Hd.o ik2).resolve_left (fun z => absurd z.1 (by omega))
            refine t_getR (q := (ρ t 1)) (pc := 254) hX 86 rfl rfl rfl fl_X7_12 rfl (hH108.kd ht (by decide)) (rfl) ?_
            refine r_iload (pc := 258) hX 88 rfl rfl ?_
            refine r_iconst (pc := 260) hX 89 rfl ?_
            refine r_iconst (pc := 261) hX 90 rfl ?_
            refine r_callV (as := [(0, kk), (0, 0), (0, 0)]) (st := []) (K := 6) (pc := 262) hX 91 rfl mo_X6_add ml_X7_46 im_X6_add se_X6_add (c_X6_add g ω v108 ρ Z hH108 (ρ t 1) hw47_ (kk) (0) (0) ) rfl rfl rfl (hH108.kd hw47_ (by decide)) (by rw [hRm]; exact ⟨by decide, by decide⟩) (by rw [hRm]; exact ⟨by decide, by decide⟩) (Nat.le_of_ble_eq_true rfl) (fun o262 v262 ρv262 Zv262 hq262 _ => ?_)
            obtain ⟨rfl, rfl, hfr262, hH262, rfl, hq262⟩ := hq262
            try rw [show (v108 (ρ t 1) 4) = ((v (ρ t 1) 4) + 1) from (hfr108.at hw47_ (by decide) 4).trans (up_s _ _ _ _)] at hq262
            show wp g X F_X7_readOne 0 0 265 [(2, t), (2, o), (0, d), (0, r6), (0, kk)] [] v262 ρ Z
            refine r_iconst (pc := 265) hX 92 rfl ?_
            exact r_zret (pc := 266) hX 93 hQ rfl rfl ⟨by omega, by omega⟩ (Nat.le_of_ble_eq_true rfl) (Nat.le_of_ble_eq_true rfl) ⟨rfl, rfl, (((FrW.rf).up (r := (ρ t 1)) hw47_ (by decide)).tr hfr108 (by decide)).tr hfr262 (by decide), hH262, 1, rfl, (by omega), (OnC.leaf (v1 := v108) hn9 hp0 hp1 hm4.2.1 (by omega) (by omega) (by omega) e108 (Or.inl ⟨rfl, tp F n m p, sLeaf_0 (by omega), hq108.fw hfr262 hw0 hw3 (by decide), by first | exact hq262 | exact hq262.trans e108.symm⟩))⟩
          have hsw113 : kk < (-1) ∨ 17 < kk ∨ kk = (-1) ∨ kk = 0 ∨ kk = 1 ∨ kk = 2 ∨ kk = 3 ∨ kk = 4 ∨ kk = 5 ∨ kk = 6 ∨ kk = 7 ∨ kk = 8 ∨ kk = 9 ∨ kk = 10 ∨ kk = 11 ∨ kk = 12 ∨ kk = 13 ∨ kk = 14 ∨ kk = 15 ∨ kk = 16 ∨ kk = 17 := by omega
          rcases hsw113 with hsw113 | hsw113 | hsw113 | hsw113 | hsw113 | hsw113 | hsw113 | hsw113 | hsw113 | hsw113 | hsw113 | hsw113 | hsw113 | hsw113 | hsw113 | hsw113 | hsw113 | hsw113 | hsw113 | hsw113 | hsw113
          · refine r_tsOut (pc := 113) hX 54 (tgt := 273) rfl ⟨by omega, by omega⟩ (by omega) (by decide) ?_
            exact (L273  (by have z := Hd.o ik2; omega) )
          · refine r_tsOut (pc := 113) hX 54 (tgt := 273) rfl ⟨by omega, by omega⟩ (by omega) (by decide) ?_
            exact (L273  (by have z := Hd.o ik2; omega) )
          · refine r_tsIn (x := kk) (pc := 113) hX 54 (tgt := 204) rfl ⟨by omega, by omega⟩ (by omega) (by omega) (by rw [hsw113]; rfl) (by decide) ?_
            have hm2 := ((Hd.o ik2).resolve_right (fun z => absurd z.2.2 (by omega))).2
            refine r_aload_n (pc := 204) hX 55 rfl rfl ?_
            refine r_aload_n (pc := 205) hX 56 rfl rfl ?_
            refine r_iload_n (pc := 206) hX 57 rfl rfl ?_
            refine r_iconst (pc := 207) hX 58 rfl ?_
            refine r_iadd (pc := 208) hX 59 rfl ?_
            refine r_callV (as := [(2, o), (0, (d + 1))]) (st := []) (K := 7) (pc := 209) hX 60 rfl mo_X7_readCond ml_X7_31 im_X7_readCond se_X7_readCond (c_X7_readCondS6 g ω v108 ρ Z hH108 t ht o ho ((d + 1)) (hq108) (hR108) (by omega)) rfl rfl rfl (hH108.kd ht (by decide)) (by rw [hRm]; exact ⟨by decide, by decide⟩) (by rw [hRm]; exact ⟨by decide, by decide⟩) (Nat.le_of_ble_eq_true rfl) (fun o209 v209 ρv209 Zv209 hq209 _ => ?_)
            obtain ⟨rfl, rfl, hfr209, hH209, r209, rfl, hq209⟩ := hq209
            try rw [show (v108 (ρ t 1) 4) = ((v (ρ t 1) 4) + 1) from (hfr108.at hw47_ (by decide) 4).trans (up_s _ _ _ _)] at hq209
            show wp g X F_X7_readOne 0 0 212 [(2, t), (2, o), (0, d), (0, r6), (0, kk)] [(0, r209)] v209 ρ Z
            first | refine r_if_eq (pc := 212) hX 61 (tgt := 226) rfl (by decide) (⟨by omega, by omega⟩) (fun h212 => ?_) (fun h212 => ?_) | refine r_if_eq_any (pc := 212) hX 61 (tgt := 226) rfl (by decide) ?_ ?_
            · refine r_iconst (pc := 226) hX 67 rfl ?_
              exact r_zret (pc := 227) hX 68 hQ rfl rfl ⟨by omega, by omega⟩ (Nat.le_of_ble_eq_true rfl) (Nat.le_of_ble_eq_true rfl) ⟨rfl, rfl, (((FrW.rf).up (r := (ρ t 1)) hw47_ (by decide)).tr hfr108 (by decide)).tr hfr209 (by decide), hH209, 0, rfl, (by omega), (by first | exact OnC.op0 hn9 hp0 hp1 hm2 (by omega) (by omega) (by have z := hq209.2; (try rw [e108] at z); rw [show r209 = 0 by omega] at z; exact z) | (have z6 := (Hd.o hq216.2).resolve_right (fun z => absurd z.1 (by omega)); exact OnC.op1 hn9 hp0 hp1 hm2 (by omega) (by omega) hT2 hlt2 hS2 z6.2.1 z6.2.2 (hfr216.at hw1 (by decide) 4)) | (have z6 := (Hd.o hq216.2).resolve_left (fun z => absurd z.1 (by omega)); exact OnC.op2 hn9 hp0 hp1 hm2 (by omega) (by omega) hT2 hk11 hk12 hS2 z6.2.1 z6.2.2))⟩
            · obtain ⟨p2, hT2, hlt2, hk11, hk12, hS2⟩ := hq209.2.ok (by omega)
              try rw [e108] at hlt2
              try rw [e108] at hS2
              refine r_aload_n (pc := 215) hX 62 rfl rfl ?_
              refine r_callV (as := []) (st := []) (K := 7) (pc := 216) hX 63 rfl mo_X7_readClosing ml_X7_61 im_X7_readClosing se_X7_readClosing (c_X7_readClosingS g ω v209 ρ Z hH209 t ht (hT2)) rfl rfl rfl (hH209.kd ht (by decide)) (by rw [hRm]; exact ⟨by decide, by decide⟩) (by rw [hRm]; exact ⟨by decide, by decide⟩) (Nat.le_of_ble_eq_true rfl) (fun o216 v216 ρv216 Zv216 hq216 _ => ?_)
              obtain ⟨rfl, rfl, hfr216, hH216, r216, rfl, hq216⟩ := hq216
              show wp g X F_X7_readOne 0 0 219 [(2, t), (2, o), (0, d), (0, r6), (0, kk)] [(0, r216)] v216 ρ Z
              first | refine r_if_eq (pc := 219) hX 64 (tgt := 226) rfl (by decide) (⟨by omega, by omega⟩) (fun h219 => ?_) (fun h219 => ?_) | refine r_if_eq_any (pc := 219) hX 64 (tgt := 226) rfl (by decide) ?_ ?_
              · refine r_iconst (pc := 226) hX 67 rfl ?_
                exact r_zret (pc := 227) hX 68 hQ rfl rfl ⟨by omega, by omega⟩ (Nat.le_of_ble_eq_true rfl) (Nat.le_of_ble_eq_true rfl) ⟨rfl, rfl, ((((FrW.rf).up (r := (ρ t 1)) hw47_ (by decide)).tr hfr108 (by decide)).tr hfr209 (by decide)).tr hfr216 (by decide), hH216, 0, rfl, (by omega), (by first | exact OnC.op0 hn9 hp0 hp1 hm2 (by omega) (by omega) (by have z := hq209.2; (try rw [e108] at z); rw [show r209 = 0 by omega] at z; exact z) | (have z6 := (Hd.o hq216.2).resolve_right (fun z => absurd z.1 (by omega)); exact OnC.op1 hn9 hp0 hp1 hm2 (by omega) (by omega) hT2 hlt2 hS2 z6.2.1 z6.2.2 (hfr216.at hw1 (by decide) 4)) | (have z6 := (Hd.o hq216.2).resolve_left (fun z => absurd z.1 (by omega)); exact OnC.op2 hn9 hp0 hp1 hm2 (by omega) (by omega) hT2 hk11 hk12 hS2 z6.2.1 z6.2.2))⟩
              · refine r_iconst (pc := 222) hX 65 rfl ?_
                refine r_goto (pc := 223) hX 66 (tgt := 227) rfl (by decide) ?_
                exact r_zret (pc := 227) hX 68 hQ rfl rfl ⟨by omega, by omega⟩ (Nat.le_of_ble_eq_true rfl) (Nat.le_of_ble_eq_true rfl) ⟨rfl, rfl, ((((FrW.rf).up (r := (ρ t 1)) hw47_ (by decide)).tr hfr108 (by decide)).tr hfr209 (by decide)).tr hfr216 (by decide), hH216, 1, rfl, (by omega), (by first | exact OnC.op0 hn9 hp0 hp1 hm2 (by omega) (by omega) (by have z := hq209.2; (try rw [e108] at z); rw [show r209 = 0 by omega] at z; exact z) | (have z6 := (Hd.o hq216.2).resolve_right (fun z => absurd z.1 (by omega)); exact OnC.op1 hn9 hp0 hp1 hm2 (by omega) (by omega) hT2 hlt2 hS2 z6.2.1 z6.2.2 (hfr216.at hw1 (by decide) 4)) | (have z6 := (Hd.o hq216.2).resolve_left (fun z => absurd z.1 (by omega)); exact OnC.op2 hn9 hp0 hp1 hm2 (by omega) (by omega) hT2 hk11 hk12 hS2 z6.2.1 z6.2.2))⟩
          · refine r_tsIn (x := kk) (pc := 113) hX 54 (tgt := 273) rfl ⟨by omega, by omega⟩ (by omega) (by omega) (by rw [hsw113]; rfl) (by decide) ?_
            exact (L273  (by have z := Hd.o ik2; omega) )
          · refine r_tsIn (x := kk) (pc := 113) hX 54 (tgt := 273) rfl ⟨by omega, by omega⟩ (by omega) (by omega) (by rw [hsw113]; rfl) (by decide) ?_
            exact (L273  (by have z := Hd.o ik2; omega) )
          · refine r_tsIn (x := kk) (pc := 113) hX 54 (tgt := 273) rfl ⟨by omega, by omega⟩ (by omega) (by omega) (by rw [hsw113]; rfl) (by decide) ?_
            exact (L273  (by have z := Hd.o ik2; omega) )
          · refine r_tsIn (x := kk) (pc := 113) hX 54 (tgt := 273) rfl ⟨by omega, by omega⟩ (by omega) (by omega) (by rw [hsw113]; rfl) (by decide) ?_
            exact (L273  (by have z := Hd.o ik2; omega) )
          · refine r_tsIn (x := kk) (pc := 113) hX 54 (tgt := 273) rfl ⟨by omega, by omega⟩ (by omega) (by omega) (by rw [hsw113]; rfl) (by decide) ?_
            exact (L273  (by have z := Hd.o ik2; omega) )
          · refine r_tsIn (x := kk) (pc := 113) hX 54 (tgt := 273) rfl ⟨by omega, by omega⟩ (by omega) (by omega) (by rw [hsw113]; rfl) (by decide) ?_
            exact (L273  (by have z := Hd.o ik2; omega) )
          · refine r_tsIn (x := kk) (pc := 113) hX 54 (tgt := 273) rfl ⟨by omega, by omega⟩ (by omega) (by omega) (by rw [hsw113]; rfl) (by decide) ?_
            exact (L273  (by have z := Hd.o ik2; omega) )
          · refine r_tsIn (x := kk) (pc := 113) hX 54 (tgt := 273) rfl ⟨by omega, by omega⟩ (by omega) (by omega) (by rw [hsw113]; rfl) (by decide) ?_
            exact (L273  (by have z := Hd.o ik2; omega) )
          · refine r_tsIn (x := kk) (pc := 113) hX 54 (tgt := 273) rfl ⟨by omega, by omega⟩ (by omega) (by omega) (by rw [hsw113]; rfl) (by decide) ?_
            exact (L273  (by have z := Hd.o ik2; omega) )
          · refine r_tsIn (x := kk) (pc := 113) hX 54 (tgt := 273) rfl ⟨by omega, by omega⟩ (by omega) (by omega) (by rw [hsw113]; rfl) (by decide) ?_
            exact (L273  (by have z := Hd.o ik2; omega) )
          · refine r_tsIn (x := kk) (pc := 113) hX 54 (tgt := 273) rfl ⟨by omega, by omega⟩ (by omega) (by omega) (by rw [hsw113]; rfl) (by decide) ?_
            exact (L273  (by have z := Hd.o ik2; omega) )
          · refine r_tsIn (x := kk) (pc := 113) hX 54 (tgt := 273) rfl ⟨by omega, by omega⟩ (by omega) (by omega) (by rw [hsw113]; rfl) (by decide) ?_
            exact (L273  (by have z := Hd.o ik2; omega) )
          · refine r_tsIn (x := kk) (pc := 113) hX 54 (tgt := 273) rfl ⟨by omega, by omega⟩ (by omega) (by omega) (by rw [hsw113]; rfl) (by decide) ?_
            exact (L273  (by have z := Hd.o ik2; omega) )
          · refine r_tsIn (x := kk) (pc := 113) hX 54 (tgt := 228) rfl ⟨by omega, by omega⟩ (by omega) (by omega) (by rw [hsw113]; rfl) (by decide) ?_
            have hm3 := (Hd.o ik2).resolve_left (fun z => absurd z.1 (by omega))
            refine r_aload_n (pc := 228) hX 69 rfl rfl ?_
            refine r_aload_n (pc := 229) hX 70 rfl rfl ?_
            refine r_iload_n (pc := 230) hX 71 rfl rfl ?_
            refine r_iconst (pc := 231) hX 72 rfl ?_
            refine r_iadd (pc := 232) hX 73 rfl ?_
            refine r_callV (as := [(2, o), (0, (d + 1))]) (st := []) (K := 7) (pc := 233) hX 74 rfl mo_X7_readOne ml_X7_43 im_X7_readOne se_X7_readOne (c_X7_readOneS6 g ω v108 ρ Z hH108 t ht o ho ((d + 1)) (hq108) (hR108) (by omega)) rfl rfl rfl (hH108.kd ht (by decide)) (by rw [hRm]; exact ⟨by decide, by decide⟩) (by rw [hRm]; exact ⟨by decide, by decide⟩) (Nat.le_of_ble_eq_true rfl) (fun o233 v233 ρv233 Zv233 hq233 _ => ?_)
            obtain ⟨rfl, rfl, hfr233, hH233, r233, rfl, hq233⟩ := hq233
            try rw [show (v108 (ρ t 1) 4) = ((v (ρ t 1) 4) + 1) from (hfr108.at hw47_ (by decide) 4).trans (up_s _ _ _ _)] at hq233
            show wp g X F_X7_readOne 0 0 236 [(2, t), (2, o), (0, d), (0, r6), (0, kk)] [(0, r233)] v233 ρ Z
            first | refine r_if_ne (pc := 236) hX 75 (tgt := 241) rfl (by decide) (⟨by omega, by omega⟩) (fun h236 => ?_) (fun h236 => ?_) | refine r_if_ne_any (pc := 236) hX 75 (tgt := 241) rfl (by decide) ?_ ?_
            · refine t_getR (q := (ρ t 1)) (pc := 241) hX 78 rfl rfl rfl fl_X7_12 rfl (hH233.kd ht (by decide)) (rfl) ?_
              refine r_bipush (pc := 245) hX 80 rfl (by decide) ?_
              refine r_iconst (pc := 247) hX 81 rfl ?_
              refine r_iconst (pc := 248) hX 82 rfl ?_
              refine r_callV (as := [(0, 13), (0, 0), (0, 0)]) (st := []) (K := 6) (pc := 249) hX 83 rfl mo_X6_add ml_X7_46 im_X6_add se_X6_add (c_X6_add g ω v233 ρ Z hH233 (ρ t 1) hw47_ (13) (0) (0) ) rfl rfl rfl (hH233.kd hw47_ (by decide)) (by rw [hRm]; exact ⟨by decide, by decide⟩) (by rw [hRm]; exact ⟨by decide, by decide⟩) (Nat.le_of_ble_eq_true rfl) (fun o249 v249 ρv249 Zv249 hq249 _ => ?_)
              obtain ⟨rfl, rfl, hfr249, hH249, rfl, hq249⟩ := hq249
              show wp g X F_X7_readOne 0 0 252 [(2, t), (2, o), (0, d), (0, r6), (0, kk)] [] v249 ρ Z
              refine r_iconst (pc := 252) hX 84 rfl ?_
              exact r_zret (pc := 253) hX 85 hQ rfl rfl ⟨by omega, by omega⟩ (Nat.le_of_ble_eq_true rfl) (Nat.le_of_ble_eq_true rfl) ⟨rfl, rfl, ((((FrW.rf).up (r := (ρ t 1)) hw47_ (by decide)).tr hfr108 (by decide)).tr hfr233 (by decide)).tr hfr249 (by decide), hH249, 1, rfl, (by omega), (OnC.not1 hn9 hp0 hp1 hm3.2.1 (by omega) (by omega) (by omega) (by have z := hq233.2; (try rw [e108] at z); rw [show r233 = 1 by omega] at z; exact z) (by first | exact hq249 | exact hq249.trans ((hfr233.at hw1 (by decide) 4).trans e108).symm) (fun p hT => hT.fw hfr249 hw0 hw3 (by decide)))⟩
            · refine r_iconst (pc := 239) hX 76 rfl ?_
              exact r_zret (pc := 240) hX 77 hQ rfl rfl ⟨by omega, by omega⟩ (Nat.le_of_ble_eq_true rfl) (Nat.le_of_ble_eq_true rfl) ⟨rfl, rfl, (((FrW.rf).up (r := (ρ t 1)) hw47_ (by decide)).tr hfr108 (by decide)).tr hfr233 (by decide), hH233, 0, rfl, (by omega), (OnC.not0 hn9 hp0 hp1 hm3.2.1 (by omega) (by omega) (by omega) (by have z := hq233.2; (try rw [e108] at z); rw [show r233 = 0 by omega] at z; exact z))⟩
          · refine r_tsIn (x := kk) (pc := 113) hX 54 (tgt := 254) rfl ⟨by omega, by omega⟩ (by omega) (by omega) (by rw [hsw113]; rfl) (by decide) ?_
            exact (L254  (by omega) )
          · refine r_tsIn (x := kk) (pc := 113) hX 54 (tgt := 254) rfl ⟨by omega, by omega⟩ (by omega) (by omega) (by rw [hsw113]; rfl) (by decide) ?_
            exact (L254  (by omega) )
          · refine r_tsIn (x := kk) (pc := 113) hX 54 (tgt := 267) rfl ⟨by omega, by omega⟩ (by omega) (by omega) (by rw [hsw113]; rfl) (by decide) ?_
            have hm5 := (Hd.o ik2).resolve_left (fun z => absurd z.1 (by omega))
            refine r_aload_n (pc := 267) hX 94 rfl rfl ?_
            refine r_aload_n (pc := 268) hX 95 rfl rfl ?_
            refine r_callV (as := [(2, o)]) (st := []) (K := 7) (pc := 269) hX 96 rfl mo_X7_readHas ml_X7_64 im_X7_readHas se_X7_readHas (c_X7_readHasS g ω v108 ρ Z hH108 t ht o ho (hq108) (hR108)) rfl rfl rfl (hH108.kd ht (by decide)) (by rw [hRm]; exact ⟨by decide, by decide⟩) (by rw [hRm]; exact ⟨by decide, by decide⟩) (Nat.le_of_ble_eq_true rfl) (fun o269 v269 ρv269 Zv269 hq269 _ => ?_)
            obtain ⟨rfl, rfl, hfr269, hH269, r269, rfl, hq269⟩ := hq269
            show wp g X F_X7_readOne 0 0 272 [(2, t), (2, o), (0, d), (0, r6), (0, kk)] [(0, r269)] v269 ρ Z
            exact r_zret (pc := 272) hX 97 hQ rfl rfl ⟨by omega, by omega⟩ (Nat.le_of_ble_eq_true rfl) (Nat.le_of_ble_eq_true rfl) ⟨rfl, rfl, (((FrW.rf).up (r := (ρ t 1)) hw47_ (by decide)).tr hfr108 (by decide)).tr hfr269 (by decide), hH269, r269, rfl, (by omega), (OnC.leaf (v1 := v108) hn9 hp0 hp1 hm5.2.1 (by omega) (by omega) (by omega) e108 (by rw [show ky F n m p = 16 by omega]; exact hq269.2))⟩
          · refine r_tsIn (x := kk) (pc := 113) hX 54 (tgt := 254) rfl ⟨by omega, by omega⟩ (by omega) (by omega) (by rw [hsw113]; rfl) (by decide) ?_
            exact (L254  (by omega) )
        first | refine r_if_eq (pc := 88) hX 43 (tgt := 95) rfl (by decide) (⟨by omega, by omega⟩) (fun h88 => ?_) (fun h88 => ?_) | refine r_if_eq_any (pc := 88) hX 43 (tgt := 95) rfl (by decide) ?_ ?_
        · refine t_getR (q := (ρ t 0)) (pc := 95) hX 46 rfl rfl rfl fl_X7_18 rfl (hH_84.kd ht (by decide)) (rfl) ?_
          refine e_getI (y := (v (ρ t 0) 7)) (pc := 99) hX 48 rfl fl_X7_50 rfl (hH_84.kd hw0_ (by decide)) ((up_k (by decide)).trans (rfl)) ?_
          have hb99 : (-1) ≤ (v (ρ t 0) 7) ∧ (v (ρ t 0) 7) ≤ 21 := hH.rg hw0_ (by decide) rfl
          exact (L102 (v (ρ t 0) 7) (by omega) (by first | exact Hd.i (Or.inl ⟨rfl, ((Hd.o hq6.2).resolve_right (fun z => absurd z.1 (by omega))).2⟩) | (have m9 := ((Hd.o hq6.2).resolve_left (fun z => absurd z.1 (by omega))).2; have k9 := hT.k7; exact Hd.i (Or.inr ⟨by omega, m9, by rcases i47 with z | z; (rw [m9] at z; cases z); omega⟩))) )
        · refine r_iconst (pc := 91) hX 44 rfl ?_
          refine r_goto (pc := 92) hX 45 (tgt := 102) rfl (by decide) ?_
          exact (L102 (-1) (by omega) (by first | exact Hd.i (Or.inl ⟨rfl, ((Hd.o hq6.2).resolve_right (fun z => absurd z.1 (by omega))).2⟩) | (have m9 := ((Hd.o hq6.2).resolve_left (fun z => absurd z.1 (by omega))).2; have k9 := hT.k7; exact Hd.i (Or.inr ⟨by omega, m9, by rcases i47 with z | z; (rw [m9] at z; cases z); omega⟩))) )
      · exact absurd (by omega) h62
  first | refine r_if_ne (pc := 11) hX 6 (tgt := 47) rfl (by decide) (⟨by omega, by omega⟩) (fun h11 => ?_) (fun h11 => ?_) | refine r_if_ne_any (pc := 11) hX 6 (tgt := 47) rfl (by decide) ?_ ?_
  · exact (L47  (by have k9 := hT.k7; first | exact Or.inl ((Hd.o hq6.2).resolve_right (fun z => absurd z.1 (by omega))).2 | exact Or.inr ⟨by omega, by omega⟩) )
  · refine t_getR (q := (ρ t 0)) (pc := 14) hX 7 rfl rfl rfl fl_X7_18 rfl (hH.kd ht (by decide)) (rfl) ?_
    refine e_getI (y := (v (ρ t 0) 7)) (pc := 18) hX 9 rfl fl_X7_50 rfl (hH.kd hw0_ (by decide)) (rfl) ?_
    have hb18 : (-1) ≤ (v (ρ t 0) 7) ∧ (v (ρ t 0) 7) ≤ 21 := hH.rg hw0_ (by decide) rfl
    refine r_bipush (pc := 21) hX 10 rfl (by decide) ?_
    have L38 : (mk F n m p 40 = false ∧ ¬ (13 ≤ ky F n m p ∧ ky F n m p ≤ 21)) → wp g X F_X7_readOne 0 0 38 [(2, t), (2, o), (0, d), (0, r6), (3, 0)] [] v ρ Z := by
      intro i38
      refine t_getR (q := (ρ t 0)) (pc := 38) hX 17 rfl rfl rfl fl_X7_18 rfl (hH.kd ht (by decide)) (rfl) ?_
      refine r_iconst (pc := 42) hX 19 rfl ?_
      refine r_callV (as := [(0, 1)]) (st := []) (K := 8) (pc := 43) hX 20 rfl mo_X8_refuse ml_X7_39 im_X8_refuse se_X8_refuse (c_X8_refuseF g ω v ρ Z hH (ρ t 0) hw0_ (1) (by omega)) rfl rfl rfl (hH.kd hw0_ (by decide)) (by rw [hRm]; exact ⟨by decide, by decide⟩) (by rw [hRm]; exact ⟨by decide, by decide⟩) (Nat.le_of_ble_eq_true rfl) (fun o43 v43 ρv43 Zv43 hq43 _ => ?_)
      obtain ⟨rfl, rfl, hfr43, hH43, r43, rfl, hq43⟩ := hq43
      show wp g X F_X7_readOne 0 0 46 [(2, t), (2, o), (0, d), (0, r6), (3, 0)] [(0, r43)] v43 ρ Z
      exact r_zret (pc := 46) hX 21 hQ rfl rfl ⟨by omega, by omega⟩ (Nat.le_of_ble_eq_true rfl) (Nat.le_of_ble_eq_true rfl) ⟨rfl, rfl, (FrW.rf).tr hfr43 (by decide), hH43, r43, rfl, (by omega), (by rw [hq43.1]; exact OnC.bad hn9 hp0 hp1 ⟨hq43.2.1.1, hq43.2.1.2.trans hT.k5⟩ i38.1 i38.2)⟩
    first | refine r_icmp_lt (pc := 23) hX 11 (tgt := 38) rfl (by decide) (⟨by omega, by omega⟩) (⟨by omega, by omega⟩) (fun h23 => ?_) (fun h23 => ?_) | refine r_icmp_lt_any (pc := 23) hX 11 (tgt := 38) rfl (by decide) ?_ ?_
    · exact (L38  (⟨((Hd.o hq6.2).resolve_left (fun z => absurd z.1 (by omega))).2, by have k9 := hT.k7; omega⟩) )
    · refine t_getR (q := (ρ t 0)) (pc := 26) hX 12 rfl rfl rfl fl_X7_18 rfl (hH.kd ht (by decide)) (rfl) ?_
      refine e_getI (y := (v (ρ t 0) 7)) (pc := 30) hX 14 rfl fl_X7_50 rfl (hH.kd hw0_ (by decide)) (rfl) ?_
      refine r_bipush (pc := 33) hX 15 rfl (by decide) ?_
      first | refine r_icmp_le (pc := 35) hX 16 (tgt := 47) rfl (by decide) (⟨by omega, by omega⟩) (⟨by omega, by omega⟩) (fun h35 => ?_) (fun h35 => ?_) | refine r_icmp_le_any (pc := 35) hX 16 (tgt := 47) rfl (by decide) ?_ ?_
      · exact (L47  (by have k9 := hT.k7; first | exact Or.inl ((Hd.o hq6.2).resolve_right (fun z => absurd z.1 (by omega))).2 | exact Or.inr ⟨by omega, by omega⟩) )
      · exact (L38  (⟨((Hd.o hq6.2).resolve_left (fun z => absurd z.1 (by omega))).2, by have k9 := hT.k7; omega⟩) )
set_option maxHeartbeats 4000000 in
set_option maxRecDepth 100000 in
theorem c_X7_readCondS5 (g : Gp) (ω : Rw) (v ρ : Mv) (Z : Mz) (hH : HT ω v ρ Z) {F : Int → Int} {n m p L q : Int} {s : Rd} (t : Int) (ht : ω t = 21) (o : Int) (ho : ω o = 5) (d : Int) (hT : TkC F n m v ρ (ρ t 0) p) (hR : RcI v ρ o L q s) (hd : d = 5) : Ok g 17 0 0 F_X7_readCond [(2, t), (2, o), (0, d)] v ρ Z (fun o9 v' ρ' Z' => ρ = ρ' ∧ Z = Z' ∧ FrW ω [2, 19, 20] v v' ∧ HT ω v' ρ Z ∧ ∃ r : Int, o9 = some (0, r) ∧ (0 ≤ r ∧ r ≤ 1) ∧ (CdC F n m (fun x => fnd s.N x 0 (s.H 0).toNat 0) v' ρ t d (v (ρ t 1) 4) p r)) := by
  refine Ok.of mo_X7_readCond (Nat.le_of_ble_eq_true rfl) ?_
  intro X hX hRm hxn hQ
  show wp g X F_X7_readCond 0 0 0 [(2, t), (2, o), (0, d), (3, 0), (3, 0), (3, 0)] [] v ρ Z
  have hw0 : ω (ρ t 0) = 2 := hH.rf ht (by decide) rfl
  have hw3 : ω (ρ (ρ t 0) 0) = 3 := hH.rf hw0 (by decide) rfl
  have hw1 : ω (ρ t 1) = 19 := hH.rf ht (by decide) rfl
  have hn9 : n ≤ 940 := by
    have z1 : 0 ≤ v (ρ t 0) 1 ∧ v (ρ t 0) 1 ≤ 940 := hH.rg hw0 (by decide) rfl
    have z := hT.2.2.1
    omega
  have hp0 := hT.1
  have hp1 := hT.2.1
  have ho4 : 0 ≤ v (ρ t 1) 4 ∧ v (ρ t 1) 4 ≤ 20 := hH.rg hw1 (by decide) rfl
  refine r_iconst (pc := 0) hX 0 rfl ?_
  refine r_istore_n (ls' := [(2, t), (2, o), (0, d), (0, 0), (3, 0), (3, 0)]) (pc := 1) hX 1 rfl (by decide) rfl ?_
  refine r_iconst (pc := 2) hX 2 rfl ?_
  refine r_istore (ls' := [(2, t), (2, o), (0, d), (0, 0), (0, 0), (3, 0)]) (pc := 3) hX 3 rfl (by decide) rfl ?_
  refine r_iconst (pc := 5) hX 4 rfl ?_
  refine r_istore (ls' := [(2, t), (2, o), (0, d), (0, 0), (0, 0), (0, 0)]) (pc := 6) hX 5 rfl (by decide) rfl ?_
  have L8 : ∀ (n8 : Nat) (aa ow i : Int) (v8 : Mv) , (FrW ω [2, 19, 20] v v8) → (HT ω v8 ρ Z) → (0 ≤ i ∧ i ≤ 21 ∧ 0 ≤ aa ∧ aa ≤ 1 ∧ 0 ≤ ow ∧ ow ≤ 1) → (v (ρ t 1) 4 + i ≤ v8 (ρ t 1) 4) → (CqI F n m (fun x => fnd s.N x 0 (s.H 0).toNat 0) v8 ρ t d (v (ρ t 1) 4) p) → (21 - i).toNat < n8 → wp g X F_X7_readCond 0 0 8 [(2, t), (2, o), (0, d), (0, aa), (0, ow), (0, i)] [] v8 ρ Z := by
    intro n8
    induction n8 with
    | zero => intro aa ow i v8 hfr8 hH8 ii io iq hme8; exact absurd hme8 (Nat.not_lt_zero _)
    | succ n8 ih8 =>
      intro aa ow i v8 hfr8 hH8 ii io iq hme8
      obtain ⟨pa, hTa, hSa⟩ := iq
      have hR8 : RcI v8 ρ o L q s := hR.frO hH ho (hfr8.keep (by decide))
      have hb4 : 0 ≤ v8 (ρ t 1) 4 ∧ v8 (ρ t 1) 4 ≤ 20 := hH8.rg hw1 (by decide) rfl
      refine r_iload (pc := 8) hX 6 rfl rfl ?_
      refine r_bipush (pc := 10) hX 7 rfl (by decide) ?_
      first | refine r_icmp_gt (pc := 12) hX 8 (tgt := 109) rfl (by decide) (⟨by omega, by omega⟩) (⟨by omega, by omega⟩) (fun h12 => ?_) (fun h12 => ?_) | refine r_icmp_gt_any (pc := 12) hX 8 (tgt := 109) rfl (by decide) ?_ ?_
      · exact absurd h12 (by omega)
      · refine r_aload_n (pc := 15) hX 9 rfl rfl ?_
        refine r_aload_n (pc := 16) hX 10 rfl rfl ?_
        refine r_iload_n (pc := 17) hX 11 rfl rfl ?_
        refine r_callV (as := [(2, o), (0, d)]) (st := []) (K := 7) (pc := 18) hX 12 rfl mo_X7_readOne ml_X7_43 im_X7_readOne se_X7_readOne (c_X7_readOneS5 g ω v8 ρ Z hH8 t ht o ho (d) (hTa) (hR8) (by omega)) rfl rfl rfl (hH8.kd ht (by decide)) (by rw [hRm]; exact ⟨by decide, by decide⟩) (by rw [hRm]; exact ⟨by decide, by decide⟩) (Nat.le_of_ble_eq_true rfl) (fun o18 v18 ρv18 Zv18 hq18 _ => ?_)
        obtain ⟨rfl, rfl, hfr18, hH18, r18, rfl, hq18⟩ := hq18
        have hw18_ : ω (ρ t 1) = 19 := hH.rf ht (by decide) rfl
        show wp g X F_X7_readCond 0 0 21 [(2, t), (2, o), (0, d), (0, aa), (0, ow), (0, i)] [(0, r18)] v18 ρ Z
        first | refine r_if_ne (pc := 21) hX 13 (tgt := 26) rfl (by decide) (⟨by omega, by omega⟩) (fun h21 => ?_) (fun h21 => ?_) | refine r_if_ne_any (pc := 21) hX 13 (tgt := 26) rfl (by decide) ?_ ?_
        · obtain ⟨pb, hTb, hlb, hSb⟩ := hq18.2.ok (by omega)
          refine r_iload_n (pc := 26) hX 16 rfl rfl ?_
          have L41 : ∀ (v41 : Mv) , (FrW ω [2, 19, 20] v v41) → (HT ω v41 ρ Z) → (TkC F n m v41 ρ (ρ t 0) pb) → (v41 (ρ t 1) 4 = v18 (ρ t 1) 4) → wp g X F_X7_readCond 0 0 41 [(2, t), (2, o), (0, d), (0, aa), (0, ow), (0, i)] [] v41 ρ Z := by
            intro v41 hfr41 hH41 i41 o41
            refine t_getR (q := (ρ t 0)) (pc := 41) hX 24 rfl rfl rfl fl_X7_18 rfl (hH41.kd ht (by decide)) (rfl) ?_
            have hw41_ : ω (ρ t 0) = 2 := hH.rf ht (by decide) rfl
            refine e_getI (y := (v41 (ρ t 0) 7)) (pc := 45) hX 26 rfl fl_X7_50 rfl (hH41.kd hw41_ (by decide)) (rfl) ?_
            have hb45 : (-1) ≤ (v41 (ρ t 0) 7) ∧ (v41 (ρ t 0) 7) ≤ 21 := hH41.rg hw41_ (by decide) rfl
            refine r_bipush (pc := 48) hX 27 rfl (by decide) ?_
            have L58 : ∀ (a2 : Int) , (0 ≤ a2 ∧ a2 ≤ 1) → (a2 = 1 ∧ ky F n m pb = 12 ∨ a2 = 0 ∧ ky F n m pb ≠ 12) → wp g X F_X7_readCond 0 0 58 [(2, t), (2, o), (0, d), (0, aa), (0, ow), (0, i)] [(0, a2)] v41 ρ Z := by
              intro a2 ia ia2
              refine r_istore_n (ls' := [(2, t), (2, o), (0, d), (0, a2), (0, ow), (0, i)]) (pc := 58) hX 32 rfl (by decide) rfl ?_
              refine r_iload_n (pc := 59) hX 33 rfl rfl ?_
              have L96 : ∀ (ow2 : Int) (v96 : Mv) , (FrW ω [2, 19, 20] v v96) → (HT ω v96 ρ Z) → (0 ≤ ow2 ∧ ow2 ≤ 1) → (TkC F n m v96 ρ (ρ t 0) pb) → (v96 (ρ t 1) 4 = v18 (ρ t 1) 4) → (ky F n m pb = 11 ∨ ky F n m pb = 12) → wp g X F_X7_readCond 0 0 96 [(2, t), (2, o), (0, d), (0, a2), (0, ow2), (0, i)] [] v96 ρ Z := by
                intro ow2 v96 hfr96 hH96 io2 i96 o96 j96
                refine t_getR (q := (ρ t 0)) (pc := 96) hX 52 rfl rfl rfl fl_X7_18 rfl (hH96.kd ht (by decide)) (rfl) ?_
                refine r_callV (as := []) (st := []) (K := 8) (pc := 100) hX 54 rfl mo_X8_advance ml_X7_28 im_X8_advance se_X8_advance (c_X8_advanceT g ω v96 ρ Z hH96 (ρ t 0) hw41_ (i96)) rfl rfl rfl (hH96.kd hw41_ (by decide)) (by rw [hRm]; exact ⟨by decide, by decide⟩) (by rw [hRm]; exact ⟨by decide, by decide⟩) (Nat.le_of_ble_eq_true rfl) (fun o100 v100 ρv100 Zv100 hq100 _ => ?_)
                obtain ⟨rfl, rfl, hfr100, hH100, rfl, hq100⟩ := hq100
                show wp g X F_X7_readCond 0 0 103 [(2, t), (2, o), (0, d), (0, a2), (0, ow2), (0, i)] [] v100 ρ Z
                refine r_iinc (ls' := [(2, t), (2, o), (0, d), (0, a2), (0, ow2), (0, (i + 1))]) (pc := 103) hX 55 rfl rfl (by decide) rfl ?_
                refine r_goto (pc := 106) hX 56 (tgt := 8) rfl (by decide) ?_
                exact (ih8 a2 ow2 (i + 1) v100 ((hfr96).tr hfr100 (by decide)) (hH100) (by omega) (by have z := hfr100.at hw1 (by decide) 4; omega) (⟨tp F n m pb, hq100, fun S a b => by rw [hSa S a b, hSb S a, sR_join hn9 hTb.1 hTb.2.1 j96, b, hfr100.at hw1 (by decide) 4, o96]⟩) (by omega))
              first | refine r_if_ne (pc := 60) hX 34 (tgt := 96) rfl (by decide) (⟨by omega, by omega⟩) (fun h60 => ?_) (fun h60 => ?_) | refine r_if_ne_any (pc := 60) hX 34 (tgt := 96) rfl (by decide) ?_ ?_
              · exact (L96 ow v41 (hfr41) (hH41) (by omega) (by first | exact i41 | exact i79) (by first | exact o41 | exact o79) (by first | exact Or.inr (by omega) | (have k79 := i79.k7; exact Or.inl (by omega))) )
              · refine r_iload (pc := 63) hX 35 rfl rfl ?_
                have L79 : ∀ (v79 : Mv) , (FrW ω [2, 19, 20] v v79) → (HT ω v79 ρ Z) → (TkC F n m v79 ρ (ρ t 0) pb) → (v79 (ρ t 1) 4 = v18 (ρ t 1) 4) → wp g X F_X7_readCond 0 0 79 [(2, t), (2, o), (0, d), (0, a2), (0, ow), (0, i)] [] v79 ρ Z := by
                  intro v79 hfr79 hH79 i79 o79
                  refine t_getR (q := (ρ t 0)) (pc := 79) hX 43 rfl rfl rfl fl_X7_18 rfl (hH79.kd ht (by decide)) (rfl) ?_
                  refine e_getI (y := (v79 (ρ t 0) 7)) (pc := 83) hX 45 rfl fl_X7_50 rfl (hH79.kd hw41_ (by decide)) (rfl) ?_
                  have hb83 : (-1) ≤ (v79 (ρ t 0) 7) ∧ (v79 (ρ t 0) 7) ≤ 21 := hH79.rg hw41_ (by decide) rfl
                  refine r_bipush (pc := 86) hX 46 rfl (by decide) ?_
                  first | refine r_icmp_eq (pc := 88) hX 47 (tgt := 93) rfl (by decide) (⟨by omega, by omega⟩) (⟨by omega, by omega⟩) (fun h88 => ?_) (fun h88 => ?_) | refine r_icmp_eq_any (pc := 88) hX 47 (tgt := 93) rfl (by decide) ?_ ?_
                  · refine r_iconst (pc := 93) hX 50 rfl ?_
                    refine r_istore (ls' := [(2, t), (2, o), (0, d), (0, a2), (0, 1), (0, i)]) (pc := 94) hX 51 rfl (by decide) rfl ?_
                    exact (L96 1 v79 (hfr79) (hH79) (by omega) (by first | exact i41 | exact i79) (by first | exact o41 | exact o79) (by first | exact Or.inr (by omega) | (have k79 := i79.k7; exact Or.inl (by omega))) )
                  · refine r_iconst (pc := 91) hX 48 rfl ?_
                    exact r_zret (pc := 92) hX 49 hQ rfl rfl ⟨by omega, by omega⟩ (Nat.le_of_ble_eq_true rfl) (Nat.le_of_ble_eq_true rfl) ⟨rfl, rfl, hfr79, hH79, 1, rfl, (by omega), (Or.inl ⟨rfl, pb, i79, by omega, by have k79 := i79.k7; omega, by omega, fun S a b => by rw [hSa S a b, hSb S a, o79]⟩)⟩
                first | refine r_if_eq (pc := 65) hX 36 (tgt := 79) rfl (by decide) (⟨by omega, by omega⟩) (fun h65 => ?_) (fun h65 => ?_) | refine r_if_eq_any (pc := 65) hX 36 (tgt := 79) rfl (by decide) ?_ ?_
                · exact (L79  v41 (hfr41) (hH41) (by first | exact i41 | exact hT76) (by first | exact o41 | exact hq76.trans o41) )
                · refine t_getR (q := (ρ t 1)) (pc := 68) hX 37 rfl rfl rfl fl_X7_12 rfl (hH41.kd ht (by decide)) (rfl) ?_
                  refine r_bipush (pc := 72) hX 39 rfl (by decide) ?_
                  refine r_iconst (pc := 74) hX 40 rfl ?_
                  refine r_iconst (pc := 75) hX 41 rfl ?_
                  refine r_callV (as := [(0, 11), (0, 0), (0, 0)]) (st := []) (K := 6) (pc := 76) hX 42 rfl mo_X6_add ml_X7_46 im_X6_add se_X6_add (c_X6_add g ω v41 ρ Z hH41 (ρ t 1) hw18_ (11) (0) (0) ) rfl rfl rfl (hH41.kd hw18_ (by decide)) (by rw [hRm]; exact ⟨by decide, by decide⟩) (by rw [hRm]; exact ⟨by decide, by decide⟩) (Nat.le_of_ble_eq_true rfl) (fun o76 v76 ρv76 Zv76 hq76 _ => ?_)
                  obtain ⟨rfl, rfl, hfr76, hH76, rfl, hq76⟩ := hq76
                  show wp g X F_X7_readCond 0 0 79 [(2, t), (2, o), (0, d), (0, a2), (0, ow), (0, i)] [] v76 ρ Z
                  have hT76 := i41.fw hfr76 hw0 hw3 (by decide)
                  exact (L79  v76 ((hfr41).tr hfr76 (by decide)) (hH76) (by first | exact i41 | exact hT76) (by first | exact o41 | exact hq76.trans o41) )
            first | refine r_icmp_ne (pc := 50) hX 28 (tgt := 57) rfl (by decide) (⟨by omega, by omega⟩) (⟨by omega, by omega⟩) (fun h50 => ?_) (fun h50 => ?_) | refine r_icmp_ne_any (pc := 50) hX 28 (tgt := 57) rfl (by decide) ?_ ?_
            · refine r_iconst (pc := 57) hX 31 rfl ?_
              exact (L58 0 (by omega) (by have k41 := i41.k7; omega) )
            · refine r_iconst (pc := 53) hX 29 rfl ?_
              refine r_goto (pc := 54) hX 30 (tgt := 58) rfl (by decide) ?_
              exact (L58 1 (by omega) (by have k41 := i41.k7; omega) )
          first | refine r_if_eq (pc := 27) hX 17 (tgt := 41) rfl (by decide) (⟨by omega, by omega⟩) (fun h27 => ?_) (fun h27 => ?_) | refine r_if_eq_any (pc := 27) hX 17 (tgt := 41) rfl (by decide) ?_ ?_
          · exact (L41  v18 ((hfr8).tr hfr18 (by decide)) (hH18) (by first | exact hTb | exact hT38) (by first | rfl | exact hq38) )
          · refine t_getR (q := (ρ t 1)) (pc := 30) hX 18 rfl rfl rfl fl_X7_12 rfl (hH18.kd ht (by decide)) (rfl) ?_
            refine r_bipush (pc := 34) hX 20 rfl (by decide) ?_
            refine r_iconst (pc := 36) hX 21 rfl ?_
            refine r_iconst (pc := 37) hX 22 rfl ?_
            refine r_callV (as := [(0, 12), (0, 0), (0, 0)]) (st := []) (K := 6) (pc := 38) hX 23 rfl mo_X6_add ml_X7_46 im_X6_add se_X6_add (c_X6_add g ω v18 ρ Z hH18 (ρ t 1) hw18_ (12) (0) (0) ) rfl rfl rfl (hH18.kd hw18_ (by decide)) (by rw [hRm]; exact ⟨by decide, by decide⟩) (by rw [hRm]; exact ⟨by decide, by decide⟩) (Nat.le_of_ble_eq_true rfl) (fun o38 v38 ρv38 Zv38 hq38 _ => ?_)
            obtain ⟨rfl, rfl, hfr38, hH38, rfl, hq38⟩ := hq38
            show wp g X F_X7_readCond 0 0 41 [(2, t), (2, o), (0, d), (0, aa), (0, ow), (0, i)] [] v38 ρ Z
            have hT38 := hTb.fw hfr38 hw0 hw3 (by decide)
            exact (L41  v38 (((hfr8).tr hfr18 (by decide)).tr hfr38 (by decide)) (hH38) (by first | exact hTb | exact hT38) (by first | rfl | exact hq38) )
        · refine r_iconst (pc := 24) hX 14 rfl ?_
          exact r_zret (pc := 25) hX 15 hQ rfl rfl ⟨by omega, by omega⟩ (Nat.le_of_ble_eq_true rfl) (Nat.le_of_ble_eq_true rfl) ⟨rfl, rfl, (hfr8).tr hfr18 (by decide), hH18, 0, rfl, (by omega), (by have z := hq18.2.no (by omega); exact Or.inr ⟨rfl, z.1, fun S a b => by rw [hSa S a b]; exact z.2 S a⟩)⟩
  exact (L8 _ 0 0 0 v (FrW.rf) (hH) (by omega) (by omega) (⟨p, hT, fun _ _ _ => rfl⟩) (Nat.lt_succ_self _))
set_option maxHeartbeats 4000000 in
set_option maxRecDepth 100000 in
theorem c_X7_readOneS4 (g : Gp) (ω : Rw) (v ρ : Mv) (Z : Mz) (hH : HT ω v ρ Z) {F : Int → Int} {n m p L q : Int} {s : Rd} (t : Int) (ht : ω t = 21) (o : Int) (ho : ω o = 5) (d : Int) (hT : TkC F n m v ρ (ρ t 0) p) (hR : RcI v ρ o L q s) (hd : d = 4) : Ok g 18 0 0 F_X7_readOne [(2, t), (2, o), (0, d)] v ρ Z (fun o9 v' ρ' Z' => ρ = ρ' ∧ Z = Z' ∧ FrW ω [2, 19, 20] v v' ∧ HT ω v' ρ Z ∧ ∃ r : Int, o9 = some (0, r) ∧ (0 ≤ r ∧ r ≤ 1) ∧ (OnC F n m (fun x => fnd s.N x 0 (s.H 0).toNat 0) v' ρ t d (v (ρ t 1) 4) p r)) := by
  refine Ok.of mo_X7_readOne (Nat.le_of_ble_eq_true rfl) ?_
  intro X hX hRm hxn hQ
  show wp g X F_X7_readOne 0 0 0 [(2, t), (2, o), (0, d), (3, 0), (3, 0)] [] v ρ Z
  have hw0 : ω (ρ t 0) = 2 := hH.rf ht (by decide) rfl
  have hw3 : ω (ρ (ρ t 0) 0) = 3 := hH.rf hw0 (by decide) rfl
  have hw1 : ω (ρ t 1) = 19 := hH.rf ht (by decide) rfl
  have hn9 : n ≤ 940 := by
    have z1 : 0 ≤ v (ρ t 0) 1 ∧ v (ρ t 0) 1 ≤ 940 := hH.rg hw0 (by decide) rfl
    have z := hT.2.2.1
    omega
  have hp0 := hT.1
  have hp1 := hT.2.1
  have ho4 : 0 ≤ v (ρ t 1) 4 ∧ v (ρ t 1) 4 ≤ 20 := hH.rg hw1 (by decide) rfl
  refine t_getR (q := (ρ t 0)) (pc := 0) hX 0 rfl rfl rfl fl_X7_18 rfl (hH.kd ht (by decide)) (rfl) ?_
  have hw0_ : ω (ρ t 0) = 2 := hH.rf ht (by decide) rfl
  refine r_bipush (pc := 4) hX 2 rfl (by decide) ?_
  refine r_callV (as := [(0, 40)]) (st := []) (K := 8) (pc := 6) hX 3 rfl mo_X8_isMark ml_X7_54 im_X8_isMark se_X8_isMark (c_X8_isMarkT g ω v ρ Z hH (ρ t 0) hw0_ (40) (hT) (by omega)) rfl rfl rfl (hH.kd hw0_ (by decide)) (by rw [hRm]; exact ⟨by decide, by decide⟩) (by rw [hRm]; exact ⟨by decide, by decide⟩) (Nat.le_of_ble_eq_true rfl) (fun o6 v6 ρv6 Zv6 hq6 _ => ?_)
  obtain ⟨rfl, rfl, rfl, r6, rfl, hq6⟩ := hq6
  show wp g X F_X7_readOne 0 0 9 [(2, t), (2, o), (0, d), (3, 0), (3, 0)] [(0, r6)] v ρ Z
  refine r_istore_n (ls' := [(2, t), (2, o), (0, d), (0, r6), (3, 0)]) (pc := 9) hX 4 rfl (by decide) rfl ?_
  refine r_iload_n (pc := 10) hX 5 rfl rfl ?_
  have L47 : (mk F n m p 40 = true ∨ 13 ≤ ky F n m p ∧ ky F n m p ≤ 21) → wp g X F_X7_readOne 0 0 47 [(2, t), (2, o), (0, d), (0, r6), (3, 0)] [] v ρ Z := by
    intro i47
    refine t_getR (q := (ρ t 1)) (pc := 47) hX 22 rfl rfl rfl fl_X7_12 rfl (hH.kd ht (by decide)) (rfl) ?_
    have hw47_ : ω (ρ t 1) = 19 := hH.rf ht (by decide) rfl
    refine e_getI (y := (v (ρ t 1) 4)) (pc := 51) hX 24 rfl fl_X7_58 rfl (hH.kd hw47_ (by decide)) (rfl) ?_
    have hb51 : 0 ≤ (v (ρ t 1) 4) ∧ (v (ρ t 1) 4) ≤ 20 := hH.rg hw47_ (by decide) rfl
    refine r_bipush (pc := 54) hX 25 rfl (by decide) ?_
    have L65 : (20 ≤ v (ρ t 1) 4 ∨ 8 < d) → wp g X F_X7_readOne 0 0 65 [(2, t), (2, o), (0, d), (0, r6), (3, 0)] [] v ρ Z := by
      intro i65
      refine t_getR (q := (ρ t 0)) (pc := 65) hX 30 rfl rfl rfl fl_X7_18 rfl (hH.kd ht (by decide)) (rfl) ?_
      refine r_iconst (pc := 69) hX 32 rfl ?_
      refine r_callV (as := [(0, 4)]) (st := []) (K := 8) (pc := 70) hX 33 rfl mo_X8_refuse ml_X7_39 im_X8_refuse se_X8_refuse (c_X8_refuseF g ω v ρ Z hH (ρ t 0) hw0_ (4) (by omega)) rfl rfl rfl (hH.kd hw0_ (by decide)) (by rw [hRm]; exact ⟨by decide, by decide⟩) (by rw [hRm]; exact ⟨by decide, by decide⟩) (Nat.le_of_ble_eq_true rfl) (fun o70 v70 ρv70 Zv70 hq70 _ => ?_)
      obtain ⟨rfl, rfl, hfr70, hH70, r70, rfl, hq70⟩ := hq70
      show wp g X F_X7_readOne 0 0 73 [(2, t), (2, o), (0, d), (0, r6), (3, 0)] [(0, r70)] v70 ρ Z
      exact r_zret (pc := 73) hX 34 hQ rfl rfl ⟨by omega, by omega⟩ (Nat.le_of_ble_eq_true rfl) (Nat.le_of_ble_eq_true rfl) ⟨rfl, rfl, (FrW.rf).tr hfr70 (by decide), hH70, r70, rfl, (by omega), (by rw [hq70.1]; exact OnC.many hn9 hp0 hp1 ⟨hq70.2.1.1, hq70.2.1.2.trans hT.k5⟩ i47 i65)⟩
    first | refine r_icmp_ge (pc := 56) hX 26 (tgt := 65) rfl (by decide) (⟨by omega, by omega⟩) (⟨by omega, by omega⟩) (fun h56 => ?_) (fun h56 => ?_) | refine r_icmp_ge_any (pc := 56) hX 26 (tgt := 65) rfl (by decide) ?_ ?_
    · exact (L65  (by omega) )
    · refine r_iload_n (pc := 59) hX 27 rfl rfl ?_
      refine r_bipush (pc := 60) hX 28 rfl (by decide) ?_
      first | refine r_icmp_le (pc := 62) hX 29 (tgt := 74) rfl (by decide) (⟨by omega, by omega⟩) (⟨by omega, by omega⟩) (fun h62 => ?_) (fun h62 => ?_) | refine r_icmp_le_any (pc := 62) hX 29 (tgt := 74) rfl (by decide) ?_ ?_
      · refine t_getR (q := (ρ t 1)) (pc := 74) hX 35 rfl rfl rfl fl_X7_12 rfl (hH.kd ht (by decide)) (rfl) ?_
        refine r_dup (pc := 78) hX 37 rfl (show (2 : Nat) ≠ 1 by decide) ?_
        refine e_getI (y := (v (ρ t 1) 4)) (pc := 79) hX 38 rfl fl_X7_58 rfl (hH.kd hw47_ (by decide)) (rfl) ?_
        refine r_iconst (pc := 82) hX 39 rfl ?_
        refine r_iadd (pc := 83) hX 40 rfl ?_
        refine r_putI (pc := 84) hX 41 rfl fl_X7_58 rfl (fun _ h => by cases h; rfl) (hH.kd hw47_ (by decide)) (hH.g4 hw47_ (by decide)) ?_
        have hH_84 : HT ω (up v (ρ t 1) 4 ((v (ρ t 1) 4) + 1)) ρ Z := hH.upR hw47_ (by decide) rfl (by omega) (by omega)
        show wp g X F_X7_readOne 0 0 87 [(2, t), (2, o), (0, d), (0, r6), (3, 0)] [] (up v (ρ t 1) 4 ((v (ρ t 1) 4) + 1)) ρ Z
        refine r_iload_n (pc := 87) hX 42 rfl rfl ?_
        have L102 : ∀ (kk : Int) , (-1 ≤ kk ∧ kk ≤ 21) → (Hd (kk = -1 ∧ mk F n m p 40 = true ∨ kk = ky F n m p ∧ mk F n m p 40 = false ∧ 13 ≤ kk)) → wp g X F_X7_readOne 0 0 102 [(2, t), (2, o), (0, d), (0, r6), (3, 0)] [(0, kk)] (up v (ρ t 1) 4 ((v (ρ t 1) 4) + 1)) ρ Z := by
          intro kk ik ik2
          refine r_istore (ls' := [(2, t), (2, o), (0, d), (0, r6), (0, kk)]) (pc := 102) hX 49 rfl (by decide) rfl ?_
          refine t_getR (q := (ρ t 0)) (pc := 104) hX 50 rfl rfl rfl fl_X7_18 rfl (hH_84.kd ht (by decide)) (rfl) ?_
          refine r_callV (as := []) (st := []) (K := 8) (pc := 108) hX 52 rfl mo_X8_advance ml_X7_28 im_X8_advance se_X8_advance (c_X8_advanceT g ω (up v (ρ t 1) 4 ((v (ρ t 1) 4) + 1)) ρ Z hH_84 (ρ t 0) hw0_ (hT.ot hw0 hw3 hw1 (by decide))) rfl rfl rfl (hH_84.kd hw0_ (by decide)) (by rw [hRm]; exact ⟨by decide, by decide⟩) (by rw [hRm]; exact ⟨by decide, by decide⟩) (Nat.le_of_ble_eq_true rfl) (fun o108 v108 ρv108 Zv108 hq108 _ => ?_)
          obtain ⟨rfl, rfl, hfr108, hH108, rfl, hq108⟩ := hq108
          show wp g X F_X7_readOne 0 0 111 [(2, t), (2, o), (0, d), (0, r6), (0, kk)] [] v108 ρ Z
          have e108 : v108 (ρ t 1) 4 = v (ρ t 1) 4 + 1 := (hfr108.at hw1 (by decide) 4).trans (up_s _ _ _ _)
          have hR108 : RcI v108 ρ o L q s := hR.frO hH ho (fun r hr => (hfr108.keep (by decide) r hr).trans (up_inW hw1 rfl r hr))
          refine r_iload (pc := 111) hX 53 rfl rfl ?_
          have L273 : (18 ≤ kk) → wp g X F_X7_readOne 0 0 273 [(2, t), (2, o), (0, d), (0, r6), (0, kk)] [] v108 ρ Z := by
            intro i273
            have hm6 := (Hd.o ik2).resolve_left (fun z => absurd z.1 (by omega))
            refine r_aload_n (pc := 273) hX 98 rfl rfl ?_
            refine r_iload (pc := 274) hX 99 rfl rfl ?_
            refine r_callV (as := [(0, kk)]) (st := []) (K := 7) (pc := 276) hX 100 rfl mo_X7_readComparison ml_X7_68 im_X7_readComparison se_X7_readComparison (c_X7_readComparisonS (C := (fun x => fnd s.N x 0 (s.H 0).toNat 0)) g ω v108 ρ Z hH108 t ht (kk) (hq108) (i273)) rfl rfl rfl (hH108.kd ht (by decide)) (by rw [hRm]; exact ⟨by decide, by decide⟩) (by rw [hRm]; exact ⟨by decide, by decide⟩) (Nat.le_of_ble_eq_true rfl) (fun o276 v276 ρv276 Zv276 hq276 _ => ?_)
            obtain ⟨rfl, rfl, hfr276, hH276, r276, rfl, hq276⟩ := hq276
            show wp g X F_X7_readOne 0 0 279 [(2, t), (2, o), (0, d), (0, r6), (0, kk)] [(0, r276)] v276 ρ Z
            exact r_zret (pc := 279) hX 101 hQ rfl rfl ⟨by omega, by omega⟩ (Nat.le_of_ble_eq_true rfl) (Nat.le_of_ble_eq_true rfl) ⟨rfl, rfl, (((FrW.rf).up (r := (ρ t 1)) hw47_ (by decide)).tr hfr108 (by decide)).tr hfr276 (by decide), hH276, r276, rfl, (by omega), (OnC.leaf (v1 := v108) hn9 hp0 hp1 hm6.2.1 (by omega) (by omega) (by omega) e108 (by rw [← hm6.1]; exact hq276.2))⟩
          have L254 : (kk = 14 ∨ kk = 15 ∨ kk = 17) → wp g X F_X7_readOne 0 0 254 [(2, t), (2, o), (0, d), (0, r6), (0, kk)] [] v108 ρ Z := by
            intro i254
            have hm4 := (Hd.o ik2).resolve_left (fun z => absurd z.1 (by omega))
            refine t_getR (q := (ρ t 1)) (pc := 254) hX 86 rfl rfl rfl fl_X7_12 rfl (hH108.kd ht (by decide)) (rfl) ?_
            refine r_iload (pc := 258) hX 88 rfl rfl ?_
            refine r_iconst (pc := 260) hX 89 rfl ?_
            refine r_iconst (pc := 261) hX 90 rfl ?_
            refine r_callV (as := [(0, kk), (0, 0), (0, 0)]) (st := []) (K := 6) (pc := 262) hX 91 rfl mo_X6_add ml_X7_46 im_X6_add se_X6_add (c_X6_add g ω v108 ρ Z hH108 (ρ t 1) hw47_ (kk) (0) (0) ) rfl rfl rfl (hH108.kd hw47_ (by decide)) (by rw [hRm]; exact ⟨by decide, by decide⟩) (by rw [hRm]; exact ⟨by decide, by decide⟩) (Nat.le_of_ble_eq_true rfl) (fun o262 v262 ρv262 Zv262 hq262 _ => ?_)
            obtain ⟨rfl, rfl, hfr262, hH262, rfl, hq262⟩ := hq262
            try rw [show (v108 (ρ t 1) 4) = ((v (ρ t 1) 4) + 1) from (hfr108.at hw47_ (by decide) 4).trans (up_s _ _ _ _)] at hq262
            show wp g X F_X7_readOne 0 0 265 [(2, t), (2, o), (0, d), (0, r6), (0, kk)] [] v262 ρ Z
            refine r_iconst (pc := 265) hX 92 rfl ?_
            exact r_zret (pc := 266) hX 93 hQ rfl rfl ⟨by omega, by omega⟩ (Nat.le_of_ble_eq_true rfl) (Nat.le_of_ble_eq_true rfl) ⟨rfl, rfl, (((FrW.rf).up (r := (ρ t 1)) hw47_ (by decide)).tr hfr108 (by decide)).tr hfr262 (by decide), hH262, 1, rfl, (by omega), (OnC.leaf (v1 := v108) hn9 hp0 hp1 hm4.2.1 (by omega) (by omega) (by omega) e108 (Or.inl ⟨rfl, tp F n m p, sLeaf_0 (by omega), hq108.fw hfr262 hw0 hw3 (by decide), by first | exact hq262 | exact hq262.trans e108.symm⟩))⟩
          have hsw113 : kk < (-1) ∨ 17 < kk ∨ kk = (-1) ∨ kk = 0 ∨ kk = 1 ∨ kk = 2 ∨ kk = 3 ∨ kk = 4 ∨ kk = 5 ∨ kk = 6 ∨ kk = 7 ∨ kk = 8 ∨ kk = 9 ∨ kk = 10 ∨ kk = 11 ∨ kk = 12 ∨ kk = 13 ∨ kk = 14 ∨ kk = 15 ∨ kk = 16 ∨ kk = 17 := by omega
          rcases hsw113 with hsw113 | hsw113 | hsw113 | hsw113 | hsw113 | hsw113 | hsw113 | hsw113 | hsw113 | hsw113 | hsw113 | hsw113 | hsw113 | hsw113 | hsw113 | hsw113 | hsw113 | hsw113 | hsw113 | hsw113 | hsw113
          · refine r_tsOut (pc := 113) hX 54 (tgt := 273) rfl ⟨by omega, by omega⟩ (by omega) (by decide) ?_
            exact (L273  (by have z := Hd.o ik2; omega) )
          · refine r_tsOut (pc := 113) hX 54 (tgt := 273) rfl ⟨by omega, by omega⟩ (by omega) (by decide) ?_
            exact (L273  (by have z := Hd.o ik2; omega) )
          · refine r_tsIn (x := kk) (pc := 113) hX 54 (tgt := 204) rfl ⟨by omega, by omega⟩ (by omega) (by omega) (by rw [hsw113]; rfl) (by decide) ?_
            have hm2 := ((Hd.o ik2).resolve_right (fun z => absurd z.2.2 (by omega))).2
            refine r_aload_n (pc := 204) hX 55 rfl rfl ?_
            refine r_aload_n (pc := 205) hX 56 rfl rfl ?_
            refine r_iload_n (pc := 206) hX 57 rfl rfl ?_
            refine r_iconst (pc := 207) hX 58 rfl ?_
            refine r_iadd (pc := 208) hX 59 rfl ?_
            refine r_callV (as := [(2, o), (0, (d + 1))]) (st := []) (K := 7) (pc := 209) hX 60 rfl mo_X7_readCond ml_X7_31 im_X7_readCond se_X7_readCond (c_X7_readCondS5 g ω v108 ρ Z hH108 t ht o ho ((d + 1)) (hq108) (hR108) (by omega)) rfl rfl rfl (hH108.kd ht (by decide)) (by rw [hRm]; exact ⟨by decide, by decide⟩) (by rw [hRm]; exact ⟨by decide, by decide⟩) (Nat.le_of_ble_eq_true rfl) (fun o209 v209 ρv209 Zv209 hq209 _ => ?_)
            obtain ⟨rfl, rfl, hfr209, hH209, r209, rfl, hq209⟩ := hq209
            try rw [show (v108 (ρ t 1) 4) = ((v (ρ t 1) 4) + 1) from (hfr108.at hw47_ (by decide) 4).trans (up_s _ _ _ _)] at hq209
            show wp g X F_X7_readOne 0 0 212 [(2, t), (2, o), (0, d), (0, r6), (0, kk)] [(0, r209)] v209 ρ Z
            first | refine r_if_eq (pc := 212) hX 61 (tgt := 226) rfl (by decide) (⟨by omega, by omega⟩) (fun h212 => ?_) (fun h212 => ?_) | refine r_if_eq_any (pc := 212) hX 61 (tgt := 226) rfl (by decide) ?_ ?_
            · refine r_iconst (pc := 226) hX 67 rfl ?_
              exact r_zret (pc := 227) hX 68 hQ rfl rfl ⟨by omega, by omega⟩ (Nat.le_of_ble_eq_true rfl) (Nat.le_of_ble_eq_true rfl) ⟨rfl, rfl, (((FrW.rf).up (r := (ρ t 1)) hw47_ (by decide)).tr hfr108 (by decide)).tr hfr209 (by decide), hH209, 0, rfl, (by omega), (by first | exact OnC.op0 hn9 hp0 hp1 hm2 (by omega) (by omega) (by have z := hq209.2; (try rw [e108] at z); rw [show r209 = 0 by omega] at z; exact z) | (have z6 := (Hd.o hq216.2).resolve_right (fun z => absurd z.1 (by omega)); exact OnC.op1 hn9 hp0 hp1 hm2 (by omega) (by omega) hT2 hlt2 hS2 z6.2.1 z6.2.2 (hfr216.at hw1 (by decide) 4)) | (have z6 := (Hd.o hq216.2).resolve_left (fun z => absurd z.1 (by omega)); exact OnC.op2 hn9 hp0 hp1 hm2 (by omega) (by omega) hT2 hk11 hk12 hS2 z6.2.1 z6.2.2))⟩
            · obtain ⟨p2, hT2, hlt2, hk11, hk12, hS2⟩ := hq209.2.ok (by omega)
              try rw [e108] at hlt2
              try rw [e108] at hS2
              refine r_aload_n (pc := 215) hX 62 rfl rfl ?_
              refine r_callV (as := []) (st := []) (K := 7) (pc := 216) hX 63 rfl mo_X7_readClosing ml_X7_61 im_X7_readClosing se_X7_readClosing (c_X7_readClosingS g ω v209 ρ Z hH209 t ht (hT2)) rfl rfl rfl (hH209.kd ht (by decide)) (by rw [hRm]; exact ⟨by decide, by decide⟩) (by rw [hRm]; exact ⟨by decide, by decide⟩) (Nat.le_of_ble_eq_true rfl) (fun o216 v216 ρv216 Zv216 hq216 _ => ?_)
              obtain ⟨rfl, rfl, hfr216, hH216, r216, rfl, hq216⟩ := hq216
              show wp g X F_X7_readOne 0 0 219 [(2, t), (2, o), (0, d), (0, r6), (0, kk)] [(0, r216)] v216 ρ Z
              first | refine r_if_eq (pc := 219) hX 64 (tgt := 226) rfl (by decide) (⟨by omega, by omega⟩) (fun h219 => ?_) (fun h219 => ?_) | refine r_if_eq_any (pc := 219) hX 64 (tgt := 226) rfl (by decide) ?_ ?_
              · refine r_iconst (pc := 226) hX 67 rfl ?_
                exact r_zret (pc := 227) hX 68 hQ rfl rfl ⟨by omega, by omega⟩ (Nat.le_of_ble_eq_true rfl) (Nat.le_of_ble_eq_true rfl) ⟨rfl, rfl, ((((FrW.rf).up (r := (ρ t 1)) hw47_ (by decide)).tr hfr108 (by decide)).tr hfr209 (by decide)).tr hfr216 (by decide), hH216, 0, rfl, (by omega), (by first | exact OnC.op0 hn9 hp0 hp1 hm2 (by omega) (by omega) (by have z := hq209.2; (try rw [e108] at z); rw [show r209 = 0 by omega] at z; exact z) | (have z6 := (Hd.o hq216.2).resolve_right (fun z => absurd z.1 (by omega)); exact OnC.op1 hn9 hp0 hp1 hm2 (by omega) (by omega) hT2 hlt2 hS2 z6.2.1 z6.2.2 (hfr216.at hw1 (by decide) 4)) | (have z6 := (Hd.o hq216.2).resolve_left (fun z => absurd z.1 (by omega)); exact OnC.op2 hn9 hp0 hp1 hm2 (by omega) (by omega) hT2 hk11 hk12 hS2 z6.2.1 z6.2.2))⟩
              · refine r_iconst (pc := 222) hX 65 rfl ?_
                refine r_goto (pc := 223) hX 66 (tgt := 227) rfl (by decide) ?_
                exact r_zret (pc := 227) hX 68 hQ rfl rfl ⟨by omega, by omega⟩ (Nat.le_of_ble_eq_true rfl) (Nat.le_of_ble_eq_true rfl) ⟨rfl, rfl, ((((FrW.rf).up (r := (ρ t 1)) hw47_ (by decide)).tr hfr108 (by decide)).tr hfr209 (by decide)).tr hfr216 (by decide), hH216, 1, rfl, (by omega), (by first | exact OnC.op0 hn9 hp0 hp1 hm2 (by omega) (by omega) (by have z := hq209.2; (try rw [e108] at z); rw [show r209 = 0 by omega] at z; exact z) | (have z6 := (Hd.o hq216.2).resolve_right (fun z => absurd z.1 (by omega)); exact OnC.op1 hn9 hp0 hp1 hm2 (by omega) (by omega) hT2 hlt2 hS2 z6.2.1 z6.2.2 (hfr216.at hw1 (by decide) 4)) | (have z6 := (Hd.o hq216.2).resolve_left (fun z => absurd z.1 (by omega)); exact OnC.op2 hn9 hp0 hp1 hm2 (by omega) (by omega) hT2 hk11 hk12 hS2 z6.2.1 z6.2.2))⟩
          · refine r_tsIn (x := kk) (pc := 113) hX 54 (tgt := 273) rfl ⟨by omega, by omega⟩ (by omega) (by omega) (by rw [hsw113]; rfl) (by decide) ?_
            exact (L273  (by have z := Hd.o ik2; omega) )
          · refine r_tsIn (x := kk) (pc := 113) hX 54 (tgt := 273) rfl ⟨by omega, by omega⟩ (by omega) (by omega) (by rw [hsw113]; rfl) (by decide) ?_
            exact (L273  (by have z := Hd.o ik2; omega) )
          · refine r_tsIn (x := kk) (pc := 113) hX 54 (tgt := 273) rfl ⟨by omega, by omega⟩ (by omega) (by omega) (by rw [hsw113]; rfl) (by decide) ?_
            exact (L273  (by have z := Hd.o ik2; omega) )
          · refine r_tsIn (x := kk) (pc := 113) hX 54 (tgt := 273) rfl ⟨by omega, by omega⟩ (by omega) (by omega) (by rw [hsw113]; rfl) (by decide) ?_
            exact (L273  (by have z := Hd.o ik2; omega) )
          · refine r_tsIn (x := kk) (pc := 113) hX 54 (tgt := 273) rfl ⟨by omega, by omega⟩ (by omega) (by omega) (by rw [hsw113]; rfl) (by decide) ?_
            exact (L273  (by have z := Hd.o ik2; omega) )
          · refine r_tsIn (x := kk) (pc := 113) hX 54 (tgt := 273) rfl ⟨by omega, by omega⟩ (by omega) (by omega) (by rw [hsw113]; rfl) (by decide) ?_
            exact (L273  (by have z := Hd.o ik2; omega) )
          · refine r_tsIn (x := kk) (pc := 113) hX 54 (tgt := 273) rfl ⟨by omega, by omega⟩ (by omega) (by omega) (by rw [hsw113]; rfl) (by decide) ?_
            exact (L273  (by have z := Hd.o ik2; omega) )
          · refine r_tsIn (x := kk) (pc := 113) hX 54 (tgt := 273) rfl ⟨by omega, by omega⟩ (by omega) (by omega) (by rw [hsw113]; rfl) (by decide) ?_
            exact (L273  (by have z := Hd.o ik2; omega) )
          · refine r_tsIn (x := kk) (pc := 113) hX 54 (tgt := 273) rfl ⟨by omega, by omega⟩ (by omega) (by omega) (by rw [hsw113]; rfl) (by decide) ?_
            exact (L273  (by have z := Hd.o ik2; omega) )
          · refine r_tsIn (x := kk) (pc := 113) hX 54 (tgt := 273) rfl ⟨by omega, by omega⟩ (by omega) (by omega) (by rw [hsw113]; rfl) (by decide) ?_
            exact (L273  (by have z := Hd.o ik2; omega) )
          · refine r_tsIn (x := kk) (pc := 113) hX 54 (tgt := 273) rfl ⟨by omega, by omega⟩ (by omega) (by omega) (by rw [hsw113]; rfl) (by decide) ?_
            exact (L273  (by have z := Hd.o ik2; omega) )
          · refine r_tsIn (x := kk) (pc := 113) hX 54 (tgt := 273) rfl ⟨by omega, by omega⟩ (by omega) (by omega) (by rw [hsw113]; rfl) (by decide) ?_
            exact (L273  (by have z := Hd.o ik2; omega) )
          · refine r_tsIn (x := kk) (pc := 113) hX 54 (tgt := 273) rfl ⟨by omega, by omega⟩ (by omega) (by omega) (by rw [hsw113]; rfl) (by decide) ?_
            exact (L273  (by have z := Hd.o ik2; omega) )
          · refine r_tsIn (x := kk) (pc := 113) hX 54 (tgt := 228) rfl ⟨by omega, by omega⟩ (by omega) (by omega) (by rw [hsw113]; rfl) (by decide) ?_
            have hm3 := (Hd.o ik2).resolve_left (fun z => absurd z.1 (by omega))
            refine r_aload_n (pc := 228) hX 69 rfl rfl ?_
            refine r_aload_n (pc := 229) hX 70 rfl rfl ?_
            refine r_iload_n (pc := 230) hX 71 rfl rfl ?_
            refine r_iconst (pc := 231) hX 72 rfl ?_
            refine r_iadd (pc := 232) hX 73 rfl ?_
            refine r_callV (as := [(2, o), (0, (d + 1))]) (st := []) (K := 7) (pc := 233) hX 74 rfl mo_X7_readOne ml_X7_43 im_X7_readOne se_X7_readOne (c_X7_readOneS5 g ω v108 ρ Z hH108 t ht o ho ((d + 1)) (hq108) (hR108) (by omega)) rfl rfl rfl (hH108.kd ht (by decide)) (by rw [hRm]; exact ⟨by decide, by decide⟩) (by rw [hRm]; exact ⟨by decide, by decide⟩) (Nat.le_of_ble_eq_true rfl) (fun o233 v233 ρv233 Zv233 hq233 _ => ?_)
            obtain ⟨rfl, rfl, hfr233, hH233, r233, rfl, hq233⟩ := hq233
            try rw [show (v108 (ρ t 1) 4) = ((v (ρ t 1) 4) + 1) from (hfr108.at hw47_ (by decide) 4).trans (up_s _ _ _ _)] at hq233
            show wp g X F_X7_readOne 0 0 236 [(2, t), (2, o), (0, d), (0, r6), (0, kk)] [(0, r233)] v233 ρ Z
            first | refine r_if_ne (pc := 236) hX 75 (tgt := 241) rfl (by decide) (⟨by omega, by omega⟩) (fun h236 => ?_) (fun h236 => ?_) | refine r_if_ne_any (pc := 236) hX 75 (tgt := 241) rfl (by decide) ?_ ?_
            · refine t_getR (q := (ρ t 1)) (pc := 241) hX 78 rfl rfl rfl fl_X7_12 rfl (hH233.kd ht (by decide)) (rfl) ?_
              refine r_bipush (pc := 245) hX 80 rfl (by decide) ?_
              refine r_iconst (pc := 247) hX 81 rfl ?_
              refine r_iconst (pc := 248) hX 82 rfl ?_
              refine r_callV (as := [(0, 13), (0, 0), (0, 0)]) (st := []) (K := 6) (pc := 249) hX 83 rfl mo_X6_add ml_X7_46 im_X6_add se_X6_add (c_X6_add g ω v233 ρ Z hH233 (ρ t 1) hw47_ (13) (0) (0) ) rfl rfl rfl (hH233.kd hw47_ (by decide)) (by rw [hRm]; exact ⟨by decide, by decide⟩) (by rw [hRm]; exact ⟨by decide, by decide⟩) (Nat.le_of_ble_eq_true rfl) (fun o249 v249 ρv249 Zv249 hq249 _ => ?_)
              obtain ⟨rfl, rfl, hfr249, hH249, rfl, hq249⟩ := hq249
              show wp g X F_X7_readOne 0 0 252 [(2, t), (2, o), (0, d), (0, r6), (0, kk)] [] v249 ρ Z
              refine r_iconst (pc := 252) hX 84 rfl ?_
              exact r_zret (pc := 253) hX 85 hQ rfl rfl ⟨by omega, by omega⟩ (Nat.le_of_ble_eq_true rfl) (Nat.le_of_ble_eq_true rfl) ⟨rfl, rfl, ((((FrW.rf).up (r := (ρ t 1)) hw47_ (by decide)).tr hfr108 (by decide)).tr hfr233 (by decide)).tr hfr249 (by decide), hH249, 1, rfl, (by omega), (OnC.not1 hn9 hp0 hp1 hm3.2.1 (by omega) (by omega) (by omega) (by have z := hq233.2; (try rw [e108] at z); rw [show r233 = 1 by omega] at z; exact z) (by first | exact hq249 | exact hq249.trans ((hfr233.at hw1 (by decide) 4).trans e108).symm) (fun p hT => hT.fw hfr249 hw0 hw3 (by decide)))⟩
            · refine r_iconst (pc := 239) hX 76 rfl ?_
              exact r_zret (pc := 240) hX 77 hQ rfl rfl ⟨by omega, by omega⟩ (Nat.le_of_ble_eq_true rfl) (Nat.le_of_ble_eq_true rfl) ⟨rfl, rfl, (((FrW.rf).up (r := (ρ t 1)) hw47_ (by decide)).tr hfr108 (by decide)).tr hfr233 (by decide), hH233, 0, rfl, (by omega), (OnC.not0 hn9 hp0 hp1 hm3.2.1 (by omega) (by omega) (by omega) (by have z := hq233.2; (try rw [e108] at z); rw [show r233 = 0 by omega] at z; exact z))⟩
          · refine r_tsIn (x := kk) (pc := 113) hX 54 (tgt := 254) rfl ⟨by omega, by omega⟩ (by omega) (by omega) (by rw [hsw113]; rfl) (by decide) ?_
            exact (L254  (by omega) )
          · refine r_tsIn (x := kk) (pc := 113) hX 54 (tgt := 254) rfl ⟨by omega, by omega⟩ (by omega) (by omega) (by rw [hsw113]; rfl) (by decide) ?_
            exact (L254  (by omega) )
          · refine r_tsIn (x := kk) (pc := 113) hX 54 (tgt := 267) rfl ⟨by omega, by omega⟩ (by omega) (by omega) (by rw [hsw113]; rfl) (by decide) ?_
            have hm5 := (Hd.o ik2).resolve_left (fun z => absurd z.1 (by omega))
            refine r_aload_n (pc := 267) hX 94 rfl rfl ?_
            refine r_aload_n (pc := 268) hX 95 rfl rfl ?_
            refine r_callV (as := [(2, o)]) (st := []) (K := 7) (pc := 269) hX 96 rfl mo_X7_readHas ml_X7_64 im_X7_readHas se_X7_readHas (c_X7_readHasS g ω v108 ρ Z hH108 t ht o ho (hq108) (hR108)) rfl rfl rfl (hH108.kd ht (by decide)) (by rw [hRm]; exact ⟨by decide, by decide⟩) (by rw [hRm]; exact ⟨by decide, by decide⟩) (Nat.le_of_ble_eq_true rfl) (fun o269 v269 ρv269 Zv269 hq269 _ => ?_)
            obtain ⟨rfl, rfl, hfr269, hH269, r269, rfl, hq269⟩ := hq269
            show wp g X F_X7_readOne 0 0 272 [(2, t), (2, o), (0, d), (0, r6), (0, kk)] [(0, r269)] v269 ρ Z
            exact r_zret (pc := 272) hX 97 hQ rfl rfl ⟨by omega, by omega⟩ (Nat.le_of_ble_eq_true rfl) (Nat.le_of_ble_eq_true rfl) ⟨rfl, rfl, (((FrW.rf).up (r := (ρ t 1)) hw47_ (by decide)).tr hfr108 (by decide)).tr hfr269 (by decide), hH269, r269, rfl, (by omega), (OnC.leaf (v1 := v108) hn9 hp0 hp1 hm5.2.1 (by omega) (by omega) (by omega) e108 (by rw [show ky F n m p = 16 by omega]; exact hq269.2))⟩
          · refine r_tsIn (x := kk) (pc := 113) hX 54 (tgt := 254) rfl ⟨by omega, by omega⟩ (by omega) (by omega) (by rw [hsw113]; rfl) (by decide) ?_
            exact (L254  (by omega) )
        first | refine r_if_eq (pc := 88) hX 43 (tgt := 95) rfl (by decide) (⟨by omega, by omega⟩) (fun h88 => ?_) (fun h88 => ?_) | refine r_if_eq_any (pc := 88) hX 43 (tgt := 95) rfl (by decide) ?_ ?_
        · refine t_getR (q := (ρ t 0)) (pc := 95) hX 46 rfl rfl rfl fl_X7_18 rfl (hH_84.kd ht (by decide)) (rfl) ?_
          refine e_getI (y := (v (ρ t 0) 7)) (pc := 99) hX 48 rfl fl_X7_50 rfl (hH_84.kd hw0_ (by decide)) ((up_k (by decide)).trans (rfl)) ?_
          have hb99 : (-1) ≤ (v (ρ t 0) 7) ∧ (v (ρ t 0) 7) ≤ 21 := hH.rg hw0_ (by decide) rfl
          exact (L102 (v (ρ t 0) 7) (by omega) (by first | exact Hd.i (Or.inl ⟨rfl, ((Hd.o hq6.2).resolve_right (fun z => absurd z.1 (by omega))).2⟩) | (have m9 := ((Hd.o hq6.2).resolve_left (fun z => absurd z.1 (by omega))).2; have k9 := hT.k7; exact Hd.i (Or.inr ⟨by omega, m9, by rcases i47 with z | z; (rw [m9] at z; cases z); omega⟩))) )
        · refine r_iconst (pc := 91) hX 44 rfl ?_
          refine r_goto (pc := 92) hX 45 (tgt := 102) rfl (by decide) ?_
          exact (L102 (-1) (by omega) (by first | exact Hd.i (Or.inl ⟨rfl, ((Hd.o hq6.2).resolve_right (fun z => absurd z.1 (by omega))).2⟩) | (have m9 := ((Hd.o hq6.2).resolve_left (fun z => absurd z.1 (by omega))).2; have k9 := hT.k7; exact Hd.i (Or.inr ⟨by omega, m9, by rcases i47 with z | z; (rw [m9] at z; cases z); omega⟩))) )
      · exact absurd (by omega) h62
  first | refine r_if_ne (pc := 11) hX 6 (tgt := 47) rfl (by decide) (⟨by omega, by omega⟩) (fun h11 => ?_) (fun h11 => ?_) | refine r_if_ne_any (pc := 11) hX 6 (tgt := 47) rfl (by decide) ?_ ?_
  · exact (L47  (by have k9 := hT.k7; first | exact Or.inl ((Hd.o hq6.2).resolve_right (fun z => absurd z.1 (by omega))).2 | exact Or.inr ⟨by omega, by omega⟩) )
  · refine t_getR (q := (ρ t 0)) (pc := 14) hX 7 rfl rfl rfl fl_X7_18 rfl (hH.kd ht (by decide)) (rfl) ?_
    refine e_getI (y := (v (ρ t 0) 7)) (pc := 18) hX 9 rfl fl_X7_50 rfl (hH.kd hw0_ (by decide)) (rfl) ?_
    have hb18 : (-1) ≤ (v (ρ t 0) 7) ∧ (v (ρ t 0) 7) ≤ 21 := hH.rg hw0_ (by decide) rfl
    refine r_bipush (pc := 21) hX 10 rfl (by decide) ?_
    have L38 : (mk F n m p 40 = false ∧ ¬ (13 ≤ ky F n m p ∧ ky F n m p ≤ 21)) → wp g X F_X7_readOne 0 0 38 [(2, t), (2, o), (0, d), (0, r6), (3, 0)] [] v ρ Z := by
      intro i38
      refine t_getR (q := (ρ t 0)) (pc := 38) hX 17 rfl rfl rfl fl_X7_18 rfl (hH.kd ht (by decide)) (rfl) ?_
      refine r_iconst (pc := 42) hX 19 rfl ?_
      refine r_callV (as := [(0, 1)]) (st := []) (K := 8) (pc := 43) hX 20 rfl mo_X8_refuse ml_X7_39 im_X8_refuse se_X8_refuse (c_X8_refuseF g ω v ρ Z hH (ρ t 0) hw0_ (1) (by omega)) rfl rfl rfl (hH.kd hw0_ (by decide)) (by rw [hRm]; exact ⟨by decide, by decide⟩) (by rw [hRm]; exact ⟨by decide, by decide⟩) (Nat.le_of_ble_eq_true rfl) (fun o43 v43 ρv43 Zv43 hq43 _ => ?_)
      obtain ⟨rfl, rfl, hfr43, hH43, r43, rfl, hq43⟩ := hq43
      show wp g X F_X7_readOne 0 0 46 [(2, t), (2, o), (0, d), (0, r6), (3, 0)] [(0, r43)] v43 ρ Z
      exact r_zret (pc := 46) hX 21 hQ rfl rfl ⟨by omega, by omega⟩ (Nat.le_of_ble_eq_true rfl) (Nat.le_of_ble_eq_true rfl) ⟨rfl, rfl, (FrW.rf).tr hfr43 (by decide), hH43, r43, rfl, (by omega), (by rw [hq43.1]; exact OnC.bad hn9 hp0 hp1 ⟨hq43.2.1.1, hq43.2.1.2.trans hT.k5⟩ i38.1 i38.2)⟩
    first | refine r_icmp_lt (pc := 23) hX 11 (tgt := 38) rfl (by decide) (⟨by omega, by omega⟩) (⟨by omega, by omega⟩) (fun h23 => ?_) (fun h23 => ?_) | refine r_icmp_lt_any (pc := 23) hX 11 (tgt := 38) rfl (by decide) ?_ ?_
    · exact (L38  (⟨((Hd.o hq6.2).resolve_left (fun z => absurd z.1 (by omega))).2, by have k9 := hT.k7; omega⟩) )
    · refine t_getR (q := (ρ t 0)) (pc := 26) hX 12 rfl rfl rfl fl_X7_18 rfl (hH.kd ht (by decide)) (rfl) ?_
      refine e_getI (y := (v (ρ t 0) 7)) (pc := 30) hX 14 rfl fl_X7_50 rfl (hH.kd hw0_ (by decide)) (rfl) ?_
      refine r_bipush (pc := 33) hX 15 rfl (by decide) ?_
      first | refine r_icmp_le (pc := 35) hX 16 (tgt := 47) rfl (by decide) (⟨by omega, by omega⟩) (⟨by omega, by omega⟩) (fun h35 => ?_) (fun h35 => ?_) | refine r_icmp_le_any (pc := 35) hX 16 (tgt := 47) rfl (by decide) ?_ ?_
      · exact (L47  (by have k9 := hT.k7; first | exact Or.inl ((Hd.o hq6.2).resolve_right (fun z => absurd z.1 (by omega))).2 | exact Or.inr ⟨by omega, by omega⟩) )
      · exact (L38  (⟨((Hd.o hq6.2).resolve_left (fun z => absurd z.1 (by omega))).2, by have k9 := hT.k7; omega⟩) )
set_option maxHeartbeats 4000000 in
set_option maxRecDepth 100000 in
theorem c_X7_readCondS4 (g : Gp) (ω : Rw) (v ρ : Mv) (Z : Mz) (hH : HT ω v ρ Z) {F : Int → Int} {n m p L q : Int} {s : Rd} (t : Int) (ht : ω t = 21) (o : Int) (ho : ω o = 5) (d : Int) (hT : TkC F n m v ρ (ρ t 0) p) (hR : RcI v ρ o L q s) (hd : d = 4) : Ok g 19 0 0 F_X7_readCond [(2, t), (2, o), (0, d)] v ρ Z (fun o9 v' ρ' Z' => ρ = ρ' ∧ Z = Z' ∧ FrW ω [2, 19, 20] v v' ∧ HT ω v' ρ Z ∧ ∃ r : Int, o9 = some (0, r) ∧ (0 ≤ r ∧ r ≤ 1) ∧ (CdC F n m (fun x => fnd s.N x 0 (s.H 0).toNat 0) v' ρ t d (v (ρ t 1) 4) p r)) := by
  refine Ok.of mo_X7_readCond (Nat.le_of_ble_eq_true rfl) ?_
  intro X hX hRm hxn hQ
  show wp g X F_X7_readCond 0 0 0 [(2, t), (2, o), (0, d), (3, 0), (3, 0), (3, 0)] [] v ρ Z
  have hw0 : ω (ρ t 0) = 2 := hH.rf ht (by decide) rfl
  have hw3 : ω (ρ (ρ t 0) 0) = 3 := hH.rf hw0 (by decide) rfl
  have hw1 : ω (ρ t 1) = 19 := hH.rf ht (by decide) rfl
  have hn9 : n ≤ 940 := by
    have z1 : 0 ≤ v (ρ t 0) 1 ∧ v (ρ t 0) 1 ≤ 940 := hH.rg hw0 (by decide) rfl
    have z := hT.2.2.1
    omega
  have hp0 := hT.1
  have hp1 := hT.2.1
  have ho4 : 0 ≤ v (ρ t 1) 4 ∧ v (ρ t 1) 4 ≤ 20 := hH.rg hw1 (by decide) rfl
  refine r_iconst (pc := 0) hX 0 rfl ?_
  refine r_istore_n (ls' := [(2, t), (2, o), (0, d), (0, 0), (3, 0), (3, 0)]) (pc := 1) hX 1 rfl (by decide) rfl ?_
  refine r_iconst (pc := 2) hX 2 rfl ?_
  refine r_istore (ls' := [(2, t), (2, o), (0, d), (0, 0), (0, 0), (3, 0)]) (pc := 3) hX 3 rfl (by decide) rfl ?_
  refine r_iconst (pc := 5) hX 4 rfl ?_
  refine r_istore (ls' := [(2, t), (2, o), (0, d), (0, 0), (0, 0), (0, 0)]) (pc := 6) hX 5 rfl (by decide) rfl ?_
  have L8 : ∀ (n8 : Nat) (aa ow i : Int) (v8 : Mv) , (FrW ω [2, 19, 20] v v8) → (HT ω v8 ρ Z) → (0 ≤ i ∧ i ≤ 21 ∧ 0 ≤ aa ∧ aa ≤ 1 ∧ 0 ≤ ow ∧ ow ≤ 1) → (v (ρ t 1) 4 + i ≤ v8 (ρ t 1) 4) → (CqI F n m (fun x => fnd s.N x 0 (s.H 0).toNat 0) v8 ρ t d (v (ρ t 1) 4) p) → (21 - i).toNat < n8 → wp g X F_X7_readCond 0 0 8 [(2, t), (2, o), (0, d), (0, aa), (0, ow), (0, i)] [] v8 ρ Z := by
    intro n8
    induction n8 with
    | zero => intro aa ow i v8 hfr8 hH8 ii io iq hme8; exact absurd hme8 (Nat.not_lt_zero _)
    | succ n8 ih8 =>
      intro aa ow i v8 hfr8 hH8 ii io iq hme8
      obtain ⟨pa, hTa, hSa⟩ := iq
      have hR8 : RcI v8 ρ o L q s := hR.frO hH ho (hfr8.keep (by decide))
      have hb4 : 0 ≤ v8 (ρ t 1) 4 ∧ v8 (ρ t 1) 4 ≤ 20 := hH8.rg hw1 (by decide) rfl
      refine r_iload (pc := 8) hX 6 rfl rfl ?_
      refine r_bipush (pc := 10) hX 7 rfl (by decide) ?_
      first | refine r_icmp_gt (pc := 12) hX 8 (tgt := 109) rfl (by decide) (⟨by omega, by omega⟩) (⟨by omega, by omega⟩) (fun h12 => ?_) (fun h12 => ?_) | refine r_icmp_gt_any (pc := 12) hX 8 (tgt := 109) rfl (by decide) ?_ ?_
      · exact absurd h12 (by omega)
      · refine r_aload_n (pc := 15) hX 9 rfl rfl ?_
        refine r_aload_n (pc := 16) hX 10 rfl rfl ?_
        refine r_iload_n (pc := 17) hX 11 rfl rfl ?_
        refine r_callV (as := [(2, o), (0, d)]) (st := []) (K := 7) (pc := 18) hX 12 rfl mo_X7_readOne ml_X7_43 im_X7_readOne se_X7_readOne (c_X7_readOneS4 g ω v8 ρ Z hH8 t ht o ho (d) (hTa) (hR8) (by omega)) rfl rfl rfl (hH8.kd ht (by decide)) (by rw [hRm]; exact ⟨by decide, by decide⟩) (by rw [hRm]; exact ⟨by decide, by decide⟩) (Nat.le_of_ble_eq_true rfl) (fun o18 v18 ρv18 Zv18 hq18 _ => ?_)
        obtain ⟨rfl, rfl, hfr18, hH18, r18, rfl, hq18⟩ := hq18
        have hw18_ : ω (ρ t 1) = 19 := hH.rf ht (by decide) rfl
        show wp g X F_X7_readCond 0 0 21 [(2, t), (2, o), (0, d), (0, aa), (0, ow), (0, i)] [(0, r18)] v18 ρ Z
        first | refine r_if_ne (pc := 21) hX 13 (tgt := 26) rfl (by decide) (⟨by omega, by omega⟩) (fun h21 => ?_) (fun h21 => ?_) | refine r_if_ne_any (pc := 21) hX 13 (tgt := 26) rfl (by decide) ?_ ?_
        · obtain ⟨pb, hTb, hlb, hSb⟩ := hq18.2.ok (by omega)
          refine r_iload_n (pc := 26) hX 16 rfl rfl ?_
          have L41 : ∀ (v41 : Mv) , (FrW ω [2, 19, 20] v v41) → (HT ω v41 ρ Z) → (TkC F n m v41 ρ (ρ t 0) pb) → (v41 (ρ t 1) 4 = v18 (ρ t 1) 4) → wp g X F_X7_readCond 0 0 41 [(2, t), (2, o), (0, d), (0, aa), (0, ow), (0, i)] [] v41 ρ Z := by
            intro v41 hfr41 hH41 i41 o41
            refine t_getR (q := (ρ t 0)) (pc := 41) hX 24 rfl rfl rfl fl_X7_18 rfl (hH41.kd ht (by decide)) (rfl) ?_
            have hw41_ : ω (ρ t 0) = 2 := hH.rf ht (by decide) rfl
            refine e_getI (y := (v41 (ρ t 0) 7)) (pc := 45) hX 26 rfl fl_X7_50 rfl (hH41.kd hw41_ (by decide)) (rfl) ?_
            have hb45 : (-1) ≤ (v41 (ρ t 0) 7) ∧ (v41 (ρ t 0) 7) ≤ 21 := hH41.rg hw41_ (by decide) rfl
            refine r_bipush (pc := 48) hX 27 rfl (by decide) ?_
            have L58 : ∀ (a2 : Int) , (0 ≤ a2 ∧ a2 ≤ 1) → (a2 = 1 ∧ ky F n m pb = 12 ∨ a2 = 0 ∧ ky F n m pb ≠ 12) → wp g X F_X7_readCond 0 0 58 [(2, t), (2, o), (0, d), (0, aa), (0, ow), (0, i)] [(0, a2)] v41 ρ Z := by
              intro a2 ia ia2
              refine r_istore_n (ls' := [(2, t), (2, o), (0, d), (0, a2), (0, ow), (0, i)]) (pc := 58) hX 32 rfl (by decide) rfl ?_
              refine r_iload_n (pc := 59) hX 33 rfl rfl ?_
              have L96 : ∀ (ow2 : Int) (v96 : Mv) , (FrW ω [2, 19, 20] v v96) → (HT ω v96 ρ Z) → (0 ≤ ow2 ∧ ow2 ≤ 1) → (TkC F n m v96 ρ (ρ t 0) pb) → (v96 (ρ t 1) 4 = v18 (ρ t 1) 4) → (ky F n m pb = 11 ∨ ky F n m pb = 12) → wp g X F_X7_readCond 0 0 96 [(2, t), (2, o), (0, d), (0, a2), (0, ow2), (0, i)] [] v96 ρ Z := by
                intro ow2 v96 hfr96 hH96 io2 i96 o96 j96
                refine t_getR (q := (ρ t 0)) (pc := 96) hX 52 rfl rfl rfl fl_X7_18 rfl (hH96.kd ht (by decide)) (rfl) ?_
                refine r_callV (as := []) (st := []) (K := 8) (pc := 100) hX 54 rfl mo_X8_advance ml_X7_28 im_X8_advance se_X8_advance (c_X8_advanceT g ω v96 ρ Z hH96 (ρ t 0) hw41_ (i96)) rfl rfl rfl (hH96.kd hw41_ (by decide)) (by rw [hRm]; exact ⟨by decide, by decide⟩) (by rw [hRm]; exact ⟨by decide, by decide⟩) (Nat.le_of_ble_eq_true rfl) (fun o100 v100 ρv100 Zv100 hq100 _ => ?_)
                obtain ⟨rfl, rfl, hfr100, hH100, rfl, hq100⟩ := hq100
                show wp g X F_X7_readCond 0 0 103 [(2, t), (2, o), (0, d), (0, a2), (0, ow2), (0, i)] [] v100 ρ Z
                refine r_iinc (ls' := [(2, t), (2, o), (0, d), (0, a2), (0, ow2), (0, (i + 1))]) (pc := 103) hX 55 rfl rfl (by decide) rfl ?_
                refine r_goto (pc := 106) hX 56 (tgt := 8) rfl (by decide) ?_
                exact (ih8 a2 ow2 (i + 1) v100 ((hfr96).tr hfr100 (by decide)) (hH100) (by omega) (by have z := hfr100.at hw1 (by decide) 4; omega) (⟨tp F n m pb, hq100, fun S a b => by rw [hSa S a b, hSb S a, sR_join hn9 hTb.1 hTb.2.1 j96, b, hfr100.at hw1 (by decide) 4, o96]⟩) (by omega))
              first | refine r_if_ne (pc := 60) hX 34 (tgt := 96) rfl (by decide) (⟨by omega, by omega⟩) (fun h60 => ?_) (fun h60 => ?_) | refine r_if_ne_any (pc := 60) hX 34 (tgt := 96) rfl (by decide) ?_ ?_
              · exact (L96 ow v41 (hfr41) (hH41) (by omega) (by first | exact i41 | exact i79) (by first | exact o41 | exact o79) (by first | exact Or.inr (by omega) | (have k79 := i79.k7; exact Or.inl (by omega))) )
              · refine r_iload (pc := 63) hX 35 rfl rfl ?_
                have L79 : ∀ (v79 : Mv) , (FrW ω [2, 19, 20] v v79) → (HT ω v79 ρ Z) → (TkC F n m v79 ρ (ρ t 0) pb) → (v79 (ρ t 1) 4 = v18 (ρ t 1) 4) → wp g X F_X7_readCond 0 0 79 [(2, t), (2, o), (0, d), (0, a2), (0, ow), (0, i)] [] v79 ρ Z := by
                  intro v79 hfr79 hH79 i79 o79
                  refine t_getR (q := (ρ t 0)) (pc := 79) hX 43 rfl rfl rfl fl_X7_18 rfl (hH79.kd ht (by decide)) (rfl) ?_
                  refine e_getI (y := (v79 (ρ t 0) 7)) (pc := 83) hX 45 rfl fl_X7_50 rfl (hH79.kd hw41_ (by decide)) (rfl) ?_
                  have hb83 : (-1) ≤ (v79 (ρ t 0) 7) ∧ (v79 (ρ t 0) 7) ≤ 21 := hH79.rg hw41_ (by decide) rfl
                  refine r_bipush (pc := 86) hX 46 rfl (by decide) ?_
                  first | refine r_icmp_eq (pc := 88) hX 47 (tgt := 93) rfl (by decide) (⟨by omega, by omega⟩) (⟨by omega, by omega⟩) (fun h88 => ?_) (fun h88 => ?_) | refine r_icmp_eq_any (pc := 88) hX 47 (tgt := 93) rfl (by decide) ?_ ?_
                  · refine r_iconst (pc := 93) hX 50 rfl ?_
                    refine r_istore (ls' := [(2, t), (2, o), (0, d), (0, a2), (0, 1), (0, i)]) (pc := 94) hX 51 rfl (by decide) rfl ?_
                    exact (L96 1 v79 (hfr79) (hH79) (by omega) (by first | exact i41 | exact i79) (by first | exact o41 | exact o79) (by first | exact Or.inr (by omega) | (have k79 := i79.k7; exact Or.inl (by omega))) )
                  · refine r_iconst (pc := 91) hX 48 rfl ?_
                    exact r_zret (pc := 92) hX 49 hQ rfl rfl ⟨by omega, by omega⟩ (Nat.le_of_ble_eq_true rfl) (Nat.le_of_ble_eq_true rfl) ⟨rfl, rfl, hfr79, hH79, 1, rfl, (by omega), (Or.inl ⟨rfl, pb, i79, by omega, by have k79 := i79.k7; omega, by omega, fun S a b => by rw [hSa S a b, hSb S a, o79]⟩)⟩
                first | refine r_if_eq (pc := 65) hX 36 (tgt := 79) rfl (by decide) (⟨by omega, by omega⟩) (fun h65 => ?_) (fun h65 => ?_) | refine r_if_eq_any (pc := 65) hX 36 (tgt := 79) rfl (by decide) ?_ ?_
                · exact (L79  v41 (hfr41) (hH41) (by first | exact i41 | exact hT76) (by first | exact o41 | exact hq76.trans o41) )
                · refine t_getR (q := (ρ t 1)) (pc := 68) hX 37 rfl rfl rfl fl_X7_12 rfl (hH41.kd ht (by decide)) (rfl) ?_
                  refine r_bipush (pc := 72) hX 39 rfl (by decide) ?_
                  refine r_iconst (pc := 74) hX 40 rfl ?_
                  refine r_iconst (pc := 75) hX 41 rfl ?_
                  refine r_callV (as := [(0, 11), (0, 0), (0, 0)]) (st := []) (K := 6) (pc := 76) hX 42 rfl mo_X6_add ml_X7_46 im_X6_add se_X6_add (c_X6_add g ω v41 ρ Z hH41 (ρ t 1) hw18_ (11) (0) (0) ) rfl rfl rfl (hH41.kd hw18_ (by decide)) (by rw [hRm]; exact ⟨by decide, by decide⟩) (by rw [hRm]; exact ⟨by decide, by decide⟩) (Nat.le_of_ble_eq_true rfl) (fun o76 v76 ρv76 Zv76 hq76 _ => ?_)
                  obtain ⟨rfl, rfl, hfr76, hH76, rfl, hq76⟩ := hq76
                  show wp g X F_X7_readCond 0 0 79 [(2, t), (2, o), (0, d), (0, a2), (0, ow), (0, i)] [] v76 ρ Z
                  have hT76 := i41.fw hfr76 hw0 hw3 (by decide)
                  exact (L79  v76 ((hfr41).tr hfr76 (by decide)) (hH76) (by first | exact i41 | exact hT76) (by first | exact o41 | exact hq76.trans o41) )
            first | refine r_icmp_ne (pc := 50) hX 28 (tgt := 57) rfl (by decide) (⟨by omega, by omega⟩) (⟨by omega, by omega⟩) (fun h50 => ?_) (fun h50 => ?_) | refine r_icmp_ne_any (pc := 50) hX 28 (tgt := 57) rfl (by decide) ?_ ?_
            · refine r_iconst (pc := 57) hX 31 rfl ?_
              exact (L58 0 (by omega) (by have k41 := i41.k7; omega) )
            · refine r_iconst (pc := 53) hX 29 rfl ?_
              refine r_goto (pc := 54) hX 30 (tgt := 58) rfl (by decide) ?_
              exact (L58 1 (by omega) (by have k41 := i41.k7; omega) )
          first | refine r_if_eq (pc := 27) hX 17 (tgt := 41) rfl (by decide) (⟨by omega, by omega⟩) (fun h27 => ?_) (fun h27 => ?_) | refine r_if_eq_any (pc := 27) hX 17 (tgt := 41) rfl (by decide) ?_ ?_
          · exact (L41  v18 ((hfr8).tr hfr18 (by decide)) (hH18) (by first | exact hTb | exact hT38) (by first | rfl | exact hq38) )
          · refine t_getR (q := (ρ t 1)) (pc := 30) hX 18 rfl rfl rfl fl_X7_12 rfl (hH18.kd ht (by decide)) (rfl) ?_
            refine r_bipush (pc := 34) hX 20 rfl (by decide) ?_
            refine r_iconst (pc := 36) hX 21 rfl ?_
            refine r_iconst (pc := 37) hX 22 rfl ?_
            refine r_callV (as := [(0, 12), (0, 0), (0, 0)]) (st := []) (K := 6) (pc := 38) hX 23 rfl mo_X6_add ml_X7_46 im_X6_add se_X6_add (c_X6_add g ω v18 ρ Z hH18 (ρ t 1) hw18_ (12) (0) (0) ) rfl rfl rfl (hH18.kd hw18_ (by decide)) (by rw [hRm]; exact ⟨by decide, by decide⟩) (by rw [hRm]; exact ⟨by decide, by decide⟩) (Nat.le_of_ble_eq_true rfl) (fun o38 v38 ρv38 Zv38 hq38 _ => ?_)
            obtain ⟨rfl, rfl, hfr38, hH38, rfl, hq38⟩ := hq38
            show wp g X F_X7_readCond 0 0 41 [(2, t), (2, o), (0, d), (0, aa), (0, ow), (0, i)] [] v38 ρ Z
            have hT38 := hTb.fw hfr38 hw0 hw3 (by decide)
            exact (L41  v38 (((hfr8).tr hfr18 (by decide)).tr hfr38 (by decide)) (hH38) (by first | exact hTb | exact hT38) (by first | rfl | exact hq38) )
        · refine r_iconst (pc := 24) hX 14 rfl ?_
          exact r_zret (pc := 25) hX 15 hQ rfl rfl ⟨by omega, by omega⟩ (Nat.le_of_ble_eq_true rfl) (Nat.le_of_ble_eq_true rfl) ⟨rfl, rfl, (hfr8).tr hfr18 (by decide), hH18, 0, rfl, (by omega), (by have z := hq18.2.no (by omega); exact Or.inr ⟨rfl, z.1, fun S a b => by rw [hSa S a b]; exact z.2 S a⟩)⟩
  exact (L8 _ 0 0 0 v (FrW.rf) (hH) (by omega) (by omega) (⟨p, hT, fun _ _ _ => rfl⟩) (Nat.lt_succ_self _))
