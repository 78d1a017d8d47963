set_option maxHeartbeats 4000000 in
set_option maxRecDepth 100000 in
theorem c_X0_isFree (g : Gp) (ω : Rw) (v ρ : Mv) (Z : Mz) (hH : HT ω v ρ Z) (t : Int) (ht : ω t = 39) (c : Int) (n : Int) (hcr : inR c) (hnr : inR n) : Ok g 1 0 0 F_X0_isFree [(2, t), (0, c), (0, n)] v ρ Z (fun o9 v' ρ' Z' => ρ = ρ' ∧ Z = Z' ∧ v = v' ∧ ∃ r : Int, o9 = some (0, r) ∧ (0 ≤ r ∧ r ≤ 1)) := by
  refine Ok.of mo_X0_isFree (Nat.le_of_ble_eq_true rfl) ?_
  intro X hX hRm hxn hQ
  show wp g X F_X0_isFree 0 0 0 [(2, t), (0, c), (0, n), (3, 0)] [] v ρ Z
  refine r_iconst (pc := 0) hX 0 rfl ?_
  refine r_istore_n (ls' := [(2, t), (0, c), (0, n), (0, 0)]) (pc := 1) hX 1 rfl (by decide) rfl ?_
  have L2 : ∀ (n2 : Nat) (i : Int) , (0 ≤ i ∧ i ≤ 3) → (3 - i).toNat < n2 → wp g X F_X0_isFree 0 0 2 [(2, t), (0, c), (0, n), (0, i)] [] v ρ Z := by
    intro n2
    induction n2 with
    | zero => intro i ii hme2; exact absurd hme2 (Nat.not_lt_zero _)
    | succ n2 ih2 =>
      intro i ii hme2
      refine r_iload_n (pc := 2) hX 2 rfl rfl ?_
      refine r_iload_n (pc := 3) hX 3 rfl rfl ?_
      first | refine r_icmp_ge (pc := 4) hX 4 (tgt := 30) rfl (by decide) (⟨by omega, by omega⟩) (⟨by omega, by omega⟩) (fun h4 => ?_) (fun h4 => ?_) | refine r_icmp_ge_any (pc := 4) hX 4 (tgt := 30) rfl (by decide) ?_ ?_
      · refine r_iconst (pc := 30) hX 18 rfl ?_
        exact r_zret (pc := 31) hX 19 hQ rfl rfl ⟨by omega, by omega⟩ (Nat.le_refl 0) (Nat.le_refl 0) ⟨rfl, rfl, rfl, 1, rfl, (by omega)⟩
      · refine r_iload_n (pc := 7) hX 5 rfl rfl ?_
        refine r_iconst (pc := 8) hX 6 rfl ?_
        first | refine r_icmp_ge (pc := 9) hX 7 (tgt := 30) rfl (by decide) (⟨by omega, by omega⟩) (⟨by omega, by omega⟩) (fun h9 => ?_) (fun h9 => ?_) | refine r_icmp_ge_any (pc := 9) hX 7 (tgt := 30) rfl (by decide) ?_ ?_
        · refine r_iconst (pc := 30) hX 18 rfl ?_
          exact r_zret (pc := 31) hX 19 hQ rfl rfl ⟨by omega, by omega⟩ (Nat.le_refl 0) (Nat.le_refl 0) ⟨rfl, rfl, rfl, 1, rfl, (by omega)⟩
        · refine t_getR (q := (ρ t 5)) (pc := 12) hX 8 rfl rfl rfl fl_X0_25 rfl (hH.kd ht (by decide)) (rfl) ?_
          have hw12_ : ω (ρ t 5) = 44 := hH.rf ht (by decide) rfl
          refine r_iload_n (pc := 16) hX 10 rfl rfl ?_
          refine e_iald (y := (v (ρ t 5) i)) (n := 3) (pc := 17) hX 11 rfl (hH.kd hw12_ (by decide)) (hH.ln hw12_ (by decide)) (by omega) (by omega) (rfl) ?_
          have hb17 : (-1) ≤ (v (ρ t 5) i) ∧ (v (ρ t 5) i) ≤ 3 := hH.rg hw12_ (by decide) rfl
          refine r_iload_n (pc := 18) hX 12 rfl rfl ?_
          first | refine r_icmp_ne (pc := 19) hX 13 (tgt := 24) rfl (by decide) (⟨by omega, by omega⟩) (⟨by omega, by omega⟩) (fun h19 => ?_) (fun h19 => ?_) | refine r_icmp_ne_any (pc := 19) hX 13 (tgt := 24) rfl (by decide) ?_ ?_
          · refine r_iinc (ls' := [(2, t), (0, c), (0, n), (0, (i + 1))]) (pc := 24) hX 16 rfl rfl (by decide) rfl ?_
            refine r_goto (pc := 27) hX 17 (tgt := 2) rfl (by decide) ?_
            exact (ih2 (i + 1) (by omega) (by omega))
          · refine r_iconst (pc := 22) hX 14 rfl ?_
            exact r_zret (pc := 23) hX 15 hQ rfl rfl ⟨by omega, by omega⟩ (Nat.le_refl 0) (Nat.le_refl 0) ⟨rfl, rfl, rfl, 0, rfl, (by omega)⟩
  exact (L2 _ 0 (by omega) (Nat.lt_succ_self _))
set_option maxHeartbeats 4000000 in
set_option maxRecDepth 100000 in
theorem c_X0_settle (g : Gp) (ω : Rw) (v ρ : Mv) (Z : Mz) (hH : HT ω v ρ Z) (t : Int) (ht : ω t = 39) (w : Int) (o : Int) (ho : ω o = 22) (hw : 0 ≤ w ∧ w ≤ 3) : Ok g 5 0 0 F_X0_settle [(2, t), (0, w), (2, o)] v ρ Z (fun o9 v' ρ' Z' => Z = Z' ∧ FrW ω [29, 30, 31, 32, 33, 34, 35, 36, 37, 38, 41, 43] v v' ∧ FrW ω [29] ρ ρ' ∧ HT ω v' ρ' Z ∧ o9 = none ∧ True) := by
  refine Ok.of mo_X0_settle (Nat.le_of_ble_eq_true rfl) ?_
  intro X hX hRm hxn hQ
  show wp g X F_X0_settle 0 0 0 [(2, t), (0, w), (2, o), (3, 0)] [] v ρ Z
  refine t_getR (q := (ρ t 0)) (pc := 0) hX 0 rfl rfl rfl fl_X0_29 rfl (hH.kd ht (by decide)) (rfl) ?_
  have hw0_ : ω (ρ t 0) = 29 := hH.rf ht (by decide) rfl
  refine r_aload_n (pc := 4) hX 2 rfl rfl ?_
  refine r_callV (as := [(2, o)]) (st := []) (K := 2) (pc := 5) hX 3 rfl mo_X2_setTo ml_X0_79 im_X2_setTo se_X2_setTo (c_X2_setTo g ω v ρ Z hH (ρ t 0) hw0_ o ho ) rfl rfl rfl (hH.kd hw0_ (by decide)) (by rw [hRm]; exact ⟨by decide, by decide⟩) (by rw [hRm]; exact ⟨by decide, by decide⟩) (Nat.le_of_ble_eq_true rfl) (fun o5 v5 ρv5 Zv5 hq5 _ => ?_)
  obtain ⟨rfl, hfr5, hfrR5, hH5, rfl, hq5⟩ := hq5
  show wp g X F_X0_settle 0 0 8 [(2, t), (0, w), (2, o), (3, 0)] [] v5 ρv5 Z
  refine r_iconst (pc := 8) hX 4 rfl ?_
  refine r_istore_n (ls' := [(2, t), (0, w), (2, o), (0, 0)]) (pc := 9) hX 5 rfl (by decide) rfl ?_
  have L10 : ∀ (n10 : Nat) (p : Int) (v10 : Mv) , (FrW ω [29, 30, 31, 32, 33, 34, 35, 36, 37, 38, 41, 43] v v10) → (HT ω v10 ρv5 Z) → (0 ≤ p ∧ p ≤ 3) → (3 - p).toNat < n10 → wp g X F_X0_settle 0 0 10 [(2, t), (0, w), (2, o), (0, p)] [] v10 ρv5 Z := by
    intro n10
    induction n10 with
    | zero => intro p v10 hfr10 hH10 ip hme10; exact absurd hme10 (Nat.not_lt_zero _)
    | succ n10 ih10 =>
      intro p v10 hfr10 hH10 ip hme10
      refine r_iload_n (pc := 10) hX 6 rfl rfl ?_
      refine r_aload_n (pc := 11) hX 7 rfl rfl ?_
      refine r_getR (q := (ρ o 0)) (pc := 12) hX 8 rfl fl_X0_56 rfl (hH10.kd ho (by decide)) ((hfrR5.at ho (by decide) 0).trans (rfl)) ?_
      have hw12_ : ω (ρ o 0) = 5 := hH.rf ho (by decide) rfl
      refine e_getI (y := (v (ρ o 0) 10)) (pc := 15) hX 9 rfl fl_X0_60 rfl (hH10.kd hw12_ (by decide)) ((hfr10.at hw12_ (by decide) 10).trans (rfl)) ?_
      have hb15 : 0 ≤ (v (ρ o 0) 10) ∧ (v (ρ o 0) 10) ≤ 3 := hH.rg hw12_ (by decide) rfl
      first | refine r_icmp_ge (pc := 18) hX 10 (tgt := 52) rfl (by decide) (⟨by omega, by omega⟩) (⟨by omega, by omega⟩) (fun h18 => ?_) (fun h18 => ?_) | refine r_icmp_ge_any (pc := 18) hX 10 (tgt := 52) rfl (by decide) ?_ ?_
      · refine t_getR (q := (ρ t 0)) (pc := 52) hX 28 rfl rfl rfl fl_X0_29 rfl (hH10.kd ht (by decide)) ((hfrR5.at ht (by decide) 0).trans (rfl)) ?_
        refine r_callV (as := []) (st := []) (K := 2) (pc := 56) hX 30 rfl mo_X2_reckon ml_X0_86 im_X2_reckon se_X2_reckon (c_X2_reckon g ω v10 ρv5 Z hH10 (ρ t 0) hw0_ ) rfl rfl rfl (hH10.kd hw0_ (by decide)) (by rw [hRm]; exact ⟨by decide, by decide⟩) (by rw [hRm]; exact ⟨by decide, by decide⟩) (Nat.le_of_ble_eq_true rfl) (fun o56 v56 ρv56 Zv56 hq56 _ => ?_)
        obtain ⟨rfl, rfl, hfr56, hH56, rfl, hq56⟩ := hq56
        show wp g X F_X0_settle 0 0 59 [(2, t), (0, w), (2, o), (0, p)] [] v56 ρv5 Z
        refine t_getR (q := (ρ t 0)) (pc := 59) hX 31 rfl rfl rfl fl_X0_29 rfl (hH56.kd ht (by decide)) ((hfrR5.at ht (by decide) 0).trans (rfl)) ?_
        refine r_getR (q := (ρv5 (ρ t 0) 9)) (pc := 63) hX 33 rfl fl_X0_89 rfl (hH56.kd hw0_ (by decide)) (rfl) ?_
        have hw63_ : ω (ρv5 (ρ t 0) 9) = 33 := hH5.rf hw0_ (by decide) rfl
        refine r_iconst (pc := 66) hX 34 rfl ?_
        refine t_getR (q := (ρ t 3)) (pc := 67) hX 35 rfl rfl rfl fl_X0_17 rfl (hH56.kd ht (by decide)) ((hfrR5.at ht (by decide) 3).trans (rfl)) ?_
        have hw67_ : ω (ρ t 3) = 40 := hH.rf ht (by decide) rfl
        refine r_iload_n (pc := 71) hX 37 rfl rfl ?_
        refine r_aald (q := (ρ (ρ t 3) w)) (pc := 72) hX 38 20 rfl (hH56.kd hw67_ (by decide)) (by decide) (by decide) rfl rfl (by omega) (by rw [show Z.2.1 (ρ t 3) = 4 from (hH56.ln hw67_ (by decide))]; omega) ((hfrR5.at hw67_ (by decide) w).trans (rfl)) ?_
        have hw72_ : ω (ρ (ρ t 3) w) = 41 := hH.rf hw67_ (by decide) (rf40 ⟨by omega, by omega⟩)
        refine r_iconst (pc := 73) hX 39 rfl ?_
        refine r_iconst (pc := 74) hX 40 rfl ?_
        refine r_copy (na := 3) (nd := 3) (pc := 75) hX 41 14 3 rfl ml_X0_39 (by decide) (hH56.kd hw63_ (by decide)) (hH56.kd hw72_ (by decide)) (hH56.g4 hw63_ (by decide)) (hH56.g4 hw72_ (by decide)) (by decide) (hH56.ln hw63_ (by decide)) (hH56.ln hw72_ (by decide)) (by decide) (by decide) (by rw [hRm]; exact ⟨by decide, by decide, by decide, by decide⟩) (Nat.le_of_ble_eq_true rfl) ?_
        have hH_75 : HT ω (cpM v56 (ρ (ρ t 3) w) (ρv5 (ρ t 0) 9) 3) ρv5 Z := hH56.cp0 hw72_ (by decide) (fun _ => rfl)
        show wp g X F_X0_settle 0 0 78 [(2, t), (0, w), (2, o), (0, p)] [] (cpM v56 (ρ (ρ t 3) w) (ρv5 (ρ t 0) 9) 3) ρv5 Z
        refine t_getR (q := (ρ t 5)) (pc := 78) hX 42 rfl rfl rfl fl_X0_25 rfl (hH_75.kd ht (by decide)) ((hfrR5.at ht (by decide) 5).trans (rfl)) ?_
        have hw78_ : ω (ρ t 5) = 44 := hH.rf ht (by decide) rfl
        refine r_iconst (pc := 82) hX 44 rfl ?_
        refine t_getR (q := (ρ t 4)) (pc := 83) hX 45 rfl rfl rfl fl_X0_22 rfl (hH_75.kd ht (by decide)) ((hfrR5.at ht (by decide) 4).trans (rfl)) ?_
        have hw83_ : ω (ρ t 4) = 42 := hH.rf ht (by decide) rfl
        refine r_iload_n (pc := 87) hX 47 rfl rfl ?_
        refine r_aald (q := (ρ (ρ t 4) w)) (pc := 88) hX 48 19 rfl (hH_75.kd hw83_ (by decide)) (by decide) (by decide) rfl rfl (by omega) (by rw [show Z.2.1 (ρ t 4) = 4 from (hH_75.ln hw83_ (by decide))]; omega) ((hfrR5.at hw83_ (by decide) w).trans (rfl)) ?_
        have hw88_ : ω (ρ (ρ t 4) w) = 43 := hH.rf hw83_ (by decide) (rf42 ⟨by omega, by omega⟩)
        refine r_iconst (pc := 89) hX 49 rfl ?_
        refine r_iconst (pc := 90) hX 50 rfl ?_
        refine r_copy (na := 3) (nd := 3) (pc := 91) hX 51 13 3 rfl ml_X0_39 (by decide) (hH_75.kd hw78_ (by decide)) (hH_75.kd hw88_ (by decide)) (hH_75.g4 hw78_ (by decide)) (hH_75.g4 hw88_ (by decide)) (by decide) (hH_75.ln hw78_ (by decide)) (hH_75.ln hw88_ (by decide)) (by decide) (by decide) (by rw [hRm]; exact ⟨by decide, by decide, by decide, by decide⟩) (Nat.le_of_ble_eq_true rfl) ?_
        have hH_91 : HT ω (cpM (cpM v56 (ρ (ρ t 3) w) (ρv5 (ρ t 0) 9) 3) (ρ (ρ t 4) w) (ρ t 5) 3) ρv5 Z := hH_75.cp hw88_ (by decide) (lo := (-1)) (hi := 3) (fun _ => Or.inl rfl) (fun k _ _ => by have z := hH_75.rg (k := k) hw78_ (by decide) rfl; omega)
        show wp g X F_X0_settle 0 0 94 [(2, t), (0, w), (2, o), (0, p)] [] (cpM (cpM v56 (ρ (ρ t 3) w) (ρv5 (ρ t 0) 9) 3) (ρ (ρ t 4) w) (ρ t 5) 3) ρv5 Z
        exact r_vret (pc := 94) hX 52 hQ rfl rfl (Nat.le_refl 0) (Nat.le_refl 0) ⟨rfl, (((hfr10).tr hfr56 (by decide)).cp (d := (ρ (ρ t 3) w)) hw72_ (by decide)).cp (d := (ρ (ρ t 4) w)) hw88_ (by decide), (FrW.rf).tr hfrR5 (by decide), hH_91, rfl, trivial⟩
      · refine t_getR (q := (ρ t 5)) (pc := 21) hX 11 rfl rfl rfl fl_X0_25 rfl (hH10.kd ht (by decide)) ((hfrR5.at ht (by decide) 5).trans (rfl)) ?_
        have hw21_ : ω (ρ t 5) = 44 := hH.rf ht (by decide) rfl
        refine r_iload_n (pc := 25) hX 13 rfl rfl ?_
        refine e_iald (y := (v (ρ t 5) p)) (n := 3) (pc := 26) hX 14 rfl (hH10.kd hw21_ (by decide)) (hH10.ln hw21_ (by decide)) (by omega) (by omega) ((hfr10.at hw21_ (by decide) p).trans (rfl)) ?_
        have hb26 : (-1) ≤ (v (ρ t 5) p) ∧ (v (ρ t 5) p) ≤ 3 := hH.rg hw21_ (by decide) rfl
        refine r_iconst (pc := 27) hX 15 rfl ?_
        have L46 : ∀ (v46 : Mv) , (FrW ω [29, 30, 31, 32, 33, 34, 35, 36, 37, 38, 41, 43] v v46) → (HT ω v46 ρv5 Z) → wp g X F_X0_settle 0 0 46 [(2, t), (0, w), (2, o), (0, p)] [] v46 ρv5 Z := by
          intro v46 hfr46 hH46
          refine r_iinc (ls' := [(2, t), (0, w), (2, o), (0, (p + 1))]) (pc := 46) hX 26 rfl rfl (by decide) rfl ?_
          refine r_goto (pc := 49) hX 27 (tgt := 10) rfl (by decide) ?_
          exact (ih10 (p + 1) v46 (hfr46) (hH46) (by omega) (by omega))
        first | refine r_icmp_eq (pc := 28) hX 16 (tgt := 46) rfl (by decide) (⟨by omega, by omega⟩) (⟨by omega, by omega⟩) (fun h28 => ?_) (fun h28 => ?_) | refine r_icmp_eq_any (pc := 28) hX 16 (tgt := 46) rfl (by decide) ?_ ?_
        · exact (L46  v10 (hfr10) (hH10) )
        · refine t_getR (q := (ρ t 0)) (pc := 31) hX 17 rfl rfl rfl fl_X0_29 rfl (hH10.kd ht (by decide)) ((hfrR5.at ht (by decide) 0).trans (rfl)) ?_
          refine r_getR (q := (ρv5 (ρ t 0) 2)) (pc := 35) hX 19 rfl fl_X0_83 rfl (hH10.kd hw0_ (by decide)) (rfl) ?_
          have hw35_ : ω (ρv5 (ρ t 0) 2) = 30 := hH5.rf hw0_ (by decide) rfl
          refine t_getR (q := (ρ t 5)) (pc := 38) hX 20 rfl rfl rfl fl_X0_25 rfl (hH10.kd ht (by decide)) ((hfrR5.at ht (by decide) 5).trans (rfl)) ?_
          refine r_iload_n (pc := 42) hX 22 rfl rfl ?_
          refine e_iald (y := (v (ρ t 5) p)) (n := 3) (pc := 43) hX 23 rfl (hH10.kd hw21_ (by decide)) (hH10.ln hw21_ (by decide)) (by omega) (by omega) ((hfr10.at hw21_ (by decide) p).trans (rfl)) ?_
          refine r_iload_n (pc := 44) hX 24 rfl rfl ?_
          refine e_iast (n := 5) (pc := 45) hX 25 rfl (hH10.kd hw35_ (by decide)) (hH10.ln hw35_ (by decide)) (hH10.g4 hw35_ (by decide)) (by omega) (by omega) ?_
          have hH_45 : HT ω (up v10 (ρv5 (ρ t 0) 2) (v (ρ t 5) p) p) ρv5 Z := hH10.upR hw35_ (by decide) rfl (by omega) (by omega)
          exact (L46  (up v10 (ρv5 (ρ t 0) 2) (v (ρ t 5) p) p) ((hfr10).up (r := (ρv5 (ρ t 0) 2)) hw35_ (by decide)) (hH_45) )
  exact (L10 _ 0 v5 ((FrW.rf).tr hfr5 (by decide)) (hH5) (by omega) (Nat.lt_succ_self _))
set_option maxHeartbeats 4000000 in
set_option maxRecDepth 100000 in
theorem c_X0_adopt (g : Gp) (ω : Rw) (v ρ : Mv) (Z : Mz) (hH : HT ω v ρ Z) (t : Int) (ht : ω t = 39) (p : Int) (hp : 0 ≤ p ∧ p ≤ 2) : Ok g 2 0 0 F_X0_adopt [(2, t), (0, p)] v ρ Z (fun o9 v' ρ' Z' => ρ = ρ' ∧ Z = Z' ∧ FrW ω [41, 43] v v' ∧ HT ω v' ρ Z ∧ o9 = none ∧ True) := by
  refine Ok.of mo_X0_adopt (Nat.le_of_ble_eq_true rfl) ?_
  intro X hX hRm hxn hQ
  show wp g X F_X0_adopt 0 0 0 [(2, t), (0, p)] [] v ρ Z
  refine t_getR (q := (ρ t 3)) (pc := 0) hX 0 rfl rfl rfl fl_X0_17 rfl (hH.kd ht (by decide)) (rfl) ?_
  have hw0_ : ω (ρ t 3) = 40 := hH.rf ht (by decide) rfl
  refine r_iload_n (pc := 4) hX 2 rfl rfl ?_
  refine r_iconst (pc := 5) hX 3 rfl ?_
  refine r_iadd (pc := 6) hX 4 rfl ?_
  refine r_aald (q := (ρ (ρ t 3) (p + 1))) (pc := 7) hX 5 20 rfl (hH.kd hw0_ (by decide)) (by decide) (by decide) rfl rfl (by omega) (by rw [show Z.2.1 (ρ t 3) = 4 from (hH.ln hw0_ (by decide))]; omega) (rfl) ?_
  have hw7_ : ω (ρ (ρ t 3) (p + 1)) = 41 := hH.rf hw0_ (by decide) (rf40 ⟨by omega, by omega⟩)
  refine r_iconst (pc := 8) hX 6 rfl ?_
  refine t_getR (q := (ρ t 3)) (pc := 9) hX 7 rfl rfl rfl fl_X0_17 rfl (hH.kd ht (by decide)) (rfl) ?_
  refine r_iload_n (pc := 13) hX 9 rfl rfl ?_
  refine r_aald (q := (ρ (ρ t 3) p)) (pc := 14) hX 10 20 rfl (hH.kd hw0_ (by decide)) (by decide) (by decide) rfl rfl (by omega) (by rw [show Z.2.1 (ρ t 3) = 4 from (hH.ln hw0_ (by decide))]; omega) (rfl) ?_
  have hw14_ : ω (ρ (ρ t 3) p) = 41 := hH.rf hw0_ (by decide) (rf40 ⟨by omega, by omega⟩)
  refine r_iconst (pc := 15) hX 11 rfl ?_
  refine r_iconst (pc := 16) hX 12 rfl ?_
  refine r_copy (na := 3) (nd := 3) (pc := 17) hX 13 14 3 rfl ml_X0_39 (by decide) (hH.kd hw7_ (by decide)) (hH.kd hw14_ (by decide)) (hH.g4 hw7_ (by decide)) (hH.g4 hw14_ (by decide)) (by decide) (hH.ln hw7_ (by decide)) (hH.ln hw14_ (by decide)) (by decide) (by decide) (by rw [hRm]; exact ⟨by decide, by decide, by decide, by decide⟩) (Nat.le_of_ble_eq_true rfl) ?_
  have hH_17 : HT ω (cpM v (ρ (ρ t 3) p) (ρ (ρ t 3) (p + 1)) 3) ρ Z := hH.cp0 hw14_ (by decide) (fun _ => rfl)
  show wp g X F_X0_adopt 0 0 20 [(2, t), (0, p)] [] (cpM v (ρ (ρ t 3) p) (ρ (ρ t 3) (p + 1)) 3) ρ Z
  refine t_getR (q := (ρ t 4)) (pc := 20) hX 14 rfl rfl rfl fl_X0_22 rfl (hH_17.kd ht (by decide)) (rfl) ?_
  have hw20_ : ω (ρ t 4) = 42 := hH.rf ht (by decide) rfl
  refine r_iload_n (pc := 24) hX 16 rfl rfl ?_
  refine r_iconst (pc := 25) hX 17 rfl ?_
  refine r_iadd (pc := 26) hX 18 rfl ?_
  refine r_aald (q := (ρ (ρ t 4) (p + 1))) (pc := 27) hX 19 19 rfl (hH_17.kd hw20_ (by decide)) (by decide) (by decide) rfl rfl (by omega) (by rw [show Z.2.1 (ρ t 4) = 4 from (hH_17.ln hw20_ (by decide))]; omega) (rfl) ?_
  have hw27_ : ω (ρ (ρ t 4) (p + 1)) = 43 := hH.rf hw20_ (by decide) (rf42 ⟨by omega, by omega⟩)
  refine r_iconst (pc := 28) hX 20 rfl ?_
  refine t_getR (q := (ρ t 4)) (pc := 29) hX 21 rfl rfl rfl fl_X0_22 rfl (hH_17.kd ht (by decide)) (rfl) ?_
  refine r_iload_n (pc := 33) hX 23 rfl rfl ?_
  refine r_aald (q := (ρ (ρ t 4) p)) (pc := 34) hX 24 19 rfl (hH_17.kd hw20_ (by decide)) (by decide) (by decide) rfl rfl (by omega) (by rw [show Z.2.1 (ρ t 4) = 4 from (hH_17.ln hw20_ (by decide))]; omega) (rfl) ?_
  have hw34_ : ω (ρ (ρ t 4) p) = 43 := hH.rf hw20_ (by decide) (rf42 ⟨by omega, by omega⟩)
  refine r_iconst (pc := 35) hX 25 rfl ?_
  refine r_iconst (pc := 36) hX 26 rfl ?_
  refine r_copy (na := 3) (nd := 3) (pc := 37) hX 27 13 3 rfl ml_X0_39 (by decide) (hH_17.kd hw27_ (by decide)) (hH_17.kd hw34_ (by decide)) (hH_17.g4 hw27_ (by decide)) (hH_17.g4 hw34_ (by decide)) (by decide) (hH_17.ln hw27_ (by decide)) (hH_17.ln hw34_ (by decide)) (by decide) (by decide) (by rw [hRm]; exact ⟨by decide, by decide, by decide, by decide⟩) (Nat.le_of_ble_eq_true rfl) ?_
  have hH_37 : HT ω (cpM (cpM v (ρ (ρ t 3) p) (ρ (ρ t 3) (p + 1)) 3) (ρ (ρ t 4) p) (ρ (ρ t 4) (p + 1)) 3) ρ Z := hH_17.cp hw34_ (by decide) (lo := (-1)) (hi := 3) (fun _ => Or.inl rfl) (fun k _ _ => by have z := hH_17.rg (k := k) hw27_ (by decide) rfl; omega)
  show wp g X F_X0_adopt 0 0 40 [(2, t), (0, p)] [] (cpM (cpM v (ρ (ρ t 3) p) (ρ (ρ t 3) (p + 1)) 3) (ρ (ρ t 4) p) (ρ (ρ t 4) (p + 1)) 3) ρ Z
  exact r_vret (pc := 40) hX 28 hQ rfl rfl (Nat.le_refl 0) (Nat.le_refl 0) ⟨rfl, rfl, ((FrW.rf).cp (d := (ρ (ρ t 3) p)) hw14_ (by decide)).cp (d := (ρ (ρ t 4) p)) hw34_ (by decide), hH_37, rfl, trivial⟩
set_option maxHeartbeats 4000000 in
set_option maxRecDepth 100000 in
theorem c_X0_chooseFrom3 (g : Gp) (ω : Rw) (v ρ : Mv) (Z : Mz) (hH : HT ω v ρ Z) (t : Int) (ht : ω t = 39) (p : Int) (o : Int) (ho : ω o = 22) (hp : p = 3) : Ok g 6 0 0 F_X0_chooseFrom [(2, t), (0, p), (2, o)] v ρ Z (fun o9 v' ρ' Z' => Z = Z' ∧ FrW ω [29, 30, 31, 32, 33, 34, 35, 36, 37, 38, 41, 43] v v' ∧ FrW ω [29] ρ ρ' ∧ HT ω v' ρ' Z ∧ o9 = none ∧ True) := by
  refine Ok.of mo_X0_chooseFrom (Nat.le_of_ble_eq_true rfl) ?_
  intro X hX hRm hxn hQ
  show wp g X F_X0_chooseFrom 0 0 0 [(2, t), (0, p), (2, o), (3, 0), (3, 0)] [] v ρ Z
  refine r_iload_n (pc := 0) hX 0 rfl rfl ?_
  refine r_aload_n (pc := 1) hX 1 rfl rfl ?_
  refine r_getR (q := (ρ o 0)) (pc := 2) hX 2 rfl fl_X0_56 rfl (hH.kd ho (by decide)) (rfl) ?_
  have hw2_ : ω (ρ o 0) = 5 := hH.rf ho (by decide) rfl
  refine e_getI (y := (v (ρ o 0) 10)) (pc := 5) hX 3 rfl fl_X0_60 rfl (hH.kd hw2_ (by decide)) (rfl) ?_
  have hb5 : 0 ≤ (v (ρ o 0) 10) ∧ (v (ρ o 0) 10) ≤ 3 := hH.rg hw2_ (by decide) rfl
  have L16 : wp g X F_X0_chooseFrom 0 0 16 [(2, t), (0, p), (2, o), (3, 0), (3, 0)] [] v ρ Z := by
    refine r_aload_n (pc := 16) hX 8 rfl rfl ?_
    refine r_iload_n (pc := 17) hX 9 rfl rfl ?_
    refine r_aload_n (pc := 18) hX 10 rfl rfl ?_
    refine r_callV (as := [(0, p), (2, o)]) (st := []) (K := 0) (pc := 19) hX 11 rfl mo_X0_settle ml_X0_65 im_X0_settle se_X0_settle (c_X0_settle g ω v ρ Z hH t ht (p) o ho (by omega)) rfl rfl rfl (hH.kd ht (by decide)) (by rw [hRm]; exact ⟨by decide, by decide⟩) (by rw [hRm]; exact ⟨by decide, by decide⟩) (Nat.le_of_ble_eq_true rfl) (fun o19 v19 ρv19 Zv19 hq19 _ => ?_)
    obtain ⟨rfl, hfr19, hfrR19, hH19, rfl, hq19⟩ := hq19
    show wp g X F_X0_chooseFrom 0 0 22 [(2, t), (0, p), (2, o), (3, 0), (3, 0)] [] v19 ρv19 Z
    exact r_vret (pc := 22) hX 12 hQ rfl rfl (Nat.le_refl 0) (Nat.le_refl 0) ⟨rfl, (FrW.rf).tr hfr19 (by decide), (FrW.rf).tr hfrR19 (by decide), hH19, rfl, trivial⟩
  first | refine r_icmp_ge (pc := 8) hX 4 (tgt := 16) rfl (by decide) (⟨by omega, by omega⟩) (⟨by omega, by omega⟩) (fun h8 => ?_) (fun h8 => ?_) | refine r_icmp_ge_any (pc := 8) hX 4 (tgt := 16) rfl (by decide) ?_ ?_
  · exact (L16   )
  · refine r_iload_n (pc := 11) hX 5 rfl rfl ?_
    refine r_iconst (pc := 12) hX 6 rfl ?_
    first | refine r_icmp_lt (pc := 13) hX 7 (tgt := 23) rfl (by decide) (⟨by omega, by omega⟩) (⟨by omega, by omega⟩) (fun h13 => ?_) (fun h13 => ?_) | refine r_icmp_lt_any (pc := 13) hX 7 (tgt := 23) rfl (by decide) ?_ ?_
    · exact absurd h13 (by omega)
    · exact (L16   )
set_option maxHeartbeats 4000000 in
set_option maxRecDepth 100000 in
theorem c_X0_chooseFrom2 (g : Gp) (ω : Rw) (v ρ : Mv) (Z : Mz) (hH : HT ω v ρ Z) (t : Int) (ht : ω t = 39) (p : Int) (o : Int) (ho : ω o = 22) (hp : p = 2) : Ok g 7 0 0 F_X0_chooseFrom [(2, t), (0, p), (2, o)] v ρ Z (fun o9 v' ρ' Z' => Z = Z' ∧ FrW ω [29, 30, 31, 32, 33, 34, 35, 36, 37, 38, 41, 43, 44] v v' ∧ FrW ω [29] ρ ρ' ∧ HT ω v' ρ' Z ∧ o9 = none ∧ True) := by
  refine Ok.of mo_X0_chooseFrom (Nat.le_of_ble_eq_true rfl) ?_
  intro X hX hRm hxn hQ
  show wp g X F_X0_chooseFrom 0 0 0 [(2, t), (0, p), (2, o), (3, 0), (3, 0)] [] v ρ Z
  refine r_iload_n (pc := 0) hX 0 rfl rfl ?_
  refine r_aload_n (pc := 1) hX 1 rfl rfl ?_
  refine r_getR (q := (ρ o 0)) (pc := 2) hX 2 rfl fl_X0_56 rfl (hH.kd ho (by decide)) (rfl) ?_
  have hw2_ : ω (ρ o 0) = 5 := hH.rf ho (by decide) rfl
  refine e_getI (y := (v (ρ o 0) 10)) (pc := 5) hX 3 rfl fl_X0_60 rfl (hH.kd hw2_ (by decide)) (rfl) ?_
  have hb5 : 0 ≤ (v (ρ o 0) 10) ∧ (v (ρ o 0) 10) ≤ 3 := hH.rg hw2_ (by decide) rfl
  have L16 : wp g X F_X0_chooseFrom 0 0 16 [(2, t), (0, p), (2, o), (3, 0), (3, 0)] [] v ρ Z := by
    refine r_aload_n (pc := 16) hX 8 rfl rfl ?_
    refine r_iload_n (pc := 17) hX 9 rfl rfl ?_
    refine r_aload_n (pc := 18) hX 10 rfl rfl ?_
    refine r_callV (as := [(0, p), (2, o)]) (st := []) (K := 0) (pc := 19) hX 11 rfl mo_X0_settle ml_X0_65 im_X0_settle se_X0_settle (c_X0_settle g ω v ρ Z hH t ht (p) o ho (by omega)) rfl rfl rfl (hH.kd ht (by decide)) (by rw [hRm]; exact ⟨by decide, by decide⟩) (by rw [hRm]; exact ⟨by decide, by decide⟩) (Nat.le_of_ble_eq_true rfl) (fun o19 v19 ρv19 Zv19 hq19 _ => ?_)
    obtain ⟨rfl, hfr19, hfrR19, hH19, rfl, hq19⟩ := hq19
    show wp g X F_X0_chooseFrom 0 0 22 [(2, t), (0, p), (2, o), (3, 0), (3, 0)] [] v19 ρv19 Z
    exact r_vret (pc := 22) hX 12 hQ rfl rfl (Nat.le_refl 0) (Nat.le_refl 0) ⟨rfl, (FrW.rf).tr hfr19 (by decide), (FrW.rf).tr hfrR19 (by decide), hH19, rfl, trivial⟩
  first | refine r_icmp_ge (pc := 8) hX 4 (tgt := 16) rfl (by decide) (⟨by omega, by omega⟩) (⟨by omega, by omega⟩) (fun h8 => ?_) (fun h8 => ?_) | refine r_icmp_ge_any (pc := 8) hX 4 (tgt := 16) rfl (by decide) ?_ ?_
  · exact (L16   )
  · refine r_iload_n (pc := 11) hX 5 rfl rfl ?_
    refine r_iconst (pc := 12) hX 6 rfl ?_
    first | refine r_icmp_lt (pc := 13) hX 7 (tgt := 23) rfl (by decide) (⟨by omega, by omega⟩) (⟨by omega, by omega⟩) (fun h13 => ?_) (fun h13 => ?_) | refine r_icmp_lt_any (pc := 13) hX 7 (tgt := 23) rfl (by decide) ?_ ?_
    · refine r_aload_n (pc := 23) hX 13 rfl rfl ?_
      refine r_getR (q := (ρ o 4)) (pc := 24) hX 14 rfl fl_X0_36 rfl (hH.kd ho (by decide)) (rfl) ?_
      have hw24_ : ω (ρ o 4) = 24 := hH.rf ho (by decide) rfl
      refine r_iload_n (pc := 27) hX 15 rfl rfl ?_
      refine e_iald (y := (v (ρ o 4) p)) (n := 3) (pc := 28) hX 16 rfl (hH.kd hw24_ (by decide)) (hH.ln hw24_ (by decide)) (by omega) (by omega) (rfl) ?_
      have hb28 : (-1) ≤ (v (ρ o 4) p) ∧ (v (ρ o 4) p) ≤ 3 := hH.rg hw24_ (by decide) rfl
      refine r_iconst (pc := 29) hX 17 rfl ?_
      first | refine r_icmp_eq (pc := 30) hX 18 (tgt := 47) rfl (by decide) (⟨by omega, by omega⟩) (⟨by omega, by omega⟩) (fun h30 => ?_) (fun h30 => ?_) | refine r_icmp_eq_any (pc := 30) hX 18 (tgt := 47) rfl (by decide) ?_ ?_
      · refine r_iconst (pc := 47) hX 29 rfl ?_
        refine r_istore_n (ls' := [(2, t), (0, p), (2, o), (0, 0), (3, 0)]) (pc := 48) hX 30 rfl (by decide) rfl ?_
        refine r_iconst (pc := 49) hX 31 rfl ?_
        refine r_istore (ls' := [(2, t), (0, p), (2, o), (0, 0), (0, 0)]) (pc := 50) hX 32 rfl (by decide) rfl ?_
        have L52 : ∀ (n52 : Nat) (f c : Int) (v52 : Mv) (ρ52 : Mv) , (FrW ω [29, 30, 31, 32, 33, 34, 35, 36, 37, 38, 41, 43, 44] v v52) → (FrW ω [29] ρ ρ52) → (HT ω v52 ρ52 Z) → (0 ≤ c ∧ c ≤ 4 ∧ 0 ≤ f ∧ f ≤ 1) → (4 - c).toNat < n52 → wp g X F_X0_chooseFrom 0 0 52 [(2, t), (0, p), (2, o), (0, f), (0, c)] [] v52 ρ52 Z := by
          intro n52
          induction n52 with
          | zero => intro f c v52 ρ52 hfr52 hfrR52 hH52 ic hme52; exact absurd hme52 (Nat.not_lt_zero _)
          | succ n52 ih52 =>
            intro f c v52 ρ52 hfr52 hfrR52 hH52 ic hme52
            refine r_iload (pc := 52) hX 33 rfl rfl ?_
            refine r_aload_n (pc := 54) hX 34 rfl rfl ?_
            refine r_getR (q := (ρ o 0)) (pc := 55) hX 35 rfl fl_X0_56 rfl (hH52.kd ho (by decide)) ((hfrR52.at ho (by decide) 0).trans (rfl)) ?_
            refine e_getI (y := (v (ρ o 0) 8)) (pc := 58) hX 36 rfl fl_X0_72 rfl (hH52.kd hw2_ (by decide)) ((hfr52.at hw2_ (by decide) 8).trans (rfl)) ?_
            have hb58 : 0 ≤ (v (ρ o 0) 8) ∧ (v (ρ o 0) 8) ≤ 4 := hH.rg hw2_ (by decide) rfl
            first | refine r_icmp_ge (pc := 61) hX 37 (tgt := 142) rfl (by decide) (⟨by omega, by omega⟩) (⟨by omega, by omega⟩) (fun h61 => ?_) (fun h61 => ?_) | refine r_icmp_ge_any (pc := 61) hX 37 (tgt := 142) rfl (by decide) ?_ ?_
            · refine r_iload_n (pc := 142) hX 86 rfl rfl ?_
              have L159 : ∀ (v159 : Mv) (ρ159 : Mv) , (FrW ω [29, 30, 31, 32, 33, 34, 35, 36, 37, 38, 41, 43, 44] v v159) → (FrW ω [29] ρ ρ159) → (HT ω v159 ρ159 Z) → wp g X F_X0_chooseFrom 0 0 159 [(2, t), (0, p), (2, o), (3, 0), (3, 0)] [] v159 ρ159 Z := by
                intro v159 ρ159 hfr159 hfrR159 hH159
                exact r_vret (pc := 159) hX 97 hQ rfl rfl (Nat.le_refl 0) (Nat.le_refl 0) ⟨rfl, hfr159, hfrR159, hH159, rfl, trivial⟩
              first | refine r_if_ne (pc := 143) hX 87 (tgt := 159) rfl (by decide) (⟨by omega, by omega⟩) (fun h143 => ?_) (fun h143 => ?_) | refine r_if_ne_any (pc := 143) hX 87 (tgt := 159) rfl (by decide) ?_ ?_
              · refine r_wk (ls' := [(2, t), (0, p), (2, o), (3, 0), (3, 0)]) ⟨Or.inr rfl, Or.inr rfl, Or.inr rfl, Or.inl rfl, Or.inl rfl, trivial⟩ ?_
                exact (L159  v52 ρ52 (hfr52) (hfrR52) (hH52) )
              · refine r_aload_n (pc := 146) hX 88 rfl rfl ?_
                refine r_iload_n (pc := 147) hX 89 rfl rfl ?_
                refine r_iconst (pc := 148) hX 90 rfl ?_
                refine r_iadd (pc := 149) hX 91 rfl ?_
                refine r_aload_n (pc := 150) hX 92 rfl rfl ?_
                refine r_callV (as := [(0, (p + 1)), (2, o)]) (st := []) (K := 0) (pc := 151) hX 93 rfl mo_X0_chooseFrom ml_X0_45 im_X0_chooseFrom se_X0_chooseFrom (c_X0_chooseFrom3 g ω v52 ρ52 Z hH52 t ht ((p + 1)) o ho (by omega)) rfl rfl rfl (hH52.kd ht (by decide)) (by rw [hRm]; exact ⟨by decide, by decide⟩) (by rw [hRm]; exact ⟨by decide, by decide⟩) (Nat.le_of_ble_eq_true rfl) (fun o151 v151 ρv151 Zv151 hq151 _ => ?_)
                obtain ⟨rfl, hfr151, hfrR151, hH151, rfl, hq151⟩ := hq151
                show wp g X F_X0_chooseFrom 0 0 154 [(2, t), (0, p), (2, o), (0, f), (0, c)] [] v151 ρv151 Z
                refine r_aload_n (pc := 154) hX 94 rfl rfl ?_
                refine r_iload_n (pc := 155) hX 95 rfl rfl ?_
                refine r_callV (as := [(0, p)]) (st := []) (K := 0) (pc := 156) hX 96 rfl mo_X0_adopt ml_X0_68 im_X0_adopt se_X0_adopt (c_X0_adopt g ω v151 ρv151 Z hH151 t ht (p) (by omega)) rfl rfl rfl (hH151.kd ht (by decide)) (by rw [hRm]; exact ⟨by decide, by decide⟩) (by rw [hRm]; exact ⟨by decide, by decide⟩) (Nat.le_of_ble_eq_true rfl) (fun o156 v156 ρv156 Zv156 hq156 _ => ?_)
                obtain ⟨rfl, rfl, hfr156, hH156, rfl, hq156⟩ := hq156
                show wp g X F_X0_chooseFrom 0 0 159 [(2, t), (0, p), (2, o), (0, f), (0, c)] [] v156 ρv151 Z
                refine r_wk (ls' := [(2, t), (0, p), (2, o), (3, 0), (3, 0)]) ⟨Or.inr rfl, Or.inr rfl, Or.inr rfl, Or.inl rfl, Or.inl rfl, trivial⟩ ?_
                exact (L159  v156 ρv151 (((hfr52).tr hfr151 (by decide)).tr hfr156 (by decide)) ((hfrR52).tr hfrR151 (by decide)) (hH156) )
            · refine r_aload_n (pc := 64) hX 38 rfl rfl ?_
              refine r_iload (pc := 65) hX 39 rfl rfl ?_
              refine r_aload_n (pc := 67) hX 40 rfl rfl ?_
              refine r_getR (q := (ρ o 0)) (pc := 68) hX 41 rfl fl_X0_56 rfl (hH52.kd ho (by decide)) ((hfrR52.at ho (by decide) 0).trans (rfl)) ?_
              refine e_getI (y := (v (ρ o 0) 10)) (pc := 71) hX 42 rfl fl_X0_60 rfl (hH52.kd hw2_ (by decide)) ((hfr52.at hw2_ (by decide) 10).trans (rfl)) ?_
              refine r_callV (as := [(0, c), (0, (v (ρ o 0) 10))]) (st := []) (K := 0) (pc := 74) hX 43 rfl mo_X0_isFree ml_X0_75 im_X0_isFree se_X0_isFree (c_X0_isFree g ω v52 ρ52 Z hH52 t ht (c) ((v (ρ o 0) 10)) (by omega) (by omega)) rfl rfl rfl (hH52.kd ht (by decide)) (by rw [hRm]; exact ⟨by decide, by decide⟩) (by rw [hRm]; exact ⟨by decide, by decide⟩) (Nat.le_of_ble_eq_true rfl) (fun o74 v74 ρv74 Zv74 hq74 _ => ?_)
              obtain ⟨rfl, rfl, rfl, r74, rfl, hq74⟩ := hq74
              show wp g X F_X0_chooseFrom 0 0 77 [(2, t), (0, p), (2, o), (0, f), (0, c)] [(0, r74)] v52 ρ52 Z
              have L136 : ∀ (f2 : Int) (v136 : Mv) (ρ136 : Mv) , (FrW ω [29, 30, 31, 32, 33, 34, 35, 36, 37, 38, 41, 43, 44] v v136) → (FrW ω [29] ρ ρ136) → (HT ω v136 ρ136 Z) → (0 ≤ f2 ∧ f2 ≤ 1) → wp g X F_X0_chooseFrom 0 0 136 [(2, t), (0, p), (2, o), (0, f2), (0, c)] [] v136 ρ136 Z := by
                intro f2 v136 ρ136 hfr136 hfrR136 hH136 if2
                refine r_iinc (ls' := [(2, t), (0, p), (2, o), (0, f2), (0, (c + 1))]) (pc := 136) hX 84 rfl rfl (by decide) rfl ?_
                refine r_goto (pc := 139) hX 85 (tgt := 52) rfl (by decide) ?_
                exact (ih52 f2 (c + 1) v136 ρ136 (hfr136) (hfrR136) (hH136) (by omega) (by omega))
              first | refine r_if_eq (pc := 77) hX 44 (tgt := 136) rfl (by decide) (⟨by omega, by omega⟩) (fun h77 => ?_) (fun h77 => ?_) | refine r_if_eq_any (pc := 77) hX 44 (tgt := 136) rfl (by decide) ?_ ?_
              · exact (L136 f v52 ρ52 (hfr52) (hfrR52) (hH52) (by omega) )
              · refine t_getR (q := (ρ t 5)) (pc := 80) hX 45 rfl rfl rfl fl_X0_25 rfl (hH52.kd ht (by decide)) ((hfrR52.at ht (by decide) 5).trans (rfl)) ?_
                have hw80_ : ω (ρ t 5) = 44 := hH.rf ht (by decide) rfl
                refine r_iload_n (pc := 84) hX 47 rfl rfl ?_
                refine r_iload (pc := 85) hX 48 rfl rfl ?_
                refine e_iast (n := 3) (pc := 87) hX 49 rfl (hH52.kd hw80_ (by decide)) (hH52.ln hw80_ (by decide)) (hH52.g4 hw80_ (by decide)) (by omega) (by omega) ?_
                have hH_87 : HT ω (up v52 (ρ t 5) p c) ρ52 Z := hH52.upR hw80_ (by decide) rfl (by omega) (by omega)
                refine r_aload_n (pc := 88) hX 50 rfl rfl ?_
                refine r_iload_n (pc := 89) hX 51 rfl rfl ?_
                refine r_iconst (pc := 90) hX 52 rfl ?_
                refine r_iadd (pc := 91) hX 53 rfl ?_
                refine r_aload_n (pc := 92) hX 54 rfl rfl ?_
                refine r_callV (as := [(0, (p + 1)), (2, o)]) (st := []) (K := 0) (pc := 93) hX 55 rfl mo_X0_chooseFrom ml_X0_45 im_X0_chooseFrom se_X0_chooseFrom (c_X0_chooseFrom3 g ω (up v52 (ρ t 5) p c) ρ52 Z hH_87 t ht ((p + 1)) o ho (by omega)) rfl rfl rfl (hH_87.kd ht (by decide)) (by rw [hRm]; exact ⟨by decide, by decide⟩) (by rw [hRm]; exact ⟨by decide, by decide⟩) (Nat.le_of_ble_eq_true rfl) (fun o93 v93 ρv93 Zv93 hq93 _ => ?_)
                obtain ⟨rfl, hfr93, hfrR93, hH93, rfl, hq93⟩ := hq93
                show wp g X F_X0_chooseFrom 0 0 96 [(2, t), (0, p), (2, o), (0, f), (0, c)] [] v93 ρv93 Z
                refine r_iload_n (pc := 96) hX 56 rfl rfl ?_
                have L127 : ∀ (v127 : Mv) (ρ127 : Mv) , (FrW ω [29, 30, 31, 32, 33, 34, 35, 36, 37, 38, 41, 43, 44] v v127) → (FrW ω [29] ρ ρ127) → (HT ω v127 ρ127 Z) → wp g X F_X0_chooseFrom 0 0 127 [(2, t), (0, p), (2, o), (0, f), (0, c)] [] v127 ρ127 Z := by
                  intro v127 ρ127 hfr127 hfrR127 hH127
                  refine r_iconst (pc := 127) hX 77 rfl ?_
                  refine r_istore_n (ls' := [(2, t), (0, p), (2, o), (0, 1), (0, c)]) (pc := 128) hX 78 rfl (by decide) rfl ?_
                  refine t_getR (q := (ρ t 5)) (pc := 129) hX 79 rfl rfl rfl fl_X0_25 rfl (hH127.kd ht (by decide)) ((hfrR127.at ht (by decide) 5).trans (rfl)) ?_
                  refine r_iload_n (pc := 133) hX 81 rfl rfl ?_
                  refine r_iconst (pc := 134) hX 82 rfl ?_
                  refine e_iast (n := 3) (pc := 135) hX 83 rfl (hH127.kd hw80_ (by decide)) (hH127.ln hw80_ (by decide)) (hH127.g4 hw80_ (by decide)) (by omega) (by omega) ?_
                  have hH_135 : HT ω (up v127 (ρ t 5) p (-1)) ρ127 Z := hH127.upR hw80_ (by decide) rfl (by omega) (by omega)
                  exact (L136 1 (up v127 (ρ t 5) p (-1)) ρ127 ((hfr127).up (r := (ρ t 5)) hw80_ (by decide)) (hfrR127) (hH_135) (by omega) )
                have L122 : wp g X F_X0_chooseFrom 0 0 122 [(2, t), (0, p), (2, o), (0, f), (0, c)] [] v93 ρv93 Z := by
                  refine r_aload_n (pc := 122) hX 74 rfl rfl ?_
                  refine r_iload_n (pc := 123) hX 75 rfl rfl ?_
                  refine r_callV (as := [(0, p)]) (st := []) (K := 0) (pc := 124) hX 76 rfl mo_X0_adopt ml_X0_68 im_X0_adopt se_X0_adopt (c_X0_adopt g ω v93 ρv93 Z hH93 t ht (p) (by omega)) rfl rfl rfl (hH93.kd ht (by decide)) (by rw [hRm]; exact ⟨by decide, by decide⟩) (by rw [hRm]; exact ⟨by decide, by decide⟩) (Nat.le_of_ble_eq_true rfl) (fun o124 v124 ρv124 Zv124 hq124 _ => ?_)
                  obtain ⟨rfl, rfl, hfr124, hH124, rfl, hq124⟩ := hq124
                  show wp g X F_X0_chooseFrom 0 0 127 [(2, t), (0, p), (2, o), (0, f), (0, c)] [] v124 ρv93 Z
                  exact (L127  v124 ρv93 ((((hfr52).up (r := (ρ t 5)) hw80_ (by decide)).tr hfr93 (by decide)).tr hfr124 (by decide)) ((hfrR52).tr hfrR93 (by decide)) (hH124) )
                first | refine r_if_eq (pc := 97) hX 57 (tgt := 122) rfl (by decide) (⟨by omega, by omega⟩) (fun h97 => ?_) (fun h97 => ?_) | refine r_if_eq_any (pc := 97) hX 57 (tgt := 122) rfl (by decide) ?_ ?_
                · exact (L122   )
                · refine t_getR (q := (ρ t 3)) (pc := 100) hX 58 rfl rfl rfl fl_X0_17 rfl (hH93.kd ht (by decide)) ((hfrR93.at ht (by decide) 3).trans ((hfrR52.at ht (by decide) 3).trans (rfl))) ?_
                  have hw100_ : ω (ρ t 3) = 40 := hH.rf ht (by decide) rfl
                  refine r_iload_n (pc := 104) hX 60 rfl rfl ?_
                  refine r_iconst (pc := 105) hX 61 rfl ?_
                  refine r_iadd (pc := 106) hX 62 rfl ?_
                  refine r_aald (q := (ρ (ρ t 3) (p + 1))) (pc := 107) hX 63 20 rfl (hH93.kd hw100_ (by decide)) (by decide) (by decide) rfl rfl (by omega) (by rw [show Z.2.1 (ρ t 3) = 4 from (hH93.ln hw100_ (by decide))]; omega) ((hfrR93.at hw100_ (by decide) (p + 1)).trans ((hfrR52.at hw100_ (by decide) (p + 1)).trans (rfl))) ?_
                  have hw107_ : ω (ρ (ρ t 3) (p + 1)) = 41 := hH.rf hw100_ (by decide) (rf40 ⟨by omega, by omega⟩)
                  refine r_iload_n (pc := 108) hX 64 rfl rfl ?_
                  refine e_lald (y := (v93 (ρ (ρ t 3) (p + 1)) p)) (n := 3) (pc := 109) hX 65 rfl (hH93.kd hw107_ (by decide)) (hH93.ln hw107_ (by decide)) (by omega) (by omega) (rfl) ?_
                  refine t_getR (q := (ρ t 3)) (pc := 110) hX 66 rfl rfl rfl fl_X0_17 rfl (hH93.kd ht (by decide)) ((hfrR93.at ht (by decide) 3).trans ((hfrR52.at ht (by decide) 3).trans (rfl))) ?_
                  refine r_iload_n (pc := 114) hX 68 rfl rfl ?_
                  refine r_aald (q := (ρ (ρ t 3) p)) (pc := 115) hX 69 20 rfl (hH93.kd hw100_ (by decide)) (by decide) (by decide) rfl rfl (by omega) (by rw [show Z.2.1 (ρ t 3) = 4 from (hH93.ln hw100_ (by decide))]; omega) ((hfrR93.at hw100_ (by decide) p).trans ((hfrR52.at hw100_ (by decide) p).trans (rfl))) ?_
                  have hw115_ : ω (ρ (ρ t 3) p) = 41 := hH.rf hw100_ (by decide) (rf40 ⟨by omega, by omega⟩)
                  refine r_iload_n (pc := 116) hX 70 rfl rfl ?_
                  refine e_lald (y := (v93 (ρ (ρ t 3) p) p)) (n := 3) (pc := 117) hX 71 rfl (hH93.kd hw115_ (by decide)) (hH93.ln hw115_ (by decide)) (by omega) (by omega) (rfl) ?_
                  refine r_lcmp_any (pc := 118) hX 72 rfl (fun z118 hz118a hz118b => ?_)
                  first | refine r_if_le (pc := 119) hX 73 (tgt := 127) rfl (by decide) (⟨by omega, by omega⟩) (fun h119 => ?_) (fun h119 => ?_) | refine r_if_le_any (pc := 119) hX 73 (tgt := 127) rfl (by decide) ?_ ?_
                  · exact (L127  v93 ρv93 (((hfr52).up (r := (ρ t 5)) hw80_ (by decide)).tr hfr93 (by decide)) ((hfrR52).tr hfrR93 (by decide)) (hH93) )
                  · exact (L122   )
        exact (L52 _ 0 0 v ρ (FrW.rf) (FrW.rf) (hH) (by omega) (Nat.lt_succ_self _))
      · refine r_aload_n (pc := 33) hX 19 rfl rfl ?_
        refine r_iload_n (pc := 34) hX 20 rfl rfl ?_
        refine r_iconst (pc := 35) hX 21 rfl ?_
        refine r_iadd (pc := 36) hX 22 rfl ?_
        refine r_aload_n (pc := 37) hX 23 rfl rfl ?_
        refine r_callV (as := [(0, (p + 1)), (2, o)]) (st := []) (K := 0) (pc := 38) hX 24 rfl mo_X0_chooseFrom ml_X0_45 im_X0_chooseFrom se_X0_chooseFrom (c_X0_chooseFrom3 g ω v ρ Z hH t ht ((p + 1)) o ho (by omega)) rfl rfl rfl (hH.kd ht (by decide)) (by rw [hRm]; exact ⟨by decide, by decide⟩) (by rw [hRm]; exact ⟨by decide, by decide⟩) (Nat.le_of_ble_eq_true rfl) (fun o38 v38 ρv38 Zv38 hq38 _ => ?_)
        obtain ⟨rfl, hfr38, hfrR38, hH38, rfl, hq38⟩ := hq38
        show wp g X F_X0_chooseFrom 0 0 41 [(2, t), (0, p), (2, o), (3, 0), (3, 0)] [] v38 ρv38 Z
        refine r_aload_n (pc := 41) hX 25 rfl rfl ?_
        refine r_iload_n (pc := 42) hX 26 rfl rfl ?_
        refine r_callV (as := [(0, p)]) (st := []) (K := 0) (pc := 43) hX 27 rfl mo_X0_adopt ml_X0_68 im_X0_adopt se_X0_adopt (c_X0_adopt g ω v38 ρv38 Z hH38 t ht (p) (by omega)) rfl rfl rfl (hH38.kd ht (by decide)) (by rw [hRm]; exact ⟨by decide, by decide⟩) (by rw [hRm]; exact ⟨by decide, by decide⟩) (Nat.le_of_ble_eq_true rfl) (fun o43 v43 ρv43 Zv43 hq43 _ => ?_)
        obtain ⟨rfl, rfl, hfr43, hH43, rfl, hq43⟩ := hq43
        show wp g X F_X0_chooseFrom 0 0 46 [(2, t), (0, p), (2, o), (3, 0), (3, 0)] [] v43 ρv38 Z
        exact r_vret (pc := 46) hX 28 hQ rfl rfl (Nat.le_refl 0) (Nat.le_refl 0) ⟨rfl, ((FrW.rf).tr hfr38 (by decide)).tr hfr43 (by decide), (FrW.rf).tr hfrR38 (by decide), hH43, rfl, trivial⟩
    · exact (L16   )
set_option maxHeartbeats 4000000 in
set_option maxRecDepth 100000 in
theorem c_X0_chooseFrom1 (g : Gp) (ω : Rw) (v ρ : Mv) (Z : Mz) (hH : HT ω v ρ Z) (t : Int) (ht : ω t = 39) (p : Int) (o : Int) (ho : ω o = 22) (hp : p = 1) : Ok g 8 0 0 F_X0_chooseFrom [(2, t), (0, p), (2, o)] v ρ Z (fun o9 v' ρ' Z' => Z = Z' ∧ FrW ω [29, 30, 31, 32, 33, 34, 35, 36, 37, 38, 41, 43, 44] v v' ∧ FrW ω [29] ρ ρ' ∧ HT ω v' ρ' Z ∧ o9 = none ∧ True) := by
  refine Ok.of mo_X0_chooseFrom (Nat.le_of_ble_eq_true rfl) ?_
  intro X hX hRm hxn hQ
  show wp g X F_X0_chooseFrom 0 0 0 [(2, t), (0, p), (2, o), (3, 0), (3, 0)] [] v ρ Z
  refine r_iload_n (pc := 0) hX 0 rfl rfl ?_
  refine r_aload_n (pc := 1) hX 1 rfl rfl ?_
  refine r_getR (q := (ρ o 0)) (pc := 2) hX 2 rfl fl_X0_56 rfl (hH.kd ho (by decide)) (rfl) ?_
  have hw2_ : ω (ρ o 0) = 5 := hH.rf ho (by decide) rfl
  refine e_getI (y := (v (ρ o 0) 10)) (pc := 5) hX 3 rfl fl_X0_60 rfl (hH.kd hw2_ (by decide)) (rfl) ?_
  have hb5 : 0 ≤ (v (ρ o 0) 10) ∧ (v (ρ o 0) 10) ≤ 3 := hH.rg hw2_ (by decide) rfl
  have L16 : wp g X F_X0_chooseFrom 0 0 16 [(2, t), (0, p), (2, o), (3, 0), (3, 0)] [] v ρ Z := by
    refine r_aload_n (pc := 16) hX 8 rfl rfl ?_
    refine r_iload_n (pc := 17) hX 9 rfl rfl ?_
    refine r_aload_n (pc := 18) hX 10 rfl rfl ?_
    refine r_callV (as := [(0, p), (2, o)]) (st := []) (K := 0) (pc := 19) hX 11 rfl mo_X0_settle ml_X0_65 im_X0_settle se_X0_settle (c_X0_settle g ω v ρ Z hH t ht (p) o ho (by omega)) rfl rfl rfl (hH.kd ht (by decide)) (by rw [hRm]; exact ⟨by decide, by decide⟩) (by rw [hRm]; exact ⟨by decide, by decide⟩) (Nat.le_of_ble_eq_true rfl) (fun o19 v19 ρv19 Zv19 hq19 _ => ?_)
    obtain ⟨rfl, hfr19, hfrR19, hH19, rfl, hq19⟩ := hq19
    show wp g X F_X0_chooseFrom 0 0 22 [(2, t), (0, p), (2, o), (3, 0), (3, 0)] [] v19 ρv19 Z
    exact r_vret (pc := 22) hX 12 hQ rfl rfl (Nat.le_refl 0) (Nat.le_refl 0) ⟨rfl, (FrW.rf).tr hfr19 (by decide), (FrW.rf).tr hfrR19 (by decide), hH19, rfl, trivial⟩
  first | refine r_icmp_ge (pc := 8) hX 4 (tgt := 16) rfl (by decide) (⟨by omega, by omega⟩) (⟨by omega, by omega⟩) (fun h8 => ?_) (fun h8 => ?_) | refine r_icmp_ge_any (pc := 8) hX 4 (tgt := 16) rfl (by decide) ?_ ?_
  · exact (L16   )
  · refine r_iload_n (pc := 11) hX 5 rfl rfl ?_
    refine r_iconst (pc := 12) hX 6 rfl ?_
    first | refine r_icmp_lt (pc := 13) hX 7 (tgt := 23) rfl (by decide) (⟨by omega, by omega⟩) (⟨by omega, by omega⟩) (fun h13 => ?_) (fun h13 => ?_) | refine r_icmp_lt_any (pc := 13) hX 7 (tgt := 23) rfl (by decide) ?_ ?_
    · refine r_aload_n (pc := 23) hX 13 rfl rfl ?_
      refine r_getR (q := (ρ o 4)) (pc := 24) hX 14 rfl fl_X0_36 rfl (hH.kd ho (by decide)) (rfl) ?_
      have hw24_ : ω (ρ o 4) = 24 := hH.rf ho (by decide) rfl
      refine r_iload_n (pc := 27) hX 15 rfl rfl ?_
      refine e_iald (y := (v (ρ o 4) p)) (n := 3) (pc := 28) hX 16 rfl (hH.kd hw24_ (by decide)) (hH.ln hw24_ (by decide)) (by omega) (by omega) (rfl) ?_
      have hb28 : (-1) ≤ (v (ρ o 4) p) ∧ (v (ρ o 4) p) ≤ 3 := hH.rg hw24_ (by decide) rfl
      refine r_iconst (pc := 29) hX 17 rfl ?_
      first | refine r_icmp_eq (pc := 30) hX 18 (tgt := 47) rfl (by decide) (⟨by omega, by omega⟩) (⟨by omega, by omega⟩) (fun h30 => ?_) (fun h30 => ?_) | refine r_icmp_eq_any (pc := 30) hX 18 (tgt := 47) rfl (by decide) ?_ ?_
      · refine r_iconst (pc := 47) hX 29 rfl ?_
        refine r_istore_n (ls' := [(2, t), (0, p), (2, o), (0, 0), (3, 0)]) (pc := 48) hX 30 rfl (by decide) rfl ?_
        refine r_iconst (pc := 49) hX 31 rfl ?_
        refine r_istore (ls' := [(2, t), (0, p), (2, o), (0, 0), (0, 0)]) (pc := 50) hX 32 rfl (by decide) rfl ?_
        have L52 : ∀ (n52 : Nat) (f c : Int) (v52 : Mv) (ρ52 : Mv) , (FrW ω [29, 30, 31, 32, 33, 34, 35, 36, 37, 38, 41, 43, 44] v v52) → (FrW ω [29] ρ ρ52) → (HT ω v52 ρ52 Z) → (0 ≤ c ∧ c ≤ 4 ∧ 0 ≤ f ∧ f ≤ 1) → (4 - c).toNat < n52 → wp g X F_X0_chooseFrom 0 0 52 [(2, t), (0, p), (2, o), (0, f), (0, c)] [] v52 ρ52 Z := by
          intro n52
          induction n52 with
          | zero => intro f c v52 ρ52 hfr52 hfrR52 hH52 ic hme52; exact absurd hme52 (Nat.not_lt_zero _)
          | succ n52 ih52 =>
            intro f c v52 ρ52 hfr52 hfrR52 hH52 ic hme52
            refine r_iload (pc := 52) hX 33 rfl rfl ?_
            refine r_aload_n (pc := 54) hX 34 rfl rfl ?_
            refine r_getR (q := (ρ o 0)) (pc := 55) hX 35 rfl fl_X0_56 rfl (hH52.kd ho (by decide)) ((hfrR52.at ho (by decide) 0).trans (rfl)) ?_
            refine e_getI (y := (v (ρ o 0) 8)) (pc := 58) hX 36 rfl fl_X0_72 rfl (hH52.kd hw2_ (by decide)) ((hfr52.at hw2_ (by decide) 8).trans (rfl)) ?_
            have hb58 : 0 ≤ (v (ρ o 0) 8) ∧ (v (ρ o 0) 8) ≤ 4 := hH.rg hw2_ (by decide) rfl
            first | refine r_icmp_ge (pc := 61) hX 37 (tgt := 142) rfl (by decide) (⟨by omega, by omega⟩) (⟨by omega, by omega⟩) (fun h61 => ?_) (fun h61 => ?_) | refine r_icmp_ge_any (pc := 61) hX 37 (tgt := 142) rfl (by decide) ?_ ?_
            · refine r_iload_n (pc := 142) hX 86 rfl rfl ?_
              have L159 : ∀ (v159 : Mv) (ρ159 : Mv) , (FrW ω [29, 30, 31, 32, 33, 34, 35, 36, 37, 38, 41, 43, 44] v v159) → (FrW ω [29] ρ ρ159) → (HT ω v159 ρ159 Z) → wp g X F_X0_chooseFrom 0 0 159 [(2, t), (0, p), (2, o), (3, 0), (3, 0)] [] v159 ρ159 Z := by
                intro v159 ρ159 hfr159 hfrR159 hH159
                exact r_vret (pc := 159) hX 97 hQ rfl rfl (Nat.le_refl 0) (Nat.le_refl 0) ⟨rfl, hfr159, hfrR159, hH159, rfl, trivial⟩
              first | refine r_if_ne (pc := 143) hX 87 (tgt := 159) rfl (by decide) (⟨by omega, by omega⟩) (fun h143 => ?_) (fun h143 => ?_) | refine r_if_ne_any (pc := 143) hX 87 (tgt := 159) rfl (by decide) ?_ ?_
              · refine r_wk (ls' := [(2, t), (0, p), (2, o), (3, 0), (3, 0)]) ⟨Or.inr rfl, Or.inr rfl, Or.inr rfl, Or.inl rfl, Or.inl rfl, trivial⟩ ?_
                exact (L159  v52 ρ52 (hfr52) (hfrR52) (hH52) )
              · refine r_aload_n (pc := 146) hX 88 rfl rfl ?_
                refine r_iload_n (pc := 147) hX 89 rfl rfl ?_
                refine r_iconst (pc := 148) hX 90 rfl ?_
                refine r_iadd (pc := 149) hX 91 rfl ?_
                refine r_aload_n (pc := 150) hX 92 rfl rfl ?_
                refine r_callV (as := [(0, (p + 1)), (2, o)]) (st := []) (K := 0) (pc := 151) hX 93 rfl mo_X0_chooseFrom ml_X0_45 im_X0_chooseFrom se_X0_chooseFrom (c_X0_chooseFrom2 g ω v52 ρ52 Z hH52 t ht ((p + 1)) o ho (by omega)) rfl rfl rfl (hH52.kd ht (by decide)) (by rw [hRm]; exact ⟨by decide, by decide⟩) (by rw [hRm]; exact ⟨by decide, by decide⟩) (Nat.le_of_ble_eq_true rfl) (fun o151 v151 ρv151 Zv151 hq151 _ => ?_)
                obtain ⟨rfl, hfr151, hfrR151, hH151, rfl, hq151⟩ := hq151
                show wp g X F_X0_chooseFrom 0 0 154 [(2, t), (0, p), (2, o), (0, f), (0, c)] [] v151 ρv151 Z
                refine r_aload_n (pc := 154) hX 94 rfl rfl ?_
                refine r_iload_n (pc := 155) hX 95 rfl rfl ?_
                refine r_callV (as := [(0, p)]) (st := []) (K := 0) (pc := 156) hX 96 rfl mo_X0_adopt ml_X0_68 im_X0_adopt se_X0_adopt (c_X0_adopt g ω v151 ρv151 Z hH151 t ht (p) (by omega)) rfl rfl rfl (hH151.kd ht (by decide)) (by rw [hRm]; exact ⟨by decide, by decide⟩) (by rw [hRm]; exact ⟨by decide, by decide⟩) (Nat.le_of_ble_eq_true rfl) (fun o156 v156 ρv156 Zv156 hq156 _ => ?_)
                obtain ⟨rfl, rfl, hfr156, hH156, rfl, hq156⟩ := hq156
                show wp g X F_X0_chooseFrom 0 0 159 [(2, t), (0, p), (2, o), (0, f), (0, c)] [] v156 ρv151 Z
                refine r_wk (ls' := [(2, t), (0, p), (2, o), (3, 0), (3, 0)]) ⟨Or.inr rfl, Or.inr rfl, Or.inr rfl, Or.inl rfl, Or.inl rfl, trivial⟩ ?_
                exact (L159  v156 ρv151 (((hfr52).tr hfr151 (by decide)).tr hfr156 (by decide)) ((hfrR52).tr hfrR151 (by decide)) (hH156) )
            · refine r_aload_n (pc := 64) hX 38 rfl rfl ?_
              refine r_iload (pc := 65) hX 39 rfl rfl ?_
              refine r_aload_n (pc := 67) hX 40 rfl rfl ?_
              refine r_getR (q := (ρ o 0)) (pc := 68) hX 41 rfl fl_X0_56 rfl (hH52.kd ho (by decide)) ((hfrR52.at ho (by decide) 0).trans (rfl)) ?_
              refine e_getI (y := (v (ρ o 0) 10)) (pc := 71) hX 42 rfl fl_X0_60 rfl (hH52.kd hw2_ (by decide)) ((hfr52.at hw2_ (by decide) 10).trans (rfl)) ?_
              refine r_callV (as := [(0, c), (0, (v (ρ o 0) 10))]) (st := []) (K := 0) (pc := 74) hX 43 rfl mo_X0_isFree ml_X0_75 im_X0_isFree se_X0_isFree (c_X0_isFree g ω v52 ρ52 Z hH52 t ht (c) ((v (ρ o 0) 10)) (by omega) (by omega)) rfl rfl rfl (hH52.kd ht (by decide)) (by rw [hRm]; exact ⟨by decide, by decide⟩) (by rw [hRm]; exact ⟨by decide, by decide⟩) (Nat.le_of_ble_eq_true rfl) (fun o74 v74 ρv74 Zv74 hq74 _ => ?_)
              obtain ⟨rfl, rfl, rfl, r74, rfl, hq74⟩ := hq74
              show wp g X F_X0_chooseFrom 0 0 77 [(2, t), (0, p), (2, o), (0, f), (0, c)] [(0, r74)] v52 ρ52 Z
              have L136 : ∀ (f2 : Int) (v136 : Mv) (ρ136 : Mv) , (FrW ω [29, 30, 31, 32, 33, 34, 35, 36, 37, 38, 41, 43, 44] v v136) → (FrW ω [29] ρ ρ136) → (HT ω v136 ρ136 Z) → (0 ≤ f2 ∧ f2 ≤ 1) → wp g X F_X0_chooseFrom 0 0 136 [(2, t), (0, p), (2, o), (0, f2), (0, c)] [] v136 ρ136 Z := by
                intro f2 v136 ρ136 hfr136 hfrR136 hH136 if2
                refine r_iinc (ls' := [(2, t), (0, p), (2, o), (0, f2), (0, (c + 1))]) (pc := 136) hX 84 rfl rfl (by decide) rfl ?_
                refine r_goto (pc := 139) hX 85 (tgt := 52) rfl (by decide) ?_
                exact (ih52 f2 (c + 1) v136 ρ136 (hfr136) (hfrR136) (hH136) (by omega) (by omega))
              first | refine r_if_eq (pc := 77) hX 44 (tgt := 136) rfl (by decide) (⟨by omega, by omega⟩) (fun h77 => ?_) (fun h77 => ?_) | refine r_if_eq_any (pc := 77) hX 44 (tgt := 136) rfl (by decide) ?_ ?_
              · exact (L136 f v52 ρ52 (hfr52) (hfrR52) (hH52) (by omega) )
              · refine t_getR (q := (ρ t 5)) (pc := 80) hX 45 rfl rfl rfl fl_X0_25 rfl (hH52.kd ht (by decide)) ((hfrR52.at ht (by decide) 5).trans (rfl)) ?_
                have hw80_ : ω (ρ t 5) = 44 := hH.rf ht (by decide) rfl
                refine r_iload_n (pc := 84) hX 47 rfl rfl ?_
                refine r_iload (pc := 85) hX 48 rfl rfl ?_
                refine e_iast (n := 3) (pc := 87) hX 49 rfl (hH52.kd hw80_ (by decide)) (hH52.ln hw80_ (by decide)) (hH52.g4 hw80_ (by decide)) (by omega) (by omega) ?_
                have hH_87 : HT ω (up v52 (ρ t 5) p c) ρ52 Z := hH52.upR hw80_ (by decide) rfl (by omega) (by omega)
                refine r_aload_n (pc := 88) hX 50 rfl rfl ?_
                refine r_iload_n (pc := 89) hX 51 rfl rfl ?_
                refine r_iconst (pc := 90) hX 52 rfl ?_
                refine r_iadd (pc := 91) hX 53 rfl ?_
                refine r_aload_n (pc := 92) hX 54 rfl rfl ?_
                refine r_callV (as := [(0, (p + 1)), (2, o)]) (st := []) (K := 0) (pc := 93) hX 55 rfl mo_X0_chooseFrom ml_X0_45 im_X0_chooseFrom se_X0_chooseFrom (c_X0_chooseFrom2 g ω (up v52 (ρ t 5) p c) ρ52 Z hH_87 t ht ((p + 1)) o ho (by omega)) rfl rfl rfl (hH_87.kd ht (by decide)) (by rw [hRm]; exact ⟨by decide, by decide⟩) (by rw [hRm]; exact ⟨by decide, by decide⟩) (Nat.le_of_ble_eq_true rfl) (fun o93 v93 ρv93 Zv93 hq93 _ => ?_)
                obtain ⟨rfl, hfr93, hfrR93, hH93, rfl, hq93⟩ := hq93
                show wp g X F_X0_chooseFrom 0 0 96 [(2, t), (0, p), (2, o), (0, f), (0, c)] [] v93 ρv93 Z
                refine r_iload_n (pc := 96) hX 56 rfl rfl ?_
                have L127 : ∀ (v127 : Mv) (ρ127 : Mv) , (FrW ω [29, 30, 31, 32, 33, 34, 35, 36, 37, 38, 41, 43, 44] v v127) → (FrW ω [29] ρ ρ127) → (HT ω v127 ρ127 Z) → wp g X F_X0_chooseFrom 0 0 127 [(2, t), (0, p), (2, o), (0, f), (0, c)] [] v127 ρ127 Z := by
                  intro v127 ρ127 hfr127 hfrR127 hH127
                  refine r_iconst (pc := 127) hX 77 rfl ?_
                  refine r_istore_n (ls' := [(2, t), (0, p), (2, o), (0, 1), (0, c)]) (pc := 128) hX 78 rfl (by decide) rfl ?_
                  refine t_getR (q := (ρ t 5)) (pc := 129) hX 79 rfl rfl rfl fl_X0_25 rfl (hH127.kd ht (by decide)) ((hfrR127.at ht (by decide) 5).trans (rfl)) ?_
                  refine r_iload_n (pc := 133) hX 81 rfl rfl ?_
                  refine r_iconst (pc := 134) hX 82 rfl ?_
                  refine e_iast (n := 3) (pc := 135) hX 83 rfl (hH127.kd hw80_ (by decide)) (hH127.ln hw80_ (by decide)) (hH127.g4 hw80_ (by decide)) (by omega) (by omega) ?_
                  have hH_135 : HT ω (up v127 (ρ t 5) p (-1)) ρ127 Z := hH127.upR hw80_ (by decide) rfl (by omega) (by omega)
                  exact (L136 1 (up v127 (ρ t 5) p (-1)) ρ127 ((hfr127).up (r := (ρ t 5)) hw80_ (by decide)) (hfrR127) (hH_135) (by omega) )
                have L122 : wp g X F_X0_chooseFrom 0 0 122 [(2, t), (0, p), (2, o), (0, f), (0, c)] [] v93 ρv93 Z := by
                  refine r_aload_n (pc := 122) hX 74 rfl rfl ?_
                  refine r_iload_n (pc := 123) hX 75 rfl rfl ?_
                  refine r_callV (as := [(0, p)]) (st := []) (K := 0) (pc := 124) hX 76 rfl mo_X0_adopt ml_X0_68 im_X0_adopt se_X0_adopt (c_X0_adopt g ω v93 ρv93 Z hH93 t ht (p) (by omega)) rfl rfl rfl (hH93.kd ht (by decide)) (by rw [hRm]; exact ⟨by decide, by decide⟩) (by rw [hRm]; exact ⟨by decide, by decide⟩) (Nat.le_of_ble_eq_true rfl) (fun o124 v124 ρv124 Zv124 hq124 _ => ?_)
                  obtain ⟨rfl, rfl, hfr124, hH124, rfl, hq124⟩ := hq124
                  show wp g X F_X0_chooseFrom 0 0 127 [(2, t), (0, p), (2, o), (0, f), (0, c)] [] v124 ρv93 Z
                  exact (L127  v124 ρv93 ((((hfr52).up (r := (ρ t 5)) hw80_ (by decide)).tr hfr93 (by decide)).tr hfr124 (by decide)) ((hfrR52).tr hfrR93 (by decide)) (hH124) )
                first | refine r_if_eq (pc := 97) hX 57 (tgt := 122) rfl (by decide) (⟨by omega, by omega⟩) (fun h97 => ?_) (fun h97 => ?_) | refine r_if_eq_any (pc := 97) hX 57 (tgt := 122) rfl (by decide) ?_ ?_
                · exact (L122   )
                · refine t_getR (q := (ρ t 3)) (pc := 100) hX 58 rfl rfl rfl fl_X0_17 rfl (hH93.kd ht (by decide)) ((hfrR93.at ht (by decide) 3).trans ((hfrR52.at ht (by decide) 3).trans (rfl))) ?_
                  have hw100_ : ω (ρ t 3) = 40 := hH.rf ht (by decide) rfl
                  refine r_iload_n (pc := 104) hX 60 rfl rfl ?_
                  refine r_iconst (pc := 105) hX 61 rfl ?_
                  refine r_iadd (pc := 106) hX 62 rfl ?_
                  refine r_aald (q := (ρ (ρ t 3) (p + 1))) (pc := 107) hX 63 20 rfl (hH93.kd hw100_ (by decide)) (by decide) (by decide) rfl rfl (by omega) (by rw [show Z.2.1 (ρ t 3) = 4 from (hH93.ln hw100_ (by decide))]; omega) ((hfrR93.at hw100_ (by decide) (p + 1)).trans ((hfrR52.at hw100_ (by decide) (p + 1)).trans (rfl))) ?_
                  have hw107_ : ω (ρ (ρ t 3) (p + 1)) = 41 := hH.rf hw100_ (by decide) (rf40 ⟨by omega, by omega⟩)
                  refine r_iload_n (pc := 108) hX 64 rfl rfl ?_
                  refine e_lald (y := (v93 (ρ (ρ t 3) (p + 1)) p)) (n := 3) (pc := 109) hX 65 rfl (hH93.kd hw107_ (by decide)) (hH93.ln hw107_ (by decide)) (by omega) (by omega) (rfl) ?_
                  refine t_getR (q := (ρ t 3)) (pc := 110) hX 66 rfl rfl rfl fl_X0_17 rfl (hH93.kd ht (by decide)) ((hfrR93.at ht (by decide) 3).trans ((hfrR52.at ht (by decide) 3).trans (rfl))) ?_
                  refine r_iload_n (pc := 114) hX 68 rfl rfl ?_
                  refine r_aald (q := (ρ (ρ t 3) p)) (pc := 115) hX 69 20 rfl (hH93.kd hw100_ (by decide)) (by decide) (by decide) rfl rfl (by omega) (by rw [show Z.2.1 (ρ t 3) = 4 from (hH93.ln hw100_ (by decide))]; omega) ((hfrR93.at hw100_ (by decide) p).trans ((hfrR52.at hw100_ (by decide) p).trans (rfl))) ?_
                  have hw115_ : ω (ρ (ρ t 3) p) = 41 := hH.rf hw100_ (by decide) (rf40 ⟨by omega, by omega⟩)
                  refine r_iload_n (pc := 116) hX 70 rfl rfl ?_
                  refine e_lald (y := (v93 (ρ (ρ t 3) p) p)) (n := 3) (pc := 117) hX 71 rfl (hH93.kd hw115_ (by decide)) (hH93.ln hw115_ (by decide)) (by omega) (by omega) (rfl) ?_
                  refine r_lcmp_any (pc := 118) hX 72 rfl (fun z118 hz118a hz118b => ?_)
                  first | refine r_if_le (pc := 119) hX 73 (tgt := 127) rfl (by decide) (⟨by omega, by omega⟩) (fun h119 => ?_) (fun h119 => ?_) | refine r_if_le_any (pc := 119) hX 73 (tgt := 127) rfl (by decide) ?_ ?_
                  · exact (L127  v93 ρv93 (((hfr52).up (r := (ρ t 5)) hw80_ (by decide)).tr hfr93 (by decide)) ((hfrR52).tr hfrR93 (by decide)) (hH93) )
                  · exact (L122   )
        exact (L52 _ 0 0 v ρ (FrW.rf) (FrW.rf) (hH) (by omega) (Nat.lt_succ_self _))
      · refine r_aload_n (pc := 33) hX 19 rfl rfl ?_
        refine r_iload_n (pc := 34) hX 20 rfl rfl ?_
        refine r_iconst (pc := 35) hX 21 rfl ?_
        refine r_iadd (pc := 36) hX 22 rfl ?_
        refine r_aload_n (pc := 37) hX 23 rfl rfl ?_
        refine r_callV (as := [(0, (p + 1)), (2, o)]) (st := []) (K := 0) (pc := 38) hX 24 rfl mo_X0_chooseFrom ml_X0_45 im_X0_chooseFrom se_X0_chooseFrom (c_X0_chooseFrom2 g ω v ρ Z hH t ht ((p + 1)) o ho (by omega)) rfl rfl rfl (hH.kd ht (by decide)) (by rw [hRm]; exact ⟨by decide, by decide⟩) (by rw [hRm]; exact ⟨by decide, by decide⟩) (Nat.le_of_ble_eq_true rfl) (fun o38 v38 ρv38 Zv38 hq38 _ => ?_)
        obtain ⟨rfl, hfr38, hfrR38, hH38, rfl, hq38⟩ := hq38
        show wp g X F_X0_chooseFrom 0 0 41 [(2, t), (0, p), (2, o), (3, 0), (3, 0)] [] v38 ρv38 Z
        refine r_aload_n (pc := 41) hX 25 rfl rfl ?_
        refine r_iload_n (pc := 42) hX 26 rfl rfl ?_
        refine r_callV (as := [(0, p)]) (st := []) (K := 0) (pc := 43) hX 27 rfl mo_X0_adopt ml_X0_68 im_X0_adopt se_X0_adopt (c_X0_adopt g ω v38 ρv38 Z hH38 t ht (p) (by omega)) rfl rfl rfl (hH38.kd ht (by decide)) (by rw [hRm]; exact ⟨by decide, by decide⟩) (by rw [hRm]; exact ⟨by decide, by decide⟩) (Nat.le_of_ble_eq_true rfl) (fun o43 v43 ρv43 Zv43 hq43 _ => ?_)
        obtain ⟨rfl, rfl, hfr43, hH43, rfl, hq43⟩ := hq43
        show wp g X F_X0_chooseFrom 0 0 46 [(2, t), (0, p), (2, o), (3, 0), (3, 0)] [] v43 ρv38 Z
        exact r_vret (pc := 46) hX 28 hQ rfl rfl (Nat.le_refl 0) (Nat.le_refl 0) ⟨rfl, ((FrW.rf).tr hfr38 (by decide)).tr hfr43 (by decide), (FrW.rf).tr hfrR38 (by decide), hH43, rfl, trivial⟩
    · exact (L16   )
set_option maxHeartbeats 4000000 in
set_option maxRecDepth 100000 in
theorem c_X0_chooseFrom0 (g : Gp) (ω : Rw) (v ρ : Mv) (Z : Mz) (hH : HT ω v ρ Z) (t : Int) (ht : ω t = 39) (p : Int) (o : Int) (ho : ω o = 22) (hp : p = 0) : Ok g 9 0 0 F_X0_chooseFrom [(2, t), (0, p), (2, o)] v ρ Z (fun o9 v' ρ' Z' => Z = Z' ∧ FrW ω [29, 30, 31, 32, 33, 34, 35, 36, 37, 38, 41, 43, 44] v v' ∧ FrW ω [29] ρ ρ' ∧ HT ω v' ρ' Z ∧ o9 = none ∧ True) := by
  refine Ok.of mo_X0_chooseFrom (Nat.le_of_ble_eq_true rfl) ?_
  intro X hX hRm hxn hQ
  show wp g X F_X0_chooseFrom 0 0 0 [(2, t), (0, p), (2, o), (3, 0), (3, 0)] [] v ρ Z
  refine r_iload_n (pc := 0) hX 0 rfl rfl ?_
  refine r_aload_n (pc := 1) hX 1 rfl rfl ?_
  refine r_getR (q := (ρ o 0)) (pc := 2) hX 2 rfl fl_X0_56 rfl (hH.kd ho (by decide)) (rfl) ?_
  have hw2_ : ω (ρ o 0) = 5 := hH.rf ho (by decide) rfl
  refine e_getI (y := (v (ρ o 0) 10)) (pc := 5) hX 3 rfl fl_X0_60 rfl (hH.kd hw2_ (by decide)) (rfl) ?_
  have hb5 : 0 ≤ (v (ρ o 0) 10) ∧ (v (ρ o 0) 10) ≤ 3 := hH.rg hw2_ (by decide) rfl
  have L16 : wp g X F_X0_chooseFrom 0 0 16 [(2, t), (0, p), (2, o), (3, 0), (3, 0)] [] v ρ Z := by
    refine r_aload_n (pc := 16) hX 8 rfl rfl ?_
    refine r_iload_n (pc := 17) hX 9 rfl rfl ?_
    refine r_aload_n (pc := 18) hX 10 rfl rfl ?_
    refine r_callV (as := [(0, p), (2, o)]) (st := []) (K := 0) (pc := 19) hX 11 rfl mo_X0_settle ml_X0_65 im_X0_settle se_X0_settle (c_X0_settle g ω v ρ Z hH t ht (p) o ho (by omega)) rfl rfl rfl (hH.kd ht (by decide)) (by rw [hRm]; exact ⟨by decide, by decide⟩) (by rw [hRm]; exact ⟨by decide, by decide⟩) (Nat.le_of_ble_eq_true rfl) (fun o19 v19 ρv19 Zv19 hq19 _ => ?_)
    obtain ⟨rfl, hfr19, hfrR19, hH19, rfl, hq19⟩ := hq19
    show wp g X F_X0_chooseFrom 0 0 22 [(2, t), (0, p), (2, o), (3, 0), (3, 0)] [] v19 ρv19 Z
    exact r_vret (pc := 22) hX 12 hQ rfl rfl (Nat.le_refl 0) (Nat.le_refl 0) ⟨rfl, (FrW.rf).tr hfr19 (by decide), (FrW.rf).tr hfrR19 (by decide), hH19, rfl, trivial⟩
  first | refine r_icmp_ge (pc := 8) hX 4 (tgt := 16) rfl (by decide) (⟨by omega, by omega⟩) (⟨by omega, by omega⟩) (fun h8 => ?_) (fun h8 => ?_) | refine r_icmp_ge_any (pc := 8) hX 4 (tgt := 16) rfl (by decide) ?_ ?_
  · exact (L16   )
  · refine r_iload_n (pc := 11) hX 5 rfl rfl ?_
    refine r_iconst (pc := 12) hX 6 rfl ?_
    first | refine r_icmp_lt (pc := 13) hX 7 (tgt := 23) rfl (by decide) (⟨by omega, by omega⟩) (⟨by omega, by omega⟩) (fun h13 => ?_) (fun h13 => ?_) | refine r_icmp_lt_any (pc := 13) hX 7 (tgt := 23) rfl (by decide) ?_ ?_
    · refine r_aload_n (pc := 23) hX 13 rfl rfl ?_
      refine r_getR (q := (ρ o 4)) (pc := 24) hX 14 rfl fl_X0_36 rfl (hH.kd ho (by decide)) (rfl) ?_
      have hw24_ : ω (ρ o 4) = 24 := hH.rf ho (by decide) rfl
      refine r_iload_n (pc := 27) hX 15 rfl rfl ?_
      refine e_iald (y := (v (ρ o 4) p)) (n := 3) (pc := 28) hX 16 rfl (hH.kd hw24_ (by decide)) (hH.ln hw24_ (by decide)) (by omega) (by omega) (rfl) ?_
      have hb28 : (-1) ≤ (v (ρ o 4) p) ∧ (v (ρ o 4) p) ≤ 3 := hH.rg hw24_ (by decide) rfl
      refine r_iconst (pc := 29) hX 17 rfl ?_
      first | refine r_icmp_eq (pc := 30) hX 18 (tgt := 47) rfl (by decide) (⟨by omega, by omega⟩) (⟨by omega, by omega⟩) (fun h30 => ?_) (fun h30 => ?_) | refine r_icmp_eq_any (pc := 30) hX 18 (tgt := 47) rfl (by decide) ?_ ?_
      · refine r_iconst (pc := 47) hX 29 rfl ?_
        refine r_istore_n (ls' := [(2, t), (0, p), (2, o), (0, 0), (3, 0)]) (pc := 48) hX 30 rfl (by decide) rfl ?_
        refine r_iconst (pc := 49) hX 31 rfl ?_
        refine r_istore (ls' := [(2, t), (0, p), (2, o), (0, 0), (0, 0)]) (pc := 50) hX 32 rfl (by decide) rfl ?_
        have L52 : ∀ (n52 : Nat) (f c : Int) (v52 : Mv) (ρ52 : Mv) , (FrW ω [29, 30, 31, 32, 33, 34, 35, 36, 37, 38, 41, 43, 44] v v52) → (FrW ω [29] ρ ρ52) → (HT ω v52 ρ52 Z) → (0 ≤ c ∧ c ≤ 4 ∧ 0 ≤ f ∧ f ≤ 1) → (4 - c).toNat < n52 → wp g X F_X0_chooseFrom 0 0 52 [(2, t), (0, p), (2, o), (0, f), (0, c)] [] v52 ρ52 Z := by
          intro n52
          induction n52 with
          | zero => intro f c v52 ρ52 hfr52 hfrR52 hH52 ic hme52; exact absurd hme52 (Nat.not_lt_zero _)
          | succ n52 ih52 =>
            intro f c v52 ρ52 hfr52 hfrR52 hH52 ic hme52
            refine r_iload (pc := 52) hX 33 rfl rfl ?_
            refine r_aload_n (pc := 54) hX 34 rfl rfl ?_
            refine r_getR (q := (ρ o 0)) (pc := 55) hX 35 rfl fl_X0_56 rfl (hH52.kd ho (by decide)) ((hfrR52.at ho (by decide) 0).trans (rfl)) ?_
            refine e_getI (y := (v (ρ o 0) 8)) (pc := 58) hX 36 rfl fl_X0_72 rfl (hH52.kd hw2_ (by decide)) ((hfr52.at hw2_ (by decide) 8).trans (rfl)) ?_
            have hb58 : 0 ≤ (v (ρ o 0) 8) ∧ (v (ρ o 0) 8) ≤ 4 := hH.rg hw2_ (by decide) rfl
            first | refine r_icmp_ge (pc := 61) hX 37 (tgt := 142) rfl (by decide) (⟨by omega, by omega⟩) (⟨by omega, by omega⟩) (fun h61 => ?_) (fun h61 => ?_) | refine r_icmp_ge_any (pc := 61) hX 37 (tgt := 142) rfl (by decide) ?_ ?_
            · refine r_iload_n (pc := 142) hX 86 rfl rfl ?_
              have L159 : ∀ (v159 : Mv) (ρ159 : Mv) , (FrW ω [29, 30, 31, 32, 33, 34, 35, 36, 37, 38, 41, 43, 44] v v159) → (FrW ω [29] ρ ρ159) → (HT ω v159 ρ159 Z) → wp g X F_X0_chooseFrom 0 0 159 [(2, t), (0, p), (2, o), (3, 0), (3, 0)] [] v159 ρ159 Z := by
                intro v159 ρ159 hfr159 hfrR159 hH159
                exact r_vret (pc := 159) hX 97 hQ rfl rfl (Nat.le_refl 0) (Nat.le_refl 0) ⟨rfl, hfr159, hfrR159, hH159, rfl, trivial⟩
              first | refine r_if_ne (pc := 143) hX 87 (tgt := 159) rfl (by decide) (⟨by omega, by omega⟩) (fun h143 => ?_) (fun h143 => ?_) | refine r_if_ne_any (pc := 143) hX 87 (tgt := 159) rfl (by decide) ?_ ?_
              · refine r_wk (ls' := [(2, t), (0, p), (2, o), (3, 0), (3, 0)]) ⟨Or.inr rfl, Or.inr rfl, Or.inr rfl, Or.inl rfl, Or.inl rfl, trivial⟩ ?_
                exact (L159  v52 ρ52 (hfr52) (hfrR52) (hH52) )
              · refine r_aload_n (pc := 146) hX 88 rfl rfl ?_
                refine r_iload_n (pc := 147) hX 89 rfl rfl ?_
                refine r_iconst (pc := 148) hX 90 rfl ?_
                refine r_iadd (pc := 149) hX 91 rfl ?_
                refine r_aload_n (pc := 150) hX 92 rfl rfl ?_
                refine r_callV (as := [(0, (p + 1)), (2, o)]) (st := []) (K := 0) (pc := 151) hX 93 rfl mo_X0_chooseFrom ml_X0_45 im_X0_chooseFrom se_X0_chooseFrom (c_X0_chooseFrom1 g ω v52 ρ52 Z hH52 t ht ((p + 1)) o ho (by omega)) rfl rfl rfl (hH52.kd ht (by decide)) (by rw [hRm]; exact ⟨by decide, by decide⟩) (by rw [hRm]; exact ⟨by decide, by decide⟩) (Nat.le_of_ble_eq_true rfl) (fun o151 v151 ρv151 Zv151 hq151 _ => ?_)
                obtain ⟨rfl, hfr151, hfrR151, hH151, rfl, hq151⟩ := hq151
                show wp g X F_X0_chooseFrom 0 0 154 [(2, t), (0, p), (2, o), (0, f), (0, c)] [] v151 ρv151 Z
                refine r_aload_n (pc := 154) hX 94 rfl rfl ?_
                refine r_iload_n (pc := 155) hX 95 rfl rfl ?_
                refine r_callV (as := [(0, p)]) (st := []) (K := 0) (pc := 156) hX 96 rfl mo_X0_adopt ml_X0_68 im_X0_adopt se_X0_adopt (c_X0_adopt g ω v151 ρv151 Z hH151 t ht (p) (by omega)) rfl rfl rfl (hH151.kd ht (by decide)) (by rw [hRm]; exact ⟨by decide, by decide⟩) (by rw [hRm]; exact ⟨by decide, by decide⟩) (Nat.le_of_ble_eq_true rfl) (fun o156 v156 ρv156 Zv156 hq156 _ => ?_)
                obtain ⟨rfl, rfl, hfr156, hH156, rfl, hq156⟩ := hq156
                show wp g X F_X0_chooseFrom 0 0 159 [(2, t), (0, p), (2, o), (0, f), (0, c)] [] v156 ρv151 Z
                refine r_wk (ls' := [(2, t), (0, p), (2, o), (3, 0), (3, 0)]) ⟨Or.inr rfl, Or.inr rfl, Or.inr rfl, Or.inl rfl, Or.inl rfl, trivial⟩ ?_
                exact (L159  v156 ρv151 (((hfr52).tr hfr151 (by decide)).tr hfr156 (by decide)) ((hfrR52).tr hfrR151 (by decide)) (hH156) )
            · refine r_aload_n (pc := 64) hX 38 rfl rfl ?_
              refine r_iload (pc := 65) hX 39 rfl rfl ?_
              refine r_aload_n (pc := 67) hX 40 rfl rfl ?_
              refine r_getR (q := (ρ o 0)) (pc := 68) hX 41 rfl fl_X0_56 rfl (hH52.kd ho (by decide)) ((hfrR52.at ho (by decide) 0).trans (rfl)) ?_
              refine e_getI (y := (v (ρ o 0) 10)) (pc := 71) hX 42 rfl fl_X0_60 rfl (hH52.kd hw2_ (by decide)) ((hfr52.at hw2_ (by decide) 10).trans (rfl)) ?_
              refine r_callV (as := [(0, c), (0, (v (ρ o 0) 10))]) (st := []) (K := 0) (pc := 74) hX 43 rfl mo_X0_isFree ml_X0_75 im_X0_isFree se_X0_isFree (c_X0_isFree g ω v52 ρ52 Z hH52 t ht (c) ((v (ρ o 0) 10)) (by omega) (by omega)) rfl rfl rfl (hH52.kd ht (by decide)) (by rw [hRm]; exact ⟨by decide, by decide⟩) (by rw [hRm]; exact ⟨by decide, by decide⟩) (Nat.le_of_ble_eq_true rfl) (fun o74 v74 ρv74 Zv74 hq74 _ => ?_)
              obtain ⟨rfl, rfl, rfl, r74, rfl, hq74⟩ := hq74
              show wp g X F_X0_chooseFrom 0 0 77 [(2, t), (0, p), (2, o), (0, f), (0, c)] [(0, r74)] v52 ρ52 Z
              have L136 : ∀ (f2 : Int) (v136 : Mv) (ρ136 : Mv) , (FrW ω [29, 30, 31, 32, 33, 34, 35, 36, 37, 38, 41, 43, 44] v v136) → (FrW ω [29] ρ ρ136) → (HT ω v136 ρ136 Z) → (0 ≤ f2 ∧ f2 ≤ 1) → wp g X F_X0_chooseFrom 0 0 136 [(2, t), (0, p), (2, o), (0, f2), (0, c)] [] v136 ρ136 Z := by
                intro f2 v136 ρ136 hfr136 hfrR136 hH136 if2
                refine r_iinc (ls' := [(2, t), (0, p), (2, o), (0, f2), (0, (c + 1))]) (pc := 136) hX 84 rfl rfl (by decide) rfl ?_
                refine r_goto (pc := 139) hX 85 (tgt := 52) rfl (by decide) ?_
                exact (ih52 f2 (c + 1) v136 ρ136 (hfr136) (hfrR136) (hH136) (by omega) (by omega))
              first | refine r_if_eq (pc := 77) hX 44 (tgt := 136) rfl (by decide) (⟨by omega, by omega⟩) (fun h77 => ?_) (fun h77 => ?_) | refine r_if_eq_any (pc := 77) hX 44 (tgt := 136) rfl (by decide) ?_ ?_
              · exact (L136 f v52 ρ52 (hfr52) (hfrR52) (hH52) (by omega) )
              · refine t_getR (q := (ρ t 5)) (pc := 80) hX 45 rfl rfl rfl fl_X0_25 rfl (hH52.kd ht (by decide)) ((hfrR52.at ht (by decide) 5).trans (rfl)) ?_
                have hw80_ : ω (ρ t 5) = 44 := hH.rf ht (by decide) rfl
                refine r_iload_n (pc := 84) hX 47 rfl rfl ?_
                refine r_iload (pc := 85) hX 48 rfl rfl ?_
                refine e_iast (n := 3) (pc := 87) hX 49 rfl (hH52.kd hw80_ (by decide)) (hH52.ln hw80_ (by decide)) (hH52.g4 hw80_ (by decide)) (by omega) (by omega) ?_
                have hH_87 : HT ω (up v52 (ρ t 5) p c) ρ52 Z := hH52.upR hw80_ (by decide) rfl (by omega) (by omega)
                refine r_aload_n (pc := 88) hX 50 rfl rfl ?_
                refine r_iload_n (pc := 89) hX 51 rfl rfl ?_
                refine r_iconst (pc := 90) hX 52 rfl ?_
                refine r_iadd (pc := 91) hX 53 rfl ?_
                refine r_aload_n (pc := 92) hX 54 rfl rfl ?_
                refine r_callV (as := [(0, (p + 1)), (2, o)]) (st := []) (K := 0) (pc := 93) hX 55 rfl mo_X0_chooseFrom ml_X0_45 im_X0_chooseFrom se_X0_chooseFrom (c_X0_chooseFrom1 g ω (up v52 (ρ t 5) p c) ρ52 Z hH_87 t ht ((p + 1)) o ho (by omega)) rfl rfl rfl (hH_87.kd ht (by decide)) (by rw [hRm]; exact ⟨by decide, by decide⟩) (by rw [hRm]; exact ⟨by decide, by decide⟩) (Nat.le_of_ble_eq_true rfl) (fun o93 v93 ρv93 Zv93 hq93 _ => ?_)
                obtain ⟨rfl, hfr93, hfrR93, hH93, rfl, hq93⟩ := hq93
                show wp g X F_X0_chooseFrom 0 0 96 [(2, t), (0, p), (2, o), (0, f), (0, c)] [] v93 ρv93 Z
                refine r_iload_n (pc := 96) hX 56 rfl rfl ?_
                have L127 : ∀ (v127 : Mv) (ρ127 : Mv) , (FrW ω [29, 30, 31, 32, 33, 34, 35, 36, 37, 38, 41, 43, 44] v v127) → (FrW ω [29] ρ ρ127) → (HT ω v127 ρ127 Z) → wp g X F_X0_chooseFrom 0 0 127 [(2, t), (0, p), (2, o), (0, f), (0, c)] [] v127 ρ127 Z := by
                  intro v127 ρ127 hfr127 hfrR127 hH127
                  refine r_iconst (pc := 127) hX 77 rfl ?_
                  refine r_istore_n (ls' := [(2, t), (0, p), (2, o), (0, 1), (0, c)]) (pc := 128) hX 78 rfl (by decide) rfl ?_
                  refine t_getR (q := (ρ t 5)) (pc := 129) hX 79 rfl rfl rfl fl_X0_25 rfl (hH127.kd ht (by decide)) ((hfrR127.at ht (by decide) 5).trans (rfl)) ?_
                  refine r_iload_n (pc := 133) hX 81 rfl rfl ?_
                  refine r_iconst (pc := 134) hX 82 rfl ?_
                  refine e_iast (n := 3) (pc := 135) hX 83 rfl (hH127.kd hw80_ (by decide)) (hH127.ln hw80_ (by decide)) (hH127.g4 hw80_ (by decide)) (by omega) (by omega) ?_
                  have hH_135 : HT ω (up v127 (ρ t 5) p (-1)) ρ127 Z := hH127.upR hw80_ (by decide) rfl (by omega) (by omega)
                  exact (L136 1 (up v127 (ρ t 5) p (-1)) ρ127 ((hfr127).up (r := (ρ t 5)) hw80_ (by decide)) (hfrR127) (hH_135) (by omega) )
                have L122 : wp g X F_X0_chooseFrom 0 0 122 [(2, t), (0, p), (2, o), (0, f), (0, c)] [] v93 ρv93 Z := by
                  refine r_aload_n (pc := 122) hX 74 rfl rfl ?_
                  refine r_iload_n (pc := 123) hX 75 rfl rfl ?_
                  refine r_callV (as := [(0, p)]) (st := []) (K := 0) (pc := 124) hX 76 rfl mo_X0_adopt ml_X0_68 im_X0_adopt se_X0_adopt (c_X0_adopt g ω v93 ρv93 Z hH93 t ht (p) (by omega)) rfl rfl rfl (hH93.kd ht (by decide)) (by rw [hRm]; exact ⟨by decide, by decide⟩) (by rw [hRm]; exact ⟨by decide, by decide⟩) (Nat.le_of_ble_eq_true rfl) (fun o124 v124 ρv124 Zv124 hq124 _ => ?_)
                  obtain ⟨rfl, rfl, hfr124, hH124, rfl, hq124⟩ := hq124
                  show wp g X F_X0_chooseFrom 0 0 127 [(2, t), (0, p), (2, o), (0, f), (0, c)] [] v124 ρv93 Z
                  exact (L127  v124 ρv93 ((((hfr52).up (r := (ρ t 5)) hw80_ (by decide)).tr hfr93 (by decide)).tr hfr124 (by decide)) ((hfrR52).tr hfrR93 (by decide)) (hH124) )
                first | refine r_if_eq (pc := 97) hX 57 (tgt := 122) rfl (by decide) (⟨by omega, by omega⟩) (fun h97 => ?_) (fun h97 => ?_) | refine r_if_eq_any (pc := 97) hX 57 (tgt := 122) rfl (by decide) ?_ ?_
                · exact (L122   )
                · refine t_getR (q := (ρ t 3)) (pc := 100) hX 58 rfl rfl rfl fl_X0_17 rfl (hH93.kd ht (by decide)) ((hfrR93.at ht (by decide) 3).trans ((hfrR52.at ht (by decide) 3).trans (rfl))) ?_
                  have hw100_ : ω (ρ t 3) = 40 := hH.rf ht (by decide) rfl
                  refine r_iload_n (pc := 104) hX 60 rfl rfl ?_
                  refine r_iconst (pc := 105) hX 61 rfl ?_
                  refine r_iadd (pc := 106) hX 62 rfl ?_
                  refine r_aald (q := (ρ (ρ t 3) (p + 1))) (pc := 107) hX 63 20 rfl (hH93.kd hw100_ (by decide)) (by decide) (by decide) rfl rfl (by omega) (by rw [show Z.2.1 (ρ t 3) = 4 from (hH93.ln hw100_ (by decide))]; omega) ((hfrR93.at hw100_ (by decide) (p + 1)).trans ((hfrR52.at hw100_ (by decide) (p + 1)).trans (rfl))) ?_
                  have hw107_ : ω (ρ (ρ t 3) (p + 1)) = 41 := hH.rf hw100_ (by decide) (rf40 ⟨by omega, by omega⟩)
                  refine r_iload_n (pc := 108) hX 64 rfl rfl ?_
                  refine e_lald (y := (v93 (ρ (ρ t 3) (p + 1)) p)) (n := 3) (pc := 109) hX 65 rfl (hH93.kd hw107_ (by decide)) (hH93.ln hw107_ (by decide)) (by omega) (by omega) (rfl) ?_
                  refine t_getR (q := (ρ t 3)) (pc := 110) hX 66 rfl rfl rfl fl_X0_17 rfl (hH93.kd ht (by decide)) ((hfrR93.at ht (by decide) 3).trans ((hfrR52.at ht (by decide) 3).trans (rfl))) ?_
                  refine r_iload_n (pc := 114) hX 68 rfl rfl ?_
                  refine r_aald (q := (ρ (ρ t 3) p)) (pc := 115) hX 69 20 rfl (hH93.kd hw100_ (by decide)) (by decide) (by decide) rfl rfl (by omega) (by rw [show Z.2.1 (ρ t 3) = 4 from (hH93.ln hw100_ (by decide))]; omega) ((hfrR93.at hw100_ (by decide) p).trans ((hfrR52.at hw100_ (by decide) p).trans (rfl))) ?_
                  have hw115_ : ω (ρ (ρ t 3) p) = 41 := hH.rf hw100_ (by decide) (rf40 ⟨by omega, by omega⟩)
                  refine r_iload_n (pc := 116) hX 70 rfl rfl ?_
                  refine e_lald (y := (v93 (ρ (ρ t 3) p) p)) (n := 3) (pc := 117) hX 71 rfl (hH93.kd hw115_ (by decide)) (hH93.ln hw115_ (by decide)) (by omega) (by omega) (rfl) ?_
                  refine r_lcmp_any (pc := 118) hX 72 rfl (fun z118 hz118a hz118b => ?_)
                  first | refine r_if_le (pc := 119) hX 73 (tgt := 127) rfl (by decide) (⟨by omega, by omega⟩) (fun h119 => ?_) (fun h119 => ?_) | refine r_if_le_any (pc := 119) hX 73 (tgt := 127) rfl (by decide) ?_ ?_
                  · exact (L127  v93 ρv93 (((hfr52).up (r := (ρ t 5)) hw80_ (by decide)).tr hfr93 (by decide)) ((hfrR52).tr hfrR93 (by decide)) (hH93) )
                  · exact (L122   )
        exact (L52 _ 0 0 v ρ (FrW.rf) (FrW.rf) (hH) (by omega) (Nat.lt_succ_self _))
      · refine r_aload_n (pc := 33) hX 19 rfl rfl ?_
        refine r_iload_n (pc := 34) hX 20 rfl rfl ?_
        refine r_iconst (pc := 35) hX 21 rfl ?_
        refine r_iadd (pc := 36) hX 22 rfl ?_
        refine r_aload_n (pc := 37) hX 23 rfl rfl ?_
        refine r_callV (as := [(0, (p + 1)), (2, o)]) (st := []) (K := 0) (pc := 38) hX 24 rfl mo_X0_chooseFrom ml_X0_45 im_X0_chooseFrom se_X0_chooseFrom (c_X0_chooseFrom1 g ω v ρ Z hH t ht ((p + 1)) o ho (by omega)) rfl rfl rfl (hH.kd ht (by decide)) (by rw [hRm]; exact ⟨by decide, by decide⟩) (by rw [hRm]; exact ⟨by decide, by decide⟩) (Nat.le_of_ble_eq_true rfl) (fun o38 v38 ρv38 Zv38 hq38 _ => ?_)
        obtain ⟨rfl, hfr38, hfrR38, hH38, rfl, hq38⟩ := hq38
        show wp g X F_X0_chooseFrom 0 0 41 [(2, t), (0, p), (2, o), (3, 0), (3, 0)] [] v38 ρv38 Z
        refine r_aload_n (pc := 41) hX 25 rfl rfl ?_
        refine r_iload_n (pc := 42) hX 26 rfl rfl ?_
        refine r_callV (as := [(0, p)]) (st := []) (K := 0) (pc := 43) hX 27 rfl mo_X0_adopt ml_X0_68 im_X0_adopt se_X0_adopt (c_X0_adopt g ω v38 ρv38 Z hH38 t ht (p) (by omega)) rfl rfl rfl (hH38.kd ht (by decide)) (by rw [hRm]; exact ⟨by decide, by decide⟩) (by rw [hRm]; exact ⟨by decide, by decide⟩) (Nat.le_of_ble_eq_true rfl) (fun o43 v43 ρv43 Zv43 hq43 _ => ?_)
        obtain ⟨rfl, rfl, hfr43, hH43, rfl, hq43⟩ := hq43
        show wp g X F_X0_chooseFrom 0 0 46 [(2, t), (0, p), (2, o), (3, 0), (3, 0)] [] v43 ρv38 Z
        exact r_vret (pc := 46) hX 28 hQ rfl rfl (Nat.le_refl 0) (Nat.le_refl 0) ⟨rfl, ((FrW.rf).tr hfr38 (by decide)).tr hfr43 (by decide), (FrW.rf).tr hfrR38 (by decide), hH43, rfl, trivial⟩
    · exact (L16   )
set_option maxHeartbeats 4000000 in
set_option maxRecDepth 100000 in
theorem c_X0_reckonFor (g : Gp) (ω : Rw) (v ρ : Mv) (Z : Mz) (hH : HT ω v ρ Z) (t : Int) (ht : ω t = 39) (o : Int) (ho : ω o = 22)  : Ok g 10 0 0 F_X0_reckonFor [(2, t), (2, o)] v ρ Z (fun o9 v' ρ' Z' => Z = Z' ∧ FrW ω [29, 30, 31, 32, 33, 34, 35, 36, 37, 38, 39, 41, 43, 44] v v' ∧ FrW ω [29] ρ ρ' ∧ HT ω v' ρ' Z ∧ o9 = none ∧ True) := by
  refine Ok.of mo_X0_reckonFor (Nat.le_of_ble_eq_true rfl) ?_
  intro X hX hRm hxn hQ
  show wp g X F_X0_reckonFor 0 0 0 [(2, t), (2, o)] [] v ρ Z
  refine t_getI (y := (v t 1)) (pc := 0) hX 0 rfl rfl rfl fl_X0_9 rfl (hH.kd ht (by decide)) (rfl) ?_
  refine r_aload_n (pc := 4) hX 2 rfl rfl ?_
  refine e_getI (y := (v o 1)) (pc := 5) hX 3 rfl fl_X0_33 rfl (hH.kd ho (by decide)) (rfl) ?_
  have L50 : ∀ (v50 : Mv) (ρ50 : Mv) , (FrW ω [29, 30, 31, 32, 33, 34, 35, 36, 37, 38, 39, 41, 43, 44] v v50) → (FrW ω [29] ρ ρ50) → (HT ω v50 ρ50 Z) → wp g X F_X0_reckonFor 0 0 50 [(2, t), (2, o)] [] v50 ρ50 Z := by
    intro v50 ρ50 hfr50 hfrR50 hH50
    exact r_vret (pc := 50) hX 26 hQ rfl rfl (Nat.le_refl 0) (Nat.le_refl 0) ⟨rfl, hfr50, hfrR50, hH50, rfl, trivial⟩
  first | refine r_icmp_eq (pc := 8) hX 4 (tgt := 50) rfl (by decide) (⟨by omega, by omega⟩) (⟨by omega, by omega⟩) (fun h8 => ?_) (fun h8 => ?_) | refine r_icmp_eq_any (pc := 8) hX 4 (tgt := 50) rfl (by decide) ?_ ?_
  · exact (L50  v ρ (FrW.rf) (FrW.rf) (hH) )
  · refine r_aload_n (pc := 11) hX 5 rfl rfl ?_
    refine r_getR (q := (ρ o 4)) (pc := 12) hX 6 rfl fl_X0_36 rfl (hH.kd ho (by decide)) (rfl) ?_
    have hw12_ : ω (ρ o 4) = 24 := hH.rf ho (by decide) rfl
    refine r_iconst (pc := 15) hX 7 rfl ?_
    refine t_getR (q := (ρ t 5)) (pc := 16) hX 8 rfl rfl rfl fl_X0_25 rfl (hH.kd ht (by decide)) (rfl) ?_
    have hw16_ : ω (ρ t 5) = 44 := hH.rf ht (by decide) rfl
    refine r_iconst (pc := 20) hX 10 rfl ?_
    refine r_iconst (pc := 21) hX 11 rfl ?_
    refine r_copy (na := 3) (nd := 3) (pc := 22) hX 12 13 3 rfl ml_X0_39 (by decide) (hH.kd hw12_ (by decide)) (hH.kd hw16_ (by decide)) (hH.g4 hw12_ (by decide)) (hH.g4 hw16_ (by decide)) (by decide) (hH.ln hw12_ (by decide)) (hH.ln hw16_ (by decide)) (by decide) (by decide) (by rw [hRm]; exact ⟨by decide, by decide, by decide, by decide⟩) (Nat.le_of_ble_eq_true rfl) ?_
    have hH_22 : HT ω (cpM v (ρ t 5) (ρ o 4) 3) ρ Z := hH.cp hw16_ (by decide) (lo := (-1)) (hi := 3) (fun _ => Or.inl rfl) (fun k _ _ => by have z := hH.rg (k := k) hw12_ (by decide) rfl; omega)
    show wp g X F_X0_reckonFor 0 0 25 [(2, t), (2, o)] [] (cpM v (ρ t 5) (ρ o 4) 3) ρ Z
    refine r_aload_n (pc := 25) hX 13 rfl rfl ?_
    refine r_iconst (pc := 26) hX 14 rfl ?_
    refine r_aload_n (pc := 27) hX 15 rfl rfl ?_
    refine r_callV (as := [(0, 0), (2, o)]) (st := []) (K := 0) (pc := 28) hX 16 rfl mo_X0_chooseFrom ml_X0_45 im_X0_chooseFrom se_X0_chooseFrom (c_X0_chooseFrom0 g ω (cpM v (ρ t 5) (ρ o 4) 3) ρ Z hH_22 t ht (0) o ho (by omega)) rfl rfl rfl (hH_22.kd ht (by decide)) (by rw [hRm]; exact ⟨by decide, by decide⟩) (by rw [hRm]; exact ⟨by decide, by decide⟩) (Nat.le_of_ble_eq_true rfl) (fun o28 v28 ρv28 Zv28 hq28 _ => ?_)
    obtain ⟨rfl, hfr28, hfrR28, hH28, rfl, hq28⟩ := hq28
    show wp g X F_X0_reckonFor 0 0 31 [(2, t), (2, o)] [] v28 ρv28 Z
    refine r_aload_n (pc := 31) hX 17 rfl rfl ?_
    refine t_getR (q := (ρ t 0)) (pc := 32) hX 18 rfl rfl rfl fl_X0_29 rfl (hH28.kd ht (by decide)) ((hfrR28.at ht (by decide) 0).trans (rfl)) ?_
    have hw32_ : ω (ρ t 0) = 29 := hH.rf ht (by decide) rfl
    refine e_getL (y := (v28 (ρ t 0) 7)) (pc := 36) hX 20 rfl fl_X0_49 rfl (hH28.kd hw32_ (by decide)) (rfl) ?_
    refine r_putL (pc := 39) hX 21 rfl fl_X0_55 rfl (fun _ h => by cases h; rfl) (hH28.kd ht (by decide)) (hH28.g4 ht (by decide)) ?_
    have hH_39 : HT ω (up v28 t 2 (v28 (ρ t 0) 7)) ρv28 Z := hH28.up0 ht (by decide) rfl
    show wp g X F_X0_reckonFor 0 0 42 [(2, t), (2, o)] [] (up v28 t 2 (v28 (ρ t 0) 7)) ρv28 Z
    refine r_aload_n (pc := 42) hX 22 rfl rfl ?_
    refine r_aload_n (pc := 43) hX 23 rfl rfl ?_
    refine e_getI (y := (v o 1)) (pc := 44) hX 24 rfl fl_X0_33 rfl (hH_39.kd ho (by decide)) ((up_k (by decide)).trans ((hfr28.at ho (by decide) 1).trans ((congrFun (cpM_ne (rne ho hw16_ (by decide))) 1).trans (rfl)))) ?_
    refine r_putI (pc := 47) hX 25 rfl fl_X0_9 rfl (fun _ h => by cases h; rfl) (hH_39.kd ht (by decide)) (hH_39.g4 ht (by decide)) ?_
    have hH_47 : HT ω (up (up v28 t 2 (v28 (ρ t 0) 7)) t 1 (v o 1)) ρv28 Z := hH_39.up0 ht (by decide) rfl
    show wp g X F_X0_reckonFor 0 0 50 [(2, t), (2, o)] [] (up (up v28 t 2 (v28 (ρ t 0) 7)) t 1 (v o 1)) ρv28 Z
    exact (L50  (up (up v28 t 2 (v28 (ρ t 0) 7)) t 1 (v o 1)) ρv28 (((((FrW.rf).cp (d := (ρ t 5)) hw16_ (by decide)).tr hfr28 (by decide)).up (r := t) ht (by decide)).up (r := t) ht (by decide)) ((FrW.rf).tr hfrR28 (by decide)) (hH_47) )
