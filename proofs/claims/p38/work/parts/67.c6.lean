set_option maxHeartbeats 4000000 in
set_option maxRecDepth 100000 in
theorem c_X10_fillPowers (g : Gp) (ω : Rw) (v ρ : Mv) (Z : Mz) (hH : HT ω v ρ Z) (t : Int) (ht : ω t = 45) (l : Int) (hl : 0 ≤ l ∧ l ≤ 2) : Ok g 1 0 0 F_X10_fillPowers [(2, t), (0, l)] v ρ Z (fun o9 v' ρ' Z' => ρ = ρ' ∧ Z = Z' ∧ FrW ω [55] v v' ∧ HT ω v' ρ Z ∧ o9 = none ∧ True) := by
  refine Ok.of mo_X10_fillPowers (Nat.le_of_ble_eq_true rfl) ?_
  intro X hX hRm hxn hQ
  show wp g X F_X10_fillPowers 0 0 0 [(2, t), (0, l), (3, 0), (3, 0), (3, 0)] [] v ρ Z
  refine r_iconst (pc := 0) hX 0 rfl ?_
  refine r_istore_n (ls' := [(2, t), (0, l), (0, 0), (3, 0), (3, 0)]) (pc := 1) hX 1 rfl (by decide) rfl ?_
  have L2 : ∀ (n2 : Nat) (c : Int) (v2 : Mv) , (FrW ω [55] v v2) → (HT ω v2 ρ Z) → (0 ≤ c ∧ c ≤ 5) → (5 - c).toNat < n2 → wp g X F_X10_fillPowers 0 0 2 [(2, t), (0, l), (0, c), (3, 0), (3, 0)] [] v2 ρ Z := by
    intro n2
    induction n2 with
    | zero => intro c v2 hfr2 hH2 ic hme2; exact absurd hme2 (Nat.not_lt_zero _)
    | succ n2 ih2 =>
      intro c v2 hfr2 hH2 ic hme2
      refine r_iload_n (pc := 2) hX 2 rfl rfl ?_
      refine r_iconst (pc := 3) hX 3 rfl ?_
      first | refine r_icmp_ge (pc := 4) hX 4 (tgt := 67) rfl (by decide) (⟨by omega, by omega⟩) (⟨by omega, by omega⟩) (fun h4 => ?_) (fun h4 => ?_) | refine r_icmp_ge_any (pc := 4) hX 4 (tgt := 67) rfl (by decide) ?_ ?_
      · exact r_vret (pc := 67) hX 44 hQ rfl rfl (Nat.le_refl 0) (Nat.le_refl 0) ⟨rfl, rfl, hfr2, hH2, rfl, trivial⟩
      · refine t_getR (q := (ρ t 16)) (pc := 7) hX 5 rfl rfl rfl fl_X10_49 rfl (hH2.kd ht (by decide)) (rfl) ?_
        have hw7_ : ω (ρ t 16) = 54 := hH.rf ht (by decide) rfl
        refine r_iload_n (pc := 11) hX 7 rfl rfl ?_
        refine r_iconst (pc := 12) hX 8 rfl ?_
        refine r_imul (pc := 13) hX 9 rfl ?_
        refine r_iload_n (pc := 14) hX 10 rfl rfl ?_
        refine r_iadd (pc := 15) hX 11 rfl ?_
        refine r_aald (q := (ρ (ρ t 16) ((l * 5) + c))) (pc := 16) hX 12 20 rfl (hH2.kd hw7_ (by decide)) (by decide) (by decide) rfl rfl (by omega) (by rw [show Z.2.1 (ρ t 16) = 15 from (hH2.ln hw7_ (by decide))]; omega) (rfl) ?_
        have hw16_ : ω (ρ (ρ t 16) ((l * 5) + c)) = 55 := hH.rf hw7_ (by decide) (rf54 ⟨by omega, by omega⟩)
        refine r_astore_n (ls' := [(2, t), (0, l), (0, c), (2, (ρ (ρ t 16) ((l * 5) + c))), (3, 0)]) (pc := 17) hX 13 rfl (by decide) rfl ?_
        refine r_aload_n (pc := 18) hX 14 rfl rfl ?_
        refine r_iconst (pc := 19) hX 15 rfl ?_
        refine r_lconst (pc := 20) hX 16 rfl ?_
        show wp g X F_X10_fillPowers 0 0 21 [(2, t), (0, l), (0, c), (2, (ρ (ρ t 16) ((l * 5) + c))), (3, 0)] [(1, 1), (0, 0), (2, (ρ (ρ t 16) ((l * 5) + c)))] v2 ρ Z
        refine e_last (n := 13) (pc := 21) hX 17 rfl (hH2.kd hw16_ (by decide)) (hH2.ln hw16_ (by decide)) (hH2.g4 hw16_ (by decide)) (by omega) (by omega) ?_
        have hH_21 : HT ω (up v2 (ρ (ρ t 16) ((l * 5) + c)) 0 1) ρ Z := hH2.up0 hw16_ (by decide) rfl
        refine r_iconst (pc := 22) hX 18 rfl ?_
        refine r_istore (ls' := [(2, t), (0, l), (0, c), (2, (ρ (ρ t 16) ((l * 5) + c))), (0, 1)]) (pc := 23) hX 19 rfl (by decide) rfl ?_
        have L25 : ∀ (n25 : Nat) (n : Int) (v25 : Mv) , (FrW ω [55] v v25) → (HT ω v25 ρ Z) → (1 ≤ n ∧ n ≤ 13) → (13 - n).toNat < n25 → wp g X F_X10_fillPowers 0 0 25 [(2, t), (0, l), (0, c), (2, (ρ (ρ t 16) ((l * 5) + c))), (0, n)] [] v25 ρ Z := by
          intro n25
          induction n25 with
          | zero => intro n v25 hfr25 hH25 in_ hme25; exact absurd hme25 (Nat.not_lt_zero _)
          | succ n25 ih25 =>
            intro n v25 hfr25 hH25 in_ hme25
            refine r_iload (pc := 25) hX 20 rfl rfl ?_
            refine r_bipush (pc := 27) hX 21 rfl (by decide) ?_
            first | refine r_icmp_gt (pc := 29) hX 22 (tgt := 61) rfl (by decide) (⟨by omega, by omega⟩) (⟨by omega, by omega⟩) (fun h29 => ?_) (fun h29 => ?_) | refine r_icmp_gt_any (pc := 29) hX 22 (tgt := 61) rfl (by decide) ?_ ?_
            · refine r_iinc (ls' := [(2, t), (0, l), (0, (c + 1)), (2, (ρ (ρ t 16) ((l * 5) + c))), (0, n)]) (pc := 61) hX 42 rfl rfl (by decide) rfl ?_
              refine r_goto (pc := 64) hX 43 (tgt := 2) rfl (by decide) ?_
              refine r_wk (ls' := [(2, t), (0, l), (0, (c + 1)), (3, 0), (3, 0)]) ⟨Or.inr rfl, Or.inr rfl, Or.inr rfl, Or.inl rfl, Or.inl rfl, trivial⟩ ?_
              exact (ih2 (c + 1) v25 (hfr25) (hH25) (by omega) (by omega))
            · refine r_aload_n (pc := 32) hX 23 rfl rfl ?_
              refine r_iload (pc := 33) hX 24 rfl rfl ?_
              refine r_aload_n (pc := 35) hX 25 rfl rfl ?_
              refine r_iload (pc := 36) hX 26 rfl rfl ?_
              refine r_iconst (pc := 38) hX 27 rfl ?_
              refine r_isub (pc := 39) hX 28 rfl ?_
              refine e_lald (y := (v25 (ρ (ρ t 16) ((l * 5) + c)) (n - 1))) (n := 13) (pc := 40) hX 29 rfl (hH25.kd hw16_ (by decide)) (hH25.ln hw16_ (by decide)) (by omega) (by omega) (rfl) ?_
              refine t_getR (q := (ρ t 0)) (pc := 41) hX 30 rfl rfl rfl fl_X10_61 rfl (hH25.kd ht (by decide)) (rfl) ?_
              have hw41_ : ω (ρ t 0) = 5 := hH.rf ht (by decide) rfl
              refine r_getR (q := (ρ (ρ t 0) 5)) (pc := 45) hX 32 rfl fl_X10_141 rfl (hH25.kd hw41_ (by decide)) (rfl) ?_
              have hw45_ : ω (ρ (ρ t 0) 5) = 12 := hH.rf hw41_ (by decide) rfl
              refine r_iload_n (pc := 48) hX 33 rfl rfl ?_
              refine r_aald (q := (ρ (ρ (ρ t 0) 5) l)) (pc := 49) hX 34 19 rfl (hH25.kd hw45_ (by decide)) (by decide) (by decide) rfl rfl (by omega) (by rw [show Z.2.1 (ρ (ρ t 0) 5) = 3 from (hH25.ln hw45_ (by decide))]; omega) (rfl) ?_
              have hw49_ : ω (ρ (ρ (ρ t 0) 5) l) = 13 := hH.rf hw45_ (by decide) (rf12 ⟨by omega, by omega⟩)
              refine r_iload_n (pc := 50) hX 35 rfl rfl ?_
              refine e_iald (y := (v (ρ (ρ (ρ t 0) 5) l) c)) (n := 5) (pc := 51) hX 36 rfl (hH25.kd hw49_ (by decide)) (hH25.ln hw49_ (by decide)) (by omega) (by omega) ((hfr25.at hw49_ (by decide) c).trans (rfl)) ?_
              have hb51 : 0 ≤ (v (ρ (ρ (ρ t 0) 5) l) c) ∧ (v (ρ (ρ (ρ t 0) 5) l) c) ≤ 12 := hH.rg hw49_ (by decide) rfl
              refine r_i2l (pc := 52) hX 37 rfl ⟨by omega, by omega⟩ ?_
              refine r_lmul (pc := 53) hX 38 rfl ?_
              refine e_last (n := 13) (pc := 54) hX 39 rfl (hH25.kd hw16_ (by decide)) (hH25.ln hw16_ (by decide)) (hH25.g4 hw16_ (by decide)) (by omega) (by omega) ?_
              have hH_54 : HT ω (up v25 (ρ (ρ t 16) ((l * 5) + c)) n ((v25 (ρ (ρ t 16) ((l * 5) + c)) (n - 1)) * (v (ρ (ρ (ρ t 0) 5) l) c))) ρ Z := hH25.up0 hw16_ (by decide) rfl
              refine r_iinc (ls' := [(2, t), (0, l), (0, c), (2, (ρ (ρ t 16) ((l * 5) + c))), (0, (n + 1))]) (pc := 55) hX 40 rfl rfl (by decide) rfl ?_
              refine r_goto (pc := 58) hX 41 (tgt := 25) rfl (by decide) ?_
              exact (ih25 (n + 1) (up v25 (ρ (ρ t 16) ((l * 5) + c)) n ((v25 (ρ (ρ t 16) ((l * 5) + c)) (n - 1)) * (v (ρ (ρ (ρ t 0) 5) l) c))) ((hfr25).up (r := (ρ (ρ t 16) ((l * 5) + c))) hw16_ (by decide)) (hH_54) (by omega) (by omega))
        exact (L25 _ 1 (up v2 (ρ (ρ t 16) ((l * 5) + c)) 0 1) ((hfr2).up (r := (ρ (ρ t 16) ((l * 5) + c))) hw16_ (by decide)) (hH_21) (by omega) (Nat.lt_succ_self _))
  exact (L2 _ 0 v (FrW.rf) (hH) (by omega) (Nat.lt_succ_self _))
set_option maxHeartbeats 4000000 in
set_option maxRecDepth 100000 in
theorem c_X10_limitOf (g : Gp) (ω : Rw) (v ρ : Mv) (Z : Mz) (hH : HT ω v ρ Z) (t : Int) (ht : ω t = 45) (c : Int) (hc : 0 ≤ c ∧ c ≤ 3) (hns : ∀ j, 0 ≤ j → j < v (ρ t 0) 10 → v (ρ t 12) j < v (ρ t 0) 11) (hhp : 0 ≤ v (ρ t 7) c → v (ρ t 7) c < v (ρ t 0) 10) : Ok g 2 0 0 F_X10_limitOf [(2, t), (0, c)] v ρ Z (fun o9 v' ρ' Z' => ρ = ρ' ∧ Z = Z' ∧ v = v' ∧ ∃ r : Int, o9 = some (0, r) ∧ (-11 ≤ r ∧ r ≤ 12 ∧ (0 ≤ v (ρ t 7) c → r * (v (ρ (ρ t 0) 1)) c ≤ 8))) := by
  refine Ok.of mo_X10_limitOf (Nat.le_of_ble_eq_true rfl) ?_
  intro X hX hRm hxn hQ
  show wp g X F_X10_limitOf 0 0 0 [(2, t), (0, c), (3, 0)] [] v ρ Z
  refine t_getR (q := (ρ t 0)) (pc := 0) hX 0 rfl rfl rfl fl_X10_61 rfl (hH.kd ht (by decide)) (rfl) ?_
  have hw0_ : ω (ρ t 0) = 5 := hH.rf ht (by decide) rfl
  refine r_iload_n (pc := 4) hX 2 rfl rfl ?_
  refine r_callV (as := [(0, c)]) (st := []) (K := 4) (pc := 5) hX 3 rfl mo_X4_hasColour ml_X10_99 im_X4_hasColour se_X4_hasColour (c_X4_hasColour g ω v ρ Z hH (ρ t 0) hw0_ (c) (by omega)) rfl rfl rfl (hH.kd hw0_ (by decide)) (by rw [hRm]; exact ⟨by decide, by decide⟩) (by rw [hRm]; exact ⟨by decide, by decide⟩) (Nat.le_of_ble_eq_true rfl) (fun o5 v5 ρv5 Zv5 hq5 _ => ?_)
  obtain ⟨rfl, rfl, rfl, r5, rfl, hq5⟩ := hq5
  show wp g X F_X10_limitOf 0 0 8 [(2, t), (0, c), (3, 0)] [(0, r5)] v ρ Z
  first | refine r_if_eq (pc := 8) hX 4 (tgt := 23) rfl (by decide) (⟨by omega, by omega⟩) (fun h8 => ?_) (fun h8 => ?_) | refine r_if_eq_any (pc := 8) hX 4 (tgt := 23) rfl (by decide) ?_ ?_
  · refine r_iconst (pc := 23) hX 11 rfl ?_
    exact r_iret (pc := 24) hX 12 hQ rfl rfl (Nat.le_refl 0) (Nat.le_refl 0) ⟨rfl, rfl, rfl, 0, rfl, (by omega)⟩
  · refine t_getR (q := (ρ t 0)) (pc := 11) hX 5 rfl rfl rfl fl_X10_61 rfl (hH.kd ht (by decide)) (rfl) ?_
    refine r_getR (q := (ρ (ρ t 0) 2)) (pc := 15) hX 7 rfl fl_X10_145 rfl (hH.kd hw0_ (by decide)) (rfl) ?_
    have hw15_ : ω (ρ (ρ t 0) 2) = 10 := hH.rf hw0_ (by decide) rfl
    refine r_iload_n (pc := 18) hX 8 rfl rfl ?_
    refine e_zald (y := (v (ρ (ρ t 0) 2) c)) (n := 5) (pc := 19) hX 9 rfl (hH.kd hw15_ (by decide)) (hH.ln hw15_ (by decide)) (by omega) (by omega) (rfl) (fun hb19a hb19b => ?_)
    first | refine r_if_eq (pc := 20) hX 10 (tgt := 25) rfl (by decide) (⟨by omega, by omega⟩) (fun h20 => ?_) (fun h20 => ?_) | refine r_if_eq_any (pc := 20) hX 10 (tgt := 25) rfl (by decide) ?_ ?_
    · refine t_getR (q := (ρ t 7)) (pc := 25) hX 13 rfl rfl rfl fl_X10_21 rfl (hH.kd ht (by decide)) (rfl) ?_
      have hw25_ : ω (ρ t 7) = 46 := hH.rf ht (by decide) rfl
      refine r_iload_n (pc := 29) hX 15 rfl rfl ?_
      refine e_iald (y := (v (ρ t 7) c)) (n := 5) (pc := 30) hX 16 rfl (hH.kd hw25_ (by decide)) (hH.ln hw25_ (by decide)) (by omega) (by omega) (rfl) ?_
      have hb30 : (-1) ≤ (v (ρ t 7) c) ∧ (v (ρ t 7) c) ≤ 2 := hH.rg hw25_ (by decide) rfl
      obtain ⟨p, hp_e⟩ : ∃ z : Int, z = (v (ρ t 7) c) := ⟨_, rfl⟩
      rw [← hp_e]
      refine r_istore_n (ls' := [(2, t), (0, c), (0, p)]) (pc := 31) hX 17 rfl (by decide) rfl ?_
      refine r_iload_n (pc := 32) hX 18 rfl rfl ?_
      refine r_iconst (pc := 33) hX 19 rfl ?_
      first | refine r_icmp_eq (pc := 34) hX 20 (tgt := 49) rfl (by decide) (⟨by omega, by omega⟩) (⟨by omega, by omega⟩) (fun h34 => ?_) (fun h34 => ?_) | refine r_icmp_eq_any (pc := 34) hX 20 (tgt := 49) rfl (by decide) ?_ ?_
      · refine r_bipush (pc := 49) hX 27 rfl (by decide) ?_
        refine r_goto (pc := 51) hX 28 (tgt := 80) rfl (by decide) ?_
        exact r_iret (pc := 80) hX 45 hQ rfl rfl (Nat.le_refl 0) (Nat.le_refl 0) ⟨rfl, rfl, rfl, 12, rfl, (by omega)⟩
      · refine t_getR (q := (ρ t 0)) (pc := 37) hX 21 rfl rfl rfl fl_X10_61 rfl (hH.kd ht (by decide)) (rfl) ?_
        refine r_getR (q := (ρ (ρ t 0) 1)) (pc := 41) hX 23 rfl fl_X10_149 rfl (hH.kd hw0_ (by decide)) (rfl) ?_
        have hw41_ : ω (ρ (ρ t 0) 1) = 9 := hH.rf hw0_ (by decide) rfl
        refine r_iload_n (pc := 44) hX 24 rfl rfl ?_
        refine e_iald (y := (v (ρ (ρ t 0) 1) c)) (n := 5) (pc := 45) hX 25 rfl (hH.kd hw41_ (by decide)) (hH.ln hw41_ (by decide)) (by omega) (by omega) (rfl) ?_
        have hb45 : 0 ≤ (v (ρ (ρ t 0) 1) c) ∧ (v (ρ (ρ t 0) 1) c) ≤ 3 := hH.rg hw41_ (by decide) rfl
        first | refine r_if_gt (pc := 46) hX 26 (tgt := 54) rfl (by decide) (⟨by omega, by omega⟩) (fun h46 => ?_) (fun h46 => ?_) | refine r_if_gt_any (pc := 46) hX 26 (tgt := 54) rfl (by decide) ?_ ?_
        · refine t_getR (q := (ρ t 0)) (pc := 54) hX 29 rfl rfl rfl fl_X10_61 rfl (hH.kd ht (by decide)) (rfl) ?_
          refine e_getI (y := (v (ρ t 0) 11)) (pc := 58) hX 31 rfl fl_X10_111 rfl (hH.kd hw0_ (by decide)) (rfl) ?_
          have hb58 : 1 ≤ (v (ρ t 0) 11) ∧ (v (ρ t 0) 11) ≤ 9 := hH.rg hw0_ (by decide) rfl
          refine r_iconst (pc := 61) hX 32 rfl ?_
          refine r_isub (pc := 62) hX 33 rfl ?_
          refine t_getR (q := (ρ t 12)) (pc := 63) hX 34 rfl rfl rfl fl_X10_34 rfl (hH.kd ht (by decide)) (rfl) ?_
          have hw63_ : ω (ρ t 12) = 50 := hH.rf ht (by decide) rfl
          refine r_iload_n (pc := 67) hX 36 rfl rfl ?_
          refine e_iald (y := (v (ρ t 12) p)) (n := 3) (pc := 68) hX 37 rfl (hH.kd hw63_ (by decide)) (hH.ln hw63_ (by decide)) (by omega) (by omega) (rfl) ?_
          have hb68 : 0 ≤ (v (ρ t 12) p) ∧ (v (ρ t 12) p) ≤ 11 := hH.rg hw63_ (by decide) rfl
          have hb68b := hns p (by omega) (by omega)
          refine r_isub (pc := 69) hX 38 rfl ?_
          refine t_getR (q := (ρ t 0)) (pc := 70) hX 39 rfl rfl rfl fl_X10_61 rfl (hH.kd ht (by decide)) (rfl) ?_
          refine r_getR (q := (ρ (ρ t 0) 1)) (pc := 74) hX 41 rfl fl_X10_149 rfl (hH.kd hw0_ (by decide)) (rfl) ?_
          refine r_iload_n (pc := 77) hX 42 rfl rfl ?_
          refine e_iald (y := (v (ρ (ρ t 0) 1) c)) (n := 5) (pc := 78) hX 43 rfl (hH.kd hw41_ (by decide)) (hH.ln hw41_ (by decide)) (by omega) (by omega) (rfl) ?_
          have dm := divmul (x := v (ρ t 0) 11 - 1 - v (ρ t 12) p) (y := v (ρ (ρ t 0) 1) c) (by omega) (by omega)
          refine r_idiv (pc := 79) hX 44 rfl (⟨by omega, by omega⟩) (by omega) (⟨by omega, by omega⟩) (by omega) ?_
          exact r_iret (pc := 80) hX 45 hQ rfl rfl (Nat.le_refl 0) (Nat.le_refl 0) ⟨rfl, rfl, rfl, ((((v (ρ t 0) 11) - 1) - (v (ρ t 12) p)) / (v (ρ (ρ t 0) 1) c)), rfl, (by omega)⟩
        · refine r_bipush (pc := 49) hX 27 rfl (by decide) ?_
          refine r_goto (pc := 51) hX 28 (tgt := 80) rfl (by decide) ?_
          exact r_iret (pc := 80) hX 45 hQ rfl rfl (Nat.le_refl 0) (Nat.le_refl 0) ⟨rfl, rfl, rfl, 12, rfl, (by omega)⟩
    · refine r_iconst (pc := 23) hX 11 rfl ?_
      exact r_iret (pc := 24) hX 12 hQ rfl rfl (Nat.le_refl 0) (Nat.le_refl 0) ⟨rfl, rfl, rfl, 0, rfl, (by omega)⟩
set_option maxHeartbeats 4000000 in
set_option maxRecDepth 100000 in
theorem c_X10_setTo (g : Gp) (ω : Rw) (v ρ : Mv) (Z : Mz) (hH : HT ω v ρ Z) (t : Int) (ht : ω t = 45) (o : Int) (ho : ω o = 22) (hno : v o 2 < v (ρ o 0) 12) (hns : ∀ j, 0 ≤ j → j < v (ρ o 0) 10 → v (ρ o 6) j < v (ρ o 0) 11) : Ok g 4 0 0 F_X10_setTo [(2, t), (2, o)] v ρ Z (fun o9 v' ρ' Z' => Z = Z' ∧ FrW ω [45, 46, 47, 48, 49, 50, 53, 55] v v' ∧ FrW ω [45] ρ ρ' ∧ HT ω v' ρ' Z ∧ o9 = none ∧ (ρ' t 0 = ρ o 0) ∧ (∀ k, k ≠ 0 → ρ' t k = ρ t k) ∧ (InjI (v' (ρ t 7))) ∧ (LimI (v' (ρ t 7)) (v' (ρ t 11)) (v (ρ (ρ o 0) 1)))) := by
  refine Ok.of mo_X10_setTo (Nat.le_of_ble_eq_true rfl) ?_
  intro X hX hRm hxn hQ
  show wp g X F_X10_setTo 0 0 0 [(2, t), (2, o), (3, 0)] [] v ρ Z
  have hw7 : ω (ρ t 7) = 46 := hH.rf ht (by decide) rfl
  have hw8 : ω (ρ t 8) = 47 := hH.rf ht (by decide) rfl
  have hw10 : ω (ρ t 10) = 48 := hH.rf ht (by decide) rfl
  have hw11 : ω (ρ t 11) = 49 := hH.rf ht (by decide) rfl
  have hw12 : ω (ρ t 12) = 50 := hH.rf ht (by decide) rfl
  have hwr : ω (ρ o 0) = 5 := hH.rf ho (by decide) rfl
  have hg8 : 0 ≤ v (ρ o 0) 8 ∧ v (ρ o 0) 8 ≤ 4 := hH.rg hwr (by decide) rfl
  have hg10 : 0 ≤ v (ρ o 0) 10 ∧ v (ρ o 0) 10 ≤ 3 := hH.rg hwr (by decide) rfl
  refine r_aload_n (pc := 0) hX 0 rfl rfl ?_
  refine r_aload_n (pc := 1) hX 1 rfl rfl ?_
  refine r_getR (q := (ρ o 0)) (pc := 2) hX 2 rfl fl_X10_92 rfl (hH.kd ho (by decide)) (rfl) ?_
  have hw2_ : ω (ρ o 0) = 5 := hH.rf ho (by decide) rfl
  refine r_putR (pc := 5) hX 3 rfl fl_X10_61 rfl (fun _ h => by cases h; rfl) (hH.kd ht (by decide)) (hH.g4 ht (by decide)) ?_
  have hH_5 : HT ω v (up ρ t 0 (ρ o 0)) Z := hH.uf ht rfl hw2_ rfl
  show wp g X F_X10_setTo 0 0 8 [(2, t), (2, o), (3, 0)] [] v (up ρ t 0 (ρ o 0)) Z
  refine r_aload_n (pc := 8) hX 4 rfl rfl ?_
  refine t_getR (q := (ρ o 0)) (pc := 9) hX 5 rfl rfl rfl fl_X10_61 rfl (hH_5.kd ht (by decide)) (up_s _ _ _ _) ?_
  refine e_getI (y := (v (ρ o 0) 12)) (pc := 13) hX 7 rfl fl_X10_93 rfl (hH_5.kd hw2_ (by decide)) (rfl) ?_
  have hb13 : 1 ≤ (v (ρ o 0) 12) ∧ (v (ρ o 0) 12) ≤ 12 := hH.rg hw2_ (by decide) rfl
  refine r_aload_n (pc := 16) hX 8 rfl rfl ?_
  refine e_getI (y := (v o 2)) (pc := 17) hX 9 rfl fl_X10_96 rfl (hH_5.kd ho (by decide)) (rfl) ?_
  have hb17 : 0 ≤ (v o 2) ∧ (v o 2) ≤ 12 := hH.rg ho (by decide) rfl
  refine r_isub (pc := 20) hX 10 rfl ?_
  refine r_putI (pc := 21) hX 11 rfl fl_X10_72 rfl (fun _ h => by cases h; rfl) (hH_5.kd ht (by decide)) (hH_5.g4 ht (by decide)) ?_
  have hH_21 : HT ω (up v t 6 ((v (ρ o 0) 12) - (v o 2))) (up ρ t 0 (ρ o 0)) Z := hH_5.upR ht (by decide) rfl (by omega) (by omega)
  show wp g X F_X10_setTo 0 0 24 [(2, t), (2, o), (3, 0)] [] (up v t 6 ((v (ρ o 0) 12) - (v o 2))) (up ρ t 0 (ρ o 0)) Z
  refine r_aload_n (pc := 24) hX 12 rfl rfl ?_
  refine r_iconst (pc := 25) hX 13 rfl ?_
  refine r_putI (pc := 26) hX 14 rfl fl_X10_75 rfl (fun _ h => by cases h; rfl) (hH_21.kd ht (by decide)) (hH_21.g4 ht (by decide)) ?_
  have hH_26 : HT ω (up (up v t 6 ((v (ρ o 0) 12) - (v o 2))) t 9 0) (up ρ t 0 (ρ o 0)) Z := hH_21.upR ht (by decide) rfl (by omega) (by omega)
  show wp g X F_X10_setTo 0 0 29 [(2, t), (2, o), (3, 0)] [] (up (up v t 6 ((v (ρ o 0) 12) - (v o 2))) t 9 0) (up ρ t 0 (ρ o 0)) Z
  refine r_iconst (pc := 29) hX 15 rfl ?_
  refine r_istore_n (ls' := [(2, t), (2, o), (0, 0)]) (pc := 30) hX 16 rfl (by decide) rfl ?_
  have L31 : ∀ (n31 : Nat) (c : Int) (v31 : Mv) , (FrW ω [45, 46, 47, 48, 49, 50, 53, 55] v v31) → (HT ω v31 (up ρ t 0 (ρ o 0)) Z) → (0 ≤ c ∧ c ≤ 5) → (∀ j, 0 ≤ j → j < c → 0 ≤ v31 (ρ t 7) j → v (ρ o 4) (v31 (ρ t 7) j) = j ∧ v31 (ρ t 7) j < v (ρ o 0) 10) → (5 - c).toNat < n31 → wp g X F_X10_setTo 0 0 31 [(2, t), (2, o), (0, c)] [] v31 (up ρ t 0 (ρ o 0)) Z := by
    intro n31
    induction n31 with
    | zero => intro c v31 hfr31 hH31 ic ih hme31; exact absurd hme31 (Nat.not_lt_zero _)
    | succ n31 ih31 =>
      intro c v31 hfr31 hH31 ic ih hme31
      refine r_iload_n (pc := 31) hX 17 rfl rfl ?_
      refine r_iconst (pc := 32) hX 18 rfl ?_
      first | refine r_icmp_ge (pc := 33) hX 19 (tgt := 117) rfl (by decide) (⟨by omega, by omega⟩) (⟨by omega, by omega⟩) (fun h33 => ?_) (fun h33 => ?_) | refine r_icmp_ge_any (pc := 33) hX 19 (tgt := 117) rfl (by decide) ?_ ?_
      · refine r_iconst (pc := 117) hX 63 rfl ?_
        refine r_istore_n (ls' := [(2, t), (2, o), (0, 0)]) (pc := 118) hX 64 rfl (by decide) rfl ?_
        have L119 : ∀ (n119 : Nat) (i : Int) (v119 : Mv) , (FrW ω [45, 46, 47, 48, 49, 50, 53, 55] v v119) → (HT ω v119 (up ρ t 0 (ρ o 0)) Z) → (0 ≤ i ∧ i ≤ 3) → (v119 (ρ t 7) = v31 (ρ t 7)) → (∀ j, 0 ≤ j → j < i → v119 (ρ t 12) j = v (ρ o 6) j) → (3 - i).toNat < n119 → wp g X F_X10_setTo 0 0 119 [(2, t), (2, o), (0, i)] [] v119 (up ρ t 0 (ρ o 0)) Z := by
          intro n119
          induction n119 with
          | zero => intro i v119 hfr119 hH119 ii e7 is hme119; exact absurd hme119 (Nat.not_lt_zero _)
          | succ n119 ih119 =>
            intro i v119 hfr119 hH119 ii e7 is hme119
            refine r_iload_n (pc := 119) hX 65 rfl rfl ?_
            refine r_iconst (pc := 120) hX 66 rfl ?_
            first | refine r_icmp_ge (pc := 121) hX 67 (tgt := 181) rfl (by decide) (⟨by omega, by omega⟩) (⟨by omega, by omega⟩) (fun h121 => ?_) (fun h121 => ?_) | refine r_icmp_ge_any (pc := 121) hX 67 (tgt := 181) rfl (by decide) ?_ ?_
            · refine r_iconst (pc := 181) hX 100 rfl ?_
              refine r_istore_n (ls' := [(2, t), (2, o), (0, 0)]) (pc := 182) hX 101 rfl (by decide) rfl ?_
              have L183 : ∀ (n183 : Nat) (c : Int) (v183 : Mv) , (FrW ω [45, 46, 47, 48, 49, 50, 53, 55] v v183) → (HT ω v183 (up ρ t 0 (ρ o 0)) Z) → (0 ≤ c ∧ c ≤ 4) → (v183 (ρ t 7) = v31 (ρ t 7)) → (v183 (ρ t 12) = v119 (ρ t 12)) → (∀ j, 0 ≤ j → j < c → 0 ≤ v31 (ρ t 7) j → v183 (ρ t 11) j * v (ρ (ρ o 0) 1) j ≤ 8) → (4 - c).toNat < n183 → wp g X F_X10_setTo 0 0 183 [(2, t), (2, o), (0, c)] [] v183 (up ρ t 0 (ρ o 0)) Z := by
                intro n183
                induction n183 with
                | zero => intro c v183 hfr183 hH183 ic e7 e12 il hme183; exact absurd hme183 (Nat.not_lt_zero _)
                | succ n183 ih183 =>
                  intro c v183 hfr183 hH183 ic e7 e12 il hme183
                  refine r_iload_n (pc := 183) hX 102 rfl rfl ?_
                  refine r_iconst (pc := 184) hX 103 rfl ?_
                  first | refine r_icmp_ge (pc := 185) hX 104 (tgt := 205) rfl (by decide) (⟨by omega, by omega⟩) (⟨by omega, by omega⟩) (fun h185 => ?_) (fun h185 => ?_) | refine r_icmp_ge_any (pc := 185) hX 104 (tgt := 205) rfl (by decide) ?_ ?_
                  · refine r_iconst (pc := 205) hX 114 rfl ?_
                    refine r_istore_n (ls' := [(2, t), (2, o), (0, 0)]) (pc := 206) hX 115 rfl (by decide) rfl ?_
                    have L207 : ∀ (n207 : Nat) (l : Int) (v207 : Mv) , (FrW ω [45, 46, 47, 48, 49, 50, 53, 55] v v207) → (HT ω v207 (up ρ t 0 (ρ o 0)) Z) → (0 ≤ l ∧ l ≤ 3) → (v207 (ρ t 7) = v31 (ρ t 7)) → (v207 (ρ t 11) = v183 (ρ t 11)) → (3 - l).toNat < n207 → wp g X F_X10_setTo 0 0 207 [(2, t), (2, o), (0, l)] [] v207 (up ρ t 0 (ρ o 0)) Z := by
                      intro n207
                      induction n207 with
                      | zero => intro l v207 hfr207 hH207 il9 e7 e11 hme207; exact absurd hme207 (Nat.not_lt_zero _)
                      | succ n207 ih207 =>
                        intro l v207 hfr207 hH207 il9 e7 e11 hme207
                        refine r_iload_n (pc := 207) hX 116 rfl rfl ?_
                        refine t_getR (q := (ρ o 0)) (pc := 208) hX 117 rfl rfl rfl fl_X10_61 rfl (hH207.kd ht (by decide)) (up_s _ _ _ _) ?_
                        refine r_callV (as := []) (st := [(0, l)]) (K := 4) (pc := 212) hX 119 rfl mo_X4_rows ml_X10_78 im_X4_rows se_X4_rows (c_X4_rows g ω v207 (up ρ t 0 (ρ o 0)) Z hH207 (ρ o 0) hw2_ ) rfl rfl rfl (hH207.kd hw2_ (by decide)) (by rw [hRm]; exact ⟨by decide, by decide⟩) (by rw [hRm]; exact ⟨by decide, by decide⟩) (Nat.le_of_ble_eq_true rfl) (fun o212 v212 ρv212 Zv212 hq212 _ => ?_)
                        obtain ⟨rfl, rfl, rfl, r212, rfl, hq212⟩ := hq212
                        try rw [show (v207 (ρ o 0) 9) = (v (ρ o 0) 9) from (hfr207.at hw2_ (by decide) 9).trans (rfl)] at hq212
                        show wp g X F_X10_setTo 0 0 215 [(2, t), (2, o), (0, l)] [(0, r212), (0, l)] v207 (up ρ t 0 (ρ o 0)) Z
                        first | refine r_icmp_ge (pc := 215) hX 120 (tgt := 240) rfl (by decide) (⟨by omega, by omega⟩) (⟨by omega, by omega⟩) (fun h215 => ?_) (fun h215 => ?_) | refine r_icmp_ge_any (pc := 215) hX 120 (tgt := 240) rfl (by decide) ?_ ?_
                        · refine r_aload_n (pc := 240) hX 133 rfl rfl ?_
                          refine r_aload_n (pc := 241) hX 134 rfl rfl ?_
                          refine r_callV (as := []) (st := [(2, t)]) (K := 9) (pc := 242) hX 135 rfl mo_X9_allWeights ml_X10_130 im_X9_allWeights se_X9_allWeights (c_X9_allWeights g ω v207 (up ρ t 0 (ρ o 0)) Z hH207 o ho ) rfl rfl rfl (hH207.kd ho (by decide)) (by rw [hRm]; exact ⟨by decide, by decide⟩) (by rw [hRm]; exact ⟨by decide, by decide⟩) (Nat.le_of_ble_eq_true rfl) (fun o242 v242 ρv242 Zv242 hq242 _ => ?_)
                          obtain ⟨rfl, rfl, rfl, r242, rfl, hq242⟩ := hq242
                          show wp g X F_X10_setTo 0 0 245 [(2, t), (2, o), (0, l)] [(1, r242), (2, t)] v207 (up ρ t 0 (ρ o 0)) Z
                          refine r_getsTN (pc := 245) hX 136 rfl gs_X10_134 (by rw [hH207.2.2.2.2.2.2.1]; decide) ?_
                          refine t_getI (y := (v207 t 6)) (pc := 248) hX 137 rfl rfl rfl fl_X10_72 rfl (hH207.kd ht (by decide)) (rfl) ?_
                          have hb248 : 0 ≤ (v207 t 6) ∧ (v207 t 6) ≤ 12 := hH207.rg ht (by decide) rfl
                          refine e_lald (y := (v 1 (v207 t 6))) (n := 13) (pc := 252) hX 139 rfl hH207.2.2.2.2.2.2.1 hH207.2.2.2.2.2.2.2.1 (by omega) (by omega) ((hfr207.at hH207.w1 (by decide) (v207 t 6)).trans (rfl)) ?_
                          have hb252 := hH.tw (v207 t 6) (by omega) (by omega)
                          refine r_lmul (pc := 253) hX 140 rfl ?_
                          refine r_putL (pc := 254) hX 141 rfl fl_X10_137 rfl (fun _ h => by cases h; rfl) (hH207.kd ht (by decide)) (hH207.g4 ht (by decide)) ?_
                          have hH_254 : HT ω (up v207 t 3 (r242 * (v 1 (v207 t 6)))) (up ρ t 0 (ρ o 0)) Z := hH207.up0 ht (by decide) rfl
                          show wp g X F_X10_setTo 0 0 257 [(2, t), (2, o), (0, l)] [] (up v207 t 3 (r242 * (v 1 (v207 t 6)))) (up ρ t 0 (ρ o 0)) Z
                          have inj31 : InjI (v31 (ρ t 7)) := fun c d a b e f z y => by
                            have p1 := (ih c a (by omega) z).1
                            have p2 := (ih d e (by omega) (by omega)).1
                            rw [y] at p1
                            omega
                          exact r_vret (pc := 257) hX 142 hQ rfl rfl (Nat.le_refl 0) (Nat.le_refl 0) ⟨rfl, (hfr207).up (r := t) ht (by decide), (FrW.rf).up (r := t) ht (by decide), hH_254, rfl, (up_s _ _ _ _), (fun k hk => up_k hk), (by rw [up_f (rne hw7 ht (by decide)), e7]; exact inj31), (by rw [up_f (rne hw7 ht (by decide)), up_f (rne hw11 ht (by decide)), e7, e11]; exact fun c a b z => il c a (by omega) z)⟩
                        · refine t_getR (q := (ρ t 15)) (pc := 218) hX 121 rfl rfl rfl fl_X10_43 rfl (hH207.kd ht (by decide)) ((up_k (by decide)).trans (rfl)) ?_
                          have hw218_ : ω (ρ t 15) = 53 := hH.rf ht (by decide) rfl
                          refine r_iload_n (pc := 222) hX 123 rfl rfl ?_
                          refine r_aload_n (pc := 223) hX 124 rfl rfl ?_
                          refine r_iload_n (pc := 224) hX 125 rfl rfl ?_
                          refine r_callV (as := [(0, l)]) (st := [(0, l), (2, (ρ t 15))]) (K := 9) (pc := 225) hX 126 rfl mo_X9_weightOf ml_X10_123 im_X9_weightOf se_X9_weightOf (c_X9_weightOf g ω v207 (up ρ t 0 (ρ o 0)) Z hH207 o ho (l) (by omega)) rfl rfl rfl (hH207.kd ho (by decide)) (by rw [hRm]; exact ⟨by decide, by decide⟩) (by rw [hRm]; exact ⟨by decide, by decide⟩) (Nat.le_of_ble_eq_true rfl) (fun o225 v225 ρv225 Zv225 hq225 _ => ?_)
                          obtain ⟨rfl, rfl, rfl, r225, rfl, hq225⟩ := hq225
                          show wp g X F_X10_setTo 0 0 228 [(2, t), (2, o), (0, l)] [(1, r225), (0, l), (2, (ρ t 15))] v207 (up ρ t 0 (ρ o 0)) Z
                          refine e_last (n := 3) (pc := 228) hX 127 rfl (hH207.kd hw218_ (by decide)) (hH207.ln hw218_ (by decide)) (hH207.g4 hw218_ (by decide)) (by omega) (by omega) ?_
                          have hH_228 : HT ω (up v207 (ρ t 15) l r225) (up ρ t 0 (ρ o 0)) Z := hH207.up0 hw218_ (by decide) rfl
                          refine r_aload_n (pc := 229) hX 128 rfl rfl ?_
                          refine r_iload_n (pc := 230) hX 129 rfl rfl ?_
                          refine r_callV (as := [(0, l)]) (st := []) (K := 10) (pc := 231) hX 130 rfl mo_X10_fillPowers ml_X10_127 im_X10_fillPowers se_X10_fillPowers (c_X10_fillPowers g ω (up v207 (ρ t 15) l r225) (up ρ t 0 (ρ o 0)) Z hH_228 t ht (l) (by omega)) rfl rfl rfl (hH_228.kd ht (by decide)) (by rw [hRm]; exact ⟨by decide, by decide⟩) (by rw [hRm]; exact ⟨by decide, by decide⟩) (Nat.le_of_ble_eq_true rfl) (fun o231 v231 ρv231 Zv231 hq231 _ => ?_)
                          obtain ⟨rfl, rfl, hfr231, hH231, rfl, hq231⟩ := hq231
                          show wp g X F_X10_setTo 0 0 234 [(2, t), (2, o), (0, l)] [] v231 (up ρ t 0 (ρ o 0)) Z
                          refine r_iinc (ls' := [(2, t), (2, o), (0, (l + 1))]) (pc := 234) hX 131 rfl rfl (by decide) rfl ?_
                          refine r_goto (pc := 237) hX 132 (tgt := 207) rfl (by decide) ?_
                          exact (ih207 (l + 1) v231 (((hfr207).up (r := (ρ t 15)) hw218_ (by decide)).tr hfr231 (by decide)) (hH231) (by omega) (((hfr231.rw (hH.rf ht (by decide) (show rfO 45 7 = some 46 from rfl)) (by decide)).trans ((up_f (rne (hH.rf ht (by decide) (show rfO 45 7 = some 46 from rfl)) hw218_ (by decide))).trans (rfl))).trans (by first | rfl | assumption)) (((hfr231.rw (hH.rf ht (by decide) (show rfO 45 11 = some 49 from rfl)) (by decide)).trans ((up_f (rne (hH.rf ht (by decide) (show rfO 45 11 = some 49 from rfl)) hw218_ (by decide))).trans (rfl))).trans (by first | rfl | assumption)) (by omega))
                    exact (L207 _ 0 v183 (hfr183) (hH183) (by omega) ((rfl).trans (by first | rfl | assumption)) ((rfl).trans (by first | rfl | assumption)) (Nat.lt_succ_self _))
                  · refine t_getR (q := (ρ t 11)) (pc := 188) hX 105 rfl rfl rfl fl_X10_31 rfl (hH183.kd ht (by decide)) ((up_k (by decide)).trans (rfl)) ?_
                    have hw188_ : ω (ρ t 11) = 49 := hH.rf ht (by decide) rfl
                    refine r_iload_n (pc := 192) hX 107 rfl rfl ?_
                    refine r_aload_n (pc := 193) hX 108 rfl rfl ?_
                    refine r_iload_n (pc := 194) hX 109 rfl rfl ?_
                    have hw195_ : ω (ρ t 12) = 50 := hH.rf ht (by decide) rfl
                    have hwf1_ : ω (ρ t 7) = 46 := hH.rf ht (by decide) rfl
                    refine r_callV (as := [(0, c)]) (st := [(0, c), (2, (ρ t 11))]) (K := 10) (pc := 195) hX 110 rfl mo_X10_limitOf ml_X10_120 im_X10_limitOf se_X10_limitOf (c_X10_limitOf g ω v183 (up ρ t 0 (ρ o 0)) Z hH183 t ht (c) (by omega) (by rw [show ((up ρ t 0 (ρ o 0)) t 0) = (ρ o 0) from up_s _ _ _ _]; rw [show (v183 (ρ o 0) 10) = (v (ρ o 0) 10) from (hfr183.at hw2_ (by decide) 10).trans (rfl)]; rw [show (v183 (ρ o 0) 11) = (v (ρ o 0) 11) from (hfr183.at hw2_ (by decide) 11).trans (rfl)]; rw [show ((up ρ t 0 (ρ o 0)) t 12) = (ρ t 12) from (up_k (by decide)).trans (rfl)]; exact (fun j a b => by rw [e12, is j a (by omega)]; exact hns j a b)) (by rw [show ((up ρ t 0 (ρ o 0)) t 0) = (ρ o 0) from up_s _ _ _ _]; rw [show (v183 (ρ o 0) 10) = (v (ρ o 0) 10) from (hfr183.at hw2_ (by decide) 10).trans (rfl)]; rw [show ((up ρ t 0 (ρ o 0)) t 7) = (ρ t 7) from (up_k (by decide)).trans (rfl)]; exact (fun z => by rw [e7] at z ⊢; exact (ih c (by omega) (by omega) z).2))) rfl rfl rfl (hH183.kd ht (by decide)) (by rw [hRm]; exact ⟨by decide, by decide⟩) (by rw [hRm]; exact ⟨by decide, by decide⟩) (Nat.le_of_ble_eq_true rfl) (fun o195 v195 ρv195 Zv195 hq195 _ => ?_)
                    obtain ⟨rfl, rfl, rfl, r195, rfl, hq195⟩ := hq195
                    have hwf2_ : ω (ρ (ρ o 0) 1) = 9 := hH.rf hw2_ (by decide) rfl
                    try rw [show ((up ρ t 0 (ρ o 0)) t 7) = (ρ t 7) from (up_k (by decide)).trans (rfl)] at hq195
                    try rw [show ((up ρ t 0 (ρ o 0)) t 0) = (ρ o 0) from up_s _ _ _ _] at hq195
                    try rw [show ((up ρ t 0 (ρ o 0)) (ρ o 0) 1) = (ρ (ρ o 0) 1) from (up_k (by decide)).trans (rfl)] at hq195
                    try rw [show (v183 (ρ (ρ o 0) 1)) = (v (ρ (ρ o 0) 1)) from (hfr183.rw hwf2_ (by decide)).trans (rfl)] at hq195
                    show wp g X F_X10_setTo 0 0 198 [(2, t), (2, o), (0, c)] [(0, r195), (0, c), (2, (ρ t 11))] v183 (up ρ t 0 (ρ o 0)) Z
                    refine e_iast (n := 4) (pc := 198) hX 111 rfl (hH183.kd hw188_ (by decide)) (hH183.ln hw188_ (by decide)) (hH183.g4 hw188_ (by decide)) (by omega) (by omega) ?_
                    have hH_198 : HT ω (up v183 (ρ t 11) c r195) (up ρ t 0 (ρ o 0)) Z := hH183.upR hw188_ (by decide) rfl (by omega) (by omega)
                    refine r_iinc (ls' := [(2, t), (2, o), (0, (c + 1))]) (pc := 199) hX 112 rfl rfl (by decide) rfl ?_
                    refine r_goto (pc := 202) hX 113 (tgt := 183) rfl (by decide) ?_
                    exact (ih183 (c + 1) (up v183 (ρ t 11) c r195) ((hfr183).up (r := (ρ t 11)) hw188_ (by decide)) (hH_198) (by omega) (((up_f (rne hwf1_ hw188_ (by decide))).trans (rfl)).trans (by first | rfl | assumption)) (((up_f (rne hw195_ hw188_ (by decide))).trans (rfl)).trans (by first | rfl | assumption)) (fun j a b => by
          by_cases e : j = c
          · subst e; rw [up_s]; intro z; exact hq195.2.2 (by rw [e7]; exact z)
          · rw [up_k e]; exact il j a (by omega)) (by omega))
              exact (L183 _ 0 v119 (hfr119) (hH119) (by omega) ((rfl).trans (by first | rfl | assumption)) ((rfl).trans (by first | rfl | assumption)) (fun j a b => by omega) (Nat.lt_succ_self _))
            · refine t_getR (q := (ρ t 12)) (pc := 124) hX 68 rfl rfl rfl fl_X10_34 rfl (hH119.kd ht (by decide)) ((up_k (by decide)).trans (rfl)) ?_
              have hw124_ : ω (ρ t 12) = 50 := hH.rf ht (by decide) rfl
              refine r_iload_n (pc := 128) hX 70 rfl rfl ?_
              refine r_aload_n (pc := 129) hX 71 rfl rfl ?_
              refine r_getR (q := (ρ o 6)) (pc := 130) hX 72 rfl fl_X10_107 rfl (hH119.kd ho (by decide)) ((up_k (by decide)).trans (rfl)) ?_
              have hw130_ : ω (ρ o 6) = 26 := hH.rf ho (by decide) rfl
              refine r_iload_n (pc := 133) hX 73 rfl rfl ?_
              refine e_iald (y := (v (ρ o 6) i)) (n := 3) (pc := 134) hX 74 rfl (hH119.kd hw130_ (by decide)) (hH119.ln hw130_ (by decide)) (by omega) (by omega) ((hfr119.at hw130_ (by decide) i).trans (rfl)) ?_
              have hb134 : 0 ≤ (v (ρ o 6) i) ∧ (v (ρ o 6) i) ≤ 11 := hH.rg hw130_ (by decide) rfl
              refine e_iast (n := 3) (pc := 135) hX 75 rfl (hH119.kd hw124_ (by decide)) (hH119.ln hw124_ (by decide)) (hH119.g4 hw124_ (by decide)) (by omega) (by omega) ?_
              have hH_135 : HT ω (up v119 (ρ t 12) i (v (ρ o 6) i)) (up ρ t 0 (ρ o 0)) Z := hH119.upR hw124_ (by decide) rfl (by omega) (by omega)
              refine t_getR (q := (ρ t 10)) (pc := 136) hX 76 rfl rfl rfl fl_X10_28 rfl (hH_135.kd ht (by decide)) ((up_k (by decide)).trans (rfl)) ?_
              have hw136_ : ω (ρ t 10) = 48 := hH.rf ht (by decide) rfl
              refine r_iload_n (pc := 140) hX 78 rfl rfl ?_
              refine r_aload_n (pc := 141) hX 79 rfl rfl ?_
              refine r_getR (q := (ρ o 4)) (pc := 142) hX 80 rfl fl_X10_108 rfl (hH_135.kd ho (by decide)) ((up_k (by decide)).trans (rfl)) ?_
              have hw142_ : ω (ρ o 4) = 24 := hH.rf ho (by decide) rfl
              refine r_iload_n (pc := 145) hX 81 rfl rfl ?_
              refine e_iald (y := (v (ρ o 4) i)) (n := 3) (pc := 146) hX 82 rfl (hH_135.kd hw142_ (by decide)) (hH_135.ln hw142_ (by decide)) (by omega) (by omega) ((up_r (rne hw142_ hw124_ (by decide))).trans ((hfr119.at hw142_ (by decide) i).trans (rfl))) ?_
              have hb146 : (-1) ≤ (v (ρ o 4) i) ∧ (v (ρ o 4) i) ≤ 3 := hH.rg hw142_ (by decide) rfl
              refine r_iconst (pc := 147) hX 83 rfl ?_
              have L174 : ∀ (x : Int) , (-11 ≤ x ∧ x ≤ 9) → wp g X F_X10_setTo 0 0 174 [(2, t), (2, o), (0, i)] [(0, x), (0, i), (2, (ρ t 10))] (up v119 (ρ t 12) i (v (ρ o 6) i)) (up ρ t 0 (ρ o 0)) Z := by
                intro x ix
                refine e_iast (n := 3) (pc := 174) hX 97 rfl (hH_135.kd hw136_ (by decide)) (hH_135.ln hw136_ (by decide)) (hH_135.g4 hw136_ (by decide)) (by omega) (by omega) ?_
                have hH_174 : HT ω (up (up v119 (ρ t 12) i (v (ρ o 6) i)) (ρ t 10) i x) (up ρ t 0 (ρ o 0)) Z := hH_135.upR hw136_ (by decide) rfl (by omega) (by omega)
                refine r_iinc (ls' := [(2, t), (2, o), (0, (i + 1))]) (pc := 175) hX 98 rfl rfl (by decide) rfl ?_
                refine r_goto (pc := 178) hX 99 (tgt := 119) rfl (by decide) ?_
                exact (ih119 (i + 1) (up (up v119 (ρ t 12) i (v (ρ o 6) i)) (ρ t 10) i x) (((hfr119).up (r := (ρ t 12)) hw124_ (by decide)).up (r := (ρ t 10)) hw136_ (by decide)) (hH_174) (by omega) (((up_f (rne (hH.rf ht (by decide) (show rfO 45 7 = some 46 from rfl)) hw136_ (by decide))).trans ((up_f (rne (hH.rf ht (by decide) (show rfO 45 7 = some 46 from rfl)) hw124_ (by decide))).trans (rfl))).trans (by first | rfl | assumption)) (fun j a b => by
          rw [up_r (rne hw12 hw10 (by decide))]
          by_cases e : j = i
          · subst e; rw [up_s]
          · rw [up_k e]; exact is j a (by omega)) (by omega))
              first | refine r_icmp_ne (pc := 148) hX 84 (tgt := 155) rfl (by decide) (⟨by omega, by omega⟩) (⟨by omega, by omega⟩) (fun h148 => ?_) (fun h148 => ?_) | refine r_icmp_ne_any (pc := 148) hX 84 (tgt := 155) rfl (by decide) ?_ ?_
              · refine r_bipush (pc := 155) hX 87 rfl (by decide) ?_
                refine t_getR (q := (ρ o 0)) (pc := 157) hX 88 rfl rfl rfl fl_X10_61 rfl (hH_135.kd ht (by decide)) (up_s _ _ _ _) ?_
                refine e_getI (y := (v (ρ o 0) 11)) (pc := 161) hX 90 rfl fl_X10_111 rfl (hH_135.kd hw2_ (by decide)) ((up_r (rne hw2_ hw124_ (by decide))).trans ((hfr119.at hw2_ (by decide) 11).trans (rfl))) ?_
                have hb161 : 1 ≤ (v (ρ o 0) 11) ∧ (v (ρ o 0) 11) ≤ 9 := hH.rg hw2_ (by decide) rfl
                refine t_getR (q := (ρ t 12)) (pc := 164) hX 91 rfl rfl rfl fl_X10_34 rfl (hH_135.kd ht (by decide)) ((up_k (by decide)).trans (rfl)) ?_
                refine r_iload_n (pc := 168) hX 93 rfl rfl ?_
                refine e_iald (y := (v (ρ o 6) i)) (n := 3) (pc := 169) hX 94 rfl (hH_135.kd hw124_ (by decide)) (hH_135.ln hw124_ (by decide)) (by omega) (by omega) (up_s _ _ _ _) ?_
                refine r_isub (pc := 170) hX 95 rfl ?_
                refine r_mmin (pc := 171) hX 96 rfl ml_X10_114 ⟨by omega, by omega⟩ ⟨by omega, by omega⟩ (by rw [hRm]; exact ⟨by decide, by decide, by decide, by decide⟩) (Nat.le_of_ble_eq_true rfl) (fun z171 hz171 => ?_)
                exact (L174 z171 (by omega) )
              · refine r_iconst (pc := 151) hX 85 rfl ?_
                refine r_goto (pc := 152) hX 86 (tgt := 174) rfl (by decide) ?_
                exact (L174 1 (by omega) )
        exact (L119 _ 0 v31 (hfr31) (hH31) (by omega) ((rfl).trans (by first | rfl | assumption)) (fun j a b => by omega) (Nat.lt_succ_self _))
      · refine t_getR (q := (ρ t 7)) (pc := 36) hX 20 rfl rfl rfl fl_X10_21 rfl (hH31.kd ht (by decide)) ((up_k (by decide)).trans (rfl)) ?_
        have hw36_ : ω (ρ t 7) = 46 := hH.rf ht (by decide) rfl
        refine r_iload_n (pc := 40) hX 22 rfl rfl ?_
        refine t_getR (q := (ρ o 0)) (pc := 41) hX 23 rfl rfl rfl fl_X10_61 rfl (hH31.kd ht (by decide)) (up_s _ _ _ _) ?_
        refine r_iload_n (pc := 45) hX 25 rfl rfl ?_
        refine r_callV (as := [(0, c)]) (st := [(0, c), (2, (ρ t 7))]) (K := 4) (pc := 46) hX 26 rfl mo_X4_hasColour ml_X10_99 im_X4_hasColour se_X4_hasColour (c_X4_hasColour g ω v31 (up ρ t 0 (ρ o 0)) Z hH31 (ρ o 0) hw2_ (c) (by omega)) rfl rfl rfl (hH31.kd hw2_ (by decide)) (by rw [hRm]; exact ⟨by decide, by decide⟩) (by rw [hRm]; exact ⟨by decide, by decide⟩) (Nat.le_of_ble_eq_true rfl) (fun o46 v46 ρv46 Zv46 hq46 _ => ?_)
        obtain ⟨rfl, rfl, rfl, r46, rfl, hq46⟩ := hq46
        try rw [show (v31 (ρ o 0) 8) = (v (ρ o 0) 8) from (hfr31.at hw2_ (by decide) 8).trans (rfl)] at hq46
        show wp g X F_X10_setTo 0 0 49 [(2, t), (2, o), (0, c)] [(0, r46), (0, c), (2, (ρ t 7))] v31 (up ρ t 0 (ρ o 0)) Z
        have L61 : ∀ (x : Int) , (-1 ≤ x ∧ x ≤ 2 ∧ (0 ≤ x → v (ρ o 4) x = c ∧ x < v (ρ o 0) 10)) → wp g X F_X10_setTo 0 0 61 [(2, t), (2, o), (0, c)] [(0, x), (0, c), (2, (ρ t 7))] v31 (up ρ t 0 (ρ o 0)) Z := by
          intro x ix
          refine e_iast (n := 5) (pc := 61) hX 33 rfl (hH31.kd hw36_ (by decide)) (hH31.ln hw36_ (by decide)) (hH31.g4 hw36_ (by decide)) (by omega) (by omega) ?_
          have hH_61 : HT ω (up v31 (ρ t 7) c x) (up ρ t 0 (ρ o 0)) Z := hH31.upR hw36_ (by decide) rfl (by omega) (by omega)
          have ih61 : ∀ j, 0 ≤ j → j < c + 1 → 0 ≤ (up v31 (ρ t 7) c x) (ρ t 7) j → v (ρ o 4) ((up v31 (ρ t 7) c x) (ρ t 7) j) = j ∧ (up v31 (ρ t 7) c x) (ρ t 7) j < v (ρ o 0) 10 := fun j a b => by
            by_cases e : j = c
            · subst e; rw [up_s]; intro z; exact ix.2.2 z
            · rw [up_k e]; exact ih j a (by omega)
          refine t_getR (q := (ρ o 0)) (pc := 62) hX 34 rfl rfl rfl fl_X10_61 rfl (hH_61.kd ht (by decide)) (up_s _ _ _ _) ?_
          refine r_iload_n (pc := 66) hX 36 rfl rfl ?_
          refine r_callV (as := [(0, c)]) (st := []) (K := 4) (pc := 67) hX 37 rfl mo_X4_hasColour ml_X10_99 im_X4_hasColour se_X4_hasColour (c_X4_hasColour g ω (up v31 (ρ t 7) c x) (up ρ t 0 (ρ o 0)) Z hH_61 (ρ o 0) hw2_ (c) (by omega)) rfl rfl rfl (hH_61.kd hw2_ (by decide)) (by rw [hRm]; exact ⟨by decide, by decide⟩) (by rw [hRm]; exact ⟨by decide, by decide⟩) (Nat.le_of_ble_eq_true rfl) (fun o67 v67 ρv67 Zv67 hq67 _ => ?_)
          obtain ⟨rfl, rfl, rfl, r67, rfl, hq67⟩ := hq67
          try rw [show ((up v31 (ρ t 7) c x) (ρ o 0) 8) = (v (ρ o 0) 8) from (up_r (rne hw2_ hw36_ (by decide))).trans ((hfr31.at hw2_ (by decide) 8).trans (rfl))] at hq67
          show wp g X F_X10_setTo 0 0 70 [(2, t), (2, o), (0, c)] [(0, r67)] (up v31 (ρ t 7) c x) (up ρ t 0 (ρ o 0)) Z
          have L111 : ∀ (v111 : Mv) , (FrW ω [45, 46, 47, 48, 49, 50, 53, 55] v v111) → (HT ω v111 (up ρ t 0 (ρ o 0)) Z) → (∀ j, 0 ≤ j → j < c + 1 → 0 ≤ v111 (ρ t 7) j → v (ρ o 4) (v111 (ρ t 7) j) = j ∧ v111 (ρ t 7) j < v (ρ o 0) 10) → wp g X F_X10_setTo 0 0 111 [(2, t), (2, o), (0, c)] [] v111 (up ρ t 0 (ρ o 0)) Z := by
            intro v111 hfr111 hH111 ih2
            refine r_iinc (ls' := [(2, t), (2, o), (0, (c + 1))]) (pc := 111) hX 61 rfl rfl (by decide) rfl ?_
            refine r_goto (pc := 114) hX 62 (tgt := 31) rfl (by decide) ?_
            exact (ih31 (c + 1) v111 (hfr111) (hH111) (by omega) (ih2) (by omega))
          first | refine r_if_eq (pc := 70) hX 38 (tgt := 111) rfl (by decide) (⟨by omega, by omega⟩) (fun h70 => ?_) (fun h70 => ?_) | refine r_if_eq_any (pc := 70) hX 38 (tgt := 111) rfl (by decide) ?_ ?_
          · exact (L111  (up v31 (ρ t 7) c x) ((hfr31).up (r := (ρ t 7)) hw36_ (by decide)) (hH_61) (by first | exact ih61 | (intro j a b; rw [up_r (rne hw7 ht (by decide)), up_r (rne hw7 hw8 (by decide))]; exact ih61 j a b)) )
          · refine t_getR (q := (ρ t 7)) (pc := 73) hX 39 rfl rfl rfl fl_X10_21 rfl (hH_61.kd ht (by decide)) ((up_k (by decide)).trans (rfl)) ?_
            refine r_iload_n (pc := 77) hX 41 rfl rfl ?_
            refine e_iald (y := x) (n := 5) (pc := 78) hX 42 rfl (hH_61.kd hw36_ (by decide)) (hH_61.ln hw36_ (by decide)) (by omega) (by omega) (up_s _ _ _ _) ?_
            refine r_iconst (pc := 79) hX 43 rfl ?_
            first | refine r_icmp_ne (pc := 80) hX 44 (tgt := 111) rfl (by decide) (⟨by omega, by omega⟩) (⟨by omega, by omega⟩) (fun h80 => ?_) (fun h80 => ?_) | refine r_icmp_ne_any (pc := 80) hX 44 (tgt := 111) rfl (by decide) ?_ ?_
            · exact (L111  (up v31 (ρ t 7) c x) ((hfr31).up (r := (ρ t 7)) hw36_ (by decide)) (hH_61) (by first | exact ih61 | (intro j a b; rw [up_r (rne hw7 ht (by decide)), up_r (rne hw7 hw8 (by decide))]; exact ih61 j a b)) )
            · refine t_getI (y := (v31 t 9)) (pc := 83) hX 45 rfl rfl rfl fl_X10_75 rfl (hH_61.kd ht (by decide)) ((up_r (rne ht hw36_ (by decide))).trans (rfl)) ?_
              have hb83 : 0 ≤ (v31 t 9) ∧ (v31 t 9) ≤ 3 := hH31.rg ht (by decide) rfl
              refine r_iconst (pc := 87) hX 47 rfl ?_
              first | refine r_icmp_ge (pc := 88) hX 48 (tgt := 111) rfl (by decide) (⟨by omega, by omega⟩) (⟨by omega, by omega⟩) (fun h88 => ?_) (fun h88 => ?_) | refine r_icmp_ge_any (pc := 88) hX 48 (tgt := 111) rfl (by decide) ?_ ?_
              · exact (L111  (up v31 (ρ t 7) c x) ((hfr31).up (r := (ρ t 7)) hw36_ (by decide)) (hH_61) (by first | exact ih61 | (intro j a b; rw [up_r (rne hw7 ht (by decide)), up_r (rne hw7 hw8 (by decide))]; exact ih61 j a b)) )
              · refine t_getR (q := (ρ t 8)) (pc := 91) hX 49 rfl rfl rfl fl_X10_25 rfl (hH_61.kd ht (by decide)) ((up_k (by decide)).trans (rfl)) ?_
                have hw91_ : ω (ρ t 8) = 47 := hH.rf ht (by decide) rfl
                refine t_getI (y := (v31 t 9)) (pc := 95) hX 51 rfl rfl rfl fl_X10_75 rfl (hH_61.kd ht (by decide)) ((up_r (rne ht hw36_ (by decide))).trans (rfl)) ?_
                refine r_iload_n (pc := 99) hX 53 rfl rfl ?_
                refine e_iast (n := 3) (pc := 100) hX 54 rfl (hH_61.kd hw91_ (by decide)) (hH_61.ln hw91_ (by decide)) (hH_61.g4 hw91_ (by decide)) (by omega) (by omega) ?_
                have hH_100 : HT ω (up (up v31 (ρ t 7) c x) (ρ t 8) (v31 t 9) c) (up ρ t 0 (ρ o 0)) Z := hH_61.upR hw91_ (by decide) rfl (by omega) (by omega)
                refine r_aload_n (pc := 101) hX 55 rfl rfl ?_
                refine r_dup (pc := 102) hX 56 rfl (show (2 : Nat) ≠ 1 by decide) ?_
                refine e_getI (y := (v31 t 9)) (pc := 103) hX 57 rfl fl_X10_75 rfl (hH_100.kd ht (by decide)) ((up_r (rne ht hw91_ (by decide))).trans ((up_r (rne ht hw36_ (by decide))).trans (rfl))) ?_
                refine r_iconst (pc := 106) hX 58 rfl ?_
                refine r_iadd (pc := 107) hX 59 rfl ?_
                refine r_putI (pc := 108) hX 60 rfl fl_X10_75 rfl (fun _ h => by cases h; rfl) (hH_100.kd ht (by decide)) (hH_100.g4 ht (by decide)) ?_
                have hH_108 : HT ω (up (up (up v31 (ρ t 7) c x) (ρ t 8) (v31 t 9) c) t 9 ((v31 t 9) + 1)) (up ρ t 0 (ρ o 0)) Z := hH_100.upR ht (by decide) rfl (by omega) (by omega)
                show wp g X F_X10_setTo 0 0 111 [(2, t), (2, o), (0, c)] [] (up (up (up v31 (ρ t 7) c x) (ρ t 8) (v31 t 9) c) t 9 ((v31 t 9) + 1)) (up ρ t 0 (ρ o 0)) Z
                exact (L111  (up (up (up v31 (ρ t 7) c x) (ρ t 8) (v31 t 9) c) t 9 ((v31 t 9) + 1)) ((((hfr31).up (r := (ρ t 7)) hw36_ (by decide)).up (r := (ρ t 8)) hw91_ (by decide)).up (r := t) ht (by decide)) (hH_108) (by first | exact ih61 | (intro j a b; rw [up_r (rne hw7 ht (by decide)), up_r (rne hw7 hw8 (by decide))]; exact ih61 j a b)) )
        first | refine r_if_eq (pc := 49) hX 27 (tgt := 60) rfl (by decide) (⟨by omega, by omega⟩) (fun h49 => ?_) (fun h49 => ?_) | refine r_if_eq_any (pc := 49) hX 27 (tgt := 60) rfl (by decide) ?_ ?_
        · refine r_iconst (pc := 60) hX 32 rfl ?_
          exact (L61 (-1) (by omega) )
        · refine r_aload_n (pc := 52) hX 28 rfl rfl ?_
          refine r_iload_n (pc := 53) hX 29 rfl rfl ?_
          refine r_callV (as := [(0, c)]) (st := [(0, c), (2, (ρ t 7))]) (K := 9) (pc := 54) hX 30 rfl mo_X9_holderOf ml_X10_103 im_X9_holderOf se_X9_holderOf (c_X9_holderOf g ω v31 (up ρ t 0 (ρ o 0)) Z hH31 o ho (c) (by omega)) rfl rfl rfl (hH31.kd ho (by decide)) (by rw [hRm]; exact ⟨by decide, by decide⟩) (by rw [hRm]; exact ⟨by decide, by decide⟩) (Nat.le_of_ble_eq_true rfl) (fun o54 v54 ρv54 Zv54 hq54 _ => ?_)
          obtain ⟨rfl, rfl, rfl, r54, rfl, hq54⟩ := hq54
          have hw54_ : ω (ρ o 4) = 24 := hH.rf ho (by decide) rfl
          try rw [show ((up ρ t 0 (ρ o 0)) o 0) = (ρ o 0) from (up_r (rne ho ht (by decide))).trans (rfl)] at hq54
          try rw [show (v31 (ρ o 0) 10) = (v (ρ o 0) 10) from (hfr31.at hw2_ (by decide) 10).trans (rfl)] at hq54
          try rw [show ((up ρ t 0 (ρ o 0)) o 4) = (ρ o 4) from (up_k (by decide)).trans (rfl)] at hq54
          try rw [show (v31 (ρ o 4)) = (v (ρ o 4)) from (hfr31.rw hw54_ (by decide)).trans (rfl)] at hq54
          show wp g X F_X10_setTo 0 0 57 [(2, t), (2, o), (0, c)] [(0, r54), (0, c), (2, (ρ t 7))] v31 (up ρ t 0 (ρ o 0)) Z
          refine r_goto (pc := 57) hX 31 (tgt := 61) rfl (by decide) ?_
          exact (L61 r54 (by omega) )
  exact (L31 _ 0 (up (up v t 6 ((v (ρ o 0) 12) - (v o 2))) t 9 0) (((FrW.rf).up (r := t) ht (by decide)).up (r := t) ht (by decide)) (hH_26) (by omega) (fun j a b => by omega) (Nat.lt_succ_self _))
set_option maxHeartbeats 4000000 in
set_option maxRecDepth 100000 in
theorem c_X10_reckonFor (g : Gp) (ω : Rw) (v ρ : Mv) (Z : Mz) (hH : HT ω v ρ Z) (t : Int) (ht : ω t = 45) (o : Int) (ho : ω o = 22) (p : Int) (hp : 0 ≤ p ∧ p ≤ 2) (hno : v o 2 < v (ρ o 0) 12) (hns : ∀ j, 0 ≤ j → j < v (ρ o 0) 10 → v (ρ o 6) j < v (ρ o 0) 11) : Ok g 6 0 0 F_X10_reckonFor [(2, t), (2, o), (0, p)] v ρ Z (fun o9 v' ρ' Z' => Z = Z' ∧ FrW ω [45, 46, 47, 48, 49, 50, 51, 52, 53, 55, 56, 57, 59] v v' ∧ FrW ω [45] ρ ρ' ∧ HT ω v' ρ' Z ∧ o9 = none ∧ True) := by
  refine Ok.of mo_X10_reckonFor (Nat.le_of_ble_eq_true rfl) ?_
  intro X hX hRm hxn hQ
  show wp g X F_X10_reckonFor 0 0 0 [(2, t), (2, o), (0, p), (3, 0), (3, 0), (3, 0)] [] v ρ Z
  refine t_getI (y := (v t 1)) (pc := 0) hX 0 rfl rfl rfl fl_X10_9 rfl (hH.kd ht (by decide)) (rfl) ?_
  refine r_aload_n (pc := 4) hX 2 rfl rfl ?_
  refine e_getI (y := (v o 1)) (pc := 5) hX 3 rfl fl_X10_65 rfl (hH.kd ho (by decide)) (rfl) ?_
  have L20 : wp g X F_X10_reckonFor 0 0 20 [(2, t), (2, o), (0, p), (3, 0), (3, 0), (3, 0)] [] v ρ Z := by
    refine r_aload_n (pc := 20) hX 10 rfl rfl ?_
    refine r_iload_n (pc := 21) hX 11 rfl rfl ?_
    refine r_putI (pc := 22) hX 12 rfl fl_X10_15 rfl (fun _ h => by cases h; rfl) (hH.kd ht (by decide)) (hH.g4 ht (by decide)) ?_
    have hH_22 : HT ω (up v t 2 p) ρ Z := hH.upR ht (by decide) rfl (by omega) (by omega)
    show wp g X F_X10_reckonFor 0 0 25 [(2, t), (2, o), (0, p), (3, 0), (3, 0), (3, 0)] [] (up v t 2 p) ρ Z
    refine r_aload_n (pc := 25) hX 13 rfl rfl ?_
    refine r_aload_n (pc := 26) hX 14 rfl rfl ?_
    refine e_getI (y := (v o 1)) (pc := 27) hX 15 rfl fl_X10_65 rfl (hH_22.kd ho (by decide)) ((up_k (by decide)).trans (rfl)) ?_
    refine r_putI (pc := 30) hX 16 rfl fl_X10_9 rfl (fun _ h => by cases h; rfl) (hH_22.kd ht (by decide)) (hH_22.g4 ht (by decide)) ?_
    have hH_30 : HT ω (up (up v t 2 p) t 1 (v o 1)) ρ Z := hH_22.up0 ht (by decide) rfl
    show wp g X F_X10_reckonFor 0 0 33 [(2, t), (2, o), (0, p), (3, 0), (3, 0), (3, 0)] [] (up (up v t 2 p) t 1 (v o 1)) ρ Z
    refine r_aload_n (pc := 33) hX 17 rfl rfl ?_
    refine r_aload_n (pc := 34) hX 18 rfl rfl ?_
    have hw35_ : ω (ρ o 0) = 5 := hH.rf ho (by decide) rfl
    have hwf1_ : ω (ρ o 6) = 26 := hH.rf ho (by decide) rfl
    refine r_callV (as := [(2, o)]) (st := []) (K := 10) (pc := 35) hX 19 rfl mo_X10_setTo ml_X10_68 im_X10_setTo se_X10_setTo (c_X10_setTo g ω (up (up v t 2 p) t 1 (v o 1)) ρ Z hH_30 t ht o ho (by rw [show ((up (up v t 2 p) t 1 (v o 1)) o 2) = (v o 2) from (up_k (by decide)).trans ((up_r (rne ho ht (by decide))).trans (rfl))]; rw [show ((up (up v t 2 p) t 1 (v o 1)) (ρ o 0) 12) = (v (ρ o 0) 12) from (up_k (by decide)).trans ((up_k (by decide)).trans (rfl))]; omega) (by rw [show ((up (up v t 2 p) t 1 (v o 1)) (ρ o 0) 10) = (v (ρ o 0) 10) from (up_k (by decide)).trans ((up_k (by decide)).trans (rfl))]; rw [show ((up (up v t 2 p) t 1 (v o 1)) (ρ o 0) 11) = (v (ρ o 0) 11) from (up_k (by decide)).trans ((up_k (by decide)).trans (rfl))]; rw [show ((up (up v t 2 p) t 1 (v o 1)) (ρ o 6)) = (v (ρ o 6)) from (up_f (rne hwf1_ ht (by decide))).trans ((up_f (rne hwf1_ ht (by decide))).trans (rfl))]; exact hns)) rfl rfl rfl (hH_30.kd ht (by decide)) (by rw [hRm]; exact ⟨by decide, by decide⟩) (by rw [hRm]; exact ⟨by decide, by decide⟩) (Nat.le_of_ble_eq_true rfl) (fun o35 v35 ρv35 Zv35 hq35 _ => ?_)
    obtain ⟨rfl, hfr35, hfrR35, hH35, rfl, hq35⟩ := hq35
    have hwf2_ : ω (ρ (ρ o 0) 1) = 9 := hH.rf hw35_ (by decide) rfl
    try rw [show ((up (up v t 2 p) t 1 (v o 1)) (ρ (ρ o 0) 1)) = (v (ρ (ρ o 0) 1)) from (up_f (rne hwf2_ ht (by decide))).trans ((up_f (rne hwf2_ ht (by decide))).trans (rfl))] at hq35
    show wp g X F_X10_reckonFor 0 0 38 [(2, t), (2, o), (0, p), (3, 0), (3, 0), (3, 0)] [] v35 ρv35 Z
    have q7 : ρv35 t 7 = ρ t 7 := hq35.2.1 7 (by decide)
    have q11 : ρv35 t 11 = ρ t 11 := hq35.2.1 11 (by decide)
    have q0 : ρv35 t 0 = ρ o 0 := hq35.1
    have hwr : ω (ρ o 0) = 5 := hH.rf ho (by decide) rfl
    have q01 : ρv35 (ρ o 0) 1 = ρ (ρ o 0) 1 := hfrR35.at hwr (by decide) 1
    have hinj35 : InjI (v35 (ρv35 t 7)) := by rw [q7]; exact hq35.2.2.1
    have hlim35 : LimI (v35 (ρv35 t 7)) (v35 (ρv35 t 11)) (v (ρ (ρv35 t 0) 1)) := by rw [q7, q11, q0]; exact hq35.2.2.2
    refine r_iconst (pc := 38) hX 20 rfl ?_
    refine r_istore_n (ls' := [(2, t), (2, o), (0, p), (0, 1), (3, 0), (3, 0)]) (pc := 39) hX 21 rfl (by decide) rfl ?_
    have L40 : ∀ (n40 : Nat) (n : Int) (v40 : Mv) , (FrW ω [45, 46, 47, 48, 49, 50, 51, 52, 53, 55, 56, 57, 59] v v40) → (HT ω v40 ρv35 Z) → (1 ≤ n ∧ n ≤ 13) → (v40 (ρv35 t 7) = v35 (ρv35 t 7)) → (v40 (ρv35 t 11) = v35 (ρv35 t 11)) → (13 - n).toNat < n40 → wp g X F_X10_reckonFor 0 0 40 [(2, t), (2, o), (0, p), (0, n), (3, 0), (3, 0)] [] v40 ρv35 Z := by
      intro n40
      induction n40 with
      | zero => intro n v40 hfr40 hH40 in_ e7 e11 hme40; exact absurd hme40 (Nat.not_lt_zero _)
      | succ n40 ih40 =>
        intro n v40 hfr40 hH40 in_ e7 e11 hme40
        refine r_iload_n (pc := 40) hX 22 rfl rfl ?_
        refine t_getI (y := (v40 t 6)) (pc := 41) hX 23 rfl rfl rfl fl_X10_72 rfl (hH40.kd ht (by decide)) (rfl) ?_
        have hb41 : 0 ≤ (v40 t 6) ∧ (v40 t 6) ≤ 12 := hH40.rg ht (by decide) rfl
        first | refine r_icmp_gt (pc := 45) hX 25 (tgt := 113) rfl (by decide) (⟨by omega, by omega⟩) (⟨by omega, by omega⟩) (fun h45 => ?_) (fun h45 => ?_) | refine r_icmp_gt_any (pc := 45) hX 25 (tgt := 113) rfl (by decide) ?_ ?_
        · exact r_vret (pc := 113) hX 56 hQ rfl rfl (Nat.le_refl 0) (Nat.le_refl 0) ⟨rfl, hfr40, (FrW.rf).tr hfrR35 (by decide), hH40, rfl, trivial⟩
        · refine r_iload_n (pc := 48) hX 26 rfl rfl ?_
          refine r_bipush (pc := 49) hX 27 rfl (by decide) ?_
          first | refine r_icmp_gt (pc := 51) hX 28 (tgt := 113) rfl (by decide) (⟨by omega, by omega⟩) (⟨by omega, by omega⟩) (fun h51 => ?_) (fun h51 => ?_) | refine r_icmp_gt_any (pc := 51) hX 28 (tgt := 113) rfl (by decide) ?_ ?_
          · exact r_vret (pc := 113) hX 56 hQ rfl rfl (Nat.le_refl 0) (Nat.le_refl 0) ⟨rfl, hfr40, (FrW.rf).tr hfrR35 (by decide), hH40, rfl, trivial⟩
          · refine r_iconst (pc := 54) hX 29 rfl ?_
            refine r_istore (ls' := [(2, t), (2, o), (0, p), (0, n), (0, 0), (3, 0)]) (pc := 55) hX 30 rfl (by decide) rfl ?_
            have L57 : ∀ (n57 : Nat) (j : Int) (v57 : Mv) , (FrW ω [45, 46, 47, 48, 49, 50, 51, 52, 53, 55, 56, 57, 59] v v57) → (HT ω v57 ρv35 Z) → (0 ≤ j ∧ j ≤ 3) → (v57 (ρv35 t 7) = v35 (ρv35 t 7)) → (v57 (ρv35 t 11) = v35 (ρv35 t 11)) → (3 - j).toNat < n57 → wp g X F_X10_reckonFor 0 0 57 [(2, t), (2, o), (0, p), (0, n), (0, j), (3, 0)] [] v57 ρv35 Z := by
              intro n57
              induction n57 with
              | zero => intro j v57 hfr57 hH57 ij e7 e11 hme57; exact absurd hme57 (Nat.not_lt_zero _)
              | succ n57 ih57 =>
                intro j v57 hfr57 hH57 ij e7 e11 hme57
                refine r_iload (pc := 57) hX 31 rfl rfl ?_
                refine t_getI (y := (v57 t 9)) (pc := 59) hX 32 rfl rfl rfl fl_X10_75 rfl (hH57.kd ht (by decide)) (rfl) ?_
                have hb59 : 0 ≤ (v57 t 9) ∧ (v57 t 9) ≤ 3 := hH57.rg ht (by decide) rfl
                first | refine r_icmp_ge (pc := 63) hX 34 (tgt := 102) rfl (by decide) (⟨by omega, by omega⟩) (⟨by omega, by omega⟩) (fun h63 => ?_) (fun h63 => ?_) | refine r_icmp_ge_any (pc := 63) hX 34 (tgt := 102) rfl (by decide) ?_ ?_
                · refine r_aload_n (pc := 102) hX 51 rfl rfl ?_
                  refine r_iload_n (pc := 103) hX 52 rfl rfl ?_
                  have hw104_ : ω (ρv35 t 7) = 46 := hH35.rf ht (by decide) rfl
                  have hwf3_ : ω (ρv35 t 11) = 49 := hH35.rf ht (by decide) rfl
                  have hwf4_ : ω (ρv35 t 0) = 5 := hH35.rf ht (by decide) rfl
                  have hwf5_ : ω (ρ (ρv35 t 0) 1) = 9 := hH.rf hwf4_ (by decide) rfl
                  refine r_callV (as := [(0, n)]) (st := []) (K := 10) (pc := 104) hX 53 rfl mo_X10_valueMixes ml_X10_88 im_X10_valueMixes se_X10_valueMixes (c_X10_valueMixes g ω v57 ρv35 Z hH57 t ht (n) (by omega) (by exact (by rw [e7]; exact hinj35)) (by rw [show (ρv35 (ρv35 t 0) 1) = (ρ (ρv35 t 0) 1) from (hfrR35.at hwf4_ (by decide) 1).trans (rfl)]; rw [show (v57 (ρ (ρv35 t 0) 1)) = (v (ρ (ρv35 t 0) 1)) from (hfr57.rw hwf5_ (by decide)).trans (rfl)]; exact (by rw [e7, e11]; exact hlim35))) rfl rfl rfl (hH57.kd ht (by decide)) (by rw [hRm]; exact ⟨by decide, by decide⟩) (by rw [hRm]; exact ⟨by decide, by decide⟩) (Nat.le_of_ble_eq_true rfl) (fun o104 v104 ρv104 Zv104 hq104 _ => ?_)
                  obtain ⟨rfl, rfl, hfr104, hH104, rfl, hq104⟩ := hq104
                  show wp g X F_X10_reckonFor 0 0 107 [(2, t), (2, o), (0, p), (0, n), (0, j), (3, 0)] [] v104 ρv35 Z
                  refine r_iinc (ls' := [(2, t), (2, o), (0, p), (0, (n + 1)), (0, j), (3, 0)]) (pc := 107) hX 54 rfl rfl (by decide) rfl ?_
                  refine r_goto (pc := 110) hX 55 (tgt := 40) rfl (by decide) ?_
                  refine r_wk (ls' := [(2, t), (2, o), (0, p), (0, (n + 1)), (3, 0), (3, 0)]) ⟨Or.inr rfl, Or.inr rfl, Or.inr rfl, Or.inr rfl, Or.inl rfl, Or.inr rfl, trivial⟩ ?_
                  exact (ih40 (n + 1) v104 ((hfr57).tr hfr104 (by decide)) (hH104) (by omega) (((hfr104.rw hw104_ (by decide)).trans (rfl)).trans (by first | rfl | assumption)) (((hfr104.rw hwf3_ (by decide)).trans (rfl)).trans (by first | rfl | assumption)) (by omega))
                · refine r_iconst (pc := 66) hX 35 rfl ?_
                  refine r_istore (ls' := [(2, t), (2, o), (0, p), (0, n), (0, j), (0, 0)]) (pc := 67) hX 36 rfl (by decide) rfl ?_
                  have L69 : ∀ (n69 : Nat) (l : Int) (v69 : Mv) , (FrW ω [45, 46, 47, 48, 49, 50, 51, 52, 53, 55, 56, 57, 59] v v69) → (HT ω v69 ρv35 Z) → (0 ≤ l ∧ l ≤ 3) → (v69 (ρv35 t 7) = v35 (ρv35 t 7)) → (v69 (ρv35 t 11) = v35 (ρv35 t 11)) → (3 - l).toNat < n69 → wp g X F_X10_reckonFor 0 0 69 [(2, t), (2, o), (0, p), (0, n), (0, j), (0, l)] [] v69 ρv35 Z := by
                    intro n69
                    induction n69 with
                    | zero => intro l v69 hfr69 hH69 il e7 e11 hme69; exact absurd hme69 (Nat.not_lt_zero _)
                    | succ n69 ih69 =>
                      intro l v69 hfr69 hH69 il e7 e11 hme69
                      refine r_iload (pc := 69) hX 37 rfl rfl ?_
                      refine t_getR (q := (ρv35 t 0)) (pc := 71) hX 38 rfl rfl rfl fl_X10_61 rfl (hH69.kd ht (by decide)) (rfl) ?_
                      have hw71_ : ω (ρv35 t 0) = 5 := hH35.rf ht (by decide) rfl
                      refine r_callV (as := []) (st := [(0, l)]) (K := 4) (pc := 75) hX 40 rfl mo_X4_rows ml_X10_78 im_X4_rows se_X4_rows (c_X4_rows g ω v69 ρv35 Z hH69 (ρv35 t 0) hw71_ ) rfl rfl rfl (hH69.kd hw71_ (by decide)) (by rw [hRm]; exact ⟨by decide, by decide⟩) (by rw [hRm]; exact ⟨by decide, by decide⟩) (Nat.le_of_ble_eq_true rfl) (fun o75 v75 ρv75 Zv75 hq75 _ => ?_)
                      obtain ⟨rfl, rfl, rfl, r75, rfl, hq75⟩ := hq75
                      try rw [show (v69 (ρv35 t 0) 9) = (v (ρv35 t 0) 9) from (hfr69.at hw71_ (by decide) 9).trans (rfl)] at hq75
                      show wp g X F_X10_reckonFor 0 0 78 [(2, t), (2, o), (0, p), (0, n), (0, j), (0, l)] [(0, r75), (0, l)] v69 ρv35 Z
                      first | refine r_icmp_ge (pc := 78) hX 41 (tgt := 96) rfl (by decide) (⟨by omega, by omega⟩) (⟨by omega, by omega⟩) (fun h78 => ?_) (fun h78 => ?_) | refine r_icmp_ge_any (pc := 78) hX 41 (tgt := 96) rfl (by decide) ?_ ?_
                      · refine r_iinc (ls' := [(2, t), (2, o), (0, p), (0, n), (0, (j + 1)), (0, l)]) (pc := 96) hX 49 rfl rfl (by decide) rfl ?_
                        refine r_goto (pc := 99) hX 50 (tgt := 57) rfl (by decide) ?_
                        refine r_wk (ls' := [(2, t), (2, o), (0, p), (0, n), (0, (j + 1)), (3, 0)]) ⟨Or.inr rfl, Or.inr rfl, Or.inr rfl, Or.inr rfl, Or.inr rfl, Or.inl rfl, trivial⟩ ?_
                        exact (ih57 (j + 1) v69 (hfr69) (hH69) (by omega) ((rfl).trans (by first | rfl | assumption)) ((rfl).trans (by first | rfl | assumption)) (by omega))
                      · refine r_aload_n (pc := 81) hX 42 rfl rfl ?_
                        refine r_iload (pc := 82) hX 43 rfl rfl ?_
                        refine r_iload (pc := 84) hX 44 rfl rfl ?_
                        refine r_iload_n (pc := 86) hX 45 rfl rfl ?_
                        refine r_callV (as := [(0, j), (0, l), (0, n)]) (st := []) (K := 10) (pc := 87) hX 46 rfl mo_X10_fillTable ml_X10_84 im_X10_fillTable se_X10_fillTable (c_X10_fillTable g ω v69 ρv35 Z hH69 t ht (j) (l) (n) (by omega) (by omega) (by omega)) rfl rfl rfl (hH69.kd ht (by decide)) (by rw [hRm]; exact ⟨by decide, by decide⟩) (by rw [hRm]; exact ⟨by decide, by decide⟩) (Nat.le_of_ble_eq_true rfl) (fun o87 v87 ρv87 Zv87 hq87 _ => ?_)
                        obtain ⟨rfl, rfl, hfr87, hH87, rfl, hq87⟩ := hq87
                        show wp g X F_X10_reckonFor 0 0 90 [(2, t), (2, o), (0, p), (0, n), (0, j), (0, l)] [] v87 ρv35 Z
                        refine r_iinc (ls' := [(2, t), (2, o), (0, p), (0, n), (0, j), (0, (l + 1))]) (pc := 90) hX 47 rfl rfl (by decide) rfl ?_
                        refine r_goto (pc := 93) hX 48 (tgt := 69) rfl (by decide) ?_
                        exact (ih69 (l + 1) v87 ((hfr69).tr hfr87 (by decide)) (hH87) (by omega) (((hfr87.rw (hH35.rf ht (by decide) (show rfO 45 7 = some 46 from rfl)) (by decide)).trans (rfl)).trans (by first | rfl | assumption)) (((hfr87.rw (hH35.rf ht (by decide) (show rfO 45 11 = some 49 from rfl)) (by decide)).trans (rfl)).trans (by first | rfl | assumption)) (by omega))
                  exact (L69 _ 0 v57 (hfr57) (hH57) (by omega) ((rfl).trans (by first | rfl | assumption)) ((rfl).trans (by first | rfl | assumption)) (Nat.lt_succ_self _))
            exact (L57 _ 0 v40 (hfr40) (hH40) (by omega) ((rfl).trans (by first | rfl | assumption)) ((rfl).trans (by first | rfl | assumption)) (Nat.lt_succ_self _))
    exact (L40 _ 1 v35 ((((FrW.rf).up (r := t) ht (by decide)).up (r := t) ht (by decide)).tr hfr35 (by decide)) (hH35) (by omega) ((rfl).trans (by first | rfl | assumption)) ((rfl).trans (by first | rfl | assumption)) (Nat.lt_succ_self _))
  first | refine r_icmp_ne (pc := 8) hX 4 (tgt := 20) rfl (by decide) (⟨by omega, by omega⟩) (⟨by omega, by omega⟩) (fun h8 => ?_) (fun h8 => ?_) | refine r_icmp_ne_any (pc := 8) hX 4 (tgt := 20) rfl (by decide) ?_ ?_
  · exact (L20   )
  · refine t_getI (y := (v t 2)) (pc := 11) hX 5 rfl rfl rfl fl_X10_15 rfl (hH.kd ht (by decide)) (rfl) ?_
    have hb11 : (-1) ≤ (v t 2) ∧ (v t 2) ≤ 2 := hH.rg ht (by decide) rfl
    refine r_iload_n (pc := 15) hX 7 rfl rfl ?_
    first | refine r_icmp_ne (pc := 16) hX 8 (tgt := 20) rfl (by decide) (⟨by omega, by omega⟩) (⟨by omega, by omega⟩) (fun h16 => ?_) (fun h16 => ?_) | refine r_icmp_ne_any (pc := 16) hX 8 (tgt := 20) rfl (by decide) ?_ ?_
    · exact (L20   )
    · exact r_vret (pc := 19) hX 9 hQ rfl rfl (Nat.le_refl 0) (Nat.le_refl 0) ⟨rfl, FrW.rf, FrW.rf, hH, rfl, trivial⟩
