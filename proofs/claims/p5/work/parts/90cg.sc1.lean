set_option maxHeartbeats 4000000 in
set_option maxRecDepth 100000 in
theorem c_X7_readClosingS (g : Gp) (ω : Rw) (v ρ : Mv) (Z : Mz) (hH : HT ω v ρ Z) {F : Int → Int} {n m p : Int} (t : Int) (ht : ω t = 21) (hT : TkC F n m v ρ (ρ t 0) p) : Ok g 7 0 0 F_X7_readClosing [(2, t)] v ρ Z (fun o9 v' ρ' Z' => ρ = ρ' ∧ Z = Z' ∧ FrW ω [2] v v' ∧ HT ω v' ρ Z ∧ ∃ r : Int, o9 = some (0, r) ∧ (0 ≤ r ∧ r ≤ 1) ∧ (Hd (r = 1 ∧ mk F n m p 41 = true ∧ TkC F n m v' ρ (ρ t 0) (tp F n m p) ∨ r = 0 ∧ mk F n m p 41 = false ∧ v' (ρ t 0) 9 = 1 ∧ v' (ρ t 0) 10 = ta F n m p))) := by
  refine Ok.of mo_X7_readClosing (Nat.le_of_ble_eq_true rfl) ?_
  intro X hX hRm hxn hQ
  show wp g X F_X7_readClosing 0 0 0 [(2, t)] [] v ρ Z
  refine t_getR (q := (ρ t 0)) (pc := 0) hX 0 rfl rfl rfl fl_X7_18 rfl (hH.kd ht (by decide)) (rfl) ?_
  have hw0_ : ω (ρ t 0) = 2 := hH.rf ht (by decide) rfl
  refine r_bipush (pc := 4) hX 2 rfl (by decide) ?_
  refine r_callV (as := [(0, 41)]) (st := []) (K := 8) (pc := 6) hX 3 rfl mo_X8_isMark ml_X7_54 im_X8_isMark se_X8_isMark (c_X8_isMarkT g ω v ρ Z hH (ρ t 0) hw0_ (41) (hT) (by omega)) rfl rfl rfl (hH.kd hw0_ (by decide)) (by rw [hRm]; exact ⟨by decide, by decide⟩) (by rw [hRm]; exact ⟨by decide, by decide⟩) (Nat.le_of_ble_eq_true rfl) (fun o6 v6 ρv6 Zv6 hq6 _ => ?_)
  obtain ⟨rfl, rfl, rfl, r6, rfl, hq6⟩ := hq6
  show wp g X F_X7_readClosing 0 0 9 [(2, t)] [(0, r6)] v ρ Z
  first | refine r_if_ne (pc := 9) hX 4 (tgt := 21) rfl (by decide) (⟨by omega, by omega⟩) (fun h9 => ?_) (fun h9 => ?_) | refine r_if_ne_any (pc := 9) hX 4 (tgt := 21) rfl (by decide) ?_ ?_
  · have hm6 := (Hd.o hq6.2).resolve_right (fun z => absurd z.1 (by omega))
    refine t_getR (q := (ρ t 0)) (pc := 21) hX 10 rfl rfl rfl fl_X7_18 rfl (hH.kd ht (by decide)) (rfl) ?_
    refine r_callV (as := []) (st := []) (K := 8) (pc := 25) hX 12 rfl mo_X8_advance ml_X7_28 im_X8_advance se_X8_advance (c_X8_advanceT g ω v ρ Z hH (ρ t 0) hw0_ (hT)) rfl rfl rfl (hH.kd hw0_ (by decide)) (by rw [hRm]; exact ⟨by decide, by decide⟩) (by rw [hRm]; exact ⟨by decide, by decide⟩) (Nat.le_of_ble_eq_true rfl) (fun o25 v25 ρv25 Zv25 hq25 _ => ?_)
    obtain ⟨rfl, rfl, hfr25, hH25, rfl, hq25⟩ := hq25
    show wp g X F_X7_readClosing 0 0 28 [(2, t)] [] v25 ρ Z
    refine r_iconst (pc := 28) hX 13 rfl ?_
    exact r_zret (pc := 29) hX 14 hQ rfl rfl ⟨by omega, by omega⟩ (Nat.le_of_ble_eq_true rfl) (Nat.le_of_ble_eq_true rfl) ⟨rfl, rfl, (FrW.rf).tr hfr25 (by decide), hH25, 1, rfl, (by omega), (Hd.i (Or.inl ⟨rfl, hm6.2, hq25⟩))⟩
  · have hm6 := (Hd.o hq6.2).resolve_left (fun z => absurd z.1 (by omega))
    refine t_getR (q := (ρ t 0)) (pc := 12) hX 5 rfl rfl rfl fl_X7_18 rfl (hH.kd ht (by decide)) (rfl) ?_
    refine r_iconst (pc := 16) hX 7 rfl ?_
    refine r_callV (as := [(0, 1)]) (st := []) (K := 8) (pc := 17) hX 8 rfl mo_X8_refuse ml_X7_39 im_X8_refuse se_X8_refuse (c_X8_refuseF g ω v ρ Z hH (ρ t 0) hw0_ (1) (by omega)) rfl rfl rfl (hH.kd hw0_ (by decide)) (by rw [hRm]; exact ⟨by decide, by decide⟩) (by rw [hRm]; exact ⟨by decide, by decide⟩) (Nat.le_of_ble_eq_true rfl) (fun o17 v17 ρv17 Zv17 hq17 _ => ?_)
    obtain ⟨rfl, rfl, hfr17, hH17, r17, rfl, hq17⟩ := hq17
    show wp g X F_X7_readClosing 0 0 20 [(2, t)] [(0, r17)] v17 ρ Z
    exact r_zret (pc := 20) hX 9 hQ rfl rfl ⟨by omega, by omega⟩ (Nat.le_of_ble_eq_true rfl) (Nat.le_of_ble_eq_true rfl) ⟨rfl, rfl, (FrW.rf).tr hfr17 (by decide), hH17, r17, rfl, (by omega), (Hd.i (Or.inr ⟨hq17.1, hm6.2, hq17.2.1.1, hq17.2.1.2.trans hT.k5⟩))⟩
set_option maxHeartbeats 4000000 in
set_option maxRecDepth 100000 in
theorem c_X7_readHasS (g : Gp) (ω : Rw) (v ρ : Mv) (Z : Mz) (hH : HT ω v ρ Z) {F : Int → Int} {n m p L q : Int} {s : Rd} (t : Int) (ht : ω t = 21) (o : Int) (ho : ω o = 5) (hT : TkC F n m v ρ (ρ t 0) p) (hR : RcI v ρ o L q s) : Ok g 7 0 0 F_X7_readHas [(2, t), (2, o)] v ρ Z (fun o9 v' ρ' Z' => ρ = ρ' ∧ Z = Z' ∧ FrW ω [2, 19, 20] v v' ∧ HT ω v' ρ Z ∧ ∃ r : Int, o9 = some (0, r) ∧ (0 ≤ r ∧ r ≤ 1) ∧ (LfC F n m (fun x => fnd s.N x 0 (s.H 0).toNat 0) v v' ρ t 16 p r)) := by
  refine Ok.of mo_X7_readHas (Nat.le_of_ble_eq_true rfl) ?_
  intro X hX hRm hxn hQ
  show wp g X F_X7_readHas 0 0 0 [(2, t), (2, o), (3, 0)] [] v ρ Z
  have hw0 : ω (ρ t 0) = 2 := hH.rf ht (by decide) rfl
  have hw3 : ω (ρ (ρ t 0) 0) = 3 := hH.rf hw0 (by decide) rfl
  have hw1 : ω (ρ t 1) = 19 := hH.rf ht (by decide) rfl
  have hn9 : n ≤ 940 := by
    have z1 : 0 ≤ v (ρ t 0) 1 ∧ v (ρ t 0) 1 ≤ 940 := hH.rg hw0 (by decide) rfl
    have z := hT.2.2.1
    omega
  have hp0 := hT.1
  have hp1 := hT.2.1
  have ho4 : 0 ≤ v (ρ t 1) 4 ∧ v (ρ t 1) 4 ≤ 20 := hH.rg hw1 (by decide) rfl
  have hg_o_8 : 0 ≤ v o 8 ∧ v o 8 ≤ 4 := hH.rg ho (by decide) rfl
  refine t_getR (q := (ρ t 0)) (pc := 0) hX 0 rfl rfl rfl fl_X7_18 rfl (hH.kd ht (by decide)) (rfl) ?_
  have hw0_ : ω (ρ t 0) = 2 := hH.rf ht (by decide) rfl
  refine r_callV (as := []) (st := []) (K := 8) (pc := 4) hX 2 rfl mo_X8_isName ml_X7_71 im_X8_isName se_X8_isName (c_X8_isNameT g ω v ρ Z hH (ρ t 0) hw0_ (hT)) rfl rfl rfl (hH.kd hw0_ (by decide)) (by rw [hRm]; exact ⟨by decide, by decide⟩) (by rw [hRm]; exact ⟨by decide, by decide⟩) (Nat.le_of_ble_eq_true rfl) (fun o4 v4 ρv4 Zv4 hq4 _ => ?_)
  obtain ⟨rfl, rfl, rfl, r4, rfl, hq4⟩ := hq4
  show wp g X F_X7_readHas 0 0 7 [(2, t), (2, o), (3, 0)] [(0, r4)] v ρ Z
  first | refine r_if_ne (pc := 7) hX 3 (tgt := 19) rfl (by decide) (⟨by omega, by omega⟩) (fun h7 => ?_) (fun h7 => ?_) | refine r_if_ne_any (pc := 7) hX 3 (tgt := 19) rfl (by decide) ?_ ?_
  · have hn4 := (Hd.o hq4.2).resolve_right (fun z => absurd z.1 (by omega))
    have hnm := hT.nam hn4.2
    refine r_aload_n (pc := 19) hX 9 rfl rfl ?_
    refine t_getR (q := (ρ t 0)) (pc := 20) hX 10 rfl rfl rfl fl_X7_18 rfl (hH.kd ht (by decide)) (rfl) ?_
    refine e_getL (y := (v (ρ t 0) 8)) (pc := 24) hX 12 rfl fl_X7_74 rfl (hH.kd hw0_ (by decide)) (rfl) ?_
    refine r_callV (as := [(1, (v (ρ t 0) 8))]) (st := []) (K := 4) (pc := 27) hX 13 rfl mo_X4_colourNamed ml_X7_78 im_X4_colourNamed se_X4_colourNamed (c_X4_colourNamedF g ω v ρ Z hH o ho ((v (ρ t 0) 8)) (hR) (by rw [hnm.1]; exact hnm.2.1)) rfl rfl rfl (hH.kd ho (by decide)) (by rw [hRm]; exact ⟨by decide, by decide⟩) (by rw [hRm]; exact ⟨by decide, by decide⟩) (Nat.le_of_ble_eq_true rfl) (fun o27 v27 ρv27 Zv27 hq27 _ => ?_)
    obtain ⟨rfl, rfl, rfl, r27, rfl, hq27⟩ := hq27
    show wp g X F_X7_readHas 0 0 30 [(2, t), (2, o), (3, 0)] [(0, r27)] v ρ Z
    have ec : r27 = fnd s.N (tn F n p) 0 (s.H 0).toNat 0 := by
      have z := hq27.2
      rw [hnm.1] at z
      exact z
    replace hq27 := hq27.1
    refine r_istore_n (ls' := [(2, t), (2, o), (0, r27)]) (pc := 30) hX 14 rfl (by decide) rfl ?_
    refine r_iload_n (pc := 31) hX 15 rfl rfl ?_
    refine r_iconst (pc := 32) hX 16 rfl ?_
    first | refine r_icmp_ne (pc := 33) hX 17 (tgt := 45) rfl (by decide) (⟨by omega, by omega⟩) (⟨by omega, by omega⟩) (fun h33 => ?_) (fun h33 => ?_) | refine r_icmp_ne_any (pc := 33) hX 17 (tgt := 45) rfl (by decide) ?_ ?_
    · refine t_getR (q := (ρ t 1)) (pc := 45) hX 23 rfl rfl rfl fl_X7_12 rfl (hH.kd ht (by decide)) (rfl) ?_
      have hw45_ : ω (ρ t 1) = 19 := hH.rf ht (by decide) rfl
      refine r_bipush (pc := 49) hX 25 rfl (by decide) ?_
      refine r_iconst (pc := 51) hX 26 rfl ?_
      refine r_iload_n (pc := 52) hX 27 rfl rfl ?_
      refine r_callV (as := [(0, 16), (0, 0), (0, r27)]) (st := []) (K := 6) (pc := 53) hX 28 rfl mo_X6_add ml_X7_46 im_X6_add se_X6_add (c_X6_add g ω v ρ Z hH (ρ t 1) hw45_ (16) (0) (r27) ) rfl rfl rfl (hH.kd hw45_ (by decide)) (by rw [hRm]; exact ⟨by decide, by decide⟩) (by rw [hRm]; exact ⟨by decide, by decide⟩) (Nat.le_of_ble_eq_true rfl) (fun o53 v53 ρv53 Zv53 hq53 _ => ?_)
      obtain ⟨rfl, rfl, hfr53, hH53, rfl, hq53⟩ := hq53
      show wp g X F_X7_readHas 0 0 56 [(2, t), (2, o), (0, r27)] [] v53 ρ Z
      have hT53 := hT.fw hfr53 hw0 hw3 (by decide)
      refine t_getR (q := (ρ t 0)) (pc := 56) hX 29 rfl rfl rfl fl_X7_18 rfl (hH53.kd ht (by decide)) (rfl) ?_
      refine r_callV (as := []) (st := []) (K := 8) (pc := 60) hX 31 rfl mo_X8_advance ml_X7_28 im_X8_advance se_X8_advance (c_X8_advanceT g ω v53 ρ Z hH53 (ρ t 0) hw0_ (hT53)) rfl rfl rfl (hH53.kd hw0_ (by decide)) (by rw [hRm]; exact ⟨by decide, by decide⟩) (by rw [hRm]; exact ⟨by decide, by decide⟩) (Nat.le_of_ble_eq_true rfl) (fun o60 v60 ρv60 Zv60 hq60 _ => ?_)
      obtain ⟨rfl, rfl, hfr60, hH60, rfl, hq60⟩ := hq60
      show wp g X F_X7_readHas 0 0 63 [(2, t), (2, o), (0, r27)] [] v60 ρ Z
      refine r_iconst (pc := 63) hX 32 rfl ?_
      exact r_zret (pc := 64) hX 33 hQ rfl rfl ⟨by omega, by omega⟩ (Nat.le_of_ble_eq_true rfl) (Nat.le_of_ble_eq_true rfl) ⟨rfl, rfl, ((FrW.rf).tr hfr53 (by decide)).tr hfr60 (by decide), hH60, 1, rfl, (by omega), (Or.inl ⟨rfl, tp F n m p, sLeaf_h0 rfl hn4.2 (by show fnd s.N (tn F n p) 0 (s.H 0).toNat 0 ≠ -1; omega), hq60, (hfr60.at hw1 (by decide) 4).trans hq53⟩)⟩
    · refine t_getR (q := (ρ t 0)) (pc := 36) hX 18 rfl rfl rfl fl_X7_18 rfl (hH.kd ht (by decide)) (rfl) ?_
      refine r_iconst (pc := 40) hX 20 rfl ?_
      refine r_callV (as := [(0, 3)]) (st := []) (K := 8) (pc := 41) hX 21 rfl mo_X8_refuse ml_X7_39 im_X8_refuse se_X8_refuse (c_X8_refuseF g ω v ρ Z hH (ρ t 0) hw0_ (3) (by omega)) rfl rfl rfl (hH.kd hw0_ (by decide)) (by rw [hRm]; exact ⟨by decide, by decide⟩) (by rw [hRm]; exact ⟨by decide, by decide⟩) (Nat.le_of_ble_eq_true rfl) (fun o41 v41 ρv41 Zv41 hq41 _ => ?_)
      obtain ⟨rfl, rfl, hfr41, hH41, r41, rfl, hq41⟩ := hq41
      show wp g X F_X7_readHas 0 0 44 [(2, t), (2, o), (0, r27)] [(0, r41)] v41 ρ Z
      exact r_zret (pc := 44) hX 22 hQ rfl rfl ⟨by omega, by omega⟩ (Nat.le_of_ble_eq_true rfl) (Nat.le_of_ble_eq_true rfl) ⟨rfl, rfl, (FrW.rf).tr hfr41 (by decide), hH41, r41, rfl, (by omega), (Or.inr ⟨hq41.1, p, 3, sLeaf_h3 rfl hn4.2 (by show fnd s.N (tn F n p) 0 (s.H 0).toNat 0 = -1; omega), by decide, hq41.2.1.1, hq41.2.1.2.trans hT.k5⟩)⟩
  · have hn4 := (Hd.o hq4.2).resolve_left (fun z => absurd z.1 (by omega))
    refine t_getR (q := (ρ t 0)) (pc := 10) hX 4 rfl rfl rfl fl_X7_18 rfl (hH.kd ht (by decide)) (rfl) ?_
    refine r_iconst (pc := 14) hX 6 rfl ?_
    refine r_callV (as := [(0, 1)]) (st := []) (K := 8) (pc := 15) hX 7 rfl mo_X8_refuse ml_X7_39 im_X8_refuse se_X8_refuse (c_X8_refuseF g ω v ρ Z hH (ρ t 0) hw0_ (1) (by omega)) rfl rfl rfl (hH.kd hw0_ (by decide)) (by rw [hRm]; exact ⟨by decide, by decide⟩) (by rw [hRm]; exact ⟨by decide, by decide⟩) (Nat.le_of_ble_eq_true rfl) (fun o15 v15 ρv15 Zv15 hq15 _ => ?_)
    obtain ⟨rfl, rfl, hfr15, hH15, r15, rfl, hq15⟩ := hq15
    show wp g X F_X7_readHas 0 0 18 [(2, t), (2, o), (3, 0)] [(0, r15)] v15 ρ Z
    exact r_zret (pc := 18) hX 8 hQ rfl rfl ⟨by omega, by omega⟩ (Nat.le_of_ble_eq_true rfl) (Nat.le_of_ble_eq_true rfl) ⟨rfl, rfl, (FrW.rf).tr hfr15 (by decide), hH15, r15, rfl, (by omega), (Or.inr ⟨hq15.1, p, 1, sLeaf_h1 rfl hn4.2, by decide, hq15.2.1.1, hq15.2.1.2.trans hT.k5⟩)⟩
set_option maxHeartbeats 4000000 in
set_option maxRecDepth 100000 in
theorem c_X7_readComparisonS (g : Gp) (ω : Rw) (v ρ : Mv) (Z : Mz) (hH : HT ω v ρ Z) {F C : Int → Int} {n m p : Int} (t : Int) (ht : ω t = 21) (k : Int) (hT : TkC F n m v ρ (ρ t 0) p) (hk : 18 ≤ k) : Ok g 7 0 0 F_X7_readComparison [(2, t), (0, k)] v ρ Z (fun o9 v' ρ' Z' => ρ = ρ' ∧ Z = Z' ∧ FrW ω [2, 19, 20] v v' ∧ HT ω v' ρ Z ∧ ∃ r : Int, o9 = some (0, r) ∧ (0 ≤ r ∧ r ≤ 1) ∧ (LfC F n m C v v' ρ t k p r)) := by
  refine Ok.of mo_X7_readComparison (Nat.le_of_ble_eq_true rfl) ?_
  intro X hX hRm hxn hQ
  show wp g X F_X7_readComparison 0 0 0 [(2, t), (0, k), (3, 0)] [] v ρ Z
  have hw0 : ω (ρ t 0) = 2 := hH.rf ht (by decide) rfl
  have hw3 : ω (ρ (ρ t 0) 0) = 3 := hH.rf hw0 (by decide) rfl
  have hw1 : ω (ρ t 1) = 19 := hH.rf ht (by decide) rfl
  have hn9 : n ≤ 940 := by
    have z1 : 0 ≤ v (ρ t 0) 1 ∧ v (ρ t 0) 1 ≤ 940 := hH.rg hw0 (by decide) rfl
    have z := hT.2.2.1
    omega
  have hp0 := hT.1
  have hp1 := hT.2.1
  have ho4 : 0 ≤ v (ρ t 1) 4 ∧ v (ρ t 1) 4 ≤ 20 := hH.rg hw1 (by decide) rfl
  have hk4 := hT.k4
  have hv4 : v (ρ t 0) 4 = 3 → v (ρ t 0) 6 = tv F n p := fun z => hT.2.2.2.2.2.2.2.2.1 (Or.inr z)
  refine t_getR (q := (ρ t 0)) (pc := 0) hX 0 rfl rfl rfl fl_X7_18 rfl (hH.kd ht (by decide)) (rfl) ?_
  have hw0_ : ω (ρ t 0) = 2 := hH.rf ht (by decide) rfl
  refine r_callV (as := []) (st := []) (K := 8) (pc := 4) hX 2 rfl mo_X8_isComparing ml_X7_84 im_X8_isComparing se_X8_isComparing (c_X8_isComparingF g ω v ρ Z hH (ρ t 0) hw0_ ) rfl rfl rfl (hH.kd hw0_ (by decide)) (by rw [hRm]; exact ⟨by decide, by decide⟩) (by rw [hRm]; exact ⟨by decide, by decide⟩) (Nat.le_of_ble_eq_true rfl) (fun o4 v4 ρv4 Zv4 hq4 _ => ?_)
  obtain ⟨rfl, rfl, rfl, r4, rfl, hq4⟩ := hq4
  show wp g X F_X7_readComparison 0 0 7 [(2, t), (0, k), (3, 0)] [(0, r4)] v ρ Z
  first | refine r_if_ne (pc := 7) hX 3 (tgt := 19) rfl (by decide) (⟨by omega, by omega⟩) (fun h7 => ?_) (fun h7 => ?_) | refine r_if_ne_any (pc := 7) hX 3 (tgt := 19) rfl (by decide) ?_ ?_
  · have hc : (tk F n m p = 3 ∧ 60 ≤ tv F n p ∧ tv F n p ≤ 62) := by
      have z := hv4 (by omega)
      omega
    refine t_getR (q := (ρ t 0)) (pc := 19) hX 9 rfl rfl rfl fl_X7_18 rfl (hH.kd ht (by decide)) (rfl) ?_
    refine e_getI (y := (v (ρ t 0) 6)) (pc := 23) hX 11 rfl fl_X7_87 rfl (hH.kd hw0_ (by decide)) (rfl) ?_
    have hb23 : (-2147483648) ≤ (v (ρ t 0) 6) ∧ (v (ρ t 0) 6) ≤ 2147483647 := hH.rg hw0_ (by decide) rfl
    refine r_istore_n (ls' := [(2, t), (0, k), (0, (v (ρ t 0) 6))]) (pc := 26) hX 12 rfl (by decide) rfl ?_
    refine t_getR (q := (ρ t 0)) (pc := 27) hX 13 rfl rfl rfl fl_X7_18 rfl (hH.kd ht (by decide)) (rfl) ?_
    refine r_callV (as := []) (st := []) (K := 8) (pc := 31) hX 15 rfl mo_X8_advance ml_X7_28 im_X8_advance se_X8_advance (c_X8_advanceT g ω v ρ Z hH (ρ t 0) hw0_ (hT)) rfl rfl rfl (hH.kd hw0_ (by decide)) (by rw [hRm]; exact ⟨by decide, by decide⟩) (by rw [hRm]; exact ⟨by decide, by decide⟩) (Nat.le_of_ble_eq_true rfl) (fun o31 v31 ρv31 Zv31 hq31 _ => ?_)
    obtain ⟨rfl, rfl, hfr31, hH31, rfl, hq31⟩ := hq31
    show wp g X F_X7_readComparison 0 0 34 [(2, t), (0, k), (0, (v (ρ t 0) 6))] [] v31 ρ Z
    have hk31 := hq31.k4
    refine t_getR (q := (ρ t 0)) (pc := 34) hX 16 rfl rfl rfl fl_X7_18 rfl (hH31.kd ht (by decide)) (rfl) ?_
    refine r_callV (as := []) (st := []) (K := 8) (pc := 38) hX 18 rfl mo_X8_isNumber ml_X7_90 im_X8_isNumber se_X8_isNumber (c_X8_isNumberF g ω v31 ρ Z hH31 (ρ t 0) hw0_ ) rfl rfl rfl (hH31.kd hw0_ (by decide)) (by rw [hRm]; exact ⟨by decide, by decide⟩) (by rw [hRm]; exact ⟨by decide, by decide⟩) (Nat.le_of_ble_eq_true rfl) (fun o38 v38 ρv38 Zv38 hq38 _ => ?_)
    obtain ⟨rfl, rfl, rfl, r38, rfl, hq38⟩ := hq38
    show wp g X F_X7_readComparison 0 0 41 [(2, t), (0, k), (0, (v (ρ t 0) 6))] [(0, r38)] v31 ρ Z
    first | refine r_if_ne (pc := 41) hX 19 (tgt := 53) rfl (by decide) (⟨by omega, by omega⟩) (fun h41 => ?_) (fun h41 => ?_) | refine r_if_ne_any (pc := 41) hX 19 (tgt := 53) rfl (by decide) ?_ ?_
    · refine t_getR (q := (ρ t 1)) (pc := 53) hX 25 rfl rfl rfl fl_X7_12 rfl (hH31.kd ht (by decide)) (rfl) ?_
      have hw53_ : ω (ρ t 1) = 19 := hH.rf ht (by decide) rfl
      refine r_iload_n (pc := 57) hX 27 rfl rfl ?_
      refine r_iload_n (pc := 58) hX 28 rfl rfl ?_
      refine t_getR (q := (ρ t 0)) (pc := 59) hX 29 rfl rfl rfl fl_X7_18 rfl (hH31.kd ht (by decide)) (rfl) ?_
      refine e_getI (y := (v31 (ρ t 0) 6)) (pc := 63) hX 31 rfl fl_X7_87 rfl (hH31.kd hw0_ (by decide)) (rfl) ?_
      have hb63 : (-2147483648) ≤ (v31 (ρ t 0) 6) ∧ (v31 (ρ t 0) 6) ≤ 2147483647 := hH31.rg hw0_ (by decide) rfl
      refine r_callV (as := [(0, k), (0, (v (ρ t 0) 6)), (0, (v31 (ρ t 0) 6))]) (st := []) (K := 6) (pc := 66) hX 32 rfl mo_X6_add ml_X7_46 im_X6_add se_X6_add (c_X6_add g ω v31 ρ Z hH31 (ρ t 1) hw53_ (k) ((v (ρ t 0) 6)) ((v31 (ρ t 0) 6)) ) rfl rfl rfl (hH31.kd hw53_ (by decide)) (by rw [hRm]; exact ⟨by decide, by decide⟩) (by rw [hRm]; exact ⟨by decide, by decide⟩) (Nat.le_of_ble_eq_true rfl) (fun o66 v66 ρv66 Zv66 hq66 _ => ?_)
      obtain ⟨rfl, rfl, hfr66, hH66, rfl, hq66⟩ := hq66
      try rw [show (v31 (ρ t 1) 4) = (v (ρ t 1) 4) from (hfr31.at hw53_ (by decide) 4).trans (rfl)] at hq66
      show wp g X F_X7_readComparison 0 0 69 [(2, t), (0, k), (0, (v (ρ t 0) 6))] [] v66 ρ Z
      have hT66 := hq31.fw hfr66 hw0 hw3 (by decide)
      refine t_getR (q := (ρ t 0)) (pc := 69) hX 33 rfl rfl rfl fl_X7_18 rfl (hH66.kd ht (by decide)) (rfl) ?_
      refine r_callV (as := []) (st := []) (K := 8) (pc := 73) hX 35 rfl mo_X8_advance ml_X7_28 im_X8_advance se_X8_advance (c_X8_advanceT g ω v66 ρ Z hH66 (ρ t 0) hw0_ (hT66)) rfl rfl rfl (hH66.kd hw0_ (by decide)) (by rw [hRm]; exact ⟨by decide, by decide⟩) (by rw [hRm]; exact ⟨by decide, by decide⟩) (Nat.le_of_ble_eq_true rfl) (fun o73 v73 ρv73 Zv73 hq73 _ => ?_)
      obtain ⟨rfl, rfl, hfr73, hH73, rfl, hq73⟩ := hq73
      show wp g X F_X7_readComparison 0 0 76 [(2, t), (0, k), (0, (v (ρ t 0) 6))] [] v73 ρ Z
      refine r_iconst (pc := 76) hX 36 rfl ?_
      exact r_zret (pc := 77) hX 37 hQ rfl rfl ⟨by omega, by omega⟩ (Nat.le_of_ble_eq_true rfl) (Nat.le_of_ble_eq_true rfl) ⟨rfl, rfl, (((FrW.rf).tr hfr31 (by decide)).tr hfr66 (by decide)).tr hfr73 (by decide), hH73, 1, rfl, (by omega), (Or.inl ⟨rfl, tp F n m (tp F n m p), sLeaf_c0 hk hc (by omega), hq73, (hfr73.at hw1 (by decide) 4).trans (by first | exact hq66 | exact hq66.trans (hfr31.at hw1 (by decide) 4))⟩)⟩
    · refine t_getR (q := (ρ t 0)) (pc := 44) hX 20 rfl rfl rfl fl_X7_18 rfl (hH31.kd ht (by decide)) (rfl) ?_
      refine r_iconst (pc := 48) hX 22 rfl ?_
      refine r_callV (as := [(0, 1)]) (st := []) (K := 8) (pc := 49) hX 23 rfl mo_X8_refuse ml_X7_39 im_X8_refuse se_X8_refuse (c_X8_refuseF g ω v31 ρ Z hH31 (ρ t 0) hw0_ (1) (by omega)) rfl rfl rfl (hH31.kd hw0_ (by decide)) (by rw [hRm]; exact ⟨by decide, by decide⟩) (by rw [hRm]; exact ⟨by decide, by decide⟩) (Nat.le_of_ble_eq_true rfl) (fun o49 v49 ρv49 Zv49 hq49 _ => ?_)
      obtain ⟨rfl, rfl, hfr49, hH49, r49, rfl, hq49⟩ := hq49
      show wp g X F_X7_readComparison 0 0 52 [(2, t), (0, k), (0, (v (ρ t 0) 6))] [(0, r49)] v49 ρ Z
      exact r_zret (pc := 52) hX 24 hQ rfl rfl ⟨by omega, by omega⟩ (Nat.le_of_ble_eq_true rfl) (Nat.le_of_ble_eq_true rfl) ⟨rfl, rfl, ((FrW.rf).tr hfr31 (by decide)).tr hfr49 (by decide), hH49, r49, rfl, (by omega), (Or.inr ⟨hq49.1, tp F n m p, 1, sLeaf_c2 hk hc (by omega), by decide, hq49.2.1.1, hq49.2.1.2.trans hq31.k5⟩)⟩
  · have hc : ¬ (tk F n m p = 3 ∧ 60 ≤ tv F n p ∧ tv F n p ≤ 62) := by
      rintro ⟨a, b, c⟩
      have z := hv4 (by omega)
      omega
    refine t_getR (q := (ρ t 0)) (pc := 10) hX 4 rfl rfl rfl fl_X7_18 rfl (hH.kd ht (by decide)) (rfl) ?_
    refine r_iconst (pc := 14) hX 6 rfl ?_
    refine r_callV (as := [(0, 1)]) (st := []) (K := 8) (pc := 15) hX 7 rfl mo_X8_refuse ml_X7_39 im_X8_refuse se_X8_refuse (c_X8_refuseF g ω v ρ Z hH (ρ t 0) hw0_ (1) (by omega)) rfl rfl rfl (hH.kd hw0_ (by decide)) (by rw [hRm]; exact ⟨by decide, by decide⟩) (by rw [hRm]; exact ⟨by decide, by decide⟩) (Nat.le_of_ble_eq_true rfl) (fun o15 v15 ρv15 Zv15 hq15 _ => ?_)
    obtain ⟨rfl, rfl, hfr15, hH15, r15, rfl, hq15⟩ := hq15
    show wp g X F_X7_readComparison 0 0 18 [(2, t), (0, k), (3, 0)] [(0, r15)] v15 ρ Z
    exact r_zret (pc := 18) hX 8 hQ rfl rfl ⟨by omega, by omega⟩ (Nat.le_of_ble_eq_true rfl) (Nat.le_of_ble_eq_true rfl) ⟨rfl, rfl, (FrW.rf).tr hfr15 (by decide), hH15, r15, rfl, (by omega), (Or.inr ⟨hq15.1, p, 1, sLeaf_c1 hk hc, by decide, hq15.2.1.1, hq15.2.1.2.trans hT.k5⟩)⟩
