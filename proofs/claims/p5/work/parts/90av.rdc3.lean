set_option maxHeartbeats 4000000 in
set_option maxRecDepth 100000 in
theorem c_X5_readColourF (g : Gp) (ω : Rw) (v ρ : Mv) (Z : Mz) (hH : HT ω v ρ Z) {F : Int → Int} {n m i : Int} {s : Rd} {B : Int} (t : Int) (ht : ω t = 4) (hR : RdC F n m v ρ t i (s.H 1) s) (hB : NbI ρ (ρ t 1) B) : Ok g 8 0 0 F_X5_readColour [(2, t)] v ρ Z (fun o9 v' ρ' Z' => ρ = ρ' ∧ Z = Z' ∧ FrW ω [2, 5, 6, 9] v v' ∧ HT ω v' ρ Z ∧ ∃ r : Int, o9 = some (0, r) ∧ (0 ≤ r ∧ r ≤ 1) ∧ (PoC F n m v' ρ t i r (rColour F n m s)) ∧ (FrK ω B v v')) := by
  refine Ok.of mo_X5_readColour (Nat.le_of_ble_eq_true rfl) ?_
  intro X hX hRm hxn hQ
  show wp g X F_X5_readColour 0 0 0 [(2, t)] [] v ρ Z
  have hw := RtW.of hH ht
  have hw0 : ω (ρ t 0) = 2 := hH.rf ht (by decide) rfl
  have hwr : ω (ρ t 1) = 5 := hH.rf ht (by decide) rfl
  have hg8 : 0 ≤ v (ρ t 1) 8 ∧ v (ρ t 1) 8 ≤ 4 := hH.rg hwr (by decide) rfl
  have hg9 : 0 ≤ v (ρ t 1) 9 ∧ v (ρ t 1) 9 ≤ 3 := hH.rg hwr (by decide) rfl
  have hg10 : 0 ≤ v (ρ t 1) 10 ∧ v (ρ t 1) 10 ≤ 3 := hH.rg hwr (by decide) rfl
  have hk8 := hR.rc.k8
  have hk9 := hR.rc.k9
  have hk10 := hR.rc.k10
  have hbH : (0 ≤ s.H 0 ∧ s.H 0 ≤ 4) ∧ (0 ≤ s.H 1 ∧ s.H 1 ≤ 3) ∧ (0 ≤ s.H 2 ∧ s.H 2 ≤ 3) := by omega
  refine t_getR (q := (ρ t 1)) (pc := 0) hX 0 rfl rfl rfl fl_X5_18 rfl (hH.kd ht (by decide)) (rfl) ?_
  have hw0_ : ω (ρ t 1) = 5 := hH.rf ht (by decide) rfl
  refine e_getI (y := (v (ρ t 1) 8)) (pc := 4) hX 2 rfl fl_X5_81 rfl (hH.kd hw0_ (by decide)) (rfl) ?_
  have hb4 : 0 ≤ (v (ρ t 1) 8) ∧ (v (ρ t 1) 8) ≤ 4 := hH.rg hw0_ (by decide) rfl
  refine r_iconst (pc := 7) hX 3 rfl ?_
  first | refine r_icmp_lt (pc := 8) hX 4 (tgt := 20) rfl (by decide) (⟨by omega, by omega⟩) (⟨by omega, by omega⟩) (fun h8 => ?_) (fun h8 => ?_) | refine r_icmp_lt_any (pc := 8) hX 4 (tgt := 20) rfl (by decide) ?_ ?_
  · refine r_aload_n (pc := 20) hX 10 rfl rfl ?_
    refine r_callV (as := []) (st := []) (K := 5) (pc := 21) hX 11 rfl mo_X5_readNewName ml_X5_84 im_X5_readNewName se_X5_readNewName (c_X5_readNewNameF g ω v ρ Z hH t ht (hR) (hB)) rfl rfl rfl (hH.kd ht (by decide)) (by rw [hRm]; exact ⟨by decide, by decide⟩) (by rw [hRm]; exact ⟨by decide, by decide⟩) (Nat.le_of_ble_eq_true rfl) (fun o21 v21 ρv21 Zv21 hq21 _ => ?_)
    obtain ⟨rfl, rfl, hfr21, hH21, r21, rfl, hq21⟩ := hq21
    have hfk21 := hq21.2.2
    replace hq21 := And.intro hq21.1 (hq21.2.1)
    show wp g X F_X5_readColour 0 0 24 [(2, t)] [(0, r21)] v21 ρ Z
    first | refine r_if_ne (pc := 24) hX 12 (tgt := 29) rfl (by decide) (⟨by omega, by omega⟩) (fun h24 => ?_) (fun h24 => ?_) | refine r_if_ne_any (pc := 24) hX 12 (tgt := 29) rfl (by decide) ?_ ?_
    · obtain ⟨hw1, hR21, hx8, hxb⟩ := hq21.2.p1 (by omega)
      refine t_getR (q := (ρ t 1)) (pc := 29) hX 15 rfl rfl rfl fl_X5_18 rfl (hH21.kd ht (by decide)) (rfl) ?_
      refine r_getR (q := (ρ (ρ t 1) 0)) (pc := 33) hX 17 rfl fl_X5_87 rfl (hH21.kd hw0_ (by decide)) (rfl) ?_
      have hw33_ : ω (ρ (ρ t 1) 0) = 6 := hH.rf hw0_ (by decide) rfl
      refine t_getR (q := (ρ t 1)) (pc := 36) hX 18 rfl rfl rfl fl_X5_18 rfl (hH21.kd ht (by decide)) (rfl) ?_
      refine e_getI (y := (v (ρ t 1) 8)) (pc := 40) hX 20 rfl fl_X5_81 rfl (hH21.kd hw0_ (by decide)) ((hfr21.at hw0_ (by decide) 8).trans (rfl)) ?_
      refine t_getR (q := (ρ t 0)) (pc := 43) hX 21 rfl rfl rfl fl_X5_9 rfl (hH21.kd ht (by decide)) (rfl) ?_
      have hw43_ : ω (ρ t 0) = 2 := hH.rf ht (by decide) rfl
      refine e_getL (y := (v21 (ρ t 0) 8)) (pc := 47) hX 23 rfl fl_X5_91 rfl (hH21.kd hw43_ (by decide)) (rfl) ?_
      refine e_last (n := 4) (pc := 50) hX 24 rfl (hH21.kd hw33_ (by decide)) (hH21.ln hw33_ (by decide)) (hH21.g4 hw33_ (by decide)) (by omega) (by omega) ?_
      have hH_50 : HT ω (up v21 (ρ (ρ t 1) 0) (v (ρ t 1) 8) (v21 (ρ t 0) 8)) ρ Z := hH21.up0 hw33_ (by decide) rfl
      have hR50 : RdC F n m (up v21 (ρ (ρ t 1) 0) (v (ρ t 1) 8) (v21 (ρ t 0) 8)) ρ t i (s.H 1) (Rd.wN (nx F n m s) (sv s.N (s.H 0) (tn F n (nx F n m s).p))) := by
        rw [hx8]
        exact hR21.nam0 hw hk8 (by omega) hbH (by omega)
      have hc50 : (up v21 (ρ (ρ t 1) 0) (v (ρ t 1) 8) (v21 (ρ t 0) 8)) (ρ (ρ t 1) 0) (v (ρ t 1) 8) = (tn F n (nx F n m s).p) := (up_s _ _ _ _).trans hx8
      refine r_aload_n (pc := 51) hX 25 rfl rfl ?_
      refine r_iconst (pc := 52) hX 26 rfl ?_
      refine r_iconst (pc := 53) hX 27 rfl ?_
      refine r_callV (as := [(0, 1), (0, 3)]) (st := []) (K := 5) (pc := 54) hX 28 rfl mo_X5_readNumber ml_X5_95 im_X5_readNumber se_X5_readNumber (c_X5_readNumberF g ω (up v21 (ρ (ρ t 1) 0) (v (ρ t 1) 8) (v21 (ρ t 0) 8)) ρ Z hH_50 t ht (1) (3) (hR50) (by omega) (by omega) (hB)) rfl rfl rfl (hH_50.kd ht (by decide)) (by rw [hRm]; exact ⟨by decide, by decide⟩) (by rw [hRm]; exact ⟨by decide, by decide⟩) (Nat.le_of_ble_eq_true rfl) (fun o54 v54 ρv54 Zv54 hq54 _ => ?_)
      obtain ⟨rfl, rfl, hfr54, hH54, r54, rfl, hq54⟩ := hq54
      have hfk54 := hq54.2.2
      replace hq54 := And.intro hq54.1 (hq54.2.1)
      show wp g X F_X5_readColour 0 0 57 [(2, t)] [(0, r54)] v54 ρ Z
      have hc54 : v54 (ρ (ρ t 1) 0) (s.H 0) = (tn F n (nx F n m s).p) := by
        rw [hfr54 (ρ (ρ t 1) 0) (by rw [hw.w6]; decide), ← hk8]
        exact hc50
      first | refine r_if_ne (pc := 57) hX 29 (tgt := 62) rfl (by decide) (⟨by omega, by omega⟩) (fun h57 => ?_) (fun h57 => ?_) | refine r_if_ne_any (pc := 57) hX 29 (tgt := 62) rfl (by decide) ?_ ?_
      · obtain ⟨hw2, hR54, hx6, hlo6, hhi6⟩ := hq54.2.p1 (by omega)
        refine t_getR (q := (ρ t 1)) (pc := 62) hX 32 rfl rfl rfl fl_X5_18 rfl (hH54.kd ht (by decide)) (rfl) ?_
        refine r_getR (q := (ρ (ρ t 1) 1)) (pc := 66) hX 34 rfl fl_X5_99 rfl (hH54.kd hw0_ (by decide)) (rfl) ?_
        have hw66_ : ω (ρ (ρ t 1) 1) = 9 := hH.rf hw0_ (by decide) rfl
        refine t_getR (q := (ρ t 1)) (pc := 69) hX 35 rfl rfl rfl fl_X5_18 rfl (hH54.kd ht (by decide)) (rfl) ?_
        refine e_getI (y := (v (ρ t 1) 8)) (pc := 73) hX 37 rfl fl_X5_81 rfl (hH54.kd hw0_ (by decide)) ((hfr54.at hw0_ (by decide) 8).trans ((up_r (rne hw0_ hw33_ (by decide))).trans ((hfr21.at hw0_ (by decide) 8).trans (rfl)))) ?_
        refine t_getR (q := (ρ t 0)) (pc := 76) hX 38 rfl rfl rfl fl_X5_9 rfl (hH54.kd ht (by decide)) (rfl) ?_
        refine e_getI (y := (v54 (ρ t 0) 6)) (pc := 80) hX 40 rfl fl_X5_103 rfl (hH54.kd hw43_ (by decide)) (rfl) ?_
        have hb80 : (-2147483648) ≤ (v54 (ρ t 0) 6) ∧ (v54 (ρ t 0) 6) ≤ 2147483647 := hH54.rg hw43_ (by decide) rfl
        refine e_iast (n := 5) (pc := 83) hX 41 rfl (hH54.kd hw66_ (by decide)) (hH54.ln hw66_ (by decide)) (hH54.g4 hw66_ (by decide)) (by omega) (by omega) ?_
        have hH_83 : HT ω (up v54 (ρ (ρ t 1) 1) (v (ρ t 1) 8) (v54 (ρ t 0) 6)) ρ Z := hH54.upR hw66_ (by decide) rfl (by omega) (by omega)
        have hR83 : RdC F n m (up v54 (ρ (ρ t 1) 1) (v (ρ t 1) 8) (v54 (ρ t 0) 6)) ρ t i (s.H 1) (Rd.wH (nx F n m (Rd.wN (nx F n m s) (sv s.N (s.H 0) (tn F n (nx F n m s).p)))) (sv s.H (6 + s.H 0) (tv F n (nx F n m (Rd.wN (nx F n m s) (sv s.N (s.H 0) (tn F n (nx F n m s).p)))).p))) := (hR54.ign (by omega)).oth hw hw.w9 rfl (by decide) (by decide) (by decide)
        refine t_getR (q := (ρ t 1)) (pc := 84) hX 42 rfl rfl rfl fl_X5_18 rfl (hH_83.kd ht (by decide)) (rfl) ?_
        refine r_dup (pc := 88) hX 44 rfl (show (2 : Nat) ≠ 1 by decide) ?_
        refine e_getI (y := (v (ρ t 1) 8)) (pc := 89) hX 45 rfl fl_X5_81 rfl (hH_83.kd hw0_ (by decide)) ((up_r (rne hw0_ hw66_ (by decide))).trans ((hfr54.at hw0_ (by decide) 8).trans ((up_r (rne hw0_ hw33_ (by decide))).trans ((hfr21.at hw0_ (by decide) 8).trans (rfl))))) ?_
        refine r_iconst (pc := 92) hX 46 rfl ?_
        refine r_iadd (pc := 93) hX 47 rfl ?_
        refine r_putI (pc := 94) hX 48 rfl fl_X5_81 rfl (fun _ h => by cases h; rfl) (hH_83.kd hw0_ (by decide)) (hH_83.g4 hw0_ (by decide)) ?_
        have hH_94 : HT ω (up (up v54 (ρ (ρ t 1) 1) (v (ρ t 1) 8) (v54 (ρ t 0) 6)) (ρ t 1) 8 ((v (ρ t 1) 8) + 1)) ρ Z := hH_83.upR hw0_ (by decide) rfl (by omega) (by omega)
        show wp g X F_X5_readColour 0 0 97 [(2, t)] [] (up (up v54 (ρ (ρ t 1) 1) (v (ρ t 1) 8) (v54 (ρ t 0) 6)) (ρ t 1) 8 ((v (ρ t 1) 8) + 1)) ρ Z
        have hR94 : RdC F n m (up (up v54 (ρ (ρ t 1) 1) (v (ρ t 1) 8) (v54 (ρ t 0) 6)) (ρ t 1) 8 ((v (ρ t 1) 8) + 1)) ρ t i (s.H 1) (Rd.wH (Rd.wH (nx F n m (Rd.wN (nx F n m s) (sv s.N (s.H 0) (tn F n (nx F n m s).p)))) (sv s.H (6 + s.H 0) (tv F n (nx F n m (Rd.wN (nx F n m s) (sv s.N (s.H 0) (tn F n (nx F n m s).p)))).p))) (sv (sv s.H (6 + s.H 0) (tv F n (nx F n m (Rd.wN (nx F n m s) (sv s.N (s.H 0) (tn F n (nx F n m s).p)))).p)) 0 (s.H 0 + 1))) := by
          have hz := hR83
          rw [hk8] at hz ⊢
          refine hz.inc0 (x := s.H 0) hw ⟨?_, ?_⟩ ?_ rfl
          · rw [up_f (rne hw.w6 hw.w9 (by decide)), hc54]
            show (tn F n (nx F n m s).p) = sv s.N (s.H 0) (tn F n (nx F n m s).p) (0 + s.H 0)
            first | rw [Int.zero_add, sv_s] | rw [sv_s]
          · show NmB (sv s.N (s.H 0) (tn F n (nx F n m s).p) (0 + s.H 0))
            first | rw [Int.zero_add, sv_s] | rw [sv_s]
            exact hxb
          · show sv s.H (6 + s.H 0) _ 0 = s.H 0
            exact sv_n (by omega)
        refine t_getR (q := (ρ t 0)) (pc := 97) hX 49 rfl rfl rfl fl_X5_9 rfl (hH_94.kd ht (by decide)) (rfl) ?_
        refine r_callV (as := []) (st := []) (K := 8) (pc := 101) hX 51 rfl mo_X8_advance ml_X5_35 im_X8_advance se_X8_advance (c_X8_advanceT g ω (up (up v54 (ρ (ρ t 1) 1) (v (ρ t 1) 8) (v54 (ρ t 0) 6)) (ρ t 1) 8 ((v (ρ t 1) 8) + 1)) ρ Z hH_94 (ρ t 0) hw43_ (hR94.tk)) rfl rfl rfl (hH_94.kd hw43_ (by decide)) (by rw [hRm]; exact ⟨by decide, by decide⟩) (by rw [hRm]; exact ⟨by decide, by decide⟩) (Nat.le_of_ble_eq_true rfl) (fun o101 v101 ρv101 Zv101 hq101 _ => ?_)
        obtain ⟨rfl, rfl, hfr101, hH101, rfl, hq101⟩ := hq101
        show wp g X F_X5_readColour 0 0 104 [(2, t)] [] v101 ρ Z
        have hRe := hR94.go hw hfr101 (by decide) hq101
        refine r_iconst (pc := 104) hX 52 rfl ?_
        exact r_zret (pc := 105) hX 53 hQ rfl rfl ⟨by omega, by omega⟩ (Nat.le_of_ble_eq_true rfl) (Nat.le_of_ble_eq_true rfl) ⟨rfl, rfl, ((((((FrW.rf).tr hfr21 (by decide)).up (r := (ρ (ρ t 1) 0)) hw33_ (by decide)).tr hfr54 (by decide)).up (r := (ρ (ρ t 1) 1)) hw66_ (by decide)).up (r := (ρ t 1)) hw0_ (by decide)).tr hfr101 (by decide), hH101, 1, rfl, (by omega), (PoC.ok (L := s.H 1) (by rw [show rColour F n m s = _ from (if_neg (show ¬ 4 ≤ s.H 0 by omega)), hw1, thn_0 rfl, hw2, thn_0 rfl]; rfl) (by show sv (sv s.H (6 + s.H 0) (tv F n (nx F n m (Rd.wN (nx F n m s) (sv s.N (s.H 0) (tn F n (nx F n m s).p)))).p)) 0 (s.H 0 + 1) 1 = s.H 1; rw [sv_n (by decide), sv_n (by omega)]) hRe), (((((((FrK.rf).tr hfk21).ar (q := (ρ (ρ t 1) 0)) (hB.2.1)).tr hfk54).ot (q := (ρ (ρ t 1) 1)) hw66_ (by decide)).ar (q := (ρ t 1)) (hB.1)).tw hfr101 (by decide))⟩
      · refine r_iconst (pc := 60) hX 30 rfl ?_
        exact r_zret (pc := 61) hX 31 hQ rfl rfl ⟨by omega, by omega⟩ (Nat.le_of_ble_eq_true rfl) (Nat.le_of_ble_eq_true rfl) ⟨rfl, rfl, (((FrW.rf).tr hfr21 (by decide)).up (r := (ρ (ρ t 1) 0)) hw33_ (by decide)).tr hfr54 (by decide), hH54, 0, rfl, (by omega), (by rw [show rColour F n m s = _ from (if_neg (show ¬ 4 ≤ s.H 0 by omega)), hw1, thn_0 rfl]; exact hq54.2.p0 (by omega)), ((((FrK.rf).tr hfk21).ar (q := (ρ (ρ t 1) 0)) (hB.2.1)).tr hfk54)⟩
    · refine r_iconst (pc := 27) hX 13 rfl ?_
      exact r_zret (pc := 28) hX 14 hQ rfl rfl ⟨by omega, by omega⟩ (Nat.le_of_ble_eq_true rfl) (Nat.le_of_ble_eq_true rfl) ⟨rfl, rfl, (FrW.rf).tr hfr21 (by decide), hH21, 0, rfl, (by omega), (by rw [show rColour F n m s = _ from (if_neg (show ¬ 4 ≤ s.H 0 by omega))]; exact hq21.2.p0 (by omega)), ((FrK.rf).tr hfk21)⟩
  · refine t_getR (q := (ρ t 0)) (pc := 11) hX 5 rfl rfl rfl fl_X5_9 rfl (hH.kd ht (by decide)) (rfl) ?_
    have hw11_ : ω (ρ t 0) = 2 := hH.rf ht (by decide) rfl
    refine r_iconst (pc := 15) hX 7 rfl ?_
    refine r_callV (as := [(0, 4)]) (st := []) (K := 8) (pc := 16) hX 8 rfl mo_X8_refuse ml_X5_67 im_X8_refuse se_X8_refuse (c_X8_refuseF g ω v ρ Z hH (ρ t 0) hw11_ (4) (by omega)) rfl rfl rfl (hH.kd hw11_ (by decide)) (by rw [hRm]; exact ⟨by decide, by decide⟩) (by rw [hRm]; exact ⟨by decide, by decide⟩) (Nat.le_of_ble_eq_true rfl) (fun o16 v16 ρv16 Zv16 hq16 _ => ?_)
    obtain ⟨rfl, rfl, hfr16, hH16, r16, rfl, hq16⟩ := hq16
    show wp g X F_X5_readColour 0 0 19 [(2, t)] [(0, r16)] v16 ρ Z
    exact r_zret (pc := 19) hX 9 hQ rfl rfl ⟨by omega, by omega⟩ (Nat.le_of_ble_eq_true rfl) (Nat.le_of_ble_eq_true rfl) ⟨rfl, rfl, (FrW.rf).tr hfr16 (by decide), hH16, r16, rfl, (by omega), (by rw [hq16.1]; exact PoC.bad (if_pos (by omega)) (by decide) hq16.2.1.1 (hq16.2.1.2.trans hR.tk.k5)), ((FrK.rf).tw hfr16 (by decide))⟩
set_option maxHeartbeats 4000000 in
set_option maxRecDepth 100000 in
theorem c_X5_readPlayerF (g : Gp) (ω : Rw) (v ρ : Mv) (Z : Mz) (hH : HT ω v ρ Z) {F : Int → Int} {n m i : Int} {s : Rd} {B : Int} (t : Int) (ht : ω t = 4) (hR : RdC F n m v ρ t i (s.H 1) s) (hB : NbI ρ (ρ t 1) B) : Ok g 8 0 0 F_X5_readPlayer [(2, t)] v ρ Z (fun o9 v' ρ' Z' => ρ = ρ' ∧ Z = Z' ∧ FrW ω [2, 5, 8, 14] v v' ∧ HT ω v' ρ Z ∧ ∃ r : Int, o9 = some (0, r) ∧ (0 ≤ r ∧ r ≤ 1) ∧ (PoC F n m v' ρ t i r (rPlayer F n m s)) ∧ (FrK ω B v v')) := by
  refine Ok.of mo_X5_readPlayer (Nat.le_of_ble_eq_true rfl) ?_
  intro X hX hRm hxn hQ
  show wp g X F_X5_readPlayer 0 0 0 [(2, t)] [] v ρ Z
  have hw := RtW.of hH ht
  have hw0 : ω (ρ t 0) = 2 := hH.rf ht (by decide) rfl
  have hwr : ω (ρ t 1) = 5 := hH.rf ht (by decide) rfl
  have hg8 : 0 ≤ v (ρ t 1) 8 ∧ v (ρ t 1) 8 ≤ 4 := hH.rg hwr (by decide) rfl
  have hg9 : 0 ≤ v (ρ t 1) 9 ∧ v (ρ t 1) 9 ≤ 3 := hH.rg hwr (by decide) rfl
  have hg10 : 0 ≤ v (ρ t 1) 10 ∧ v (ρ t 1) 10 ≤ 3 := hH.rg hwr (by decide) rfl
  have hk8 := hR.rc.k8
  have hk9 := hR.rc.k9
  have hk10 := hR.rc.k10
  have hbH : (0 ≤ s.H 0 ∧ s.H 0 ≤ 4) ∧ (0 ≤ s.H 1 ∧ s.H 1 ≤ 3) ∧ (0 ≤ s.H 2 ∧ s.H 2 ≤ 3) := by omega
  refine t_getR (q := (ρ t 1)) (pc := 0) hX 0 rfl rfl rfl fl_X5_18 rfl (hH.kd ht (by decide)) (rfl) ?_
  have hw0_ : ω (ρ t 1) = 5 := hH.rf ht (by decide) rfl
  refine e_getI (y := (v (ρ t 1) 10)) (pc := 4) hX 2 rfl fl_X5_137 rfl (hH.kd hw0_ (by decide)) (rfl) ?_
  have hb4 : 0 ≤ (v (ρ t 1) 10) ∧ (v (ρ t 1) 10) ≤ 3 := hH.rg hw0_ (by decide) rfl
  refine r_iconst (pc := 7) hX 3 rfl ?_
  first | refine r_icmp_lt (pc := 8) hX 4 (tgt := 20) rfl (by decide) (⟨by omega, by omega⟩) (⟨by omega, by omega⟩) (fun h8 => ?_) (fun h8 => ?_) | refine r_icmp_lt_any (pc := 8) hX 4 (tgt := 20) rfl (by decide) ?_ ?_
  · refine r_aload_n (pc := 20) hX 10 rfl rfl ?_
    refine r_callV (as := []) (st := []) (K := 5) (pc := 21) hX 11 rfl mo_X5_readNewName ml_X5_84 im_X5_readNewName se_X5_readNewName (c_X5_readNewNameF g ω v ρ Z hH t ht (hR) (hB)) rfl rfl rfl (hH.kd ht (by decide)) (by rw [hRm]; exact ⟨by decide, by decide⟩) (by rw [hRm]; exact ⟨by decide, by decide⟩) (Nat.le_of_ble_eq_true rfl) (fun o21 v21 ρv21 Zv21 hq21 _ => ?_)
    obtain ⟨rfl, rfl, hfr21, hH21, r21, rfl, hq21⟩ := hq21
    have hfk21 := hq21.2.2
    replace hq21 := And.intro hq21.1 (hq21.2.1)
    show wp g X F_X5_readPlayer 0 0 24 [(2, t)] [(0, r21)] v21 ρ Z
    first | refine r_if_ne (pc := 24) hX 12 (tgt := 29) rfl (by decide) (⟨by omega, by omega⟩) (fun h24 => ?_) (fun h24 => ?_) | refine r_if_ne_any (pc := 24) hX 12 (tgt := 29) rfl (by decide) ?_ ?_
    · obtain ⟨hw1, hR21, hx8, hxb⟩ := hq21.2.p1 (by omega)
      refine t_getR (q := (ρ t 1)) (pc := 29) hX 15 rfl rfl rfl fl_X5_18 rfl (hH21.kd ht (by decide)) (rfl) ?_
      refine r_getR (q := (ρ (ρ t 1) 6)) (pc := 33) hX 17 rfl fl_X5_140 rfl (hH21.kd hw0_ (by decide)) (rfl) ?_
      have hw33_ : ω (ρ (ρ t 1) 6) = 8 := hH.rf hw0_ (by decide) rfl
      refine t_getR (q := (ρ t 1)) (pc := 36) hX 18 rfl rfl rfl fl_X5_18 rfl (hH21.kd ht (by decide)) (rfl) ?_
      refine e_getI (y := (v (ρ t 1) 10)) (pc := 40) hX 20 rfl fl_X5_137 rfl (hH21.kd hw0_ (by decide)) ((hfr21.at hw0_ (by decide) 10).trans (rfl)) ?_
      refine t_getR (q := (ρ t 0)) (pc := 43) hX 21 rfl rfl rfl fl_X5_9 rfl (hH21.kd ht (by decide)) (rfl) ?_
      have hw43_ : ω (ρ t 0) = 2 := hH.rf ht (by decide) rfl
      refine e_getL (y := (v21 (ρ t 0) 8)) (pc := 47) hX 23 rfl fl_X5_91 rfl (hH21.kd hw43_ (by decide)) (rfl) ?_
      refine e_last (n := 3) (pc := 50) hX 24 rfl (hH21.kd hw33_ (by decide)) (hH21.ln hw33_ (by decide)) (hH21.g4 hw33_ (by decide)) (by omega) (by omega) ?_
      have hH_50 : HT ω (up v21 (ρ (ρ t 1) 6) (v (ρ t 1) 10) (v21 (ρ t 0) 8)) ρ Z := hH21.up0 hw33_ (by decide) rfl
      have hR50 : RdC F n m (up v21 (ρ (ρ t 1) 6) (v (ρ t 1) 10) (v21 (ρ t 0) 8)) ρ t i (s.H 1) (Rd.wN (nx F n m s) (sv s.N (7 + s.H 2) (tn F n (nx F n m s).p))) := by
        rw [hx8]
        exact hR21.nam2 hw hk10 (by omega) hbH (by omega)
      have hc50 : (up v21 (ρ (ρ t 1) 6) (v (ρ t 1) 10) (v21 (ρ t 0) 8)) (ρ (ρ t 1) 6) (v (ρ t 1) 10) = (tn F n (nx F n m s).p) := (up_s _ _ _ _).trans hx8
      refine r_aload_n (pc := 51) hX 25 rfl rfl ?_
      refine r_iconst (pc := 52) hX 26 rfl ?_
      refine r_bipush (pc := 53) hX 27 rfl (by decide) ?_
      refine r_callV (as := [(0, 0), (0, 8)]) (st := []) (K := 5) (pc := 55) hX 28 rfl mo_X5_readNumber ml_X5_95 im_X5_readNumber se_X5_readNumber (c_X5_readNumberF g ω (up v21 (ρ (ρ t 1) 6) (v (ρ t 1) 10) (v21 (ρ t 0) 8)) ρ Z hH_50 t ht (0) (8) (hR50) (by omega) (by omega) (hB)) rfl rfl rfl (hH_50.kd ht (by decide)) (by rw [hRm]; exact ⟨by decide, by decide⟩) (by rw [hRm]; exact ⟨by decide, by decide⟩) (Nat.le_of_ble_eq_true rfl) (fun o55 v55 ρv55 Zv55 hq55 _ => ?_)
      obtain ⟨rfl, rfl, hfr55, hH55, r55, rfl, hq55⟩ := hq55
      have hfk55 := hq55.2.2
      replace hq55 := And.intro hq55.1 (hq55.2.1)
      show wp g X F_X5_readPlayer 0 0 58 [(2, t)] [(0, r55)] v55 ρ Z
      have hc55 : v55 (ρ (ρ t 1) 6) (s.H 2) = (tn F n (nx F n m s).p) := by
        rw [hfr55 (ρ (ρ t 1) 6) (by rw [hw.w8]; decide), ← hk10]
        exact hc50
      first | refine r_if_ne (pc := 58) hX 29 (tgt := 63) rfl (by decide) (⟨by omega, by omega⟩) (fun h58 => ?_) (fun h58 => ?_) | refine r_if_ne_any (pc := 58) hX 29 (tgt := 63) rfl (by decide) ?_ ?_
      · obtain ⟨hw2, hR55, hx6, hlo6, hhi6⟩ := hq55.2.p1 (by omega)
        refine t_getR (q := (ρ t 1)) (pc := 63) hX 32 rfl rfl rfl fl_X5_18 rfl (hH55.kd ht (by decide)) (rfl) ?_
        refine r_getR (q := (ρ (ρ t 1) 7)) (pc := 67) hX 34 rfl fl_X5_143 rfl (hH55.kd hw0_ (by decide)) (rfl) ?_
        have hw67_ : ω (ρ (ρ t 1) 7) = 14 := hH.rf hw0_ (by decide) rfl
        refine t_getR (q := (ρ t 1)) (pc := 70) hX 35 rfl rfl rfl fl_X5_18 rfl (hH55.kd ht (by decide)) (rfl) ?_
        refine e_getI (y := (v (ρ t 1) 10)) (pc := 74) hX 37 rfl fl_X5_137 rfl (hH55.kd hw0_ (by decide)) ((hfr55.at hw0_ (by decide) 10).trans ((up_r (rne hw0_ hw33_ (by decide))).trans ((hfr21.at hw0_ (by decide) 10).trans (rfl)))) ?_
        refine t_getR (q := (ρ t 0)) (pc := 77) hX 38 rfl rfl rfl fl_X5_9 rfl (hH55.kd ht (by decide)) (rfl) ?_
        refine e_getI (y := (v55 (ρ t 0) 6)) (pc := 81) hX 40 rfl fl_X5_103 rfl (hH55.kd hw43_ (by decide)) (rfl) ?_
        have hb81 : (-2147483648) ≤ (v55 (ρ t 0) 6) ∧ (v55 (ρ t 0) 6) ≤ 2147483647 := hH55.rg hw43_ (by decide) rfl
        refine e_iast (n := 3) (pc := 84) hX 41 rfl (hH55.kd hw67_ (by decide)) (hH55.ln hw67_ (by decide)) (hH55.g4 hw67_ (by decide)) (by omega) (by omega) ?_
        have hH_84 : HT ω (up v55 (ρ (ρ t 1) 7) (v (ρ t 1) 10) (v55 (ρ t 0) 6)) ρ Z := hH55.upR hw67_ (by decide) rfl (by omega) (by omega)
        have hR84 : RdC F n m (up v55 (ρ (ρ t 1) 7) (v (ρ t 1) 10) (v55 (ρ t 0) 6)) ρ t i (s.H 1) (Rd.wH (nx F n m (Rd.wN (nx F n m s) (sv s.N (7 + s.H 2) (tn F n (nx F n m s).p)))) (sv s.H (32 + s.H 2) (tv F n (nx F n m (Rd.wN (nx F n m s) (sv s.N (7 + s.H 2) (tn F n (nx F n m s).p)))).p))) := (hR55.ign (by omega)).oth hw hw.w14 rfl (by decide) (by decide) (by decide)
        refine t_getR (q := (ρ t 1)) (pc := 85) hX 42 rfl rfl rfl fl_X5_18 rfl (hH_84.kd ht (by decide)) (rfl) ?_
        refine r_dup (pc := 89) hX 44 rfl (show (2 : Nat) ≠ 1 by decide) ?_
        refine e_getI (y := (v (ρ t 1) 10)) (pc := 90) hX 45 rfl fl_X5_137 rfl (hH_84.kd hw0_ (by decide)) ((up_r (rne hw0_ hw67_ (by decide))).trans ((hfr55.at hw0_ (by decide) 10).trans ((up_r (rne hw0_ hw33_ (by decide))).trans ((hfr21.at hw0_ (by decide) 10).trans (rfl))))) ?_
        refine r_iconst (pc := 93) hX 46 rfl ?_
        refine r_iadd (pc := 94) hX 47 rfl ?_
        refine r_putI (pc := 95) hX 48 rfl fl_X5_137 rfl (fun _ h => by cases h; rfl) (hH_84.kd hw0_ (by decide)) (hH_84.g4 hw0_ (by decide)) ?_
        have hH_95 : HT ω (up (up v55 (ρ (ρ t 1) 7) (v (ρ t 1) 10) (v55 (ρ t 0) 6)) (ρ t 1) 10 ((v (ρ t 1) 10) + 1)) ρ Z := hH_84.upR hw0_ (by decide) rfl (by omega) (by omega)
        show wp g X F_X5_readPlayer 0 0 98 [(2, t)] [] (up (up v55 (ρ (ρ t 1) 7) (v (ρ t 1) 10) (v55 (ρ t 0) 6)) (ρ t 1) 10 ((v (ρ t 1) 10) + 1)) ρ Z
        have hR95 : RdC F n m (up (up v55 (ρ (ρ t 1) 7) (v (ρ t 1) 10) (v55 (ρ t 0) 6)) (ρ t 1) 10 ((v (ρ t 1) 10) + 1)) ρ t i (s.H 1) (Rd.wH (Rd.wH (nx F n m (Rd.wN (nx F n m s) (sv s.N (7 + s.H 2) (tn F n (nx F n m s).p)))) (sv s.H (32 + s.H 2) (tv F n (nx F n m (Rd.wN (nx F n m s) (sv s.N (7 + s.H 2) (tn F n (nx F n m s).p)))).p))) (sv (sv s.H (32 + s.H 2) (tv F n (nx F n m (Rd.wN (nx F n m s) (sv s.N (7 + s.H 2) (tn F n (nx F n m s).p)))).p)) 2 (s.H 2 + 1))) := by
          have hz := hR84
          rw [hk10] at hz ⊢
          refine hz.inc2 (x := s.H 2) hw ⟨?_, ?_⟩ ?_ rfl
          · rw [up_f (rne hw.w8 hw.w14 (by decide)), hc55]
            show (tn F n (nx F n m s).p) = sv s.N (7 + s.H 2) (tn F n (nx F n m s).p) (7 + s.H 2)
            first | rw [Int.zero_add, sv_s] | rw [sv_s]
          · show NmB (sv s.N (7 + s.H 2) (tn F n (nx F n m s).p) (7 + s.H 2))
            first | rw [Int.zero_add, sv_s] | rw [sv_s]
            exact hxb
          · show sv s.H (32 + s.H 2) _ 2 = s.H 2
            exact sv_n (by omega)
        refine t_getR (q := (ρ t 0)) (pc := 98) hX 49 rfl rfl rfl fl_X5_9 rfl (hH_95.kd ht (by decide)) (rfl) ?_
        refine r_callV (as := []) (st := []) (K := 8) (pc := 102) hX 51 rfl mo_X8_advance ml_X5_35 im_X8_advance se_X8_advance (c_X8_advanceT g ω (up (up v55 (ρ (ρ t 1) 7) (v (ρ t 1) 10) (v55 (ρ t 0) 6)) (ρ t 1) 10 ((v (ρ t 1) 10) + 1)) ρ Z hH_95 (ρ t 0) hw43_ (hR95.tk)) rfl rfl rfl (hH_95.kd hw43_ (by decide)) (by rw [hRm]; exact ⟨by decide, by decide⟩) (by rw [hRm]; exact ⟨by decide, by decide⟩) (Nat.le_of_ble_eq_true rfl) (fun o102 v102 ρv102 Zv102 hq102 _ => ?_)
        obtain ⟨rfl, rfl, hfr102, hH102, rfl, hq102⟩ := hq102
        show wp g X F_X5_readPlayer 0 0 105 [(2, t)] [] v102 ρ Z
        have hRe := hR95.go hw hfr102 (by decide) hq102
        refine r_iconst (pc := 105) hX 52 rfl ?_
        exact r_zret (pc := 106) hX 53 hQ rfl rfl ⟨by omega, by omega⟩ (Nat.le_of_ble_eq_true rfl) (Nat.le_of_ble_eq_true rfl) ⟨rfl, rfl, ((((((FrW.rf).tr hfr21 (by decide)).up (r := (ρ (ρ t 1) 6)) hw33_ (by decide)).tr hfr55 (by decide)).up (r := (ρ (ρ t 1) 7)) hw67_ (by decide)).up (r := (ρ t 1)) hw0_ (by decide)).tr hfr102 (by decide), hH102, 1, rfl, (by omega), (PoC.ok (L := s.H 1) (by rw [show rPlayer F n m s = _ from (if_neg (show ¬ 3 ≤ s.H 2 by omega)), hw1, thn_0 rfl, hw2, thn_0 rfl]; rfl) (by show sv (sv s.H (32 + s.H 2) (tv F n (nx F n m (Rd.wN (nx F n m s) (sv s.N (7 + s.H 2) (tn F n (nx F n m s).p)))).p)) 2 (s.H 2 + 1) 1 = s.H 1; rw [sv_n (by decide), sv_n (by omega)]) hRe), (((((((FrK.rf).tr hfk21).ar (q := (ρ (ρ t 1) 6)) (hB.2.2.2.2.1)).tr hfk55).ot (q := (ρ (ρ t 1) 7)) hw67_ (by decide)).ar (q := (ρ t 1)) (hB.1)).tw hfr102 (by decide))⟩
      · refine r_iconst (pc := 61) hX 30 rfl ?_
        exact r_zret (pc := 62) hX 31 hQ rfl rfl ⟨by omega, by omega⟩ (Nat.le_of_ble_eq_true rfl) (Nat.le_of_ble_eq_true rfl) ⟨rfl, rfl, (((FrW.rf).tr hfr21 (by decide)).up (r := (ρ (ρ t 1) 6)) hw33_ (by decide)).tr hfr55 (by decide), hH55, 0, rfl, (by omega), (by rw [show rPlayer F n m s = _ from (if_neg (show ¬ 3 ≤ s.H 2 by omega)), hw1, thn_0 rfl]; exact hq55.2.p0 (by omega)), ((((FrK.rf).tr hfk21).ar (q := (ρ (ρ t 1) 6)) (hB.2.2.2.2.1)).tr hfk55)⟩
    · refine r_iconst (pc := 27) hX 13 rfl ?_
      exact r_zret (pc := 28) hX 14 hQ rfl rfl ⟨by omega, by omega⟩ (Nat.le_of_ble_eq_true rfl) (Nat.le_of_ble_eq_true rfl) ⟨rfl, rfl, (FrW.rf).tr hfr21 (by decide), hH21, 0, rfl, (by omega), (by rw [show rPlayer F n m s = _ from (if_neg (show ¬ 3 ≤ s.H 2 by omega))]; exact hq21.2.p0 (by omega)), ((FrK.rf).tr hfk21)⟩
  · refine t_getR (q := (ρ t 0)) (pc := 11) hX 5 rfl rfl rfl fl_X5_9 rfl (hH.kd ht (by decide)) (rfl) ?_
    have hw11_ : ω (ρ t 0) = 2 := hH.rf ht (by decide) rfl
    refine r_iconst (pc := 15) hX 7 rfl ?_
    refine r_callV (as := [(0, 4)]) (st := []) (K := 8) (pc := 16) hX 8 rfl mo_X8_refuse ml_X5_67 im_X8_refuse se_X8_refuse (c_X8_refuseF g ω v ρ Z hH (ρ t 0) hw11_ (4) (by omega)) rfl rfl rfl (hH.kd hw11_ (by decide)) (by rw [hRm]; exact ⟨by decide, by decide⟩) (by rw [hRm]; exact ⟨by decide, by decide⟩) (Nat.le_of_ble_eq_true rfl) (fun o16 v16 ρv16 Zv16 hq16 _ => ?_)
    obtain ⟨rfl, rfl, hfr16, hH16, r16, rfl, hq16⟩ := hq16
    show wp g X F_X5_readPlayer 0 0 19 [(2, t)] [(0, r16)] v16 ρ Z
    exact r_zret (pc := 19) hX 9 hQ rfl rfl ⟨by omega, by omega⟩ (Nat.le_of_ble_eq_true rfl) (Nat.le_of_ble_eq_true rfl) ⟨rfl, rfl, (FrW.rf).tr hfr16 (by decide), hH16, r16, rfl, (by omega), (by rw [hq16.1]; exact PoC.bad (if_pos (by omega)) (by decide) hq16.2.1.1 (hq16.2.1.2.trans hR.tk.k5)), ((FrK.rf).tw hfr16 (by decide))⟩
set_option maxHeartbeats 4000000 in
set_option maxRecDepth 100000 in
theorem c_X5_readEndsF (g : Gp) (ω : Rw) (v ρ : Mv) (Z : Mz) (hH : HT ω v ρ Z) {F : Int → Int} {n m i : Int} {s : Rd} {B : Int} (t : Int) (ht : ω t = 4) (hR : RdC F n m v ρ t i (s.H 1) s) (hB : NbI ρ (ρ t 1) B) : Ok g 7 0 0 F_X5_readEnds [(2, t)] v ρ Z (fun o9 v' ρ' Z' => ρ = ρ' ∧ Z = Z' ∧ FrW ω [2, 10] v v' ∧ HT ω v' ρ Z ∧ ∃ r : Int, o9 = some (0, r) ∧ (0 ≤ r ∧ r ≤ 1) ∧ (PoC F n m v' ρ t i r (rEnds F n m s)) ∧ (FrK ω B v v')) := by
  refine Ok.of mo_X5_readEnds (Nat.le_of_ble_eq_true rfl) ?_
  intro X hX hRm hxn hQ
  show wp g X F_X5_readEnds 0 0 0 [(2, t), (3, 0)] [] v ρ Z
  have hw := RtW.of hH ht
  have hw0 : ω (ρ t 0) = 2 := hH.rf ht (by decide) rfl
  have hwr : ω (ρ t 1) = 5 := hH.rf ht (by decide) rfl
  have hg8 : 0 ≤ v (ρ t 1) 8 ∧ v (ρ t 1) 8 ≤ 4 := hH.rg hwr (by decide) rfl
  have hg9 : 0 ≤ v (ρ t 1) 9 ∧ v (ρ t 1) 9 ≤ 3 := hH.rg hwr (by decide) rfl
  have hg10 : 0 ≤ v (ρ t 1) 10 ∧ v (ρ t 1) 10 ≤ 3 := hH.rg hwr (by decide) rfl
  have hk8 := hR.rc.k8
  have hk9 := hR.rc.k9
  have hk10 := hR.rc.k10
  have hbH : (0 ≤ s.H 0 ∧ s.H 0 ≤ 4) ∧ (0 ≤ s.H 1 ∧ s.H 1 ≤ 3) ∧ (0 ≤ s.H 2 ∧ s.H 2 ≤ 3) := by omega
  refine t_getR (q := (ρ t 0)) (pc := 0) hX 0 rfl rfl rfl fl_X5_9 rfl (hH.kd ht (by decide)) (rfl) ?_
  have hw0_ : ω (ρ t 0) = 2 := hH.rf ht (by decide) rfl
  refine r_callV (as := []) (st := []) (K := 8) (pc := 4) hX 2 rfl mo_X8_advance ml_X5_35 im_X8_advance se_X8_advance (c_X8_advanceT g ω v ρ Z hH (ρ t 0) hw0_ (hR.tk)) rfl rfl rfl (hH.kd hw0_ (by decide)) (by rw [hRm]; exact ⟨by decide, by decide⟩) (by rw [hRm]; exact ⟨by decide, by decide⟩) (Nat.le_of_ble_eq_true rfl) (fun o4 v4 ρv4 Zv4 hq4 _ => ?_)
  obtain ⟨rfl, rfl, hfr4, hH4, rfl, hq4⟩ := hq4
  show wp g X F_X5_readEnds 0 0 7 [(2, t), (3, 0)] [] v4 ρ Z
  have hR4 : RdC F n m v4 ρ t i (s.H 1) (nx F n m s) := hR.go hw hfr4 (by decide) hq4
  refine t_getR (q := (ρ t 0)) (pc := 7) hX 3 rfl rfl rfl fl_X5_9 rfl (hH4.kd ht (by decide)) (rfl) ?_
  refine r_callV (as := []) (st := []) (K := 8) (pc := 11) hX 5 rfl mo_X8_isName ml_X5_106 im_X8_isName se_X8_isName (c_X8_isNameT g ω v4 ρ Z hH4 (ρ t 0) hw0_ (hR4.tk)) rfl rfl rfl (hH4.kd hw0_ (by decide)) (by rw [hRm]; exact ⟨by decide, by decide⟩) (by rw [hRm]; exact ⟨by decide, by decide⟩) (Nat.le_of_ble_eq_true rfl) (fun o11 v11 ρv11 Zv11 hq11 _ => ?_)
  obtain ⟨rfl, rfl, rfl, r11, rfl, hq11⟩ := hq11
  show wp g X F_X5_readEnds 0 0 14 [(2, t), (3, 0)] [(0, r11)] v4 ρ Z
  first | refine r_if_ne (pc := 14) hX 6 (tgt := 26) rfl (by decide) (⟨by omega, by omega⟩) (fun h14 => ?_) (fun h14 => ?_) | refine r_if_ne_any (pc := 14) hX 6 (tgt := 26) rfl (by decide) ?_ ?_
  · have hn11 := (Hd.o hq11.2).resolve_right (fun z => absurd z.1 (by omega))
    have hnm := hR4.tk.nam hn11.2
    refine t_getR (q := (ρ t 1)) (pc := 26) hX 12 rfl rfl rfl fl_X5_18 rfl (hH4.kd ht (by decide)) (rfl) ?_
    have hw26_ : ω (ρ t 1) = 5 := hH.rf ht (by decide) rfl
    refine t_getR (q := (ρ t 0)) (pc := 30) hX 14 rfl rfl rfl fl_X5_9 rfl (hH4.kd ht (by decide)) (rfl) ?_
    refine e_getL (y := (v4 (ρ t 0) 8)) (pc := 34) hX 16 rfl fl_X5_91 rfl (hH4.kd hw0_ (by decide)) (rfl) ?_
    refine r_callV (as := [(1, (v4 (ρ t 0) 8))]) (st := []) (K := 4) (pc := 37) hX 17 rfl mo_X4_colourNamed ml_X5_109 im_X4_colourNamed se_X4_colourNamed (c_X4_colourNamedF g ω v4 ρ Z hH4 (ρ t 1) hw26_ ((v4 (ρ t 0) 8)) (hR4.rc) (by rw [hnm.1]; exact hnm.2.1)) rfl rfl rfl (hH4.kd hw26_ (by decide)) (by rw [hRm]; exact ⟨by decide, by decide⟩) (by rw [hRm]; exact ⟨by decide, by decide⟩) (Nat.le_of_ble_eq_true rfl) (fun o37 v37 ρv37 Zv37 hq37 _ => ?_)
    obtain ⟨rfl, rfl, rfl, r37, rfl, hq37⟩ := hq37
    try rw [show (v4 (ρ t 1) 8) = (v (ρ t 1) 8) from (hfr4.at hw26_ (by decide) 8).trans (rfl)] at hq37
    show wp g X F_X5_readEnds 0 0 40 [(2, t), (3, 0)] [(0, r37)] v4 ρ Z
    have ec : r37 = rCol F n (nx F n m s) := by
      have z := hq37.2
      rw [hnm.1] at z
      exact z
    replace hq37 := hq37.1
    refine r_istore_n (ls' := [(2, t), (0, r37)]) (pc := 40) hX 18 rfl (by decide) rfl ?_
    refine r_iload_n (pc := 41) hX 19 rfl rfl ?_
    refine r_iconst (pc := 42) hX 20 rfl ?_
    have L58 : (r37 = -1 ∨ (nx F n m s).H (10 + r37) = 1) → wp g X F_X5_readEnds 0 0 58 [(2, t), (0, r37)] [] v4 ρ Z := by
      intro i58
      refine t_getR (q := (ρ t 0)) (pc := 58) hX 28 rfl rfl rfl fl_X5_9 rfl (hH4.kd ht (by decide)) (rfl) ?_
      refine r_iconst (pc := 62) hX 30 rfl ?_
      refine r_callV (as := [(0, 3)]) (st := []) (K := 8) (pc := 63) hX 31 rfl mo_X8_refuse ml_X5_67 im_X8_refuse se_X8_refuse (c_X8_refuseF g ω v4 ρ Z hH4 (ρ t 0) hw0_ (3) (by omega)) rfl rfl rfl (hH4.kd hw0_ (by decide)) (by rw [hRm]; exact ⟨by decide, by decide⟩) (by rw [hRm]; exact ⟨by decide, by decide⟩) (Nat.le_of_ble_eq_true rfl) (fun o63 v63 ρv63 Zv63 hq63 _ => ?_)
      obtain ⟨rfl, rfl, hfr63, hH63, r63, rfl, hq63⟩ := hq63
      show wp g X F_X5_readEnds 0 0 66 [(2, t), (0, r37)] [(0, r63)] v63 ρ Z
      exact r_zret (pc := 66) hX 32 hQ rfl rfl ⟨by omega, by omega⟩ (Nat.le_of_ble_eq_true rfl) (Nat.le_of_ble_eq_true rfl) ⟨rfl, rfl, ((FrW.rf).tr hfr4 (by decide)).tr hfr63 (by decide), hH63, r63, rfl, (by omega), (by rw [hq63.1]; exact PoC.bad (show rEnds F n m s = _ from rEndsAt_3 hn11.2 (ec ▸ i58)) (by decide) hq63.2.1.1 (hq63.2.1.2.trans hR4.tk.k5)), (((FrK.rf).tw hfr4 (by decide)).tw hfr63 (by decide))⟩
    first | refine r_icmp_eq (pc := 43) hX 21 (tgt := 58) rfl (by decide) (⟨by omega, by omega⟩) (⟨by omega, by omega⟩) (fun h43 => ?_) (fun h43 => ?_) | refine r_icmp_eq_any (pc := 43) hX 21 (tgt := 58) rfl (by decide) ?_ ?_
    · exact (L58  (by first | exact Or.inl (by omega) | exact Or.inr (show s.H (10 + r37) = 1 by omega)) )
    · refine t_getR (q := (ρ t 1)) (pc := 46) hX 22 rfl rfl rfl fl_X5_18 rfl (hH4.kd ht (by decide)) (rfl) ?_
      refine r_getR (q := (ρ (ρ t 1) 2)) (pc := 50) hX 24 rfl fl_X5_113 rfl (hH4.kd hw26_ (by decide)) (rfl) ?_
      have hw50_ : ω (ρ (ρ t 1) 2) = 10 := hH.rf hw26_ (by decide) rfl
      refine r_iload_n (pc := 53) hX 25 rfl rfl ?_
      refine e_zald (y := (v (ρ (ρ t 1) 2) r37)) (n := 5) (pc := 54) hX 26 rfl (hH4.kd hw50_ (by decide)) (hH4.ln hw50_ (by decide)) (by omega) (by omega) ((hfr4.at hw50_ (by decide) r37).trans (rfl)) (fun hb54a hb54b => ?_)
      have hen : v (ρ (ρ t 1) 2) r37 = s.H (10 + r37) := hR.rc.en r37 (by omega) (by omega)
      first | refine r_if_eq (pc := 55) hX 27 (tgt := 67) rfl (by decide) (⟨by omega, by omega⟩) (fun h55 => ?_) (fun h55 => ?_) | refine r_if_eq_any (pc := 55) hX 27 (tgt := 67) rfl (by decide) ?_ ?_
      · refine t_getR (q := (ρ t 1)) (pc := 67) hX 33 rfl rfl rfl fl_X5_18 rfl (hH4.kd ht (by decide)) (rfl) ?_
        refine r_getR (q := (ρ (ρ t 1) 2)) (pc := 71) hX 35 rfl fl_X5_113 rfl (hH4.kd hw26_ (by decide)) (rfl) ?_
        refine r_iload_n (pc := 74) hX 36 rfl rfl ?_
        refine r_iconst (pc := 75) hX 37 rfl ?_
        refine e_zast (n := 5) (pc := 76) hX 38 rfl (hH4.kd hw50_ (by decide)) (hH4.ln hw50_ (by decide)) (hH4.g4 hw50_ (by decide)) (by omega) (by omega) ⟨by omega, by omega⟩ ?_
        have hH_76 : HT ω (up v4 (ρ (ρ t 1) 2) r37 1) ρ Z := hH4.up0 hw50_ (by decide) rfl
        have hR76 : RdC F n m (up v4 (ρ (ρ t 1) 2) r37 1) ρ t i (s.H 1) (Rd.wH (nx F n m s) (sv s.H (10 + r37) 1)) := hR4.ends hw (by omega)
        refine t_getR (q := (ρ t 0)) (pc := 77) hX 39 rfl rfl rfl fl_X5_9 rfl (hH_76.kd ht (by decide)) (rfl) ?_
        refine r_callV (as := []) (st := []) (K := 8) (pc := 81) hX 41 rfl mo_X8_advance ml_X5_35 im_X8_advance se_X8_advance (c_X8_advanceT g ω (up v4 (ρ (ρ t 1) 2) r37 1) ρ Z hH_76 (ρ t 0) hw0_ (hR76.tk)) rfl rfl rfl (hH_76.kd hw0_ (by decide)) (by rw [hRm]; exact ⟨by decide, by decide⟩) (by rw [hRm]; exact ⟨by decide, by decide⟩) (Nat.le_of_ble_eq_true rfl) (fun o81 v81 ρv81 Zv81 hq81 _ => ?_)
        obtain ⟨rfl, rfl, hfr81, hH81, rfl, hq81⟩ := hq81
        show wp g X F_X5_readEnds 0 0 84 [(2, t), (0, r37)] [] v81 ρ Z
        have hRe := hR76.go hw hfr81 (by decide) hq81
        refine r_iconst (pc := 84) hX 42 rfl ?_
        exact r_zret (pc := 85) hX 43 hQ rfl rfl ⟨by omega, by omega⟩ (Nat.le_of_ble_eq_true rfl) (Nat.le_of_ble_eq_true rfl) ⟨rfl, rfl, (((FrW.rf).tr hfr4 (by decide)).up (r := (ρ (ρ t 1) 2)) hw50_ (by decide)).tr hfr81 (by decide), hH81, 1, rfl, (by omega), (PoC.ok (L := s.H 1) (by rw [show rEnds F n m s = _ from rEndsAt_0 hn11.2 (by rw [← ec]; show ¬ (r37 = -1 ∨ s.H (10 + r37) = 1); omega), ← ec]; rfl) (by show sv s.H (10 + r37) 1 1 = s.H 1; rw [sv_n (by omega)]) hRe), ((((FrK.rf).tw hfr4 (by decide)).ar (q := (ρ (ρ t 1) 2)) (hB.2.2.1)).tw hfr81 (by decide))⟩
      · exact (L58  (by first | exact Or.inl (by omega) | exact Or.inr (show s.H (10 + r37) = 1 by omega)) )
  · have hn11 := (Hd.o hq11.2).resolve_left (fun z => absurd z.1 (by omega))
    refine t_getR (q := (ρ t 0)) (pc := 17) hX 7 rfl rfl rfl fl_X5_9 rfl (hH4.kd ht (by decide)) (rfl) ?_
    refine r_iconst (pc := 21) hX 9 rfl ?_
    refine r_callV (as := [(0, 1)]) (st := []) (K := 8) (pc := 22) hX 10 rfl mo_X8_refuse ml_X5_67 im_X8_refuse se_X8_refuse (c_X8_refuseF g ω v4 ρ Z hH4 (ρ t 0) hw0_ (1) (by omega)) rfl rfl rfl (hH4.kd hw0_ (by decide)) (by rw [hRm]; exact ⟨by decide, by decide⟩) (by rw [hRm]; exact ⟨by decide, by decide⟩) (Nat.le_of_ble_eq_true rfl) (fun o22 v22 ρv22 Zv22 hq22 _ => ?_)
    obtain ⟨rfl, rfl, hfr22, hH22, r22, rfl, hq22⟩ := hq22
    show wp g X F_X5_readEnds 0 0 25 [(2, t), (3, 0)] [(0, r22)] v22 ρ Z
    exact r_zret (pc := 25) hX 11 hQ rfl rfl ⟨by omega, by omega⟩ (Nat.le_of_ble_eq_true rfl) (Nat.le_of_ble_eq_true rfl) ⟨rfl, rfl, ((FrW.rf).tr hfr4 (by decide)).tr hfr22 (by decide), hH22, r22, rfl, (by omega), (by rw [hq22.1]; exact PoC.bad (show rEnds F n m s = _ from rEndsAt_1 hn11.2) (by decide) hq22.2.1.1 (hq22.2.1.2.trans hR4.tk.k5)), (((FrK.rf).tw hfr4 (by decide)).tw hfr22 (by decide))⟩
set_option maxHeartbeats 4000000 in
set_option maxRecDepth 100000 in
theorem c_X5_readGoalF (g : Gp) (ω : Rw) (v ρ : Mv) (Z : Mz) (hH : HT ω v ρ Z) {F : Int → Int} {n m i : Int} {s : Rd} {B : Int} (t : Int) (ht : ω t = 4) (hR : RdC F n m v ρ t i (s.H 1) s) (hB : NbI ρ (ρ t 1) B) : Ok g 8 0 0 F_X5_readGoal [(2, t)] v ρ Z (fun o9 v' ρ' Z' => ρ = ρ' ∧ Z = Z' ∧ FrW ω [2, 4, 5] v v' ∧ HT ω v' ρ Z ∧ ∃ r : Int, o9 = some (0, r) ∧ (0 ≤ r ∧ r ≤ 1) ∧ (PoC F n m v' ρ t i r (rGoal F n m s)) ∧ (FrK ω B v v')) := by
  refine Ok.of mo_X5_readGoal (Nat.le_of_ble_eq_true rfl) ?_
  intro X hX hRm hxn hQ
  show wp g X F_X5_readGoal 0 0 0 [(2, t)] [] v ρ Z
  have hw := RtW.of hH ht
  have hw0 : ω (ρ t 0) = 2 := hH.rf ht (by decide) rfl
  have hwr : ω (ρ t 1) = 5 := hH.rf ht (by decide) rfl
  have hg8 : 0 ≤ v (ρ t 1) 8 ∧ v (ρ t 1) 8 ≤ 4 := hH.rg hwr (by decide) rfl
  have hg9 : 0 ≤ v (ρ t 1) 9 ∧ v (ρ t 1) 9 ≤ 3 := hH.rg hwr (by decide) rfl
  have hg10 : 0 ≤ v (ρ t 1) 10 ∧ v (ρ t 1) 10 ≤ 3 := hH.rg hwr (by decide) rfl
  have hk8 := hR.rc.k8
  have hk9 := hR.rc.k9
  have hk10 := hR.rc.k10
  have hbH : (0 ≤ s.H 0 ∧ s.H 0 ≤ 4) ∧ (0 ≤ s.H 1 ∧ s.H 1 ≤ 3) ∧ (0 ≤ s.H 2 ∧ s.H 2 ≤ 3) := by omega
  have ho0 := hR.o0
  refine t_getI (y := (v t 2)) (pc := 0) hX 0 rfl rfl rfl fl_X5_22 rfl (hH.kd ht (by decide)) (rfl) ?_
  have hb0 : 0 ≤ (v t 2) ∧ (v t 2) ≤ 1 := hH.rg ht (by decide) rfl
  first | refine r_if_eq (pc := 4) hX 2 (tgt := 16) rfl (by decide) (⟨by omega, by omega⟩) (fun h4 => ?_) (fun h4 => ?_) | refine r_if_eq_any (pc := 4) hX 2 (tgt := 16) rfl (by decide) ?_ ?_
  · refine r_aload_n (pc := 16) hX 8 rfl rfl ?_
    refine r_iconst (pc := 17) hX 9 rfl ?_
    refine r_bipush (pc := 18) hX 10 rfl (by decide) ?_
    refine r_callV (as := [(0, 1), (0, 9)]) (st := []) (K := 5) (pc := 20) hX 11 rfl mo_X5_readNumber ml_X5_95 im_X5_readNumber se_X5_readNumber (c_X5_readNumberF g ω v ρ Z hH t ht (1) (9) (hR) (by omega) (by omega) (hB)) rfl rfl rfl (hH.kd ht (by decide)) (by rw [hRm]; exact ⟨by decide, by decide⟩) (by rw [hRm]; exact ⟨by decide, by decide⟩) (Nat.le_of_ble_eq_true rfl) (fun o20 v20 ρv20 Zv20 hq20 _ => ?_)
    obtain ⟨rfl, rfl, hfr20, hH20, r20, rfl, hq20⟩ := hq20
    have hfk20 := hq20.2.2
    replace hq20 := And.intro hq20.1 (hq20.2.1)
    show wp g X F_X5_readGoal 0 0 23 [(2, t)] [(0, r20)] v20 ρ Z
    first | refine r_if_ne (pc := 23) hX 12 (tgt := 28) rfl (by decide) (⟨by omega, by omega⟩) (fun h23 => ?_) (fun h23 => ?_) | refine r_if_ne_any (pc := 23) hX 12 (tgt := 28) rfl (by decide) ?_ ?_
    · obtain ⟨hw2, hR20, hx6, hlo6, hhi6⟩ := hq20.2.p1 (by omega)
      refine r_aload_n (pc := 28) hX 15 rfl rfl ?_
      refine r_iconst (pc := 29) hX 16 rfl ?_
      refine r_putZ (pc := 30) hX 17 rfl fl_X5_22 rfl (fun _ h => by cases h; rfl) ⟨by omega, by omega⟩ (hH20.kd ht (by decide)) (hH20.g4 ht (by decide)) ?_
      have hH_30 : HT ω (up v20 t 2 1) ρ Z := hH20.upR ht (by decide) rfl (by omega) (by omega)
      show wp g X F_X5_readGoal 0 0 33 [(2, t)] [] (up v20 t 2 1) ρ Z
      refine t_getR (q := (ρ t 1)) (pc := 33) hX 18 rfl rfl rfl fl_X5_18 rfl (hH_30.kd ht (by decide)) (rfl) ?_
      have hw33_ : ω (ρ t 1) = 5 := hH.rf ht (by decide) rfl
      refine t_getR (q := (ρ t 0)) (pc := 37) hX 20 rfl rfl rfl fl_X5_9 rfl (hH_30.kd ht (by decide)) (rfl) ?_
      have hw37_ : ω (ρ t 0) = 2 := hH.rf ht (by decide) rfl
      refine e_getI (y := (v20 (ρ t 0) 6)) (pc := 41) hX 22 rfl fl_X5_103 rfl (hH_30.kd hw37_ (by decide)) ((up_k (by decide)).trans (rfl)) ?_
      have hb41 : (-2147483648) ≤ (v20 (ρ t 0) 6) ∧ (v20 (ρ t 0) 6) ≤ 2147483647 := hH20.rg hw37_ (by decide) rfl
      refine r_putI (pc := 44) hX 23 rfl fl_X5_146 rfl (fun _ h => by cases h; rfl) (hH_30.kd hw33_ (by decide)) (hH_30.g4 hw33_ (by decide)) ?_
      have hH_44 : HT ω (up (up v20 t 2 1) (ρ t 1) 11 (v20 (ρ t 0) 6)) ρ Z := hH_30.upR hw33_ (by decide) rfl (by omega) (by omega)
      show wp g X F_X5_readGoal 0 0 47 [(2, t)] [] (up (up v20 t 2 1) (ρ t 1) 11 (v20 (ρ t 0) 6)) ρ Z
      have hR44 : RdC F n m (up (up v20 t 2 1) (ρ t 1) 11 (v20 (ρ t 0) 6)) ρ t i (s.H 1) (Rd.w0 (Rd.wH (nx F n m s) (sv s.H 3 (tv F n (nx F n m s).p))) 1) := by
        have z := (hR20.told0 hw).aim (y := tv F n (nx F n m s).p) hw
        rw [hx6]
        exact z
      refine t_getR (q := (ρ t 0)) (pc := 47) hX 24 rfl rfl rfl fl_X5_9 rfl (hH_44.kd ht (by decide)) (rfl) ?_
      refine r_callV (as := []) (st := []) (K := 8) (pc := 51) hX 26 rfl mo_X8_advance ml_X5_35 im_X8_advance se_X8_advance (c_X8_advanceT g ω (up (up v20 t 2 1) (ρ t 1) 11 (v20 (ρ t 0) 6)) ρ Z hH_44 (ρ t 0) hw37_ (hR44.tk)) rfl rfl rfl (hH_44.kd hw37_ (by decide)) (by rw [hRm]; exact ⟨by decide, by decide⟩) (by rw [hRm]; exact ⟨by decide, by decide⟩) (Nat.le_of_ble_eq_true rfl) (fun o51 v51 ρv51 Zv51 hq51 _ => ?_)
      obtain ⟨rfl, rfl, hfr51, hH51, rfl, hq51⟩ := hq51
      show wp g X F_X5_readGoal 0 0 54 [(2, t)] [] v51 ρ Z
      have hRe := hR44.go hw hfr51 (by decide) hq51
      refine r_iconst (pc := 54) hX 27 rfl ?_
      exact r_zret (pc := 55) hX 28 hQ rfl rfl ⟨by omega, by omega⟩ (Nat.le_of_ble_eq_true rfl) (Nat.le_of_ble_eq_true rfl) ⟨rfl, rfl, ((((FrW.rf).tr hfr20 (by decide)).up (r := t) ht (by decide)).up (r := (ρ t 1)) hw33_ (by decide)).tr hfr51 (by decide), hH51, 1, rfl, (by omega), (PoC.ok (L := s.H 1) (by rw [show rGoal F n m s = _ from if_neg (by omega), hw2, thn_0 rfl]; rfl) (by show sv s.H 3 (tv F n (nx F n m s).p) 1 = s.H 1; rw [sv_n (by decide)]) hRe), (((((FrK.rf).tr hfk20).ot (q := t) ht (by decide)).ar (q := (ρ t 1)) (hB.1)).tw hfr51 (by decide))⟩
    · refine r_iconst (pc := 26) hX 13 rfl ?_
      exact r_zret (pc := 27) hX 14 hQ rfl rfl ⟨by omega, by omega⟩ (Nat.le_of_ble_eq_true rfl) (Nat.le_of_ble_eq_true rfl) ⟨rfl, rfl, (FrW.rf).tr hfr20 (by decide), hH20, 0, rfl, (by omega), (by rw [show rGoal F n m s = _ from if_neg (by omega)]; exact hq20.2.p0 (by omega)), ((FrK.rf).tr hfk20)⟩
  · refine t_getR (q := (ρ t 0)) (pc := 7) hX 3 rfl rfl rfl fl_X5_9 rfl (hH.kd ht (by decide)) (rfl) ?_
    have hw7_ : ω (ρ t 0) = 2 := hH.rf ht (by decide) rfl
    refine r_iconst (pc := 11) hX 5 rfl ?_
    refine r_callV (as := [(0, 3)]) (st := []) (K := 8) (pc := 12) hX 6 rfl mo_X8_refuse ml_X5_67 im_X8_refuse se_X8_refuse (c_X8_refuseF g ω v ρ Z hH (ρ t 0) hw7_ (3) (by omega)) rfl rfl rfl (hH.kd hw7_ (by decide)) (by rw [hRm]; exact ⟨by decide, by decide⟩) (by rw [hRm]; exact ⟨by decide, by decide⟩) (Nat.le_of_ble_eq_true rfl) (fun o12 v12 ρv12 Zv12 hq12 _ => ?_)
    obtain ⟨rfl, rfl, hfr12, hH12, r12, rfl, hq12⟩ := hq12
    show wp g X F_X5_readGoal 0 0 15 [(2, t)] [(0, r12)] v12 ρ Z
    exact r_zret (pc := 15) hX 7 hQ rfl rfl ⟨by omega, by omega⟩ (Nat.le_of_ble_eq_true rfl) (Nat.le_of_ble_eq_true rfl) ⟨rfl, rfl, (FrW.rf).tr hfr12 (by decide), hH12, r12, rfl, (by omega), (by rw [hq12.1]; exact PoC.bad (if_pos (by omega)) (by decide) hq12.2.1.1 (hq12.2.1.2.trans hR.tk.k5)), ((FrK.rf).tw hfr12 (by decide))⟩
set_option maxHeartbeats 4000000 in
set_option maxRecDepth 100000 in
theorem c_X5_readCarsF (g : Gp) (ω : Rw) (v ρ : Mv) (Z : Mz) (hH : HT ω v ρ Z) {F : Int → Int} {n m i : Int} {s : Rd} {B : Int} (t : Int) (ht : ω t = 4) (hR : RdC F n m v ρ t i (s.H 1) s) (hB : NbI ρ (ρ t 1) B) : Ok g 8 0 0 F_X5_readCars [(2, t)] v ρ Z (fun o9 v' ρ' Z' => ρ = ρ' ∧ Z = Z' ∧ FrW ω [2, 4, 5] v v' ∧ HT ω v' ρ Z ∧ ∃ r : Int, o9 = some (0, r) ∧ (0 ≤ r ∧ r ≤ 1) ∧ (PoC F n m v' ρ t i r (rCars F n m s)) ∧ (FrK ω B v v')) := by
  refine Ok.of mo_X5_readCars (Nat.le_of_ble_eq_true rfl) ?_
  intro X hX hRm hxn hQ
  show wp g X F_X5_readCars 0 0 0 [(2, t)] [] v ρ Z
  have hw := RtW.of hH ht
  have hw0 : ω (ρ t 0) = 2 := hH.rf ht (by decide) rfl
  have hwr : ω (ρ t 1) = 5 := hH.rf ht (by decide) rfl
  have hg8 : 0 ≤ v (ρ t 1) 8 ∧ v (ρ t 1) 8 ≤ 4 := hH.rg hwr (by decide) rfl
  have hg9 : 0 ≤ v (ρ t 1) 9 ∧ v (ρ t 1) 9 ≤ 3 := hH.rg hwr (by decide) rfl
  have hg10 : 0 ≤ v (ρ t 1) 10 ∧ v (ρ t 1) 10 ≤ 3 := hH.rg hwr (by decide) rfl
  have hk8 := hR.rc.k8
  have hk9 := hR.rc.k9
  have hk10 := hR.rc.k10
  have hbH : (0 ≤ s.H 0 ∧ s.H 0 ≤ 4) ∧ (0 ≤ s.H 1 ∧ s.H 1 ≤ 3) ∧ (0 ≤ s.H 2 ∧ s.H 2 ≤ 3) := by omega
  have ho1 := hR.o1
  refine t_getI (y := (v t 3)) (pc := 0) hX 0 rfl rfl rfl fl_X5_26 rfl (hH.kd ht (by decide)) (rfl) ?_
  have hb0 : 0 ≤ (v t 3) ∧ (v t 3) ≤ 1 := hH.rg ht (by decide) rfl
  first | refine r_if_eq (pc := 4) hX 2 (tgt := 16) rfl (by decide) (⟨by omega, by omega⟩) (fun h4 => ?_) (fun h4 => ?_) | refine r_if_eq_any (pc := 4) hX 2 (tgt := 16) rfl (by decide) ?_ ?_
  · refine r_aload_n (pc := 16) hX 8 rfl rfl ?_
    refine r_iconst (pc := 17) hX 9 rfl ?_
    refine r_bipush (pc := 18) hX 10 rfl (by decide) ?_
    refine r_callV (as := [(0, 1), (0, 12)]) (st := []) (K := 5) (pc := 20) hX 11 rfl mo_X5_readNumber ml_X5_95 im_X5_readNumber se_X5_readNumber (c_X5_readNumberF g ω v ρ Z hH t ht (1) (12) (hR) (by omega) (by omega) (hB)) rfl rfl rfl (hH.kd ht (by decide)) (by rw [hRm]; exact ⟨by decide, by decide⟩) (by rw [hRm]; exact ⟨by decide, by decide⟩) (Nat.le_of_ble_eq_true rfl) (fun o20 v20 ρv20 Zv20 hq20 _ => ?_)
    obtain ⟨rfl, rfl, hfr20, hH20, r20, rfl, hq20⟩ := hq20
    have hfk20 := hq20.2.2
    replace hq20 := And.intro hq20.1 (hq20.2.1)
    show wp g X F_X5_readCars 0 0 23 [(2, t)] [(0, r20)] v20 ρ Z
    first | refine r_if_ne (pc := 23) hX 12 (tgt := 28) rfl (by decide) (⟨by omega, by omega⟩) (fun h23 => ?_) (fun h23 => ?_) | refine r_if_ne_any (pc := 23) hX 12 (tgt := 28) rfl (by decide) ?_ ?_
    · obtain ⟨hw2, hR20, hx6, hlo6, hhi6⟩ := hq20.2.p1 (by omega)
      refine r_aload_n (pc := 28) hX 15 rfl rfl ?_
      refine r_iconst (pc := 29) hX 16 rfl ?_
      refine r_putZ (pc := 30) hX 17 rfl fl_X5_26 rfl (fun _ h => by cases h; rfl) ⟨by omega, by omega⟩ (hH20.kd ht (by decide)) (hH20.g4 ht (by decide)) ?_
      have hH_30 : HT ω (up v20 t 3 1) ρ Z := hH20.upR ht (by decide) rfl (by omega) (by omega)
      show wp g X F_X5_readCars 0 0 33 [(2, t)] [] (up v20 t 3 1) ρ Z
      refine t_getR (q := (ρ t 1)) (pc := 33) hX 18 rfl rfl rfl fl_X5_18 rfl (hH_30.kd ht (by decide)) (rfl) ?_
      have hw33_ : ω (ρ t 1) = 5 := hH.rf ht (by decide) rfl
      refine t_getR (q := (ρ t 0)) (pc := 37) hX 20 rfl rfl rfl fl_X5_9 rfl (hH_30.kd ht (by decide)) (rfl) ?_
      have hw37_ : ω (ρ t 0) = 2 := hH.rf ht (by decide) rfl
      refine e_getI (y := (v20 (ρ t 0) 6)) (pc := 41) hX 22 rfl fl_X5_103 rfl (hH_30.kd hw37_ (by decide)) ((up_k (by decide)).trans (rfl)) ?_
      have hb41 : (-2147483648) ≤ (v20 (ρ t 0) 6) ∧ (v20 (ρ t 0) 6) ≤ 2147483647 := hH20.rg hw37_ (by decide) rfl
      refine r_putI (pc := 44) hX 23 rfl fl_X5_149 rfl (fun _ h => by cases h; rfl) (hH_30.kd hw33_ (by decide)) (hH_30.g4 hw33_ (by decide)) ?_
      have hH_44 : HT ω (up (up v20 t 3 1) (ρ t 1) 12 (v20 (ρ t 0) 6)) ρ Z := hH_30.upR hw33_ (by decide) rfl (by omega) (by omega)
      show wp g X F_X5_readCars 0 0 47 [(2, t)] [] (up (up v20 t 3 1) (ρ t 1) 12 (v20 (ρ t 0) 6)) ρ Z
      have hR44 : RdC F n m (up (up v20 t 3 1) (ρ t 1) 12 (v20 (ρ t 0) 6)) ρ t i (s.H 1) (Rd.w1 (Rd.wH (nx F n m s) (sv s.H 4 (tv F n (nx F n m s).p))) 1) := by
        have z := (hR20.told1 hw).most (y := tv F n (nx F n m s).p) hw
        rw [hx6]
        exact z
      refine t_getR (q := (ρ t 0)) (pc := 47) hX 24 rfl rfl rfl fl_X5_9 rfl (hH_44.kd ht (by decide)) (rfl) ?_
      refine r_callV (as := []) (st := []) (K := 8) (pc := 51) hX 26 rfl mo_X8_advance ml_X5_35 im_X8_advance se_X8_advance (c_X8_advanceT g ω (up (up v20 t 3 1) (ρ t 1) 12 (v20 (ρ t 0) 6)) ρ Z hH_44 (ρ t 0) hw37_ (hR44.tk)) rfl rfl rfl (hH_44.kd hw37_ (by decide)) (by rw [hRm]; exact ⟨by decide, by decide⟩) (by rw [hRm]; exact ⟨by decide, by decide⟩) (Nat.le_of_ble_eq_true rfl) (fun o51 v51 ρv51 Zv51 hq51 _ => ?_)
      obtain ⟨rfl, rfl, hfr51, hH51, rfl, hq51⟩ := hq51
      show wp g X F_X5_readCars 0 0 54 [(2, t)] [] v51 ρ Z
      have hRe := hR44.go hw hfr51 (by decide) hq51
      refine r_iconst (pc := 54) hX 27 rfl ?_
      exact r_zret (pc := 55) hX 28 hQ rfl rfl ⟨by omega, by omega⟩ (Nat.le_of_ble_eq_true rfl) (Nat.le_of_ble_eq_true rfl) ⟨rfl, rfl, ((((FrW.rf).tr hfr20 (by decide)).up (r := t) ht (by decide)).up (r := (ρ t 1)) hw33_ (by decide)).tr hfr51 (by decide), hH51, 1, rfl, (by omega), (PoC.ok (L := s.H 1) (by rw [show rCars F n m s = _ from if_neg (by omega), hw2, thn_0 rfl]; rfl) (by show sv s.H 4 (tv F n (nx F n m s).p) 1 = s.H 1; rw [sv_n (by decide)]) hRe), (((((FrK.rf).tr hfk20).ot (q := t) ht (by decide)).ar (q := (ρ t 1)) (hB.1)).tw hfr51 (by decide))⟩
    · refine r_iconst (pc := 26) hX 13 rfl ?_
      exact r_zret (pc := 27) hX 14 hQ rfl rfl ⟨by omega, by omega⟩ (Nat.le_of_ble_eq_true rfl) (Nat.le_of_ble_eq_true rfl) ⟨rfl, rfl, (FrW.rf).tr hfr20 (by decide), hH20, 0, rfl, (by omega), (by rw [show rCars F n m s = _ from if_neg (by omega)]; exact hq20.2.p0 (by omega)), ((FrK.rf).tr hfk20)⟩
  · refine t_getR (q := (ρ t 0)) (pc := 7) hX 3 rfl rfl rfl fl_X5_9 rfl (hH.kd ht (by decide)) (rfl) ?_
    have hw7_ : ω (ρ t 0) = 2 := hH.rf ht (by decide) rfl
    refine r_iconst (pc := 11) hX 5 rfl ?_
    refine r_callV (as := [(0, 3)]) (st := []) (K := 8) (pc := 12) hX 6 rfl mo_X8_refuse ml_X5_67 im_X8_refuse se_X8_refuse (c_X8_refuseF g ω v ρ Z hH (ρ t 0) hw7_ (3) (by omega)) rfl rfl rfl (hH.kd hw7_ (by decide)) (by rw [hRm]; exact ⟨by decide, by decide⟩) (by rw [hRm]; exact ⟨by decide, by decide⟩) (Nat.le_of_ble_eq_true rfl) (fun o12 v12 ρv12 Zv12 hq12 _ => ?_)
    obtain ⟨rfl, rfl, hfr12, hH12, r12, rfl, hq12⟩ := hq12
    show wp g X F_X5_readCars 0 0 15 [(2, t)] [(0, r12)] v12 ρ Z
    exact r_zret (pc := 15) hX 7 hQ rfl rfl ⟨by omega, by omega⟩ (Nat.le_of_ble_eq_true rfl) (Nat.le_of_ble_eq_true rfl) ⟨rfl, rfl, (FrW.rf).tr hfr12 (by decide), hH12, r12, rfl, (by omega), (by rw [hq12.1]; exact PoC.bad (if_pos (by omega)) (by decide) hq12.2.1.1 (hq12.2.1.2.trans hR.tk.k5)), ((FrK.rf).tw hfr12 (by decide))⟩
set_option maxHeartbeats 4000000 in
set_option maxRecDepth 100000 in
theorem c_X5_readChangeF (g : Gp) (ω : Rw) (v ρ : Mv) (Z : Mz) (hH : HT ω v ρ Z) {F : Int → Int} {n m i : Int} {s : Rd} {B : Int} (t : Int) (ht : ω t = 4) (hR : RdC F n m v ρ t i (s.H 1) s) (hB : NbI ρ (ρ t 1) B) : Ok g 7 0 0 F_X5_readChange [(2, t)] v ρ Z (fun o9 v' ρ' Z' => ρ = ρ' ∧ Z = Z' ∧ FrW ω [2, 5] v v' ∧ HT ω v' ρ Z ∧ ∃ r : Int, o9 = some (0, r) ∧ (0 ≤ r ∧ r ≤ 1) ∧ (PoC F n m v' ρ t i r (rChange F n m s)) ∧ (FrK ω B v v')) := by
  refine Ok.of mo_X5_readChange (Nat.le_of_ble_eq_true rfl) ?_
  intro X hX hRm hxn hQ
  show wp g X F_X5_readChange 0 0 0 [(2, t)] [] v ρ Z
  have hw := RtW.of hH ht
  have hw0 : ω (ρ t 0) = 2 := hH.rf ht (by decide) rfl
  have hwr : ω (ρ t 1) = 5 := hH.rf ht (by decide) rfl
  have hg8 : 0 ≤ v (ρ t 1) 8 ∧ v (ρ t 1) 8 ≤ 4 := hH.rg hwr (by decide) rfl
  have hg9 : 0 ≤ v (ρ t 1) 9 ∧ v (ρ t 1) 9 ≤ 3 := hH.rg hwr (by decide) rfl
  have hg10 : 0 ≤ v (ρ t 1) 10 ∧ v (ρ t 1) 10 ≤ 3 := hH.rg hwr (by decide) rfl
  have hk8 := hR.rc.k8
  have hk9 := hR.rc.k9
  have hk10 := hR.rc.k10
  have hbH : (0 ≤ s.H 0 ∧ s.H 0 ≤ 4) ∧ (0 ≤ s.H 1 ∧ s.H 1 ≤ 3) ∧ (0 ≤ s.H 2 ∧ s.H 2 ≤ 3) := by omega
  have ho5 := hR.rc.k13
  refine t_getR (q := (ρ t 1)) (pc := 0) hX 0 rfl rfl rfl fl_X5_18 rfl (hH.kd ht (by decide)) (rfl) ?_
  have hw0_ : ω (ρ t 1) = 5 := hH.rf ht (by decide) rfl
  refine e_getI (y := (v (ρ t 1) 13)) (pc := 4) hX 2 rfl fl_X5_152 rfl (hH.kd hw0_ (by decide)) (rfl) ?_
  have hb4 : 0 ≤ (v (ρ t 1) 13) ∧ (v (ρ t 1) 13) ≤ 1 := hH.rg hw0_ (by decide) rfl
  first | refine r_if_eq (pc := 7) hX 3 (tgt := 19) rfl (by decide) (⟨by omega, by omega⟩) (fun h7 => ?_) (fun h7 => ?_) | refine r_if_eq_any (pc := 7) hX 3 (tgt := 19) rfl (by decide) ?_ ?_
  · refine t_getR (q := (ρ t 1)) (pc := 19) hX 9 rfl rfl rfl fl_X5_18 rfl (hH.kd ht (by decide)) (rfl) ?_
    refine r_iconst (pc := 23) hX 11 rfl ?_
    refine r_putZ (pc := 24) hX 12 rfl fl_X5_152 rfl (fun _ h => by cases h; rfl) ⟨by omega, by omega⟩ (hH.kd hw0_ (by decide)) (hH.g4 hw0_ (by decide)) ?_
    have hH_24 : HT ω (up v (ρ t 1) 13 1) ρ Z := hH.upR hw0_ (by decide) rfl (by omega) (by omega)
    show wp g X F_X5_readChange 0 0 27 [(2, t)] [] (up v (ρ t 1) 13 1) ρ Z
    have hR24 : RdC F n m (up v (ρ t 1) 13 1) ρ t i (s.H 1) (Rd.wH s (sv s.H 5 1)) := hR.chg hw
    refine t_getR (q := (ρ t 0)) (pc := 27) hX 13 rfl rfl rfl fl_X5_9 rfl (hH_24.kd ht (by decide)) (rfl) ?_
    have hw27_ : ω (ρ t 0) = 2 := hH.rf ht (by decide) rfl
    refine r_callV (as := []) (st := []) (K := 8) (pc := 31) hX 15 rfl mo_X8_advance ml_X5_35 im_X8_advance se_X8_advance (c_X8_advanceT g ω (up v (ρ t 1) 13 1) ρ Z hH_24 (ρ t 0) hw27_ (hR24.tk)) rfl rfl rfl (hH_24.kd hw27_ (by decide)) (by rw [hRm]; exact ⟨by decide, by decide⟩) (by rw [hRm]; exact ⟨by decide, by decide⟩) (Nat.le_of_ble_eq_true rfl) (fun o31 v31 ρv31 Zv31 hq31 _ => ?_)
    obtain ⟨rfl, rfl, hfr31, hH31, rfl, hq31⟩ := hq31
    show wp g X F_X5_readChange 0 0 34 [(2, t)] [] v31 ρ Z
    have hRe := hR24.go hw hfr31 (by decide) hq31
    refine r_iconst (pc := 34) hX 16 rfl ?_
    exact r_zret (pc := 35) hX 17 hQ rfl rfl ⟨by omega, by omega⟩ (Nat.le_of_ble_eq_true rfl) (Nat.le_of_ble_eq_true rfl) ⟨rfl, rfl, ((FrW.rf).up (r := (ρ t 1)) hw0_ (by decide)).tr hfr31 (by decide), hH31, 1, rfl, (by omega), (PoC.ok (L := s.H 1) (by rw [show rChange F n m s = _ from if_neg (by omega)]; rfl) (by show sv s.H 5 1 1 = s.H 1; rw [sv_n (by decide)]) hRe), (((FrK.rf).ar (q := (ρ t 1)) (hB.1)).tw hfr31 (by decide))⟩
  · refine t_getR (q := (ρ t 0)) (pc := 10) hX 4 rfl rfl rfl fl_X5_9 rfl (hH.kd ht (by decide)) (rfl) ?_
    have hw10_ : ω (ρ t 0) = 2 := hH.rf ht (by decide) rfl
    refine r_iconst (pc := 14) hX 6 rfl ?_
    refine r_callV (as := [(0, 3)]) (st := []) (K := 8) (pc := 15) hX 7 rfl mo_X8_refuse ml_X5_67 im_X8_refuse se_X8_refuse (c_X8_refuseF g ω v ρ Z hH (ρ t 0) hw10_ (3) (by omega)) rfl rfl rfl (hH.kd hw10_ (by decide)) (by rw [hRm]; exact ⟨by decide, by decide⟩) (by rw [hRm]; exact ⟨by decide, by decide⟩) (Nat.le_of_ble_eq_true rfl) (fun o15 v15 ρv15 Zv15 hq15 _ => ?_)
    obtain ⟨rfl, rfl, hfr15, hH15, r15, rfl, hq15⟩ := hq15
    show wp g X F_X5_readChange 0 0 18 [(2, t)] [(0, r15)] v15 ρ Z
    exact r_zret (pc := 18) hX 8 hQ rfl rfl ⟨by omega, by omega⟩ (Nat.le_of_ble_eq_true rfl) (Nat.le_of_ble_eq_true rfl) ⟨rfl, rfl, (FrW.rf).tr hfr15 (by decide), hH15, r15, rfl, (by omega), (by rw [hq15.1]; exact PoC.bad (if_pos (by omega)) (by decide) hq15.2.1.1 (hq15.2.1.2.trans hR.tk.k5)), ((FrK.rf).tw hfr15 (by decide))⟩
