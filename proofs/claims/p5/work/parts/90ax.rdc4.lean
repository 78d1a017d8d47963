set_option maxHeartbeats 4000000 in
set_option maxRecDepth 100000 in
theorem c_X5_readShareF (g : Gp) (ω : Rw) (v ρ : Mv) (Z : Mz) (hH : HT ω v ρ Z) {F : Int → Int} {n m i l : Int} {s : Rd} {B : Int} (t : Int) (ht : ω t = 4) (a : Int) (ha : ω a = 13) (hR : RdC F n m v ρ t i (l + 1) s) (hl : 0 ≤ l ∧ l < 3) (hae : a = ρ (ρ (ρ t 1) 5) l) (hB : NbI ρ (ρ t 1) B) : Ok g 8 0 0 F_X5_readShare [(2, t), (2, a)] v ρ Z (fun o9 v' ρ' Z' => ρ = ρ' ∧ Z = Z' ∧ FrW ω [2, 13] v v' ∧ HT ω v' ρ Z ∧ ∃ r : Int, o9 = some (0, r) ∧ (0 ≤ r ∧ r ≤ 1) ∧ (ShP F n m v' ρ t i l (v a 4) r s) ∧ (FrK ω B v v')) := by
  refine Ok.of mo_X5_readShare (Nat.le_of_ble_eq_true rfl) ?_
  intro X hX hRm hxn hQ
  show wp g X F_X5_readShare 0 0 0 [(2, t), (2, a), (3, 0)] [] v ρ Z
  have hw := RtW.of hH ht
  have hw0 : ω (ρ t 0) = 2 := hH.rf ht (by decide) rfl
  have hwr : ω (ρ t 1) = 5 := hH.rf ht (by decide) rfl
  have hg8 : 0 ≤ v (ρ t 1) 8 ∧ v (ρ t 1) 8 ≤ 4 := hH.rg hwr (by decide) rfl
  have hg9 : 0 ≤ v (ρ t 1) 9 ∧ v (ρ t 1) 9 ≤ 3 := hH.rg hwr (by decide) rfl
  have hg10 : 0 ≤ v (ρ t 1) 10 ∧ v (ρ t 1) 10 ≤ 3 := hH.rg hwr (by decide) rfl
  have hk8 := hR.rc.k8
  have hk9 := hR.rc.k9
  have hk10 := hR.rc.k10
  have hbH : (0 ≤ s.H 0 ∧ s.H 0 ≤ 4) ∧ (0 ≤ s.H 1 ∧ s.H 1 ≤ 3) ∧ (0 ≤ s.H 2 ∧ s.H 2 ≤ 3) := by omega
  have hga : ∀ k, 0 ≤ v a k ∧ v a k ≤ 12 := fun k => hH.rg ha (by decide) rfl
  have hga4 := hga 4
  have hBa : B ≤ a := by rw [hae]; exact hB.2.2.2.2.2 l hl.1 hl.2
  refine t_getR (q := (ρ t 0)) (pc := 0) hX 0 rfl rfl rfl fl_X5_9 rfl (hH.kd ht (by decide)) (rfl) ?_
  have hw0_ : ω (ρ t 0) = 2 := hH.rf ht (by decide) rfl
  refine r_callV (as := []) (st := []) (K := 8) (pc := 4) hX 2 rfl mo_X8_isName ml_X5_106 im_X8_isName se_X8_isName (c_X8_isNameT g ω v ρ Z hH (ρ t 0) hw0_ (hR.tk)) rfl rfl rfl (hH.kd hw0_ (by decide)) (by rw [hRm]; exact ⟨by decide, by decide⟩) (by rw [hRm]; exact ⟨by decide, by decide⟩) (Nat.le_of_ble_eq_true rfl) (fun o4 v4 ρv4 Zv4 hq4 _ => ?_)
  obtain ⟨rfl, rfl, rfl, r4, rfl, hq4⟩ := hq4
  show wp g X F_X5_readShare 0 0 7 [(2, t), (2, a), (3, 0)] [(0, r4)] v ρ Z
  first | refine r_if_ne (pc := 7) hX 3 (tgt := 19) rfl (by decide) (⟨by omega, by omega⟩) (fun h7 => ?_) (fun h7 => ?_) | refine r_if_ne_any (pc := 7) hX 3 (tgt := 19) rfl (by decide) ?_ ?_
  · have hn4 := (Hd.o hq4.2).resolve_right (fun z => absurd z.1 (by omega))
    have hnm := hR.tk.nam hn4.2
    refine t_getR (q := (ρ t 1)) (pc := 19) hX 9 rfl rfl rfl fl_X5_18 rfl (hH.kd ht (by decide)) (rfl) ?_
    have hw19_ : ω (ρ t 1) = 5 := hH.rf ht (by decide) rfl
    refine t_getR (q := (ρ t 0)) (pc := 23) hX 11 rfl rfl rfl fl_X5_9 rfl (hH.kd ht (by decide)) (rfl) ?_
    refine e_getL (y := (v (ρ t 0) 8)) (pc := 27) hX 13 rfl fl_X5_91 rfl (hH.kd hw0_ (by decide)) (rfl) ?_
    refine r_callV (as := [(1, (v (ρ t 0) 8))]) (st := []) (K := 4) (pc := 30) hX 14 rfl mo_X4_colourNamed ml_X5_109 im_X4_colourNamed se_X4_colourNamed (c_X4_colourNamedF g ω v ρ Z hH (ρ t 1) hw19_ ((v (ρ t 0) 8)) (hR.rc) (by rw [hnm.1]; exact hnm.2.1)) rfl rfl rfl (hH.kd hw19_ (by decide)) (by rw [hRm]; exact ⟨by decide, by decide⟩) (by rw [hRm]; exact ⟨by decide, by decide⟩) (Nat.le_of_ble_eq_true rfl) (fun o30 v30 ρv30 Zv30 hq30 _ => ?_)
    obtain ⟨rfl, rfl, rfl, r30, rfl, hq30⟩ := hq30
    show wp g X F_X5_readShare 0 0 33 [(2, t), (2, a), (3, 0)] [(0, r30)] v ρ Z
    have ec : r30 = rCol F n s := by
      have z := hq30.2
      rw [hnm.1] at z
      exact z
    replace hq30 := hq30.1
    refine r_istore_n (ls' := [(2, t), (2, a), (0, r30)]) (pc := 33) hX 15 rfl (by decide) rfl ?_
    refine r_iload_n (pc := 34) hX 16 rfl rfl ?_
    refine r_iconst (pc := 35) hX 17 rfl ?_
    have L45 : (r30 = -1 ∨ 0 < s.H (17 + 5 * l + r30)) → wp g X F_X5_readShare 0 0 45 [(2, t), (2, a), (0, r30)] [] v ρ Z := by
      intro i45
      refine t_getR (q := (ρ t 0)) (pc := 45) hX 23 rfl rfl rfl fl_X5_9 rfl (hH.kd ht (by decide)) (rfl) ?_
      refine r_iconst (pc := 49) hX 25 rfl ?_
      refine r_callV (as := [(0, 3)]) (st := []) (K := 8) (pc := 50) hX 26 rfl mo_X8_refuse ml_X5_67 im_X8_refuse se_X8_refuse (c_X8_refuseF g ω v ρ Z hH (ρ t 0) hw0_ (3) (by omega)) rfl rfl rfl (hH.kd hw0_ (by decide)) (by rw [hRm]; exact ⟨by decide, by decide⟩) (by rw [hRm]; exact ⟨by decide, by decide⟩) (Nat.le_of_ble_eq_true rfl) (fun o50 v50 ρv50 Zv50 hq50 _ => ?_)
      obtain ⟨rfl, rfl, hfr50, hH50, r50, rfl, hq50⟩ := hq50
      show wp g X F_X5_readShare 0 0 53 [(2, t), (2, a), (0, r30)] [(0, r50)] v50 ρ Z
      exact r_zret (pc := 53) hX 27 hQ rfl rfl ⟨by omega, by omega⟩ (Nat.le_of_ble_eq_true rfl) (Nat.le_of_ble_eq_true rfl) ⟨rfl, rfl, (FrW.rf).tr hfr50 (by decide), hH50, r50, rfl, (by omega), (by rw [hq50.1]; exact ShP.bad (rShare_3 hn4.2 ec i45) (by decide) hq50.2.1.1 (hq50.2.1.2.trans hR.tk.k5)), ((FrK.rf).tw hfr50 (by decide))⟩
    first | refine r_icmp_eq (pc := 36) hX 18 (tgt := 45) rfl (by decide) (⟨by omega, by omega⟩) (⟨by omega, by omega⟩) (fun h36 => ?_) (fun h36 => ?_) | refine r_icmp_eq_any (pc := 36) hX 18 (tgt := 45) rfl (by decide) ?_ ?_
    · exact (L45  (by omega) )
    · refine r_aload_n (pc := 39) hX 19 rfl rfl ?_
      refine r_iload_n (pc := 40) hX 20 rfl rfl ?_
      refine e_iald (y := (v a r30)) (n := 5) (pc := 41) hX 21 rfl (hH.kd ha (by decide)) (hH.ln ha (by decide)) (by omega) (by omega) (rfl) ?_
      have hb41 : 0 ≤ (v a r30) ∧ (v a r30) ≤ 12 := hH.rg ha (by decide) rfl
      have hcr : v a r30 = s.H (17 + 5 * l + r30) := by
        rw [hae, hR.rc.cr l r30 hl.1 hl.2 (by omega) (by omega), if_pos (by omega)]
      first | refine r_if_le (pc := 42) hX 22 (tgt := 54) rfl (by decide) (⟨by omega, by omega⟩) (fun h42 => ?_) (fun h42 => ?_) | refine r_if_le_any (pc := 42) hX 22 (tgt := 54) rfl (by decide) ?_ ?_
      · refine r_aload_n (pc := 54) hX 28 rfl rfl ?_
        refine r_iconst (pc := 55) hX 29 rfl ?_
        refine r_aload_n (pc := 56) hX 30 rfl rfl ?_
        refine r_iconst (pc := 57) hX 31 rfl ?_
        refine e_iald (y := (v a 4)) (n := 5) (pc := 58) hX 32 rfl (hH.kd ha (by decide)) (hH.ln ha (by decide)) (by omega) (by omega) (rfl) ?_
        have hb58 : 0 ≤ (v a 4) ∧ (v a 4) ≤ 12 := hH.rg ha (by decide) rfl
        refine r_callV (as := [(0, 1), (0, (v a 4))]) (st := []) (K := 5) (pc := 59) hX 33 rfl mo_X5_readNumber ml_X5_95 im_X5_readNumber se_X5_readNumber (c_X5_readNumberF g ω v ρ Z hH t ht (1) ((v a 4)) (hR) (by omega) (by omega) (hB)) rfl rfl rfl (hH.kd ht (by decide)) (by rw [hRm]; exact ⟨by decide, by decide⟩) (by rw [hRm]; exact ⟨by decide, by decide⟩) (Nat.le_of_ble_eq_true rfl) (fun o59 v59 ρv59 Zv59 hq59 _ => ?_)
        obtain ⟨rfl, rfl, hfr59, hH59, r59, rfl, hq59⟩ := hq59
        have hfk59 := hq59.2.2
        replace hq59 := And.intro hq59.1 (hq59.2.1)
        show wp g X F_X5_readShare 0 0 62 [(2, t), (2, a), (0, r30)] [(0, r59)] v59 ρ Z
        have hs59 : rShare F n m l (v a 4) s = rNum F n m s (17 + 5 * l + r30) 1 (v a 4) := rShare_0 hn4.2 ec (by omega)
        have ha59 : v59 a = v a := hfr59 a (by rw [ha]; decide)
        first | refine r_if_ne (pc := 62) hX 34 (tgt := 67) rfl (by decide) (⟨by omega, by omega⟩) (fun h62 => ?_) (fun h62 => ?_) | refine r_if_ne_any (pc := 62) hX 34 (tgt := 67) rfl (by decide) ?_ ?_
        · obtain ⟨hw2, hR59, hx6, hlo6, hhi6⟩ := hq59.2.p1 (by omega)
          rw [hw2] at hs59
          refine r_aload_n (pc := 67) hX 37 rfl rfl ?_
          refine r_iload_n (pc := 68) hX 38 rfl rfl ?_
          refine t_getR (q := (ρ t 0)) (pc := 69) hX 39 rfl rfl rfl fl_X5_9 rfl (hH59.kd ht (by decide)) (rfl) ?_
          refine e_getI (y := (v59 (ρ t 0) 6)) (pc := 73) hX 41 rfl fl_X5_103 rfl (hH59.kd hw0_ (by decide)) (rfl) ?_
          have hb73 : (-2147483648) ≤ (v59 (ρ t 0) 6) ∧ (v59 (ρ t 0) 6) ≤ 2147483647 := hH59.rg hw0_ (by decide) rfl
          refine e_iast (n := 5) (pc := 76) hX 42 rfl (hH59.kd ha (by decide)) (hH59.ln ha (by decide)) (hH59.g4 ha (by decide)) (by omega) (by omega) ?_
          have hH_76 : HT ω (up v59 a r30 (v59 (ρ t 0) 6)) ρ Z := hH59.upR ha (by decide) rfl (by omega) (by omega)
          refine r_aload_n (pc := 77) hX 43 rfl rfl ?_
          refine r_iconst (pc := 78) hX 44 rfl ?_
          refine r_dup2i (pc := 79) hX 45 rfl (show (0 : Nat) ≠ 1 by decide) (show (2 : Nat) ≠ 1 by decide) ?_
          refine e_iald (y := (v a 4)) (n := 5) (pc := 80) hX 46 rfl (hH_76.kd ha (by decide)) (hH_76.ln ha (by decide)) (by omega) (by omega) ((up_k (by omega)).trans ((hfr59.at ha (by decide) 4).trans (rfl))) ?_
          refine t_getR (q := (ρ t 0)) (pc := 81) hX 47 rfl rfl rfl fl_X5_9 rfl (hH_76.kd ht (by decide)) (rfl) ?_
          refine e_getI (y := (v59 (ρ t 0) 6)) (pc := 85) hX 49 rfl fl_X5_103 rfl (hH_76.kd hw0_ (by decide)) ((up_r (rne hw0_ ha (by decide))).trans (rfl)) ?_
          refine r_isub (pc := 88) hX 50 rfl ?_
          refine e_iast (n := 5) (pc := 89) hX 51 rfl (hH_76.kd ha (by decide)) (hH_76.ln ha (by decide)) (hH_76.g4 ha (by decide)) (by omega) (by omega) ?_
          have hH_89 : HT ω (up (up v59 a r30 (v59 (ρ t 0) 6)) a 4 ((v a 4) - (v59 (ρ t 0) 6))) ρ Z := hH_76.upR ha (by decide) rfl (by omega) (by omega)
          have hR89 : RdC F n m (up (up v59 a r30 (v59 (ρ t 0) 6)) a 4 ((v a 4) - (v59 (ρ t 0) 6))) ρ t i (l + 1) (Rd.wH (nx F n m s) (sv s.H (17 + 5 * l + r30) (tv F n (nx F n m s).p))) := by
            rw [hx6, hae]
            exact hR59.share hw hl (by omega) (by rw [← hae, ha59]; omega) (by rw [← hae, ha59])
          refine t_getR (q := (ρ t 0)) (pc := 90) hX 52 rfl rfl rfl fl_X5_9 rfl (hH_89.kd ht (by decide)) (rfl) ?_
          refine r_callV (as := []) (st := []) (K := 8) (pc := 94) hX 54 rfl mo_X8_advance ml_X5_35 im_X8_advance se_X8_advance (c_X8_advanceT g ω (up (up v59 a r30 (v59 (ρ t 0) 6)) a 4 ((v a 4) - (v59 (ρ t 0) 6))) ρ Z hH_89 (ρ t 0) hw0_ (hR89.tk)) rfl rfl rfl (hH_89.kd hw0_ (by decide)) (by rw [hRm]; exact ⟨by decide, by decide⟩) (by rw [hRm]; exact ⟨by decide, by decide⟩) (Nat.le_of_ble_eq_true rfl) (fun o94 v94 ρv94 Zv94 hq94 _ => ?_)
          obtain ⟨rfl, rfl, hfr94, hH94, rfl, hq94⟩ := hq94
          show wp g X F_X5_readShare 0 0 97 [(2, t), (2, a), (0, r30)] [] v94 ρ Z
          have hRe := hR89.go hw hfr94 (by decide) hq94
          refine r_iconst (pc := 97) hX 55 rfl ?_
          exact r_zret (pc := 98) hX 56 hQ rfl rfl ⟨by omega, by omega⟩ (Nat.le_of_ble_eq_true rfl) (Nat.le_of_ble_eq_true rfl) ⟨rfl, rfl, ((((FrW.rf).tr hfr59 (by decide)).up (r := a) ha (by decide)).up (r := a) ha (by decide)).tr hfr94 (by decide), hH94, 1, rfl, (by omega), (by
        unfold ShP
        rw [hs59]
        refine Or.inl ⟨rfl, rfl, hRe, ?_, ?_, rfl⟩
        · rw [← hae, hfr94 a (by rw [ha]; decide), up_s, hx6, ← ec]
          show _ = v a 4 - sv s.H (17 + 5 * l + r30) (tv F n (nx F n m s).p) (17 + 5 * l + r30)
          rw [sv_s]
        · show sv s.H (17 + 5 * l + r30) (tv F n (nx F n m s).p) 1 = s.H 1
          exact sv_n (by omega)), (((((FrK.rf).tr hfk59).ar (q := a) (hBa)).ar (q := a) (hBa)).tw hfr94 (by decide))⟩
        · refine r_iconst (pc := 65) hX 35 rfl ?_
          exact r_zret (pc := 66) hX 36 hQ rfl rfl ⟨by omega, by omega⟩ (Nat.le_of_ble_eq_true rfl) (Nat.le_of_ble_eq_true rfl) ⟨rfl, rfl, (FrW.rf).tr hfr59 (by decide), hH59, 0, rfl, (by omega), (by unfold ShP; rw [hs59]; exact Or.inr ⟨rfl, hq59.2.q0 (by omega)⟩), ((FrK.rf).tr hfk59)⟩
      · exact (L45  (by omega) )
  · have hn4 := (Hd.o hq4.2).resolve_left (fun z => absurd z.1 (by omega))
    refine t_getR (q := (ρ t 0)) (pc := 10) hX 4 rfl rfl rfl fl_X5_9 rfl (hH.kd ht (by decide)) (rfl) ?_
    refine r_iconst (pc := 14) hX 6 rfl ?_
    refine r_callV (as := [(0, 1)]) (st := []) (K := 8) (pc := 15) hX 7 rfl mo_X8_refuse ml_X5_67 im_X8_refuse se_X8_refuse (c_X8_refuseF g ω v ρ Z hH (ρ t 0) hw0_ (1) (by omega)) rfl rfl rfl (hH.kd hw0_ (by decide)) (by rw [hRm]; exact ⟨by decide, by decide⟩) (by rw [hRm]; exact ⟨by decide, by decide⟩) (Nat.le_of_ble_eq_true rfl) (fun o15 v15 ρv15 Zv15 hq15 _ => ?_)
    obtain ⟨rfl, rfl, hfr15, hH15, r15, rfl, hq15⟩ := hq15
    show wp g X F_X5_readShare 0 0 18 [(2, t), (2, a), (3, 0)] [(0, r15)] v15 ρ Z
    exact r_zret (pc := 18) hX 8 hQ rfl rfl ⟨by omega, by omega⟩ (Nat.le_of_ble_eq_true rfl) (Nat.le_of_ble_eq_true rfl) ⟨rfl, rfl, (FrW.rf).tr hfr15 (by decide), hH15, r15, rfl, (by omega), (by rw [hq15.1]; exact ShP.bad (rShare_1 hn4.2) (by decide) hq15.2.1.1 (hq15.2.1.2.trans hR.tk.k5)), ((FrK.rf).tw hfr15 (by decide))⟩
set_option maxHeartbeats 4000000 in
set_option maxRecDepth 100000 in
theorem c_X5_endLandF (g : Gp) (ω : Rw) (v ρ : Mv) (Z : Mz) (hH : HT ω v ρ Z) {F : Int → Int} {n m i l : Int} {s : Rd} {B : Int} (t : Int) (ht : ω t = 4) (hR : RdC F n m v ρ t i (l + 1) s) (hl : 0 ≤ l ∧ l < 3) (h1 : s.H 1 = l) (hnl : v (ρ (ρ t 1) 3) l = s.N (4 + l)) (hnb : NmB (s.N (4 + l))) (hB : NbI ρ (ρ t 1) B) : Ok g 2 0 0 F_X5_endLand [(2, t)] v ρ Z (fun o9 v' ρ' Z' => ρ = ρ' ∧ Z = Z' ∧ FrW ω [2, 5] v v' ∧ HT ω v' ρ Z ∧ ∃ r : Int, o9 = some (0, r) ∧ (0 ≤ r ∧ r ≤ 1) ∧ (PoC F n m v' ρ t i r (rEndL F n m l s)) ∧ (FrK ω B v v')) := by
  refine Ok.of mo_X5_endLand (Nat.le_of_ble_eq_true rfl) ?_
  intro X hX hRm hxn hQ
  show wp g X F_X5_endLand 0 0 0 [(2, t)] [] v ρ Z
  have hw := RtW.of hH ht
  have hw0 : ω (ρ t 0) = 2 := hH.rf ht (by decide) rfl
  have hwr : ω (ρ t 1) = 5 := hH.rf ht (by decide) rfl
  have hg8 : 0 ≤ v (ρ t 1) 8 ∧ v (ρ t 1) 8 ≤ 4 := hH.rg hwr (by decide) rfl
  have hg9 : 0 ≤ v (ρ t 1) 9 ∧ v (ρ t 1) 9 ≤ 3 := hH.rg hwr (by decide) rfl
  have hg10 : 0 ≤ v (ρ t 1) 10 ∧ v (ρ t 1) 10 ≤ 3 := hH.rg hwr (by decide) rfl
  have hk8 := hR.rc.k8
  have hk9 := hR.rc.k9
  have hk10 := hR.rc.k10
  have hbH : (0 ≤ s.H 0 ∧ s.H 0 ≤ 4) ∧ (0 ≤ s.H 1 ∧ s.H 1 ≤ 3) ∧ (0 ≤ s.H 2 ∧ s.H 2 ≤ 3) := by omega
  refine t_getR (q := (ρ t 0)) (pc := 0) hX 0 rfl rfl rfl fl_X5_9 rfl (hH.kd ht (by decide)) (rfl) ?_
  have hw0_ : ω (ρ t 0) = 2 := hH.rf ht (by decide) rfl
  refine r_callV (as := []) (st := []) (K := 8) (pc := 4) hX 2 rfl mo_X8_isName ml_X5_106 im_X8_isName se_X8_isName (c_X8_isNameT g ω v ρ Z hH (ρ t 0) hw0_ (hR.tk)) rfl rfl rfl (hH.kd hw0_ (by decide)) (by rw [hRm]; exact ⟨by decide, by decide⟩) (by rw [hRm]; exact ⟨by decide, by decide⟩) (Nat.le_of_ble_eq_true rfl) (fun o4 v4 ρv4 Zv4 hq4 _ => ?_)
  obtain ⟨rfl, rfl, rfl, r4, rfl, hq4⟩ := hq4
  show wp g X F_X5_endLand 0 0 7 [(2, t)] [(0, r4)] v ρ Z
  first | refine r_if_eq (pc := 7) hX 3 (tgt := 19) rfl (by decide) (⟨by omega, by omega⟩) (fun h7 => ?_) (fun h7 => ?_) | refine r_if_eq_any (pc := 7) hX 3 (tgt := 19) rfl (by decide) ?_ ?_
  · have hn4 := (Hd.o hq4.2).resolve_left (fun z => absurd z.1 (by omega))
    refine t_getR (q := (ρ t 1)) (pc := 19) hX 9 rfl rfl rfl fl_X5_18 rfl (hH.kd ht (by decide)) (rfl) ?_
    have hw19_ : ω (ρ t 1) = 5 := hH.rf ht (by decide) rfl
    refine r_dup (pc := 23) hX 11 rfl (show (2 : Nat) ≠ 1 by decide) ?_
    refine e_getI (y := (v (ρ t 1) 9)) (pc := 24) hX 12 rfl fl_X5_117 rfl (hH.kd hw19_ (by decide)) (rfl) ?_
    have hb24 : 0 ≤ (v (ρ t 1) 9) ∧ (v (ρ t 1) 9) ≤ 3 := hH.rg hw19_ (by decide) rfl
    refine r_iconst (pc := 27) hX 13 rfl ?_
    refine r_iadd (pc := 28) hX 14 rfl ?_
    refine r_putI (pc := 29) hX 15 rfl fl_X5_117 rfl (fun _ h => by cases h; rfl) (hH.kd hw19_ (by decide)) (hH.g4 hw19_ (by decide)) ?_
    have hH_29 : HT ω (up v (ρ t 1) 9 ((v (ρ t 1) 9) + 1)) ρ Z := hH.upR hw19_ (by decide) rfl (by omega) (by omega)
    show wp g X F_X5_endLand 0 0 32 [(2, t)] [] (up v (ρ t 1) 9 ((v (ρ t 1) 9) + 1)) ρ Z
    have hR29 : RdC F n m (up v (ρ t 1) 9 ((v (ρ t 1) 9) + 1)) ρ t i (l + 1) (Rd.wH s (sv s.H 1 (l + 1))) := by
      rw [hk9, h1]
      exact hR.inc1 (x := l) hw ⟨hnl, hnb⟩ h1 rfl
    refine r_iconst (pc := 32) hX 16 rfl ?_
    exact r_zret (pc := 33) hX 17 hQ rfl rfl ⟨by omega, by omega⟩ (Nat.le_of_ble_eq_true rfl) (Nat.le_of_ble_eq_true rfl) ⟨rfl, rfl, (FrW.rf).up (r := (ρ t 1)) hw19_ (by decide), hH_29, 1, rfl, (by omega), (PoC.ok (L := l + 1) (if_neg (by rw [hn4.2]; decide)) (show sv s.H 1 (l + 1) 1 = l + 1 from sv_s) hR29), ((FrK.rf).ar (q := (ρ t 1)) (hB.1))⟩
  · have hn4 := (Hd.o hq4.2).resolve_right (fun z => absurd z.1 (by omega))
    refine t_getR (q := (ρ t 0)) (pc := 10) hX 4 rfl rfl rfl fl_X5_9 rfl (hH.kd ht (by decide)) (rfl) ?_
    refine r_iconst (pc := 14) hX 6 rfl ?_
    refine r_callV (as := [(0, 3)]) (st := []) (K := 8) (pc := 15) hX 7 rfl mo_X8_refuse ml_X5_67 im_X8_refuse se_X8_refuse (c_X8_refuseF g ω v ρ Z hH (ρ t 0) hw0_ (3) (by omega)) rfl rfl rfl (hH.kd hw0_ (by decide)) (by rw [hRm]; exact ⟨by decide, by decide⟩) (by rw [hRm]; exact ⟨by decide, by decide⟩) (Nat.le_of_ble_eq_true rfl) (fun o15 v15 ρv15 Zv15 hq15 _ => ?_)
    obtain ⟨rfl, rfl, hfr15, hH15, r15, rfl, hq15⟩ := hq15
    show wp g X F_X5_endLand 0 0 18 [(2, t)] [(0, r15)] v15 ρ Z
    exact r_zret (pc := 18) hX 8 hQ rfl rfl ⟨by omega, by omega⟩ (Nat.le_of_ble_eq_true rfl) (Nat.le_of_ble_eq_true rfl) ⟨rfl, rfl, (FrW.rf).tr hfr15 (by decide), hH15, r15, rfl, (by omega), (by rw [hq15.1]; exact PoC.bad (if_pos hn4.2) (by decide) hq15.2.1.1 (hq15.2.1.2.trans hR.tk.k5)), ((FrK.rf).tw hfr15 (by decide))⟩
set_option maxHeartbeats 4000000 in
set_option maxRecDepth 100000 in
theorem c_X5_readLandF (g : Gp) (ω : Rw) (v ρ : Mv) (Z : Mz) (hH : HT ω v ρ Z) {F : Int → Int} {n m i : Int} {s : Rd} {B : Int} (t : Int) (ht : ω t = 4) (hR : RdC F n m v ρ t i (s.H 1) s) (hB : NbI ρ (ρ t 1) B) : Ok g 9 0 0 F_X5_readLand [(2, t)] v ρ Z (fun o9 v' ρ' Z' => ρ = ρ' ∧ Z = Z' ∧ FrW ω [2, 5, 7, 11, 13] v v' ∧ HT ω v' ρ Z ∧ ∃ r : Int, o9 = some (0, r) ∧ (0 ≤ r ∧ r ≤ 1) ∧ (PoC F n m v' ρ t i r (rLand F n m s)) ∧ (FrK ω B v v')) := by
  refine Ok.of mo_X5_readLand (Nat.le_of_ble_eq_true rfl) ?_
  intro X hX hRm hxn hQ
  show wp g X F_X5_readLand 0 0 0 [(2, t), (3, 0), (3, 0)] [] v ρ Z
  have hw := RtW.of hH ht
  have hw0 : ω (ρ t 0) = 2 := hH.rf ht (by decide) rfl
  have hwr : ω (ρ t 1) = 5 := hH.rf ht (by decide) rfl
  have hg8 : 0 ≤ v (ρ t 1) 8 ∧ v (ρ t 1) 8 ≤ 4 := hH.rg hwr (by decide) rfl
  have hg9 : 0 ≤ v (ρ t 1) 9 ∧ v (ρ t 1) 9 ≤ 3 := hH.rg hwr (by decide) rfl
  have hg10 : 0 ≤ v (ρ t 1) 10 ∧ v (ρ t 1) 10 ≤ 3 := hH.rg hwr (by decide) rfl
  have hk8 := hR.rc.k8
  have hk9 := hR.rc.k9
  have hk10 := hR.rc.k10
  have hbH : (0 ≤ s.H 0 ∧ s.H 0 ≤ 4) ∧ (0 ≤ s.H 1 ∧ s.H 1 ≤ 3) ∧ (0 ≤ s.H 2 ∧ s.H 2 ≤ 3) := by omega
  refine t_getR (q := (ρ t 1)) (pc := 0) hX 0 rfl rfl rfl fl_X5_18 rfl (hH.kd ht (by decide)) (rfl) ?_
  have hw0_ : ω (ρ t 1) = 5 := hH.rf ht (by decide) rfl
  refine e_getI (y := (v (ρ t 1) 9)) (pc := 4) hX 2 rfl fl_X5_117 rfl (hH.kd hw0_ (by decide)) (rfl) ?_
  have hb4 : 0 ≤ (v (ρ t 1) 9) ∧ (v (ρ t 1) 9) ≤ 3 := hH.rg hw0_ (by decide) rfl
  refine r_iconst (pc := 7) hX 3 rfl ?_
  first | refine r_icmp_lt (pc := 8) hX 4 (tgt := 20) rfl (by decide) (⟨by omega, by omega⟩) (⟨by omega, by omega⟩) (fun h8 => ?_) (fun h8 => ?_) | refine r_icmp_lt_any (pc := 8) hX 4 (tgt := 20) rfl (by decide) ?_ ?_
  · refine r_aload_n (pc := 20) hX 10 rfl rfl ?_
    refine r_callV (as := []) (st := []) (K := 5) (pc := 21) hX 11 rfl mo_X5_readNewName ml_X5_84 im_X5_readNewName se_X5_readNewName (c_X5_readNewNameF g ω v ρ Z hH t ht (hR) (hB)) rfl rfl rfl (hH.kd ht (by decide)) (by rw [hRm]; exact ⟨by decide, by decide⟩) (by rw [hRm]; exact ⟨by decide, by decide⟩) (Nat.le_of_ble_eq_true rfl) (fun o21 v21 ρv21 Zv21 hq21 _ => ?_)
    obtain ⟨rfl, rfl, hfr21, hH21, r21, rfl, hq21⟩ := hq21
    have hfk21 := hq21.2.2
    replace hq21 := And.intro hq21.1 (hq21.2.1)
    show wp g X F_X5_readLand 0 0 24 [(2, t), (3, 0), (3, 0)] [(0, r21)] v21 ρ Z
    first | refine r_if_ne (pc := 24) hX 12 (tgt := 29) rfl (by decide) (⟨by omega, by omega⟩) (fun h24 => ?_) (fun h24 => ?_) | refine r_if_ne_any (pc := 24) hX 12 (tgt := 29) rfl (by decide) ?_ ?_
    · obtain ⟨hw1, hR21, hx8, hxb⟩ := hq21.2.p1 (by omega)
      refine t_getR (q := (ρ t 1)) (pc := 29) hX 15 rfl rfl rfl fl_X5_18 rfl (hH21.kd ht (by decide)) (rfl) ?_
      refine r_getR (q := (ρ (ρ t 1) 3)) (pc := 33) hX 17 rfl fl_X5_120 rfl (hH21.kd hw0_ (by decide)) (rfl) ?_
      have hw33_ : ω (ρ (ρ t 1) 3) = 7 := hH.rf hw0_ (by decide) rfl
      refine t_getR (q := (ρ t 1)) (pc := 36) hX 18 rfl rfl rfl fl_X5_18 rfl (hH21.kd ht (by decide)) (rfl) ?_
      refine e_getI (y := (v (ρ t 1) 9)) (pc := 40) hX 20 rfl fl_X5_117 rfl (hH21.kd hw0_ (by decide)) ((hfr21.at hw0_ (by decide) 9).trans (rfl)) ?_
      refine t_getR (q := (ρ t 0)) (pc := 43) hX 21 rfl rfl rfl fl_X5_9 rfl (hH21.kd ht (by decide)) (rfl) ?_
      have hw43_ : ω (ρ t 0) = 2 := hH.rf ht (by decide) rfl
      refine e_getL (y := (v21 (ρ t 0) 8)) (pc := 47) hX 23 rfl fl_X5_91 rfl (hH21.kd hw43_ (by decide)) (rfl) ?_
      refine e_last (n := 3) (pc := 50) hX 24 rfl (hH21.kd hw33_ (by decide)) (hH21.ln hw33_ (by decide)) (hH21.g4 hw33_ (by decide)) (by omega) (by omega) ?_
      have hH_50 : HT ω (up v21 (ρ (ρ t 1) 3) (v (ρ t 1) 9) (v21 (ρ t 0) 8)) ρ Z := hH21.up0 hw33_ (by decide) rfl
      have hR50 : RdC F n m (up v21 (ρ (ρ t 1) 3) (v (ρ t 1) 9) (v21 (ρ t 0) 8)) ρ t i (s.H 1) (Rd.wN (nx F n m s) (sv s.N (4 + s.H 1) (tn F n (nx F n m s).p))) := by
        rw [hx8]
        exact hR21.nam1 hw hk9 (by omega) hbH (by omega)
      have hc50 : (up v21 (ρ (ρ t 1) 3) (v (ρ t 1) 9) (v21 (ρ t 0) 8)) (ρ (ρ t 1) 3) (v (ρ t 1) 9) = (tn F n (nx F n m s).p) := (up_s _ _ _ _).trans hx8
      refine r_aload_n (pc := 51) hX 25 rfl rfl ?_
      refine r_iconst (pc := 52) hX 26 rfl ?_
      refine r_bipush (pc := 53) hX 27 rfl (by decide) ?_
      refine r_callV (as := [(0, 1), (0, 9)]) (st := []) (K := 5) (pc := 55) hX 28 rfl mo_X5_readNumber ml_X5_95 im_X5_readNumber se_X5_readNumber (c_X5_readNumberF g ω (up v21 (ρ (ρ t 1) 3) (v (ρ t 1) 9) (v21 (ρ t 0) 8)) ρ Z hH_50 t ht (1) (9) (hR50) (by omega) (by omega) (hB)) rfl rfl rfl (hH_50.kd ht (by decide)) (by rw [hRm]; exact ⟨by decide, by decide⟩) (by rw [hRm]; exact ⟨by decide, by decide⟩) (Nat.le_of_ble_eq_true rfl) (fun o55 v55 ρv55 Zv55 hq55 _ => ?_)
      obtain ⟨rfl, rfl, hfr55, hH55, r55, rfl, hq55⟩ := hq55
      have hfk55 := hq55.2.2
      replace hq55 := And.intro hq55.1 (hq55.2.1)
      show wp g X F_X5_readLand 0 0 58 [(2, t), (3, 0), (3, 0)] [(0, r55)] v55 ρ Z
      have hc55 : v55 (ρ (ρ t 1) 3) (s.H 1) = (tn F n (nx F n m s).p) := by
        rw [hfr55 (ρ (ρ t 1) 3) (by rw [hw.w7]; decide), ← hk9]
        exact hc50
      first | refine r_if_ne (pc := 58) hX 29 (tgt := 63) rfl (by decide) (⟨by omega, by omega⟩) (fun h58 => ?_) (fun h58 => ?_) | refine r_if_ne_any (pc := 58) hX 29 (tgt := 63) rfl (by decide) ?_ ?_
      · obtain ⟨hw2, hR55, hx6, hlo6, hhi6⟩ := hq55.2.p1 (by omega)
        refine t_getR (q := (ρ t 1)) (pc := 63) hX 32 rfl rfl rfl fl_X5_18 rfl (hH55.kd ht (by decide)) (rfl) ?_
        refine r_getR (q := (ρ (ρ t 1) 4)) (pc := 67) hX 34 rfl fl_X5_123 rfl (hH55.kd hw0_ (by decide)) (rfl) ?_
        have hw67_ : ω (ρ (ρ t 1) 4) = 11 := hH.rf hw0_ (by decide) rfl
        refine t_getR (q := (ρ t 1)) (pc := 70) hX 35 rfl rfl rfl fl_X5_18 rfl (hH55.kd ht (by decide)) (rfl) ?_
        refine e_getI (y := (v (ρ t 1) 9)) (pc := 74) hX 37 rfl fl_X5_117 rfl (hH55.kd hw0_ (by decide)) ((hfr55.at hw0_ (by decide) 9).trans ((up_r (rne hw0_ hw33_ (by decide))).trans ((hfr21.at hw0_ (by decide) 9).trans (rfl)))) ?_
        refine t_getR (q := (ρ t 0)) (pc := 77) hX 38 rfl rfl rfl fl_X5_9 rfl (hH55.kd ht (by decide)) (rfl) ?_
        refine e_getI (y := (v55 (ρ t 0) 6)) (pc := 81) hX 40 rfl fl_X5_103 rfl (hH55.kd hw43_ (by decide)) (rfl) ?_
        have hb81 : (-2147483648) ≤ (v55 (ρ t 0) 6) ∧ (v55 (ρ t 0) 6) ≤ 2147483647 := hH55.rg hw43_ (by decide) rfl
        refine e_iast (n := 3) (pc := 84) hX 41 rfl (hH55.kd hw67_ (by decide)) (hH55.ln hw67_ (by decide)) (hH55.g4 hw67_ (by decide)) (by omega) (by omega) ?_
        have hH_84 : HT ω (up v55 (ρ (ρ t 1) 4) (v (ρ t 1) 9) (v55 (ρ t 0) 6)) ρ Z := hH55.upR hw67_ (by decide) rfl (by omega) (by omega)
        have hR84 : RdC F n m (up v55 (ρ (ρ t 1) 4) (v (ρ t 1) 9) (v55 (ρ t 0) 6)) ρ t i (s.H 1) (Rd.wH (nx F n m (Rd.wN (nx F n m s) (sv s.N (4 + s.H 1) (tn F n (nx F n m s).p)))) (sv s.H (14 + s.H 1) (tv F n (nx F n m (Rd.wN (nx F n m s) (sv s.N (4 + s.H 1) (tn F n (nx F n m s).p)))).p))) := (hR55.ign (by omega)).oth hw hw.w11 rfl (by decide) (by decide) (by decide)
        have hc84 : (up v55 (ρ (ρ t 1) 4) (v (ρ t 1) 9) (v55 (ρ t 0) 6)) (ρ (ρ t 1) 3) (s.H 1) = (tn F n (nx F n m s).p) := by
          rw [up_f (rne hw.w7 hw.w11 (by decide))]
          exact hc55
        refine t_getR (q := (ρ t 1)) (pc := 85) hX 42 rfl rfl rfl fl_X5_18 rfl (hH_84.kd ht (by decide)) (rfl) ?_
        refine r_getR (q := (ρ (ρ t 1) 5)) (pc := 89) hX 44 rfl fl_X5_126 rfl (hH_84.kd hw0_ (by decide)) (rfl) ?_
        have hw89_ : ω (ρ (ρ t 1) 5) = 12 := hH.rf hw0_ (by decide) rfl
        refine t_getR (q := (ρ t 1)) (pc := 92) hX 45 rfl rfl rfl fl_X5_18 rfl (hH_84.kd ht (by decide)) (rfl) ?_
        refine e_getI (y := (v (ρ t 1) 9)) (pc := 96) hX 47 rfl fl_X5_117 rfl (hH_84.kd hw0_ (by decide)) ((up_r (rne hw0_ hw67_ (by decide))).trans ((hfr55.at hw0_ (by decide) 9).trans ((up_r (rne hw0_ hw33_ (by decide))).trans ((hfr21.at hw0_ (by decide) 9).trans (rfl))))) ?_
        refine r_aald (q := (ρ (ρ (ρ t 1) 5) (v (ρ t 1) 9))) (pc := 99) hX 48 19 rfl (hH_84.kd hw89_ (by decide)) (by decide) (by decide) rfl rfl (by omega) (by rw [show Z.2.1 (ρ (ρ t 1) 5) = 3 from (hH_84.ln hw89_ (by decide))]; omega) (rfl) ?_
        have hw99_ : ω (ρ (ρ (ρ t 1) 5) (v (ρ t 1) 9)) = 13 := hH.rf hw89_ (by decide) (rf12 ⟨by omega, by omega⟩)
        refine r_astore_n (ls' := [(2, t), (2, (ρ (ρ (ρ t 1) 5) (v (ρ t 1) 9))), (3, 0)]) (pc := 100) hX 49 rfl (by decide) rfl ?_
        refine t_getR (q := (ρ t 0)) (pc := 101) hX 50 rfl rfl rfl fl_X5_9 rfl (hH_84.kd ht (by decide)) (rfl) ?_
        refine r_callV (as := []) (st := []) (K := 8) (pc := 105) hX 52 rfl mo_X8_advance ml_X5_35 im_X8_advance se_X8_advance (c_X8_advanceT g ω (up v55 (ρ (ρ t 1) 4) (v (ρ t 1) 9) (v55 (ρ t 0) 6)) ρ Z hH_84 (ρ t 0) hw43_ (hR84.tk)) rfl rfl rfl (hH_84.kd hw43_ (by decide)) (by rw [hRm]; exact ⟨by decide, by decide⟩) (by rw [hRm]; exact ⟨by decide, by decide⟩) (Nat.le_of_ble_eq_true rfl) (fun o105 v105 ρv105 Zv105 hq105 _ => ?_)
        obtain ⟨rfl, rfl, hfr105, hH105, rfl, hq105⟩ := hq105
        show wp g X F_X5_readLand 0 0 108 [(2, t), (2, (ρ (ρ (ρ t 1) 5) (v (ρ t 1) 9))), (3, 0)] [] v105 ρ Z
        have hRe : RdC F n m v105 ρ t i (s.H 1) (nx F n m (Rd.wH (nx F n m (Rd.wN (nx F n m s) (sv s.N (4 + s.H 1) (tn F n (nx F n m s).p)))) (sv s.H (14 + s.H 1) (tv F n (nx F n m (Rd.wN (nx F n m s) (sv s.N (4 + s.H 1) (tn F n (nx F n m s).p)))).p)))) := hR84.go hw hfr105 (by decide) hq105
        have hc105 : v105 (ρ (ρ t 1) 3) (s.H 1) = (tn F n (nx F n m s).p) := by
          rw [hfr105 (ρ (ρ t 1) 3) (by rw [hw.w7]; decide)]
          exact hc84
        have hr9 : ρ (ρ (ρ t 1) 5) (v (ρ t 1) 9) = ρ (ρ (ρ t 1) 5) (s.H 1) := by rw [hk9]
        refine r_iconst (pc := 108) hX 53 rfl ?_
        refine r_istore_n (ls' := [(2, t), (2, (ρ (ρ (ρ t 1) 5) (v (ρ t 1) 9))), (0, 0)]) (pc := 109) hX 54 rfl (by decide) rfl ?_
        have L110 : ∀ (n110 : Nat) (k : Int) (v110 : Mv) , (FrW ω [2, 5, 7, 11, 13] v v110) → (HT ω v110 ρ Z) → (FrK ω B v v110) → (0 ≤ k ∧ k ≤ 4) → (v110 (ρ t 1) 9 = v (ρ t 1) 9) → (LcI F n m v110 ρ t i (s.H 1) s (4 - k).toNat) → (4 - k).toNat < n110 → wp g X F_X5_readLand 0 0 110 [(2, t), (2, (ρ (ρ (ρ t 1) 5) (v (ρ t 1) 9))), (0, k)] [] v110 ρ Z := by
          intro n110
          induction n110 with
          | zero => intro k v110 hfr110 hH110 hfk110 ii el iq hme110; exact absurd hme110 (Nat.not_lt_zero _)
          | succ n110 ih110 =>
            intro k v110 hfr110 hH110 hfk110 ii el iq hme110
            obtain ⟨sg, hRg, heq, hg1, hgn, hgb⟩ := iq
            refine r_iload_n (pc := 110) hX 55 rfl rfl ?_
            refine r_iconst (pc := 111) hX 56 rfl ?_
            have L143 : (LcE F n m v110 ρ t i (s.H 1) s) → wp g X F_X5_readLand 0 0 143 [(2, t), (2, (ρ (ρ (ρ t 1) 5) (v (ρ t 1) 9))), (0, k)] [] v110 ρ Z := by
              intro i143
              obtain ⟨sz, hRz, heqz, hz1, hzn, hzb⟩ := i143
              refine r_aload_n (pc := 143) hX 71 rfl rfl ?_
              refine r_callV (as := []) (st := []) (K := 5) (pc := 144) hX 72 rfl mo_X5_endLand ml_X5_134 im_X5_endLand se_X5_endLand (c_X5_endLandF g ω v110 ρ Z hH110 t ht (hRz) (by omega) (hz1) (hzn) (hzb) (hB)) rfl rfl rfl (hH110.kd ht (by decide)) (by rw [hRm]; exact ⟨by decide, by decide⟩) (by rw [hRm]; exact ⟨by decide, by decide⟩) (Nat.le_of_ble_eq_true rfl) (fun o144 v144 ρv144 Zv144 hq144 _ => ?_)
              obtain ⟨rfl, rfl, hfr144, hH144, r144, rfl, hq144⟩ := hq144
              have hfk144 := hq144.2.2
              replace hq144 := And.intro hq144.1 (hq144.2.1)
              show wp g X F_X5_readLand 0 0 147 [(2, t), (2, (ρ (ρ (ρ t 1) 5) (v (ρ t 1) 9))), (0, k)] [(0, r144)] v144 ρ Z
              exact r_zret (pc := 147) hX 73 hQ rfl rfl ⟨by omega, by omega⟩ (Nat.le_of_ble_eq_true rfl) (Nat.le_of_ble_eq_true rfl) ⟨rfl, rfl, (hfr110).tr hfr144 (by decide), hH144, r144, rfl, (hq144.1), (by rw [heqz]; exact hq144.2), ((hfk110).tr hfk144)⟩
            first | refine r_icmp_ge (pc := 112) hX 57 (tgt := 143) rfl (by decide) (⟨by omega, by omega⟩) (⟨by omega, by omega⟩) (fun h112 => ?_) (fun h112 => ?_) | refine r_icmp_ge_any (pc := 112) hX 57 (tgt := 143) rfl (by decide) ?_ ?_
            · exact (L143  (by first | exact LcI.done hRg heq hg1 hgn hgb (Or.inl (by omega)) | exact LcI.done hRg heq hg1 hgn hgb (Or.inr ((Hd.o hq121.2).resolve_right (fun z => absurd z.1 (by omega))).2)) )
            · refine t_getR (q := (ρ t 0)) (pc := 115) hX 58 rfl rfl rfl fl_X5_9 rfl (hH110.kd ht (by decide)) (rfl) ?_
              refine r_bipush (pc := 119) hX 60 rfl (by decide) ?_
              refine r_callV (as := [(0, 59)]) (st := []) (K := 8) (pc := 121) hX 61 rfl mo_X8_isMark ml_X5_74 im_X8_isMark se_X8_isMark (c_X8_isMarkT g ω v110 ρ Z hH110 (ρ t 0) hw43_ (59) (hRg.tk) (by omega)) rfl rfl rfl (hH110.kd hw43_ (by decide)) (by rw [hRm]; exact ⟨by decide, by decide⟩) (by rw [hRm]; exact ⟨by decide, by decide⟩) (Nat.le_of_ble_eq_true rfl) (fun o121 v121 ρv121 Zv121 hq121 _ => ?_)
              obtain ⟨rfl, rfl, rfl, r121, rfl, hq121⟩ := hq121
              show wp g X F_X5_readLand 0 0 124 [(2, t), (2, (ρ (ρ (ρ t 1) 5) (v (ρ t 1) 9))), (0, k)] [(0, r121)] v110 ρ Z
              first | refine r_if_ne (pc := 124) hX 62 (tgt := 143) rfl (by decide) (⟨by omega, by omega⟩) (fun h124 => ?_) (fun h124 => ?_) | refine r_if_ne_any (pc := 124) hX 62 (tgt := 143) rfl (by decide) ?_ ?_
              · exact (L143  (by first | exact LcI.done hRg heq hg1 hgn hgb (Or.inl (by omega)) | exact LcI.done hRg heq hg1 hgn hgb (Or.inr ((Hd.o hq121.2).resolve_right (fun z => absurd z.1 (by omega))).2)) )
              · have hm121 := (Hd.o hq121.2).resolve_left (fun z => absurd z.1 (by omega))
                refine r_aload_n (pc := 127) hX 63 rfl rfl ?_
                refine r_aload_n (pc := 128) hX 64 rfl rfl ?_
                refine r_callV (as := [(2, (ρ (ρ (ρ t 1) 5) (v (ρ t 1) 9)))]) (st := []) (K := 5) (pc := 129) hX 65 rfl mo_X5_readShare ml_X5_130 im_X5_readShare se_X5_readShare (c_X5_readShareF g ω v110 ρ Z hH110 t ht (ρ (ρ (ρ t 1) 5) (v (ρ t 1) 9)) hw99_ (hRg) (by omega) (hr9) (hB)) rfl rfl rfl (hH110.kd ht (by decide)) (by rw [hRm]; exact ⟨by decide, by decide⟩) (by rw [hRm]; exact ⟨by decide, by decide⟩) (Nat.le_of_ble_eq_true rfl) (fun o129 v129 ρv129 Zv129 hq129 _ => ?_)
                obtain ⟨rfl, rfl, hfr129, hH129, r129, rfl, hq129⟩ := hq129
                have hfk129 := hq129.2.2
                replace hq129 := And.intro hq129.1 (hq129.2.1)
                show wp g X F_X5_readLand 0 0 132 [(2, t), (2, (ρ (ρ (ρ t 1) 5) (v (ρ t 1) 9))), (0, k)] [(0, r129)] v129 ρ Z
                rw [hr9] at hq129
                first | refine r_if_ne (pc := 132) hX 66 (tgt := 137) rfl (by decide) (⟨by omega, by omega⟩) (fun h132 => ?_) (fun h132 => ?_) | refine r_if_ne_any (pc := 132) hX 66 (tgt := 137) rfl (by decide) ?_ ?_
                · refine r_iinc (ls' := [(2, t), (2, (ρ (ρ (ρ t 1) 5) (v (ρ t 1) 9))), (0, (k + 1))]) (pc := 137) hX 69 rfl rfl (by decide) rfl ?_
                  refine r_goto (pc := 140) hX 70 (tgt := 110) rfl (by decide) ?_
                  exact (ih110 (k + 1) v129 ((hfr110).tr hfr129 (by decide)) (hH129) ((hfk110).tr hfk129) (by omega) (((hfr129.at hw0_ (by decide) 9).trans (rfl)).trans (by omega)) (LcI.next heq (by omega) hm121.2 hq129.2 (by omega) hg1 (hfr129 _ (by rw [hw.w7]; decide)) hgn hgb) (by omega))
                · refine r_iconst (pc := 135) hX 67 rfl ?_
                  exact r_zret (pc := 136) hX 68 hQ rfl rfl ⟨by omega, by omega⟩ (Nat.le_of_ble_eq_true rfl) (Nat.le_of_ble_eq_true rfl) ⟨rfl, rfl, (hfr110).tr hfr129 (by decide), hH129, 0, rfl, (by omega), (LcI.bad heq (by omega) hm121.2 hq129.2 (by omega)), ((hfk110).tr hfk129)⟩
        exact (L110 _ 0 v105 ((((((FrW.rf).tr hfr21 (by decide)).up (r := (ρ (ρ t 1) 3)) hw33_ (by decide)).tr hfr55 (by decide)).up (r := (ρ (ρ t 1) 4)) hw67_ (by decide)).tr hfr105 (by decide)) (hH105) ((((((FrK.rf).tr hfk21).ar (q := (ρ (ρ t 1) 3)) (hB.2.2.2.1)).tr hfk55).ot (q := (ρ (ρ t 1) 4)) hw67_ (by decide)).tw hfr105 (by decide)) (by omega) (((hfr105.at hw0_ (by decide) 9).trans ((up_r (rne hw0_ hw67_ (by decide))).trans ((hfr55.at hw0_ (by decide) 9).trans ((up_r (rne hw0_ hw33_ (by decide))).trans ((hfr21.at hw0_ (by decide) 9).trans (rfl)))))).trans (by omega)) (LcI.start (S2 := (Rd.wH (nx F n m (Rd.wN (nx F n m s) (sv s.N (4 + s.H 1) (tn F n (nx F n m s).p)))) (sv s.H (14 + s.H 1) (tv F n (nx F n m (Rd.wN (nx F n m s) (sv s.N (4 + s.H 1) (tn F n (nx F n m s).p)))).p)))) hRe (by omega) (by rw [show rLand F n m s = _ from (if_neg (show ¬ 3 ≤ s.H 1 by omega)), hw1, thn_0 rfl, hw2, thn_0 rfl]; rfl) (by show sv s.H (14 + s.H 1) (tv F n (nx F n m (Rd.wN (nx F n m s) (sv s.N (4 + s.H 1) (tn F n (nx F n m s).p)))).p) 1 = s.H 1; exact sv_n (by omega)) (by rw [hc105]; show _ = sv s.N (4 + s.H 1) (tn F n (nx F n m s).p) (4 + s.H 1); rw [sv_s]) (by show NmB (sv s.N (4 + s.H 1) (tn F n (nx F n m s).p) (4 + s.H 1)); rw [sv_s]; exact hxb)) (Nat.lt_succ_self _))
      · refine r_iconst (pc := 61) hX 30 rfl ?_
        exact r_zret (pc := 62) hX 31 hQ rfl rfl ⟨by omega, by omega⟩ (Nat.le_of_ble_eq_true rfl) (Nat.le_of_ble_eq_true rfl) ⟨rfl, rfl, (((FrW.rf).tr hfr21 (by decide)).up (r := (ρ (ρ t 1) 3)) hw33_ (by decide)).tr hfr55 (by decide), hH55, 0, rfl, (by omega), (by rw [show rLand F n m s = _ from (if_neg (show ¬ 3 ≤ s.H 1 by omega)), hw1, thn_0 rfl]; exact hq55.2.p0 (by omega)), ((((FrK.rf).tr hfk21).ar (q := (ρ (ρ t 1) 3)) (hB.2.2.2.1)).tr hfk55)⟩
    · refine r_iconst (pc := 27) hX 13 rfl ?_
      exact r_zret (pc := 28) hX 14 hQ rfl rfl ⟨by omega, by omega⟩ (Nat.le_of_ble_eq_true rfl) (Nat.le_of_ble_eq_true rfl) ⟨rfl, rfl, (FrW.rf).tr hfr21 (by decide), hH21, 0, rfl, (by omega), (by rw [show rLand F n m s = _ from (if_neg (show ¬ 3 ≤ s.H 1 by omega))]; exact hq21.2.p0 (by omega)), ((FrK.rf).tr hfk21)⟩
  · refine t_getR (q := (ρ t 0)) (pc := 11) hX 5 rfl rfl rfl fl_X5_9 rfl (hH.kd ht (by decide)) (rfl) ?_
    have hw11_ : ω (ρ t 0) = 2 := hH.rf ht (by decide) rfl
    refine r_iconst (pc := 15) hX 7 rfl ?_
    refine r_callV (as := [(0, 4)]) (st := []) (K := 8) (pc := 16) hX 8 rfl mo_X8_refuse ml_X5_67 im_X8_refuse se_X8_refuse (c_X8_refuseF g ω v ρ Z hH (ρ t 0) hw11_ (4) (by omega)) rfl rfl rfl (hH.kd hw11_ (by decide)) (by rw [hRm]; exact ⟨by decide, by decide⟩) (by rw [hRm]; exact ⟨by decide, by decide⟩) (Nat.le_of_ble_eq_true rfl) (fun o16 v16 ρv16 Zv16 hq16 _ => ?_)
    obtain ⟨rfl, rfl, hfr16, hH16, r16, rfl, hq16⟩ := hq16
    show wp g X F_X5_readLand 0 0 19 [(2, t), (3, 0), (3, 0)] [(0, r16)] v16 ρ Z
    exact r_zret (pc := 19) hX 9 hQ rfl rfl ⟨by omega, by omega⟩ (Nat.le_of_ble_eq_true rfl) (Nat.le_of_ble_eq_true rfl) ⟨rfl, rfl, (FrW.rf).tr hfr16 (by decide), hH16, r16, rfl, (by omega), (by rw [hq16.1]; exact PoC.bad (if_pos (by omega)) (by decide) hq16.2.1.1 (hq16.2.1.2.trans hR.tk.k5)), ((FrK.rf).tw hfr16 (by decide))⟩
