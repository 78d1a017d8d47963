set_option maxHeartbeats 4000000 in
set_option maxRecDepth 100000 in
theorem c_X5_readClosingF (g : Gp) (ω : Rw) (v ρ : Mv) (Z : Mz) (hH : HT ω v ρ Z) {F : Int → Int} {n m i L : Int} {s : Rd} {B : Int} (t : Int) (ht : ω t = 4) (hR : RdC F n m v ρ t i L s) (hB : NbI ρ (ρ t 1) B) : Ok g 7 0 0 F_X5_readClosing [(2, t)] v ρ Z (fun o9 v' ρ' Z' => ρ = ρ' ∧ Z = Z' ∧ FrW ω [2, 5] v v' ∧ HT ω v' ρ Z ∧ ∃ r : Int, o9 = some (0, r) ∧ (0 ≤ r ∧ r ≤ 1) ∧ (Hd (r = 1 ∧ mk F n m s.p 59 = true ∧ RdC F n m v' ρ t (i + 1) L (nx F n m s) ∨ r = 0 ∧ mk F n m s.p 59 = false ∧ v' (ρ t 0) 9 = 1 ∧ v' (ρ t 0) 10 = ta F n m s.p)) ∧ (FrK ω B v v')) := by
  refine Ok.of mo_X5_readClosing (Nat.le_of_ble_eq_true rfl) ?_
  intro X hX hRm hxn hQ
  show wp g X F_X5_readClosing 0 0 0 [(2, t)] [] v ρ Z
  have hw := RtW.of hH ht
  have hw0 : ω (ρ t 0) = 2 := hH.rf ht (by decide) rfl
  have hwr : ω (ρ t 1) = 5 := hH.rf ht (by decide) rfl
  have hg8 : 0 ≤ v (ρ t 1) 8 ∧ v (ρ t 1) 8 ≤ 4 := hH.rg hwr (by decide) rfl
  have hg9 : 0 ≤ v (ρ t 1) 9 ∧ v (ρ t 1) 9 ≤ 3 := hH.rg hwr (by decide) rfl
  have hg10 : 0 ≤ v (ρ t 1) 10 ∧ v (ρ t 1) 10 ≤ 3 := hH.rg hwr (by decide) rfl
  have hk8 := hR.rc.k8
  have hk9 := hR.rc.k9
  have hk10 := hR.rc.k10
  have hbH : (0 ≤ s.H 0 ∧ s.H 0 ≤ 4) ∧ (0 ≤ s.H 1 ∧ s.H 1 ≤ 3) ∧ (0 ≤ s.H 2 ∧ s.H 2 ≤ 3) := by omega
  refine t_getR (q := (ρ t 0)) (pc := 0) hX 0 rfl rfl rfl fl_X5_9 rfl (hH.kd ht (by decide)) (rfl) ?_
  have hw0_ : ω (ρ t 0) = 2 := hH.rf ht (by decide) rfl
  refine r_bipush (pc := 4) hX 2 rfl (by decide) ?_
  refine r_callV (as := [(0, 59)]) (st := []) (K := 8) (pc := 6) hX 3 rfl mo_X8_isMark ml_X5_74 im_X8_isMark se_X8_isMark (c_X8_isMarkT g ω v ρ Z hH (ρ t 0) hw0_ (59) (hR.tk) (by omega)) rfl rfl rfl (hH.kd hw0_ (by decide)) (by rw [hRm]; exact ⟨by decide, by decide⟩) (by rw [hRm]; exact ⟨by decide, by decide⟩) (Nat.le_of_ble_eq_true rfl) (fun o6 v6 ρv6 Zv6 hq6 _ => ?_)
  obtain ⟨rfl, rfl, rfl, r6, rfl, hq6⟩ := hq6
  show wp g X F_X5_readClosing 0 0 9 [(2, t)] [(0, r6)] v ρ Z
  first | refine r_if_ne (pc := 9) hX 4 (tgt := 21) rfl (by decide) (⟨by omega, by omega⟩) (fun h9 => ?_) (fun h9 => ?_) | refine r_if_ne_any (pc := 9) hX 4 (tgt := 21) rfl (by decide) ?_ ?_
  · have hm6 := (Hd.o hq6.2).resolve_right (fun z => absurd z.1 (by omega))
    refine t_getR (q := (ρ t 1)) (pc := 21) hX 10 rfl rfl rfl fl_X5_18 rfl (hH.kd ht (by decide)) (rfl) ?_
    have hw21_ : ω (ρ t 1) = 5 := hH.rf ht (by decide) rfl
    refine r_dup (pc := 25) hX 12 rfl (show (2 : Nat) ≠ 1 by decide) ?_
    refine e_getI (y := (v (ρ t 1) 14)) (pc := 26) hX 13 rfl fl_X5_78 rfl (hH.kd hw21_ (by decide)) (rfl) ?_
    refine r_iconst (pc := 29) hX 14 rfl ?_
    refine r_iadd (pc := 30) hX 15 rfl ?_
    refine r_putI (pc := 31) hX 16 rfl fl_X5_78 rfl (fun _ h => by cases h; rfl) (hH.kd hw21_ (by decide)) (hH.g4 hw21_ (by decide)) ?_
    have hH_31 : HT ω (up v (ρ t 1) 14 ((v (ρ t 1) 14) + 1)) ρ Z := hH.up0 hw21_ (by decide) rfl
    show wp g X F_X5_readClosing 0 0 34 [(2, t)] [] (up v (ρ t 1) 14 ((v (ρ t 1) 14) + 1)) ρ Z
    have hR31 : RdC F n m (up v (ρ t 1) 14 ((v (ρ t 1) 14) + 1)) ρ t (i + 1) L s := by
      rw [hR.rc.k14]
      exact hR.lin hw
    refine t_getR (q := (ρ t 0)) (pc := 34) hX 17 rfl rfl rfl fl_X5_9 rfl (hH_31.kd ht (by decide)) (rfl) ?_
    refine r_callV (as := []) (st := []) (K := 8) (pc := 38) hX 19 rfl mo_X8_advance ml_X5_35 im_X8_advance se_X8_advance (c_X8_advanceT g ω (up v (ρ t 1) 14 ((v (ρ t 1) 14) + 1)) ρ Z hH_31 (ρ t 0) hw0_ (hR31.tk)) rfl rfl rfl (hH_31.kd hw0_ (by decide)) (by rw [hRm]; exact ⟨by decide, by decide⟩) (by rw [hRm]; exact ⟨by decide, by decide⟩) (Nat.le_of_ble_eq_true rfl) (fun o38 v38 ρv38 Zv38 hq38 _ => ?_)
    obtain ⟨rfl, rfl, hfr38, hH38, rfl, hq38⟩ := hq38
    show wp g X F_X5_readClosing 0 0 41 [(2, t)] [] v38 ρ Z
    have hR38 : RdC F n m v38 ρ t (i + 1) L (nx F n m s) := hR31.go hw hfr38 (by decide) hq38
    refine r_iconst (pc := 41) hX 20 rfl ?_
    exact r_zret (pc := 42) hX 21 hQ rfl rfl ⟨by omega, by omega⟩ (Nat.le_of_ble_eq_true rfl) (Nat.le_of_ble_eq_true rfl) ⟨rfl, rfl, ((FrW.rf).up (r := (ρ t 1)) hw21_ (by decide)).tr hfr38 (by decide), hH38, 1, rfl, (by omega), (Hd.i (Or.inl ⟨rfl, hm6.2, hR38⟩)), (((FrK.rf).ar (q := (ρ t 1)) (hB.1)).tw hfr38 (by decide))⟩
  · have hm6 := (Hd.o hq6.2).resolve_left (fun z => absurd z.1 (by omega))
    refine t_getR (q := (ρ t 0)) (pc := 12) hX 5 rfl rfl rfl fl_X5_9 rfl (hH.kd ht (by decide)) (rfl) ?_
    refine r_iconst (pc := 16) hX 7 rfl ?_
    refine r_callV (as := [(0, 1)]) (st := []) (K := 8) (pc := 17) hX 8 rfl mo_X8_refuse ml_X5_67 im_X8_refuse se_X8_refuse (c_X8_refuseF g ω v ρ Z hH (ρ t 0) hw0_ (1) (by omega)) rfl rfl rfl (hH.kd hw0_ (by decide)) (by rw [hRm]; exact ⟨by decide, by decide⟩) (by rw [hRm]; exact ⟨by decide, by decide⟩) (Nat.le_of_ble_eq_true rfl) (fun o17 v17 ρv17 Zv17 hq17 _ => ?_)
    obtain ⟨rfl, rfl, hfr17, hH17, r17, rfl, hq17⟩ := hq17
    show wp g X F_X5_readClosing 0 0 20 [(2, t)] [(0, r17)] v17 ρ Z
    exact r_zret (pc := 20) hX 9 hQ rfl rfl ⟨by omega, by omega⟩ (Nat.le_of_ble_eq_true rfl) (Nat.le_of_ble_eq_true rfl) ⟨rfl, rfl, (FrW.rf).tr hfr17 (by decide), hH17, r17, rfl, (by omega), (Hd.i (Or.inr ⟨hq17.1, hm6.2, hq17.2.1.1, hq17.2.1.2.trans hR.tk.k5⟩)), ((FrK.rf).tw hfr17 (by decide))⟩
set_option maxHeartbeats 4000000 in
set_option maxRecDepth 100000 in
theorem c_X5_readNewNameF (g : Gp) (ω : Rw) (v ρ : Mv) (Z : Mz) (hH : HT ω v ρ Z) {F : Int → Int} {n m i L : Int} {s : Rd} {B : Int} (t : Int) (ht : ω t = 4) (hR : RdC F n m v ρ t i L s) (hB : NbI ρ (ρ t 1) B) : Ok g 7 0 0 F_X5_readNewName [(2, t)] v ρ Z (fun o9 v' ρ' Z' => ρ = ρ' ∧ Z = Z' ∧ FrW ω [2] v v' ∧ HT ω v' ρ Z ∧ ∃ r : Int, o9 = some (0, r) ∧ (0 ≤ r ∧ r ≤ 1) ∧ (NnP F n m v' ρ t i L r s) ∧ (FrK ω B v v')) := by
  refine Ok.of mo_X5_readNewName (Nat.le_of_ble_eq_true rfl) ?_
  intro X hX hRm hxn hQ
  show wp g X F_X5_readNewName 0 0 0 [(2, t)] [] v ρ Z
  have hw := RtW.of hH ht
  have hw0 : ω (ρ t 0) = 2 := hH.rf ht (by decide) rfl
  have hwr : ω (ρ t 1) = 5 := hH.rf ht (by decide) rfl
  have hg8 : 0 ≤ v (ρ t 1) 8 ∧ v (ρ t 1) 8 ≤ 4 := hH.rg hwr (by decide) rfl
  have hg9 : 0 ≤ v (ρ t 1) 9 ∧ v (ρ t 1) 9 ≤ 3 := hH.rg hwr (by decide) rfl
  have hg10 : 0 ≤ v (ρ t 1) 10 ∧ v (ρ t 1) 10 ≤ 3 := hH.rg hwr (by decide) rfl
  have hk8 := hR.rc.k8
  have hk9 := hR.rc.k9
  have hk10 := hR.rc.k10
  have hbH : (0 ≤ s.H 0 ∧ s.H 0 ≤ 4) ∧ (0 ≤ s.H 1 ∧ s.H 1 ≤ 3) ∧ (0 ≤ s.H 2 ∧ s.H 2 ≤ 3) := by omega
  refine t_getR (q := (ρ t 0)) (pc := 0) hX 0 rfl rfl rfl fl_X5_9 rfl (hH.kd ht (by decide)) (rfl) ?_
  have hw0_ : ω (ρ t 0) = 2 := hH.rf ht (by decide) rfl
  refine r_callV (as := []) (st := []) (K := 8) (pc := 4) hX 2 rfl mo_X8_advance ml_X5_35 im_X8_advance se_X8_advance (c_X8_advanceT g ω v ρ Z hH (ρ t 0) hw0_ (hR.tk)) rfl rfl rfl (hH.kd hw0_ (by decide)) (by rw [hRm]; exact ⟨by decide, by decide⟩) (by rw [hRm]; exact ⟨by decide, by decide⟩) (Nat.le_of_ble_eq_true rfl) (fun o4 v4 ρv4 Zv4 hq4 _ => ?_)
  obtain ⟨rfl, rfl, hfr4, hH4, rfl, hq4⟩ := hq4
  show wp g X F_X5_readNewName 0 0 7 [(2, t)] [] v4 ρ Z
  have hR4 : RdC F n m v4 ρ t i L (nx F n m s) := hR.go hw hfr4 (by decide) hq4
  refine t_getR (q := (ρ t 0)) (pc := 7) hX 3 rfl rfl rfl fl_X5_9 rfl (hH4.kd ht (by decide)) (rfl) ?_
  refine r_callV (as := []) (st := []) (K := 8) (pc := 11) hX 5 rfl mo_X8_isName ml_X5_106 im_X8_isName se_X8_isName (c_X8_isNameT g ω v4 ρ Z hH4 (ρ t 0) hw0_ (hR4.tk)) rfl rfl rfl (hH4.kd hw0_ (by decide)) (by rw [hRm]; exact ⟨by decide, by decide⟩) (by rw [hRm]; exact ⟨by decide, by decide⟩) (Nat.le_of_ble_eq_true rfl) (fun o11 v11 ρv11 Zv11 hq11 _ => ?_)
  obtain ⟨rfl, rfl, rfl, r11, rfl, hq11⟩ := hq11
  show wp g X F_X5_readNewName 0 0 14 [(2, t)] [(0, r11)] v4 ρ Z
  first | refine r_if_ne (pc := 14) hX 6 (tgt := 26) rfl (by decide) (⟨by omega, by omega⟩) (fun h14 => ?_) (fun h14 => ?_) | refine r_if_ne_any (pc := 14) hX 6 (tgt := 26) rfl (by decide) ?_ ?_
  · have hn11 := (Hd.o hq11.2).resolve_right (fun z => absurd z.1 (by omega))
    have hnm := hR4.tk.nam hn11.2
    refine t_getR (q := (ρ t 1)) (pc := 26) hX 12 rfl rfl rfl fl_X5_18 rfl (hH4.kd ht (by decide)) (rfl) ?_
    have hw26_ : ω (ρ t 1) = 5 := hH.rf ht (by decide) rfl
    refine t_getR (q := (ρ t 0)) (pc := 30) hX 14 rfl rfl rfl fl_X5_9 rfl (hH4.kd ht (by decide)) (rfl) ?_
    refine e_getL (y := (v4 (ρ t 0) 8)) (pc := 34) hX 16 rfl fl_X5_91 rfl (hH4.kd hw0_ (by decide)) (rfl) ?_
    refine r_callV (as := [(1, (v4 (ρ t 0) 8))]) (st := []) (K := 4) (pc := 37) hX 17 rfl mo_X4_tells ml_X5_155 im_X4_tells se_X4_tells (c_X4_tellsF g ω v4 ρ Z hH4 (ρ t 1) hw26_ ((v4 (ρ t 0) 8)) (hR4.rc) (by rw [hnm.1]; exact hnm.2.1)) rfl rfl rfl (hH4.kd hw26_ (by decide)) (by rw [hRm]; exact ⟨by decide, by decide⟩) (by rw [hRm]; exact ⟨by decide, by decide⟩) (Nat.le_of_ble_eq_true rfl) (fun o37 v37 ρv37 Zv37 hq37 _ => ?_)
    obtain ⟨rfl, rfl, rfl, r37, rfl, hq37⟩ := hq37
    show wp g X F_X5_readNewName 0 0 40 [(2, t)] [(0, r37)] v4 ρ Z
    first | refine r_if_eq (pc := 40) hX 18 (tgt := 54) rfl (by decide) (⟨by omega, by omega⟩) (fun h40 => ?_) (fun h40 => ?_) | refine r_if_eq_any (pc := 40) hX 18 (tgt := 54) rfl (by decide) ?_ ?_
    · refine r_iconst (pc := 54) hX 24 rfl ?_
      refine r_goto (pc := 55) hX 25 (tgt := 59) rfl (by decide) ?_
      exact r_zret (pc := 59) hX 27 hQ rfl rfl ⟨by omega, by omega⟩ (Nat.le_of_ble_eq_true rfl) (Nat.le_of_ble_eq_true rfl) ⟨rfl, rfl, (FrW.rf).tr hfr4 (by decide), hH4, 1, rfl, (by omega), (by first | exact Or.inr ⟨rfl, Or.inr ⟨hn11.2, ht37.2, hq48.2.1.1⟩, hq48.2.1.2.trans hR4.tk.k5⟩ | (have ht37 := (Hd.o hq37.2).resolve_left (fun z => absurd z.1 (by omega)); rw [hnm.1] at ht37; exact Or.inl ⟨rfl, hn11.2, ht37.2, hR4⟩)), ((FrK.rf).tw hfr4 (by decide))⟩
    · have ht37 := (Hd.o hq37.2).resolve_right (fun z => absurd z.1 (by omega))
      rw [hnm.1] at ht37
      refine t_getR (q := (ρ t 0)) (pc := 43) hX 19 rfl rfl rfl fl_X5_9 rfl (hH4.kd ht (by decide)) (rfl) ?_
      refine r_iconst (pc := 47) hX 21 rfl ?_
      refine r_callV (as := [(0, 3)]) (st := []) (K := 8) (pc := 48) hX 22 rfl mo_X8_refuse ml_X5_67 im_X8_refuse se_X8_refuse (c_X8_refuseF g ω v4 ρ Z hH4 (ρ t 0) hw0_ (3) (by omega)) rfl rfl rfl (hH4.kd hw0_ (by decide)) (by rw [hRm]; exact ⟨by decide, by decide⟩) (by rw [hRm]; exact ⟨by decide, by decide⟩) (Nat.le_of_ble_eq_true rfl) (fun o48 v48 ρv48 Zv48 hq48 _ => ?_)
      obtain ⟨rfl, rfl, hfr48, hH48, r48, rfl, hq48⟩ := hq48
      show wp g X F_X5_readNewName 0 0 51 [(2, t)] [(0, r48)] v48 ρ Z
      first | refine r_if_eq (pc := 51) hX 23 (tgt := 58) rfl (by decide) (⟨by omega, by omega⟩) (fun h51 => ?_) (fun h51 => ?_) | refine r_if_eq_any (pc := 51) hX 23 (tgt := 58) rfl (by decide) ?_ ?_
      · refine r_iconst (pc := 58) hX 26 rfl ?_
        exact r_zret (pc := 59) hX 27 hQ rfl rfl ⟨by omega, by omega⟩ (Nat.le_of_ble_eq_true rfl) (Nat.le_of_ble_eq_true rfl) ⟨rfl, rfl, ((FrW.rf).tr hfr4 (by decide)).tr hfr48 (by decide), hH48, 0, rfl, (by omega), (by first | exact Or.inr ⟨rfl, Or.inr ⟨hn11.2, ht37.2, hq48.2.1.1⟩, hq48.2.1.2.trans hR4.tk.k5⟩ | (have ht37 := (Hd.o hq37.2).resolve_left (fun z => absurd z.1 (by omega)); rw [hnm.1] at ht37; exact Or.inl ⟨rfl, hn11.2, ht37.2, hR4⟩)), (((FrK.rf).tw hfr4 (by decide)).tw hfr48 (by decide))⟩
      · exact absurd h51 (by omega)
  · have hn11 := (Hd.o hq11.2).resolve_left (fun z => absurd z.1 (by omega))
    refine t_getR (q := (ρ t 0)) (pc := 17) hX 7 rfl rfl rfl fl_X5_9 rfl (hH4.kd ht (by decide)) (rfl) ?_
    refine r_iconst (pc := 21) hX 9 rfl ?_
    refine r_callV (as := [(0, 1)]) (st := []) (K := 8) (pc := 22) hX 10 rfl mo_X8_refuse ml_X5_67 im_X8_refuse se_X8_refuse (c_X8_refuseF g ω v4 ρ Z hH4 (ρ t 0) hw0_ (1) (by omega)) rfl rfl rfl (hH4.kd hw0_ (by decide)) (by rw [hRm]; exact ⟨by decide, by decide⟩) (by rw [hRm]; exact ⟨by decide, by decide⟩) (Nat.le_of_ble_eq_true rfl) (fun o22 v22 ρv22 Zv22 hq22 _ => ?_)
    obtain ⟨rfl, rfl, hfr22, hH22, r22, rfl, hq22⟩ := hq22
    show wp g X F_X5_readNewName 0 0 25 [(2, t)] [(0, r22)] v22 ρ Z
    exact r_zret (pc := 25) hX 11 hQ rfl rfl ⟨by omega, by omega⟩ (Nat.le_of_ble_eq_true rfl) (Nat.le_of_ble_eq_true rfl) ⟨rfl, rfl, ((FrW.rf).tr hfr4 (by decide)).tr hfr22 (by decide), hH22, r22, rfl, (by omega), (Or.inr ⟨hq22.1, Or.inl ⟨hn11.2, hq22.2.1.1⟩, hq22.2.1.2.trans hR4.tk.k5⟩), (((FrK.rf).tw hfr4 (by decide)).tw hfr22 (by decide))⟩
set_option maxHeartbeats 4000000 in
set_option maxRecDepth 100000 in
theorem c_X5_readNumberF (g : Gp) (ω : Rw) (v ρ : Mv) (Z : Mz) (hH : HT ω v ρ Z) {F : Int → Int} {n m i L : Int} {s : Rd} {B : Int} (t : Int) (ht : ω t = 4) (lo : Int) (hi : Int) (hR : RdC F n m v ρ t i L s) (hlor : inR lo) (hhir : inR hi) (hB : NbI ρ (ρ t 1) B) : Ok g 7 0 0 F_X5_readNumber [(2, t), (0, lo), (0, hi)] v ρ Z (fun o9 v' ρ' Z' => ρ = ρ' ∧ Z = Z' ∧ FrW ω [2] v v' ∧ HT ω v' ρ Z ∧ ∃ r : Int, o9 = some (0, r) ∧ (0 ≤ r ∧ r ≤ 1) ∧ (NuP F n m v' ρ t i L lo hi r s) ∧ (FrK ω B v v')) := by
  refine Ok.of mo_X5_readNumber (Nat.le_of_ble_eq_true rfl) ?_
  intro X hX hRm hxn hQ
  show wp g X F_X5_readNumber 0 0 0 [(2, t), (0, lo), (0, hi)] [] v ρ Z
  have hw := RtW.of hH ht
  have hw0 : ω (ρ t 0) = 2 := hH.rf ht (by decide) rfl
  have hwr : ω (ρ t 1) = 5 := hH.rf ht (by decide) rfl
  have hg8 : 0 ≤ v (ρ t 1) 8 ∧ v (ρ t 1) 8 ≤ 4 := hH.rg hwr (by decide) rfl
  have hg9 : 0 ≤ v (ρ t 1) 9 ∧ v (ρ t 1) 9 ≤ 3 := hH.rg hwr (by decide) rfl
  have hg10 : 0 ≤ v (ρ t 1) 10 ∧ v (ρ t 1) 10 ≤ 3 := hH.rg hwr (by decide) rfl
  have hk8 := hR.rc.k8
  have hk9 := hR.rc.k9
  have hk10 := hR.rc.k10
  have hbH : (0 ≤ s.H 0 ∧ s.H 0 ≤ 4) ∧ (0 ≤ s.H 1 ∧ s.H 1 ≤ 3) ∧ (0 ≤ s.H 2 ∧ s.H 2 ≤ 3) := by omega
  refine t_getR (q := (ρ t 0)) (pc := 0) hX 0 rfl rfl rfl fl_X5_9 rfl (hH.kd ht (by decide)) (rfl) ?_
  have hw0_ : ω (ρ t 0) = 2 := hH.rf ht (by decide) rfl
  refine r_callV (as := []) (st := []) (K := 8) (pc := 4) hX 2 rfl mo_X8_advance ml_X5_35 im_X8_advance se_X8_advance (c_X8_advanceT g ω v ρ Z hH (ρ t 0) hw0_ (hR.tk)) rfl rfl rfl (hH.kd hw0_ (by decide)) (by rw [hRm]; exact ⟨by decide, by decide⟩) (by rw [hRm]; exact ⟨by decide, by decide⟩) (Nat.le_of_ble_eq_true rfl) (fun o4 v4 ρv4 Zv4 hq4 _ => ?_)
  obtain ⟨rfl, rfl, hfr4, hH4, rfl, hq4⟩ := hq4
  show wp g X F_X5_readNumber 0 0 7 [(2, t), (0, lo), (0, hi)] [] v4 ρ Z
  have hR4 : RdC F n m v4 ρ t i L (nx F n m s) := hR.go hw hfr4 (by decide) hq4
  have hk4 := hR4.tk.k4
  refine t_getR (q := (ρ t 0)) (pc := 7) hX 3 rfl rfl rfl fl_X5_9 rfl (hH4.kd ht (by decide)) (rfl) ?_
  refine r_callV (as := []) (st := []) (K := 8) (pc := 11) hX 5 rfl mo_X8_isNumber ml_X5_159 im_X8_isNumber se_X8_isNumber (c_X8_isNumberF g ω v4 ρ Z hH4 (ρ t 0) hw0_ ) rfl rfl rfl (hH4.kd hw0_ (by decide)) (by rw [hRm]; exact ⟨by decide, by decide⟩) (by rw [hRm]; exact ⟨by decide, by decide⟩) (Nat.le_of_ble_eq_true rfl) (fun o11 v11 ρv11 Zv11 hq11 _ => ?_)
  obtain ⟨rfl, rfl, rfl, r11, rfl, hq11⟩ := hq11
  show wp g X F_X5_readNumber 0 0 14 [(2, t), (0, lo), (0, hi)] [(0, r11)] v4 ρ Z
  first | refine r_if_ne (pc := 14) hX 6 (tgt := 26) rfl (by decide) (⟨by omega, by omega⟩) (fun h14 => ?_) (fun h14 => ?_) | refine r_if_ne_any (pc := 14) hX 6 (tgt := 26) rfl (by decide) ?_ ?_
  · have hnu := hR4.tk.num (by omega)
    refine t_getR (q := (ρ t 0)) (pc := 26) hX 12 rfl rfl rfl fl_X5_9 rfl (hH4.kd ht (by decide)) (rfl) ?_
    refine e_getI (y := (v4 (ρ t 0) 6)) (pc := 30) hX 14 rfl fl_X5_103 rfl (hH4.kd hw0_ (by decide)) (rfl) ?_
    have hb30 : (-2147483648) ≤ (v4 (ρ t 0) 6) ∧ (v4 (ρ t 0) 6) ≤ 2147483647 := hH4.rg hw0_ (by decide) rfl
    refine r_iload_n (pc := 33) hX 15 rfl rfl ?_
    have L48 : (¬ (lo ≤ v4 (ρ t 0) 6 ∧ v4 (ρ t 0) 6 ≤ hi)) → wp g X F_X5_readNumber 0 0 48 [(2, t), (0, lo), (0, hi)] [] v4 ρ Z := by
      intro i48
      refine t_getR (q := (ρ t 0)) (pc := 48) hX 22 rfl rfl rfl fl_X5_9 rfl (hH4.kd ht (by decide)) (rfl) ?_
      refine r_iconst (pc := 52) hX 24 rfl ?_
      refine r_callV (as := [(0, 2)]) (st := []) (K := 8) (pc := 53) hX 25 rfl mo_X8_refuse ml_X5_67 im_X8_refuse se_X8_refuse (c_X8_refuseF g ω v4 ρ Z hH4 (ρ t 0) hw0_ (2) (by omega)) rfl rfl rfl (hH4.kd hw0_ (by decide)) (by rw [hRm]; exact ⟨by decide, by decide⟩) (by rw [hRm]; exact ⟨by decide, by decide⟩) (Nat.le_of_ble_eq_true rfl) (fun o53 v53 ρv53 Zv53 hq53 _ => ?_)
      obtain ⟨rfl, rfl, hfr53, hH53, r53, rfl, hq53⟩ := hq53
      show wp g X F_X5_readNumber 0 0 56 [(2, t), (0, lo), (0, hi)] [(0, r53)] v53 ρ Z
      first | refine r_if_eq (pc := 56) hX 26 (tgt := 63) rfl (by decide) (⟨by omega, by omega⟩) (fun h56 => ?_) (fun h56 => ?_) | refine r_if_eq_any (pc := 56) hX 26 (tgt := 63) rfl (by decide) ?_ ?_
      · refine r_iconst (pc := 63) hX 29 rfl ?_
        exact r_zret (pc := 64) hX 30 hQ rfl rfl ⟨by omega, by omega⟩ (Nat.le_of_ble_eq_true rfl) (Nat.le_of_ble_eq_true rfl) ⟨rfl, rfl, ((FrW.rf).tr hfr4 (by decide)).tr hfr53 (by decide), hH53, 0, rfl, (by omega), (by first | exact Or.inl ⟨rfl, ⟨by omega, by omega, by omega⟩, hR4⟩ | exact Or.inr ⟨rfl, Or.inr ⟨by omega, by omega, hq53.2.1.1⟩, hq53.2.1.2.trans hR4.tk.k5⟩), (((FrK.rf).tw hfr4 (by decide)).tw hfr53 (by decide))⟩
      · exact absurd h56 (by omega)
    first | refine r_icmp_lt (pc := 34) hX 16 (tgt := 48) rfl (by decide) (⟨by omega, by omega⟩) (⟨by omega, by omega⟩) (fun h34 => ?_) (fun h34 => ?_) | refine r_icmp_lt_any (pc := 34) hX 16 (tgt := 48) rfl (by decide) ?_ ?_
    · exact (L48  (by omega) )
    · refine t_getR (q := (ρ t 0)) (pc := 37) hX 17 rfl rfl rfl fl_X5_9 rfl (hH4.kd ht (by decide)) (rfl) ?_
      refine e_getI (y := (v4 (ρ t 0) 6)) (pc := 41) hX 19 rfl fl_X5_103 rfl (hH4.kd hw0_ (by decide)) (rfl) ?_
      refine r_iload_n (pc := 44) hX 20 rfl rfl ?_
      first | refine r_icmp_le (pc := 45) hX 21 (tgt := 59) rfl (by decide) (⟨by omega, by omega⟩) (⟨by omega, by omega⟩) (fun h45 => ?_) (fun h45 => ?_) | refine r_icmp_le_any (pc := 45) hX 21 (tgt := 59) rfl (by decide) ?_ ?_
      · refine r_iconst (pc := 59) hX 27 rfl ?_
        refine r_goto (pc := 60) hX 28 (tgt := 64) rfl (by decide) ?_
        exact r_zret (pc := 64) hX 30 hQ rfl rfl ⟨by omega, by omega⟩ (Nat.le_of_ble_eq_true rfl) (Nat.le_of_ble_eq_true rfl) ⟨rfl, rfl, (FrW.rf).tr hfr4 (by decide), hH4, 1, rfl, (by omega), (by first | exact Or.inl ⟨rfl, ⟨by omega, by omega, by omega⟩, hR4⟩ | exact Or.inr ⟨rfl, Or.inr ⟨by omega, by omega, hq53.2.1.1⟩, hq53.2.1.2.trans hR4.tk.k5⟩), ((FrK.rf).tw hfr4 (by decide))⟩
      · exact (L48  (by omega) )
  · refine t_getR (q := (ρ t 0)) (pc := 17) hX 7 rfl rfl rfl fl_X5_9 rfl (hH4.kd ht (by decide)) (rfl) ?_
    refine r_iconst (pc := 21) hX 9 rfl ?_
    refine r_callV (as := [(0, 1)]) (st := []) (K := 8) (pc := 22) hX 10 rfl mo_X8_refuse ml_X5_67 im_X8_refuse se_X8_refuse (c_X8_refuseF g ω v4 ρ Z hH4 (ρ t 0) hw0_ (1) (by omega)) rfl rfl rfl (hH4.kd hw0_ (by decide)) (by rw [hRm]; exact ⟨by decide, by decide⟩) (by rw [hRm]; exact ⟨by decide, by decide⟩) (Nat.le_of_ble_eq_true rfl) (fun o22 v22 ρv22 Zv22 hq22 _ => ?_)
    obtain ⟨rfl, rfl, hfr22, hH22, r22, rfl, hq22⟩ := hq22
    show wp g X F_X5_readNumber 0 0 25 [(2, t), (0, lo), (0, hi)] [(0, r22)] v22 ρ Z
    exact r_zret (pc := 25) hX 11 hQ rfl rfl ⟨by omega, by omega⟩ (Nat.le_of_ble_eq_true rfl) (Nat.le_of_ble_eq_true rfl) ⟨rfl, rfl, ((FrW.rf).tr hfr4 (by decide)).tr hfr22 (by decide), hH22, r22, rfl, (by omega), (Or.inr ⟨hq22.1, Or.inl ⟨by omega, hq22.2.1.1⟩, hq22.2.1.2.trans hR4.tk.k5⟩), (((FrK.rf).tw hfr4 (by decide)).tw hfr22 (by decide))⟩
