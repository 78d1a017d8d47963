set_option maxHeartbeats 4000000 in
set_option maxRecDepth 100000 in
theorem c_X11_logL (g : Gp) (ω : Rw) (v ρ : Mv) (Z : Mz) (hH : HT ω v ρ Z) {L q : Int} {s : Rd} (t : Int) (ht : ω t = 1) (a : Int) (hTr : TrI v ρ t) (har : inR a) (htl : ρ (ρ t 2) 0 = ρ t 0) (hR : RcI v ρ (ρ (ρ t 4) 0) L q s) : Ok g 10 0 0 F_X11_log [(2, t), (0, a)] v ρ Z (fun o9 v' ρ' Z' => Z = Z' ∧ FrW ω [2, 15, 16, 17, 18, 22, 23, 24, 25, 26, 27, 65, 66, 67, 68, 69, 70] v v' ∧ FrW ω [28, 66] ρ ρ' ∧ HT ω v' ρ' Z ∧ ∃ r : Int, o9 = some (0, r) ∧ ((0 ≤ a ∧ a ≤ 1 ∧ v' (ρ t 0) 1 = 0 ∨ (a < 0 ∨ 1 < a) ∧ v' (ρ t 0) 1 = v (ρ t 0) 1)) ∧ (TrP ρ v' ρ' t) ∧ (((a < 0 ∨ 1 < a) ∧ v' (ρ t 0) 9 = v (ρ t 0) 9 ∨ 0 ≤ a ∧ a ≤ 1 ∧ v' (ρ t 0) 9 = (lA (cb (v (ρ t 0) 1) (v (ρ (ρ t 0) 0))) (v (ρ t 0) 1) 400 (fun x => fnd s.N x 0 (s.H 0).toNat 0) (fun x => fnd s.N x 7 (s.H 2).toNat 0) 0 0).1))) := by
  refine Ok.of mo_X11_log (Nat.le_of_ble_eq_true rfl) ?_
  intro X hX hRm hxn hQ
  show wp g X F_X11_log 0 0 0 [(2, t), (0, a), (3, 0)] [] v ρ Z
  have hwT : ω (ρ t 4) = 22 := hH.rf ht (by decide) rfl
  have hwR : ω (ρ (ρ t 4) 0) = 5 := hH.rf hwT (by decide) rfl
  have hgR8 : 0 ≤ v (ρ (ρ t 4) 0) 8 ∧ v (ρ (ρ t 4) 0) 8 ≤ 4 := hH.rg hwR (by decide) rfl
  have hgR9 : 0 ≤ v (ρ (ρ t 4) 0) 9 ∧ v (ρ (ρ t 4) 0) 9 ≤ 3 := hH.rg hwR (by decide) rfl
  have hgR10 : 0 ≤ v (ρ (ρ t 4) 0) 10 ∧ v (ρ (ρ t 4) 0) 10 ≤ 3 := hH.rg hwR (by decide) rfl
  have hwX : ω (ρ t 0) = 2 := hH.rf ht (by decide) rfl
  have hgL : 0 ≤ v (ρ t 0) 1 ∧ v (ρ t 0) 1 ≤ 940 := hH.rg hwX (by decide) rfl
  have hw := TrW.of hH ht
  have h8 : 0 ≤ v (ρ t 6) 1 ∧ v (ρ t 6) 1 ≤ 8 := hH.rg hw.2.2.2.1 (by decide) rfl
  refine r_iload_n (pc := 0) hX 0 rfl rfl ?_
  have L13 : (a = 0 ∨ a = 1) → wp g X F_X11_log 0 0 13 [(2, t), (0, a), (3, 0)] [] v ρ Z := by
    intro i13
    refine t_getR (q := (ρ t 2)) (pc := 13) hX 7 rfl rfl rfl fl_X11_28 rfl (hH.kd ht (by decide)) (rfl) ?_
    have hw13_ : ω (ρ t 2) = 15 := hH.rf ht (by decide) rfl
    refine t_getR (q := (ρ t 4)) (pc := 17) hX 9 rfl rfl rfl fl_X11_47 rfl (hH.kd ht (by decide)) (rfl) ?_
    have hw17_ : ω (ρ t 4) = 22 := hH.rf ht (by decide) rfl
    refine r_getR (q := (ρ (ρ t 4) 0)) (pc := 21) hX 11 rfl fl_X11_51 rfl (hH.kd hw17_ (by decide)) (rfl) ?_
    have hw21_ : ω (ρ (ρ t 4) 0) = 5 := hH.rf hw17_ (by decide) rfl
    refine r_callV (as := [(2, (ρ (ρ t 4) 0))]) (st := []) (K := 1) (pc := 24) hX 12 rfl mo_X1_read ml_X11_367 im_X1_read se_X1_read (c_X1_readL g ω v ρ Z hH (ρ t 2) hw13_ (ρ (ρ t 4) 0) hw21_ (hR)) rfl rfl rfl (hH.kd hw13_ (by decide)) (by rw [hRm]; exact ⟨by decide, by decide⟩) (by rw [hRm]; exact ⟨by decide, by decide⟩) (Nat.le_of_ble_eq_true rfl) (fun o24 v24 ρv24 Zv24 hq24 _ => ?_)
    obtain ⟨rfl, rfl, hfr24, hH24, r24, rfl, hq24⟩ := hq24
    have hw24_ : ω (ρ (ρ t 2) 0) = 2 := hH.rf hw13_ (by decide) rfl
    have hwf1_ : ω (ρ (ρ (ρ t 2) 0) 0) = 3 := hH.rf hw24_ (by decide) rfl
    show wp g X F_X11_log 0 0 27 [(2, t), (0, a), (3, 0)] [(0, r24)] v24 ρ Z
    have hlg24 := hq24.2.1
    have hD24 := (hq24.2.2.2).f
    rw [htl] at hD24
    refine r_istore_n (ls' := [(2, t), (0, a), (0, r24)]) (pc := 27) hX 13 rfl (by decide) rfl ?_
    refine t_getR (q := (ρ t 0)) (pc := 28) hX 14 rfl rfl rfl fl_X11_12 rfl (hH24.kd ht (by decide)) (rfl) ?_
    have hw28_ : ω (ρ t 0) = 2 := hH.rf ht (by decide) rfl
    refine r_iconst (pc := 32) hX 16 rfl ?_
    refine r_putI (pc := 33) hX 17 rfl fl_X11_123 rfl (fun _ h => by cases h; rfl) (hH24.kd hw28_ (by decide)) (hH24.g4 hw28_ (by decide)) ?_
    have hH_33 : HT ω (up v24 (ρ t 0) 1 0) ρ Z := hH24.upR hw28_ (by decide) rfl (by omega) (by omega)
    show wp g X F_X11_log 0 0 36 [(2, t), (0, a), (0, r24)] [] (up v24 (ρ t 0) 1 0) ρ Z
    refine r_iload_n (pc := 36) hX 18 rfl rfl ?_
    first | refine r_if_ne (pc := 37) hX 19 (tgt := 51) rfl (by decide) (⟨by omega, by omega⟩) (fun h37 => ?_) (fun h37 => ?_) | refine r_if_ne_any (pc := 37) hX 19 (tgt := 51) rfl (by decide) ?_ ?_
    · refine r_iload_n (pc := 51) hX 26 rfl rfl ?_
      first | refine r_if_ne (pc := 52) hX 27 (tgt := 75) rfl (by decide) (⟨by omega, by omega⟩) (fun h52 => ?_) (fun h52 => ?_) | refine r_if_ne_any (pc := 52) hX 27 (tgt := 75) rfl (by decide) ?_ ?_
      · refine t_getR (q := (ρ t 6)) (pc := 75) hX 38 rfl rfl rfl fl_X11_61 rfl (hH_33.kd ht (by decide)) (rfl) ?_
        have hw75_ : ω (ρ t 6) = 27 := hH.rf ht (by decide) rfl
        refine t_getR (q := (ρ t 4)) (pc := 79) hX 40 rfl rfl rfl fl_X11_47 rfl (hH_33.kd ht (by decide)) (rfl) ?_
        refine r_callV (as := [(2, (ρ t 4))]) (st := []) (K := 3) (pc := 83) hX 42 rfl mo_X3_keep ml_X11_218 im_X3_keep se_X3_keep (c_X3_keepF g ω (up v24 (ρ t 0) 1 0) ρ Z hH_33 (ρ t 6) hw75_ (ρ t 4) hw17_ (hTr.1.vv ((show (up v24 (ρ t 0) 1 0) (ρ t 6) 1 = (v (ρ t 6) 1) from (up_r (rne hw75_ hw28_ (by decide))).trans ((hfr24.at hw75_ (by decide) 1).trans (rfl)))))) rfl rfl rfl (hH_33.kd hw75_ (by decide)) (by rw [hRm]; exact ⟨by decide, by decide⟩) (by rw [hRm]; exact ⟨by decide, by decide⟩) (Nat.le_of_ble_eq_true rfl) (fun o83 v83 ρv83 Zv83 hq83 _ => ?_)
        obtain ⟨rfl, hfr83, hfrR83, hH83, rfl, hq83⟩ := hq83
        show wp g X F_X11_log 0 0 86 [(2, t), (0, a), (0, r24)] [] v83 ρv83 Z
        refine r_aload_n (pc := 86) hX 43 rfl rfl ?_
        refine t_getR (q := (ρ t 4)) (pc := 87) hX 44 rfl rfl rfl fl_X11_47 rfl (hH83.kd ht (by decide)) ((hfrR83.at ht (by decide) 4).trans (rfl)) ?_
        have hw91_ : ω (ρ (ρ t 2) 1) = 16 := hH.rf hw13_ (by decide) rfl
        have hwf2_ : ω (ρ (ρ t 2) 2) = 17 := hH.rf hw13_ (by decide) rfl
        refine r_callV (as := [(2, (ρ t 4))]) (st := []) (K := 11) (pc := 91) hX 46 rfl mo_X11_liveLog ml_X11_370 im_X11_liveLog se_X11_liveLog (c_X11_liveLog g ω v83 ρv83 Z hH83 t ht (ρ t 4) hw17_ (by rw [show (ρv83 t 2) = (ρ t 2) from (hfrR83.at ht (by decide) 2).trans (rfl)]; rw [show (v83 (ρ t 2) 4) = (v24 (ρ t 2) 4) from (hfr83.at hw13_ (by decide) 4).trans ((up_k (by decide)).trans (rfl))]; rw [show (ρv83 (ρ t 2) 1) = (ρ (ρ t 2) 1) from (hfrR83.at hw13_ (by decide) 1).trans (rfl)]; rw [show (v83 (ρ (ρ t 2) 1)) = (v24 (ρ (ρ t 2) 1)) from (hfr83.rw hw91_ (by decide)).trans ((up_f (rne hw91_ hw28_ (by decide))).trans (rfl))]; rw [show (ρv83 (ρ t 2) 2) = (ρ (ρ t 2) 2) from (hfrR83.at hw13_ (by decide) 2).trans (rfl)]; rw [show (v83 (ρ (ρ t 2) 2)) = (v24 (ρ (ρ t 2) 2)) from (hfr83.rw hwf2_ (by decide)).trans ((up_f (rne hwf2_ hw28_ (by decide))).trans (rfl))]; exact (hlg24 (by omega)))) rfl rfl rfl (hH83.kd ht (by decide)) (by rw [hRm]; exact ⟨by decide, by decide⟩) (by rw [hRm]; exact ⟨by decide, by decide⟩) (Nat.le_of_ble_eq_true rfl) (fun o91 v91 ρv91 Zv91 hq91 _ => ?_)
        obtain ⟨rfl, rfl, hfr91, hH91, r91, rfl, hq91⟩ := hq91
        show wp g X F_X11_log 0 0 94 [(2, t), (0, a), (0, r24)] [(0, r91)] v91 ρv83 Z
        exact r_iret (pc := 94) hX 47 hQ rfl rfl (Nat.le_of_ble_eq_true rfl) (Nat.le_of_ble_eq_true rfl) ⟨rfl, ((((FrW.rf).tr hfr24 (by decide)).up (r := (ρ t 0)) hw28_ (by decide)).tr hfr83 (by decide)).tr hfr91 (by decide), (FrW.rf).tr hfrR83 (by decide), hH91, r91, rfl, (Or.inl ⟨by omega, by omega, (show v91 (ρ t 0) 1 = 0 from (hfr91.at hw28_ (by decide) 1).trans ((hfr83.at hw28_ (by decide) 1).trans (up_s _ _ _ _)))⟩), (TrP.keep hTr hw hq83 (hfr91.at hw.2.2.2.1 (by decide) 1)), (Or.inr ⟨by omega, by omega, ((show v91 (ρ t 0) 9 = (v24 (ρ t 0) 9) from (hfr91.at hw28_ (by decide) 9).trans ((hfr83.at hw28_ (by decide) 9).trans ((up_k (by decide)).trans (rfl))))).trans hD24⟩)⟩
      · refine t_getR (q := (ρ t 5)) (pc := 55) hX 28 rfl rfl rfl fl_X11_55 rfl (hH_33.kd ht (by decide)) (rfl) ?_
        have hw55_ : ω (ρ t 5) = 66 := hH.rf ht (by decide) rfl
        refine t_getR (q := (ρ t 4)) (pc := 59) hX 30 rfl rfl rfl fl_X11_47 rfl (hH_33.kd ht (by decide)) (rfl) ?_
        refine r_callV (as := [(2, (ρ t 4))]) (st := []) (K := 9) (pc := 63) hX 32 rfl mo_X9_copyFrom ml_X11_364 im_X9_copyFrom se_X9_copyFrom (c_X9_copyFromFB g ω (up v24 (ρ t 0) 1 0) ρ Z hH_33 (ρ t 5) hw55_ (ρ t 4) hw17_ ) rfl rfl rfl (hH_33.kd hw55_ (by decide)) (by rw [hRm]; exact ⟨by decide, by decide⟩) (by rw [hRm]; exact ⟨by decide, by decide⟩) (Nat.le_of_ble_eq_true rfl) (fun o63 v63 ρv63 Zv63 hq63 _ => ?_)
        obtain ⟨rfl, hfr63, hfrR63, hH63, rfl, hq63⟩ := hq63
        show wp g X F_X11_log 0 0 66 [(2, t), (0, a), (0, r24)] [] v63 ρv63 Z
        refine r_aload_n (pc := 66) hX 33 rfl rfl ?_
        refine t_getR (q := (ρ t 5)) (pc := 67) hX 34 rfl rfl rfl fl_X11_55 rfl (hH63.kd ht (by decide)) ((hfrR63.at ht (by decide) 5).trans (rfl)) ?_
        have hw71_ : ω (ρ (ρ t 2) 1) = 16 := hH.rf hw13_ (by decide) rfl
        have hwf3_ : ω (ρ (ρ t 2) 2) = 17 := hH.rf hw13_ (by decide) rfl
        refine r_callV (as := [(2, (ρ t 5))]) (st := []) (K := 11) (pc := 71) hX 36 rfl mo_X11_liveLog ml_X11_370 im_X11_liveLog se_X11_liveLog (c_X11_liveLogB g ω v63 ρv63 Z hH63 t ht (ρ t 5) hw55_ (by rw [show (ρv63 t 2) = (ρ t 2) from (hfrR63.at ht (by decide) 2).trans (rfl)]; rw [show (v63 (ρ t 2) 4) = (v24 (ρ t 2) 4) from (hfr63.at hw13_ (by decide) 4).trans ((up_k (by decide)).trans (rfl))]; rw [show (ρv63 (ρ t 2) 1) = (ρ (ρ t 2) 1) from (hfrR63.at hw13_ (by decide) 1).trans (rfl)]; rw [show (v63 (ρ (ρ t 2) 1)) = (v24 (ρ (ρ t 2) 1)) from (hfr63.rw hw71_ (by decide)).trans ((up_f (rne hw71_ hw28_ (by decide))).trans (rfl))]; rw [show (ρv63 (ρ t 2) 2) = (ρ (ρ t 2) 2) from (hfrR63.at hw13_ (by decide) 2).trans (rfl)]; rw [show (v63 (ρ (ρ t 2) 2)) = (v24 (ρ (ρ t 2) 2)) from (hfr63.rw hwf3_ (by decide)).trans ((up_f (rne hwf3_ hw28_ (by decide))).trans (rfl))]; exact (hlg24 (by omega)))) rfl rfl rfl (hH63.kd ht (by decide)) (by rw [hRm]; exact ⟨by decide, by decide⟩) (by rw [hRm]; exact ⟨by decide, by decide⟩) (Nat.le_of_ble_eq_true rfl) (fun o71 v71 ρv71 Zv71 hq71 _ => ?_)
        obtain ⟨rfl, rfl, hfr71, hH71, r71, rfl, hq71⟩ := hq71
        show wp g X F_X11_log 0 0 74 [(2, t), (0, a), (0, r24)] [(0, r71)] v71 ρv63 Z
        exact r_iret (pc := 74) hX 37 hQ rfl rfl (Nat.le_of_ble_eq_true rfl) (Nat.le_of_ble_eq_true rfl) ⟨rfl, ((((FrW.rf).tr hfr24 (by decide)).up (r := (ρ t 0)) hw28_ (by decide)).tr hfr63 (by decide)).tr hfr71 (by decide), (FrW.rf).tr hfrR63 (by decide), hH71, r71, rfl, (Or.inl ⟨by omega, by omega, (show v71 (ρ t 0) 1 = 0 from (hfr71.at hw28_ (by decide) 1).trans ((hfr63.at hw28_ (by decide) 1).trans (up_s _ _ _ _)))⟩), (TrP.spare hTr hw h8.2 hq63.2 (Or.inr hq63.1) ((show v71 (ρ t 6) 1 = (v (ρ t 6) 1) from (hfr71.at (hH.rf ht (by decide) (show rfO 1 6 = some 27 from rfl)) (by decide) 1).trans ((hfr63.at (hH.rf ht (by decide) (show rfO 1 6 = some 27 from rfl)) (by decide) 1).trans ((up_r (rne (hH.rf ht (by decide) (show rfO 1 6 = some 27 from rfl)) hw28_ (by decide))).trans ((hfr24.at (hH.rf ht (by decide) (show rfO 1 6 = some 27 from rfl)) (by decide) 1).trans (rfl))))))), (Or.inr ⟨by omega, by omega, ((show v71 (ρ t 0) 9 = (v24 (ρ t 0) 9) from (hfr71.at hw28_ (by decide) 9).trans ((hfr63.at hw28_ (by decide) 9).trans ((up_k (by decide)).trans (rfl))))).trans hD24⟩)⟩
    · refine r_bipush (pc := 40) hX 20 rfl (by decide) ?_
      refine t_getR (q := (ρ t 0)) (pc := 42) hX 21 rfl rfl rfl fl_X11_12 rfl (hH_33.kd ht (by decide)) (rfl) ?_
      refine e_getI (y := (v24 (ρ t 0) 10)) (pc := 46) hX 23 rfl fl_X11_131 rfl (hH_33.kd hw28_ (by decide)) ((up_k (by decide)).trans (rfl)) ?_
      have hb46 : 0 ≤ (v24 (ρ t 0) 10) ∧ (v24 (ρ t 0) 10) ≤ 1000 := hH24.rg hw28_ (by decide) rfl
      refine r_isub (pc := 49) hX 24 rfl ?_
      exact r_iret (pc := 50) hX 25 hQ rfl rfl (Nat.le_of_ble_eq_true rfl) (Nat.le_of_ble_eq_true rfl) ⟨rfl, ((FrW.rf).tr hfr24 (by decide)).up (r := (ρ t 0)) hw28_ (by decide), FrW.rf, hH_33, ((-2) - (v24 (ρ t 0) 10)), rfl, (Or.inl ⟨by omega, by omega, (show (up v24 (ρ t 0) 1 0) (ρ t 0) 1 = 0 from up_s _ _ _ _)⟩), (TrP.spare hTr hw h8.2 (fun _ _ => rfl) (Or.inl rfl) ((show (up v24 (ρ t 0) 1 0) (ρ t 6) 1 = (v (ρ t 6) 1) from (up_r (rne (hH.rf ht (by decide) (show rfO 1 6 = some 27 from rfl)) hw28_ (by decide))).trans ((hfr24.at (hH.rf ht (by decide) (show rfO 1 6 = some 27 from rfl)) (by decide) 1).trans (rfl))))), (Or.inr ⟨by omega, by omega, ((show (up v24 (ρ t 0) 1 0) (ρ t 0) 9 = (v24 (ρ t 0) 9) from (up_k (by decide)).trans (rfl))).trans hD24⟩)⟩
  first | refine r_if_eq (pc := 1) hX 1 (tgt := 13) rfl (by decide) (⟨by omega, by omega⟩) (fun h1 => ?_) (fun h1 => ?_) | refine r_if_eq_any (pc := 1) hX 1 (tgt := 13) rfl (by decide) ?_ ?_
  · exact (L13  (by omega) )
  · refine r_iload_n (pc := 4) hX 2 rfl rfl ?_
    refine r_iconst (pc := 5) hX 3 rfl ?_
    first | refine r_icmp_eq (pc := 6) hX 4 (tgt := 13) rfl (by decide) (⟨by omega, by omega⟩) (⟨by omega, by omega⟩) (fun h6 => ?_) (fun h6 => ?_) | refine r_icmp_eq_any (pc := 6) hX 4 (tgt := 13) rfl (by decide) ?_ ?_
    · exact (L13  (by omega) )
    · refine r_sipush (pc := 9) hX 5 rfl (by decide) ?_
      exact r_iret (pc := 12) hX 6 hQ rfl rfl (Nat.le_of_ble_eq_true rfl) (Nat.le_of_ble_eq_true rfl) ⟨rfl, FrW.rf, FrW.rf, hH, (-1000), rfl, (Or.inr ⟨by omega, rfl⟩), (TrP.rf hTr), (Or.inl ⟨by omega, rfl⟩)⟩
set_option maxHeartbeats 4000000 in
set_option maxRecDepth 100000 in
theorem c_X11_feedL (g : Gp) (ω : Rw) (v ρ : Mv) (Z : Mz) (hH : HT ω v ρ Z) (t : Int) (ht : ω t = 1) (a : Int) (b : Int) (c : Int) (d : Int) (e : Int)  : Ok g 2 0 0 F_X11_feed [(2, t), (0, a), (0, b), (0, c), (0, d), (0, e)] v ρ Z (fun o9 v' ρ' Z' => ρ = ρ' ∧ Z = Z' ∧ FrW ω [2, 3] v v' ∧ HT ω v' ρ Z ∧ ∃ r : Int, o9 = some (0, r) ∧ ((v (ρ t 0) 1 ≤ 920 ∧ r = v (ρ t 0) 1 + 20 ∧ v' (ρ t 0) 1 = v (ρ t 0) 1 + 20 ∨ 920 < v (ρ t 0) 1 ∧ r = -1 ∧ v' (ρ t 0) 1 = v (ρ t 0) 1)) ∧ ((r = -1 ∧ v' (ρ (ρ t 0) 0) = v (ρ (ρ t 0) 0) ∨ r = v (ρ t 0) 1 + 20 ∧ v' (ρ (ρ t 0) 0) = ap5 (v (ρ (ρ t 0) 0)) (v (ρ t 0) 1) a b c d e)) ∧ (v' (ρ t 0) 9 = v (ρ t 0) 9)) := by
  refine Ok.of mo_X11_feed (Nat.le_of_ble_eq_true rfl) ?_
  intro X hX hRm hxn hQ
  show wp g X F_X11_feed 0 0 0 [(2, t), (0, a), (0, b), (0, c), (0, d), (0, e)] [] v ρ Z
  have hwT : ω (ρ t 4) = 22 := hH.rf ht (by decide) rfl
  have hwR : ω (ρ (ρ t 4) 0) = 5 := hH.rf hwT (by decide) rfl
  have hgR8 : 0 ≤ v (ρ (ρ t 4) 0) 8 ∧ v (ρ (ρ t 4) 0) 8 ≤ 4 := hH.rg hwR (by decide) rfl
  have hgR9 : 0 ≤ v (ρ (ρ t 4) 0) 9 ∧ v (ρ (ρ t 4) 0) 9 ≤ 3 := hH.rg hwR (by decide) rfl
  have hgR10 : 0 ≤ v (ρ (ρ t 4) 0) 10 ∧ v (ρ (ρ t 4) 0) 10 ≤ 3 := hH.rg hwR (by decide) rfl
  have hwX : ω (ρ t 0) = 2 := hH.rf ht (by decide) rfl
  have hgL : 0 ≤ v (ρ t 0) 1 ∧ v (ρ t 0) 1 ≤ 940 := hH.rg hwX (by decide) rfl
  refine t_getR (q := (ρ t 0)) (pc := 0) hX 0 rfl rfl rfl fl_X11_12 rfl (hH.kd ht (by decide)) (rfl) ?_
  have hw0_ : ω (ρ t 0) = 2 := hH.rf ht (by decide) rfl
  refine r_bipush (pc := 4) hX 2 rfl (by decide) ?_
  refine r_callV (as := [(0, 20)]) (st := []) (K := 8) (pc := 6) hX 3 rfl mo_X8_hasRoom ml_X11_115 im_X8_hasRoom se_X8_hasRoom (c_X8_hasRoom g ω v ρ Z hH (ρ t 0) hw0_ (20) (by omega)) rfl rfl rfl (hH.kd hw0_ (by decide)) (by rw [hRm]; exact ⟨by decide, by decide⟩) (by rw [hRm]; exact ⟨by decide, by decide⟩) (Nat.le_of_ble_eq_true rfl) (fun o6 v6 ρv6 Zv6 hq6 _ => ?_)
  obtain ⟨rfl, rfl, rfl, r6, rfl, hq6⟩ := hq6
  show wp g X F_X11_feed 0 0 9 [(2, t), (0, a), (0, b), (0, c), (0, d), (0, e)] [(0, r6)] v ρ Z
  first | refine r_if_ne (pc := 9) hX 4 (tgt := 14) rfl (by decide) (⟨by omega, by omega⟩) (fun h9 => ?_) (fun h9 => ?_) | refine r_if_ne_any (pc := 9) hX 4 (tgt := 14) rfl (by decide) ?_ ?_
  · refine t_getR (q := (ρ t 0)) (pc := 14) hX 7 rfl rfl rfl fl_X11_12 rfl (hH.kd ht (by decide)) (rfl) ?_
    refine r_iload_n (pc := 18) hX 9 rfl rfl ?_
    refine r_callV (as := [(0, a)]) (st := []) (K := 8) (pc := 19) hX 10 rfl mo_X8_append ml_X11_119 im_X8_append se_X8_append (c_X8_appendF g ω v ρ Z hH (ρ t 0) hw0_ (a) (by omega)) rfl rfl rfl (hH.kd hw0_ (by decide)) (by rw [hRm]; exact ⟨by decide, by decide⟩) (by rw [hRm]; exact ⟨by decide, by decide⟩) (Nat.le_of_ble_eq_true rfl) (fun o19 v19 ρv19 Zv19 hq19 _ => ?_)
    obtain ⟨rfl, rfl, hfr19, hH19, rfl, hq19⟩ := hq19
    show wp g X F_X11_feed 0 0 22 [(2, t), (0, a), (0, b), (0, c), (0, d), (0, e)] [] v19 ρ Z
    refine t_getR (q := (ρ t 0)) (pc := 22) hX 11 rfl rfl rfl fl_X11_12 rfl (hH19.kd ht (by decide)) (rfl) ?_
    refine r_iload_n (pc := 26) hX 13 rfl rfl ?_
    refine r_callV (as := [(0, b)]) (st := []) (K := 8) (pc := 27) hX 14 rfl mo_X8_append ml_X11_119 im_X8_append se_X8_append (c_X8_appendF g ω v19 ρ Z hH19 (ρ t 0) hw0_ (b) (by omega)) rfl rfl rfl (hH19.kd hw0_ (by decide)) (by rw [hRm]; exact ⟨by decide, by decide⟩) (by rw [hRm]; exact ⟨by decide, by decide⟩) (Nat.le_of_ble_eq_true rfl) (fun o27 v27 ρv27 Zv27 hq27 _ => ?_)
    obtain ⟨rfl, rfl, hfr27, hH27, rfl, hq27⟩ := hq27
    show wp g X F_X11_feed 0 0 30 [(2, t), (0, a), (0, b), (0, c), (0, d), (0, e)] [] v27 ρ Z
    refine t_getR (q := (ρ t 0)) (pc := 30) hX 15 rfl rfl rfl fl_X11_12 rfl (hH27.kd ht (by decide)) (rfl) ?_
    refine r_iload_n (pc := 34) hX 17 rfl rfl ?_
    refine r_callV (as := [(0, c)]) (st := []) (K := 8) (pc := 35) hX 18 rfl mo_X8_append ml_X11_119 im_X8_append se_X8_append (c_X8_appendF g ω v27 ρ Z hH27 (ρ t 0) hw0_ (c) (by omega)) rfl rfl rfl (hH27.kd hw0_ (by decide)) (by rw [hRm]; exact ⟨by decide, by decide⟩) (by rw [hRm]; exact ⟨by decide, by decide⟩) (Nat.le_of_ble_eq_true rfl) (fun o35 v35 ρv35 Zv35 hq35 _ => ?_)
    obtain ⟨rfl, rfl, hfr35, hH35, rfl, hq35⟩ := hq35
    show wp g X F_X11_feed 0 0 38 [(2, t), (0, a), (0, b), (0, c), (0, d), (0, e)] [] v35 ρ Z
    refine t_getR (q := (ρ t 0)) (pc := 38) hX 19 rfl rfl rfl fl_X11_12 rfl (hH35.kd ht (by decide)) (rfl) ?_
    refine r_iload (pc := 42) hX 21 rfl rfl ?_
    refine r_callV (as := [(0, d)]) (st := []) (K := 8) (pc := 44) hX 22 rfl mo_X8_append ml_X11_119 im_X8_append se_X8_append (c_X8_appendF g ω v35 ρ Z hH35 (ρ t 0) hw0_ (d) (by omega)) rfl rfl rfl (hH35.kd hw0_ (by decide)) (by rw [hRm]; exact ⟨by decide, by decide⟩) (by rw [hRm]; exact ⟨by decide, by decide⟩) (Nat.le_of_ble_eq_true rfl) (fun o44 v44 ρv44 Zv44 hq44 _ => ?_)
    obtain ⟨rfl, rfl, hfr44, hH44, rfl, hq44⟩ := hq44
    show wp g X F_X11_feed 0 0 47 [(2, t), (0, a), (0, b), (0, c), (0, d), (0, e)] [] v44 ρ Z
    refine t_getR (q := (ρ t 0)) (pc := 47) hX 23 rfl rfl rfl fl_X11_12 rfl (hH44.kd ht (by decide)) (rfl) ?_
    refine r_iload (pc := 51) hX 25 rfl rfl ?_
    refine r_callV (as := [(0, e)]) (st := []) (K := 8) (pc := 53) hX 26 rfl mo_X8_append ml_X11_119 im_X8_append se_X8_append (c_X8_appendF g ω v44 ρ Z hH44 (ρ t 0) hw0_ (e) (by omega)) rfl rfl rfl (hH44.kd hw0_ (by decide)) (by rw [hRm]; exact ⟨by decide, by decide⟩) (by rw [hRm]; exact ⟨by decide, by decide⟩) (Nat.le_of_ble_eq_true rfl) (fun o53 v53 ρv53 Zv53 hq53 _ => ?_)
    obtain ⟨rfl, rfl, hfr53, hH53, rfl, hq53⟩ := hq53
    show wp g X F_X11_feed 0 0 56 [(2, t), (0, a), (0, b), (0, c), (0, d), (0, e)] [] v53 ρ Z
    refine t_getR (q := (ρ t 0)) (pc := 56) hX 27 rfl rfl rfl fl_X11_12 rfl (hH53.kd ht (by decide)) (rfl) ?_
    refine e_getI (y := (v53 (ρ t 0) 1)) (pc := 60) hX 29 rfl fl_X11_123 rfl (hH53.kd hw0_ (by decide)) (rfl) ?_
    have hb60 : 0 ≤ (v53 (ρ t 0) 1) ∧ (v53 (ρ t 0) 1) ≤ 940 := hH53.rg hw0_ (by decide) rfl
    exact r_iret (pc := 63) hX 30 hQ rfl rfl (Nat.le_of_ble_eq_true rfl) (Nat.le_of_ble_eq_true rfl) ⟨rfl, rfl, (((((FrW.rf).tr hfr19 (by decide)).tr hfr27 (by decide)).tr hfr35 (by decide)).tr hfr44 (by decide)).tr hfr53 (by decide), hH53, (v53 (ρ t 0) 1), rfl, (by omega), (by
        refine Or.inr ⟨by omega, ?_⟩
        have e2 : v19 (ρ t 0) 1 = v (ρ t 0) 1 + 4 := by omega
        have e3 : v27 (ρ t 0) 1 = v (ρ t 0) 1 + 8 := by omega
        have e4 : v35 (ρ t 0) 1 = v (ρ t 0) 1 + 12 := by omega
        have e5 : v44 (ρ t 0) 1 = v (ρ t 0) 1 + 16 := by omega
        rw [hq53.2.1, hq44.2.1, hq35.2.1, hq27.2.1, hq19.2.1, e2, e3, e4, e5]
        rfl), (by rw [hq53.2.2 9 (by decide), hq44.2.2 9 (by decide), hq35.2.2 9 (by decide), hq27.2.2 9 (by decide), hq19.2.2 9 (by decide)])⟩
  · refine r_iconst (pc := 12) hX 5 rfl ?_
    exact r_iret (pc := 13) hX 6 hQ rfl rfl (Nat.le_of_ble_eq_true rfl) (Nat.le_of_ble_eq_true rfl) ⟨rfl, rfl, FrW.rf, hH, (-1), rfl, (by omega), (Or.inl ⟨rfl, rfl⟩), (rfl)⟩
set_option maxHeartbeats 4000000 in
set_option maxRecDepth 100000 in
theorem c_X11_endL (g : Gp) (ω : Rw) (v ρ : Mv) (Z : Mz) (hH : HT ω v ρ Z) (t : Int) (ht : ω t = 1) (n : Int) (hnr : inR n) : Ok g 1 0 0 F_X11_end [(2, t), (0, n)] v ρ Z (fun o9 v' ρ' Z' => ρ = ρ' ∧ Z = Z' ∧ FrW ω [2] v v' ∧ HT ω v' ρ Z ∧ ∃ r : Int, o9 = some (0, r) ∧ ((r = 1 ∧ 0 ≤ n ∧ n ≤ v (ρ t 0) 1 ∧ v' (ρ t 0) 1 = n ∨ r = 0 ∧ (n < 0 ∨ v (ρ t 0) 1 < n) ∧ v' (ρ t 0) 1 = v (ρ t 0) 1)) ∧ (v' (ρ t 0) 9 = v (ρ t 0) 9)) := by
  refine Ok.of mo_X11_end (Nat.le_of_ble_eq_true rfl) ?_
  intro X hX hRm hxn hQ
  show wp g X F_X11_end 0 0 0 [(2, t), (0, n)] [] v ρ Z
  have hwT : ω (ρ t 4) = 22 := hH.rf ht (by decide) rfl
  have hwR : ω (ρ (ρ t 4) 0) = 5 := hH.rf hwT (by decide) rfl
  have hgR8 : 0 ≤ v (ρ (ρ t 4) 0) 8 ∧ v (ρ (ρ t 4) 0) 8 ≤ 4 := hH.rg hwR (by decide) rfl
  have hgR9 : 0 ≤ v (ρ (ρ t 4) 0) 9 ∧ v (ρ (ρ t 4) 0) 9 ≤ 3 := hH.rg hwR (by decide) rfl
  have hgR10 : 0 ≤ v (ρ (ρ t 4) 0) 10 ∧ v (ρ (ρ t 4) 0) 10 ≤ 3 := hH.rg hwR (by decide) rfl
  have hwX : ω (ρ t 0) = 2 := hH.rf ht (by decide) rfl
  have hgL : 0 ≤ v (ρ t 0) 1 ∧ v (ρ t 0) 1 ≤ 940 := hH.rg hwX (by decide) rfl
  refine r_iload_n (pc := 0) hX 0 rfl rfl ?_
  first | refine r_if_lt (pc := 1) hX 1 (tgt := 15) rfl (by decide) (⟨by omega, by omega⟩) (fun h1 => ?_) (fun h1 => ?_) | refine r_if_lt_any (pc := 1) hX 1 (tgt := 15) rfl (by decide) ?_ ?_
  · refine r_iconst (pc := 15) hX 7 rfl ?_
    exact r_zret (pc := 16) hX 8 hQ rfl rfl ⟨by omega, by omega⟩ (Nat.le_of_ble_eq_true rfl) (Nat.le_of_ble_eq_true rfl) ⟨rfl, rfl, FrW.rf, hH, 0, rfl, (by omega), (by first | rfl | exact (show v (ρ t 0) 9 = (v (ρ t 0) 9) from rfl))⟩
  · refine r_iload_n (pc := 4) hX 2 rfl rfl ?_
    refine t_getR (q := (ρ t 0)) (pc := 5) hX 3 rfl rfl rfl fl_X11_12 rfl (hH.kd ht (by decide)) (rfl) ?_
    have hw5_ : ω (ρ t 0) = 2 := hH.rf ht (by decide) rfl
    refine e_getI (y := (v (ρ t 0) 1)) (pc := 9) hX 5 rfl fl_X11_123 rfl (hH.kd hw5_ (by decide)) (rfl) ?_
    have hb9 : 0 ≤ (v (ρ t 0) 1) ∧ (v (ρ t 0) 1) ≤ 940 := hH.rg hw5_ (by decide) rfl
    first | refine r_icmp_le (pc := 12) hX 6 (tgt := 17) rfl (by decide) (⟨by omega, by omega⟩) (⟨by omega, by omega⟩) (fun h12 => ?_) (fun h12 => ?_) | refine r_icmp_le_any (pc := 12) hX 6 (tgt := 17) rfl (by decide) ?_ ?_
    · refine t_getR (q := (ρ t 0)) (pc := 17) hX 9 rfl rfl rfl fl_X11_12 rfl (hH.kd ht (by decide)) (rfl) ?_
      refine r_iload_n (pc := 21) hX 11 rfl rfl ?_
      refine r_putI (pc := 22) hX 12 rfl fl_X11_123 rfl (fun _ h => by cases h; rfl) (hH.kd hw5_ (by decide)) (hH.g4 hw5_ (by decide)) ?_
      have hH_22 : HT ω (up v (ρ t 0) 1 n) ρ Z := hH.upR hw5_ (by decide) rfl (by omega) (by omega)
      show wp g X F_X11_end 0 0 25 [(2, t), (0, n)] [] (up v (ρ t 0) 1 n) ρ Z
      refine r_iconst (pc := 25) hX 13 rfl ?_
      show wp g X F_X11_end 0 0 26 [(2, t), (0, n)] [(0, 1)] (up v (ρ t 0) 1 n) ρ Z
      exact r_zret (pc := 26) hX 14 hQ rfl rfl ⟨by omega, by omega⟩ (Nat.le_of_ble_eq_true rfl) (Nat.le_of_ble_eq_true rfl) ⟨rfl, rfl, (FrW.rf).up (r := (ρ t 0)) hw5_ (by decide), hH_22, 1, rfl, (Or.inl ⟨rfl, by omega, by omega, by rw [(show (up v (ρ t 0) 1 n) (ρ t 0) 1 = n from up_s _ _ _ _)]⟩), ((show (up v (ρ t 0) 1 n) (ρ t 0) 9 = (v (ρ t 0) 9) from (up_k (by decide)).trans (rfl)))⟩
    · refine r_iconst (pc := 15) hX 7 rfl ?_
      exact r_zret (pc := 16) hX 8 hQ rfl rfl ⟨by omega, by omega⟩ (Nat.le_of_ble_eq_true rfl) (Nat.le_of_ble_eq_true rfl) ⟨rfl, rfl, FrW.rf, hH, 0, rfl, (by omega), (by first | rfl | exact (show v (ρ t 0) 9 = (v (ρ t 0) 9) from rfl))⟩
set_option maxHeartbeats 4000000 in
set_option maxRecDepth 100000 in
theorem c_X11_scoresL (g : Gp) (ω : Rw) (v ρ : Mv) (Z : Mz) (hH : HT ω v ρ Z) (t : Int) (ht : ω t = 1)  : Ok g 5 0 0 F_X11_scores [(2, t)] v ρ Z (fun o9 v' ρ' Z' => ρ = ρ' ∧ Z = Z' ∧ FrW ω [2, 63, 64] v v' ∧ HT ω v' ρ Z ∧ ∃ r : Int, o9 = some (0, r) ∧ (v' (ρ t 0) 1 = 0) ∧ (v' (ρ t 0) 9 = v (ρ t 0) 9)) := by
  refine Ok.of mo_X11_scores (Nat.le_of_ble_eq_true rfl) ?_
  intro X hX hRm hxn hQ
  show wp g X F_X11_scores 0 0 0 [(2, t), (3, 0), (3, 0), (3, 0)] [] v ρ Z
  have hwT : ω (ρ t 4) = 22 := hH.rf ht (by decide) rfl
  have hwR : ω (ρ (ρ t 4) 0) = 5 := hH.rf hwT (by decide) rfl
  have hgR8 : 0 ≤ v (ρ (ρ t 4) 0) 8 ∧ v (ρ (ρ t 4) 0) 8 ≤ 4 := hH.rg hwR (by decide) rfl
  have hgR9 : 0 ≤ v (ρ (ρ t 4) 0) 9 ∧ v (ρ (ρ t 4) 0) 9 ≤ 3 := hH.rg hwR (by decide) rfl
  have hgR10 : 0 ≤ v (ρ (ρ t 4) 0) 10 ∧ v (ρ (ρ t 4) 0) 10 ≤ 3 := hH.rg hwR (by decide) rfl
  have hwX : ω (ρ t 0) = 2 := hH.rf ht (by decide) rfl
  have hgL : 0 ≤ v (ρ t 0) 1 ∧ v (ρ t 0) 1 ≤ 940 := hH.rg hwX (by decide) rfl
  refine t_getR (q := (ρ t 4)) (pc := 0) hX 0 rfl rfl rfl fl_X11_47 rfl (hH.kd ht (by decide)) (rfl) ?_
  have hw0_ : ω (ρ t 4) = 22 := hH.rf ht (by decide) rfl
  refine r_getR (q := (ρ (ρ t 4) 0)) (pc := 4) hX 2 rfl fl_X11_51 rfl (hH.kd hw0_ (by decide)) (rfl) ?_
  have hw4_ : ω (ρ (ρ t 4) 0) = 5 := hH.rf hw0_ (by decide) rfl
  refine e_getI (y := (v (ρ (ρ t 4) 0) 10)) (pc := 7) hX 3 rfl fl_X11_284 rfl (hH.kd hw4_ (by decide)) (rfl) ?_
  have hb7 : 0 ≤ (v (ρ (ρ t 4) 0) 10) ∧ (v (ρ (ρ t 4) 0) 10) ≤ 3 := hH.rg hw4_ (by decide) rfl
  refine r_istore_n (ls' := [(2, t), (0, (v (ρ (ρ t 4) 0) 10)), (3, 0), (3, 0)]) (pc := 10) hX 4 rfl (by decide) rfl ?_
  refine r_iload_n (pc := 11) hX 5 rfl rfl ?_
  have L31 : ∀ (k : Int) , (0 ≤ k ∧ k ≤ 1) → wp g X F_X11_scores 0 0 31 [(2, t), (0, (v (ρ (ρ t 4) 0) 10)), (3, 0), (3, 0)] [(0, k)] v ρ Z := by
    intro k ik
    refine r_istore_n (ls' := [(2, t), (0, (v (ρ (ρ t 4) 0) 10)), (0, k), (3, 0)]) (pc := 31) hX 15 rfl (by decide) rfl ?_
    refine r_iconst (pc := 32) hX 16 rfl ?_
    refine r_istore_n (ls' := [(2, t), (0, (v (ρ (ρ t 4) 0) 10)), (0, k), (0, 0)]) (pc := 33) hX 17 rfl (by decide) rfl ?_
    have L34 : ∀ (n34 : Nat) (p : Int) (v34 : Mv) , (FrW ω [2, 63, 64] v v34) → (HT ω v34 ρ Z) → (0 ≤ p ∧ p ≤ 3) → (v34 (ρ t 0) 9 = v (ρ t 0) 9) → (3 - p).toNat < n34 → wp g X F_X11_scores 0 0 34 [(2, t), (0, (v (ρ (ρ t 4) 0) 10)), (0, k), (0, p)] [] v34 ρ Z := by
      intro n34
      induction n34 with
      | zero => intro p v34 hfr34 hH34 ip i9 hme34; exact absurd hme34 (Nat.not_lt_zero _)
      | succ n34 ih34 =>
        intro p v34 hfr34 hH34 ip i9 hme34
        refine r_iload_n (pc := 34) hX 18 rfl rfl ?_
        refine r_iconst (pc := 35) hX 19 rfl ?_
        first | refine r_icmp_ge (pc := 36) hX 20 (tgt := 59) rfl (by decide) (⟨by omega, by omega⟩) (⟨by omega, by omega⟩) (fun h36 => ?_) (fun h36 => ?_) | refine r_icmp_ge_any (pc := 36) hX 20 (tgt := 59) rfl (by decide) ?_ ?_
        · refine t_getR (q := (ρ t 0)) (pc := 59) hX 31 rfl rfl rfl fl_X11_12 rfl (hH34.kd ht (by decide)) (rfl) ?_
          have hw59_ : ω (ρ t 0) = 2 := hH.rf ht (by decide) rfl
          refine r_iconst (pc := 63) hX 33 rfl ?_
          refine r_putI (pc := 64) hX 34 rfl fl_X11_123 rfl (fun _ h => by cases h; rfl) (hH34.kd hw59_ (by decide)) (hH34.g4 hw59_ (by decide)) ?_
          have hH_64 : HT ω (up v34 (ρ t 0) 1 0) ρ Z := hH34.upR hw59_ (by decide) rfl (by omega) (by omega)
          show wp g X F_X11_scores 0 0 67 [(2, t), (0, (v (ρ (ρ t 4) 0) 10)), (0, k), (0, p)] [] (up v34 (ρ t 0) 1 0) ρ Z
          refine r_iload_n (pc := 67) hX 35 rfl rfl ?_
          first | refine r_if_eq (pc := 68) hX 36 (tgt := 78) rfl (by decide) (⟨by omega, by omega⟩) (fun h68 => ?_) (fun h68 => ?_) | refine r_if_eq_any (pc := 68) hX 36 (tgt := 78) rfl (by decide) ?_ ?_
          · refine r_iconst (pc := 78) hX 40 rfl ?_
            exact r_iret (pc := 79) hX 41 hQ rfl rfl (Nat.le_of_ble_eq_true rfl) (Nat.le_of_ble_eq_true rfl) ⟨rfl, rfl, (hfr34).up (r := (ρ t 0)) hw59_ (by decide), hH_64, (-1), rfl, ((up_s _ _ _ _).trans (by omega)), (((show (up v34 (ρ t 0) 1 0) (ρ t 0) 9 = (v34 (ρ t 0) 9) from (up_k (by decide)).trans (rfl))).trans i9)⟩
          · refine r_aload_n (pc := 71) hX 37 rfl rfl ?_
            refine r_callV (as := []) (st := []) (K := 11) (pc := 72) hX 38 rfl mo_X11_countWays ml_X11_344 im_X11_countWays se_X11_countWays (c_X11_countWays g ω (up v34 (ρ t 0) 1 0) ρ Z hH_64 t ht ) rfl rfl rfl (hH_64.kd ht (by decide)) (by rw [hRm]; exact ⟨by decide, by decide⟩) (by rw [hRm]; exact ⟨by decide, by decide⟩) (Nat.le_of_ble_eq_true rfl) (fun o72 v72 ρv72 Zv72 hq72 _ => ?_)
            obtain ⟨rfl, rfl, hfr72, hH72, r72, rfl, hq72⟩ := hq72
            show wp g X F_X11_scores 0 0 75 [(2, t), (0, (v (ρ (ρ t 4) 0) 10)), (0, k), (0, p)] [(0, r72)] v72 ρ Z
            refine r_goto (pc := 75) hX 39 (tgt := 79) rfl (by decide) ?_
            exact r_iret (pc := 79) hX 41 hQ rfl rfl (Nat.le_of_ble_eq_true rfl) (Nat.le_of_ble_eq_true rfl) ⟨rfl, rfl, ((hfr34).up (r := (ρ t 0)) hw59_ (by decide)).tr hfr72 (by decide), hH72, r72, rfl, (((hfr72.at hw59_ (by decide) 1).trans (up_s _ _ _ _)).trans (by omega)), (((show v72 (ρ t 0) 9 = (v34 (ρ t 0) 9) from (hfr72.at hw59_ (by decide) 9).trans ((up_k (by decide)).trans (rfl)))).trans i9)⟩
        · refine t_getR (q := (ρ t 15)) (pc := 39) hX 21 rfl rfl rfl fl_X11_109 rfl (hH34.kd ht (by decide)) (rfl) ?_
          have hw39_ : ω (ρ t 15) = 64 := hH.rf ht (by decide) rfl
          refine r_iload_n (pc := 43) hX 23 rfl rfl ?_
          refine t_getR (q := (ρ t 0)) (pc := 44) hX 24 rfl rfl rfl fl_X11_12 rfl (hH34.kd ht (by decide)) (rfl) ?_
          have hw44_ : ω (ρ t 0) = 2 := hH.rf ht (by decide) rfl
          refine r_iload_n (pc := 48) hX 26 rfl rfl ?_
          refine r_callV (as := [(0, p)]) (st := [(0, p), (2, (ρ t 15))]) (K := 8) (pc := 49) hX 27 rfl mo_X8_byteAt ml_X11_341 im_X8_byteAt se_X8_byteAt (c_X8_byteAtF g ω v34 ρ Z hH34 (ρ t 0) hw44_ (p) (by omega)) rfl rfl rfl (hH34.kd hw44_ (by decide)) (by rw [hRm]; exact ⟨by decide, by decide⟩) (by rw [hRm]; exact ⟨by decide, by decide⟩) (Nat.le_of_ble_eq_true rfl) (fun o49 v49 ρv49 Zv49 hq49 _ => ?_)
          obtain ⟨rfl, rfl, rfl, r49, rfl, hq49⟩ := hq49
          have hw49_ : ω (ρ (ρ t 0) 0) = 3 := hH.rf hw44_ (by decide) rfl
          try rw [show (v34 (ρ (ρ t 0) 0)) = (v (ρ (ρ t 0) 0)) from (hfr34.rw hw49_ (by decide)).trans (rfl)] at hq49
          show wp g X F_X11_scores 0 0 52 [(2, t), (0, (v (ρ (ρ t 4) 0) 10)), (0, k), (0, p)] [(0, r49), (0, p), (2, (ρ t 15))] v34 ρ Z
          refine e_iast (n := 3) (pc := 52) hX 28 rfl (hH34.kd hw39_ (by decide)) (hH34.ln hw39_ (by decide)) (hH34.g4 hw39_ (by decide)) (by omega) (by omega) ?_
          have hH_52 : HT ω (up v34 (ρ t 15) p r49) ρ Z := hH34.up0 hw39_ (by decide) rfl
          refine r_iinc (ls' := [(2, t), (0, (v (ρ (ρ t 4) 0) 10)), (0, k), (0, (p + 1))]) (pc := 53) hX 29 rfl rfl (by decide) rfl ?_
          refine r_goto (pc := 56) hX 30 (tgt := 34) rfl (by decide) ?_
          exact (ih34 (p + 1) (up v34 (ρ t 15) p r49) ((hfr34).up (r := (ρ t 15)) hw39_ (by decide)) (hH_52) (by omega) ((up_r (rne hwX hw39_ (by decide))).trans i9) (by omega))
    exact (L34 _ 0 v (FrW.rf) (hH) (by omega) (rfl) (Nat.lt_succ_self _))
  first | refine r_if_le (pc := 12) hX 6 (tgt := 30) rfl (by decide) (⟨by omega, by omega⟩) (fun h12 => ?_) (fun h12 => ?_) | refine r_if_le_any (pc := 12) hX 6 (tgt := 30) rfl (by decide) ?_ ?_
  · refine r_iconst (pc := 30) hX 14 rfl ?_
    exact (L31 0 (by omega) )
  · refine t_getR (q := (ρ t 0)) (pc := 15) hX 7 rfl rfl rfl fl_X11_12 rfl (hH.kd ht (by decide)) (rfl) ?_
    have hw15_ : ω (ρ t 0) = 2 := hH.rf ht (by decide) rfl
    refine e_getI (y := (v (ρ t 0) 1)) (pc := 19) hX 9 rfl fl_X11_123 rfl (hH.kd hw15_ (by decide)) (rfl) ?_
    have hb19 : 0 ≤ (v (ρ t 0) 1) ∧ (v (ρ t 0) 1) ≤ 940 := hH.rg hw15_ (by decide) rfl
    refine r_iload_n (pc := 22) hX 10 rfl rfl ?_
    first | refine r_icmp_ne (pc := 23) hX 11 (tgt := 30) rfl (by decide) (⟨by omega, by omega⟩) (⟨by omega, by omega⟩) (fun h23 => ?_) (fun h23 => ?_) | refine r_icmp_ne_any (pc := 23) hX 11 (tgt := 30) rfl (by decide) ?_ ?_
    · refine r_iconst (pc := 30) hX 14 rfl ?_
      exact (L31 0 (by omega) )
    · refine r_iconst (pc := 26) hX 12 rfl ?_
      refine r_goto (pc := 27) hX 13 (tgt := 31) rfl (by decide) ?_
      exact (L31 1 (by omega) )
set_option maxHeartbeats 4000000 in
set_option maxRecDepth 100000 in
theorem c_X11_faultF (g : Gp) (ω : Rw) (v ρ : Mv) (Z : Mz) (hH : HT ω v ρ Z) (t : Int) (ht : ω t = 1)  : Ok g 1 0 0 F_X11_fault [(2, t)] v ρ Z (fun o9 v' ρ' Z' => ρ = ρ' ∧ Z = Z' ∧ v = v' ∧ ∃ r : Int, o9 = some (0, r) ∧ (r = v (ρ t 0) 9)) := by
  refine Ok.of mo_X11_fault (Nat.le_of_ble_eq_true rfl) ?_
  intro X hX hRm hxn hQ
  show wp g X F_X11_fault 0 0 0 [(2, t)] [] v ρ Z
  have hwT : ω (ρ t 4) = 22 := hH.rf ht (by decide) rfl
  have hwR : ω (ρ (ρ t 4) 0) = 5 := hH.rf hwT (by decide) rfl
  have hgR8 : 0 ≤ v (ρ (ρ t 4) 0) 8 ∧ v (ρ (ρ t 4) 0) 8 ≤ 4 := hH.rg hwR (by decide) rfl
  have hgR9 : 0 ≤ v (ρ (ρ t 4) 0) 9 ∧ v (ρ (ρ t 4) 0) 9 ≤ 3 := hH.rg hwR (by decide) rfl
  have hgR10 : 0 ≤ v (ρ (ρ t 4) 0) 10 ∧ v (ρ (ρ t 4) 0) 10 ≤ 3 := hH.rg hwR (by decide) rfl
  have hwX : ω (ρ t 0) = 2 := hH.rf ht (by decide) rfl
  have hgL : 0 ≤ v (ρ t 0) 1 ∧ v (ρ t 0) 1 ≤ 940 := hH.rg hwX (by decide) rfl
  refine t_getR (q := (ρ t 0)) (pc := 0) hX 0 rfl rfl rfl fl_X11_12 rfl (hH.kd ht (by decide)) (rfl) ?_
  have hw0_ : ω (ρ t 0) = 2 := hH.rf ht (by decide) rfl
  refine e_getI (y := (v (ρ t 0) 9)) (pc := 4) hX 2 rfl fl_X11_147 rfl (hH.kd hw0_ (by decide)) (rfl) ?_
  have hb4 : 0 ≤ (v (ρ t 0) 9) ∧ (v (ρ t 0) 9) ≤ 4 := hH.rg hw0_ (by decide) rfl
  exact r_iret (pc := 7) hX 3 hQ rfl rfl (Nat.le_of_ble_eq_true rfl) (Nat.le_of_ble_eq_true rfl) ⟨rfl, rfl, rfl, (v (ρ t 0) 9), rfl, (by omega)⟩
