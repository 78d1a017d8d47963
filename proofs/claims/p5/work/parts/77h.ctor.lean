set_option maxHeartbeats 4000000 in
set_option maxRecDepth 100000 in
theorem c_X11_seg8 (g : Gp) (X : Cx) {n t : Int} {ω : Rw} {v ρ : Mv} {Z : Mz} (hX : okX g X F_X11_init) (hRm : xR X = rmd 6 173 11940) (hQ : hQt g X (RwQ n t ω v ρ Z) 173 11940) (m : Int) (ω1 : Rw) (v1 ρ1 : Mv) (Z1 : Mz) (hI : RwI n t ω v ρ Z 8 m ω1 v1 ρ1 Z1) (ht4 : 4 ≤ t) (htn : t < n) (hmo : m = n + 98) : wp g X F_X11_init 98 2395 132 [(2, t)] [] v1 ρ1 Z1 := by
  obtain ⟨hm, hnm, hold1, hH1, htk1, htl1, ht1, hv1, hro, hr1, fz0, fz13⟩ := hI
  have holm1 : Old m t ω1 v1 ρ1 Z1 ω1 v1 ρ1 Z1 := Old.rf
  have fw0 : ω1 (ρ1 t 0) = 2 := hro 0 2 (by decide) (by decide) rfl
  have fl0 : ρ1 t 0 < m := by have := hH1.lt fw0 (by decide); omega
  have fn0 : ρ1 t 0 ≠ t := fun q => by rw [q, ht1] at fw0; exact absurd fw0 (by decide)
  have hp0 : ∀ e, ω1 e ≠ 0 → ω1 e = ω1 e := fun _ _ => rfl
  have hf4 : ω1 (ρ1 t 4) = 22 := hro 4 22 (by decide) (by decide) rfl
  have hlt4 : ρ1 t 4 < m := by have := hH1.lt hf4 (by decide); omega
  refine r_aload_n (pc := 132) hX 60 rfl rfl ?_
  refine r_newX (K := 2) (q := (RX2, TX2, 15)) (n := m) hX 61 hm rfl rfl cl_X11_65 in_X2 iz_X2 (by omega) (by rw [hRm]; exact Nat.le_of_ble_eq_true rfl) (by rw [hRm]; exact Nat.le_of_ble_eq_true rfl) (fun v_2 ρ_3 Z_4 hal_1 => ?_)
  have hn_5 : Z_4.2.2 = (m + 1) := by have := hal_1.1; omega
  have hH_6 : HT ω1 v_2 ρ_3 Z_4 := hH1.al hm (by omega) hal_1
  replace htk1 : Z_4.1 t = 11 := (hal_1.2.2.2.2.2 t (by omega)).2.2.1.trans htk1
  replace htl1 : Z_4.2.1 t = 0 := (hal_1.2.2.2.2.2 t (by omega)).2.2.2.trans htl1
  have hz_7 : ω1 m = 0 := hH1.z0 (by omega)
  have hk_8 : Z_4.1 m = 2 := hal_1.2.1
  have hl_9 : Z_4.2.1 m = 0 := hal_1.2.2.1
  have hold_10 : Old n t ω v ρ Z ω1 v_2 ρ_3 Z_4 := hold1.al0 hal_1 (by omega)
  have holm_10 : Old m t ω1 v1 ρ1 Z1 ω1 v_2 ρ_3 Z_4 := holm1.al0 hal_1 (by omega)
  clear hm
  show wp g X F_X11_init 99 2410 136 [(2, t)] [(2, m), (2, t)] v_2 ρ_3 Z_4
  refine r_dup (pc := 136) hX 62 rfl (show (2 : Nat) ≠ 1 by decide) ?_
  refine r_aload_n (pc := 137) hX 63 rfl rfl ?_
  refine r_getR (q := (ρ1 t 4)) (pc := 138) hX 64 rfl fl_X11_47 rfl htk1 ((congrFun (hal_1.2.2.2.2.2 t (by omega)).2.1 4).trans (rfl)) ?_
  refine r_getR (q := (ρ1 (ρ1 t 4) 0)) (pc := 141) hX 65 rfl fl_X11_51 rfl (hH_6.kd hf4 (by decide)) ((congrFun (hal_1.2.2.2.2.2 (ρ1 t 4) (by have z9 := hlt4; omega)).2.1 0).trans (rfl)) ?_
  have hw_11 : ω1 (ρ1 (ρ1 t 4) 0) = 5 := by rw [← show ρ_3 (ρ1 t 4) 0 = (ρ1 (ρ1 t 4) 0) from (congrFun (hal_1.2.2.2.2.2 (ρ1 t 4) (by have z9 := hlt4; omega)).2.1 0).trans (rfl)]; exact hH_6.rf hf4 (by decide) rfl
  have hlt_12 : (ρ1 (ρ1 t 4) 0) < (m + 1) := by have := hH_6.lt hw_11 (by decide); omega
  refine r_callI (as := [(2, (ρ1 (ρ1 t 4) 0))]) (st := [(2, m), (2, t)]) (pc := 144) hX 66 rfl mo_X2_init rfl rfl ml_X11_67 im_X2_init (c_X2_init g ω1 v_2 ρ_3 Z_4 hH_6 m hz_7 hk_8 hl_9 (by omega) (m + 1) hn_5 (by omega) (fun k => hal_1.2.2.2.1 k) (fun k => hal_1.2.2.2.2.1 k) (ρ1 (ρ1 t 4) 0) hw_11) rfl (by omega) (by rw [hRm]; exact ⟨Nat.le_of_ble_eq_true rfl, Nat.le_of_ble_eq_true rfl⟩) (by rw [hRm]; exact ⟨Nat.le_of_ble_eq_true rfl, Nat.le_of_ble_eq_true rfl⟩) (Nat.le_of_ble_eq_true rfl) (fun o9 v_14 ρ_15 Z_16 hq9 _ => ?_)
  obtain ⟨rfl, hn_20, ω_13, hct_17, hT_18, hHc_19⟩ := hq9
  have hn_21 : Z_16.2.2 = (m + 10) := by omega
  clear hn_20
  have hp_22 : ∀ e, ω1 e ≠ 0 → ω_13 e = ω1 e := fun e he => ((hct_17 e (by have z9 := hH_6.lt (hp0 e he) he; omega) (fun q => he (by rw [← hp0 e he, q]; exact hz_7))).1).trans (hp0 e he)
  replace hf4 : ω_13 (ρ1 t 4) = 22 := ((hct_17 (ρ1 t 4) (by have := hH_6.lt hf4 (by decide); omega) (fun q => by have z := hf4; rw [q, hz_7] at z; exact absurd z (by decide))).1).trans hf4
  replace hw_11 : ω_13 (ρ1 (ρ1 t 4) 0) = 5 := ((hct_17 (ρ1 (ρ1 t 4) 0) (by have := hH_6.lt hw_11 (by decide); omega) (fun q => by have z := hw_11; rw [q, hz_7] at z; exact absurd z (by decide))).1).trans hw_11
  replace ht1 : ω_13 t = 0 := ((hct_17 t (by omega) (by omega)).1).trans ht1
  replace htk1 : Z_16.1 t = 11 := ((hct_17 t (by omega) (by omega)).2.2.2.1).trans htk1
  replace htl1 : Z_16.2.1 t = 0 := ((hct_17 t (by omega) (by omega)).2.2.2.2).trans htl1
  have hold_23 : Old n t ω v ρ Z ω_13 v_14 ρ_15 Z_16 := hold_10.ct hct_17 (by omega) (Or.inr (by omega))
  have holm_23 : Old m t ω1 v1 ρ1 Z1 ω_13 v_14 ρ_15 Z_16 := holm_10.ct hct_17 (by omega) (Or.inr (by omega))
  clear hz_7 hk_8 hl_9
  show wp g X F_X11_init 108 3175 147 [(2, t)] [(2, m), (2, t)] v_14 ρ_15 Z_16
  refine r_putRF (K := 11) (k := 8) (pc := 147) hX 67 rfl rfl (by decide) fw_X11_72 rfl rfl rfl rfl htk1 ht4 ?_
  have hH_24 : HT ω_13 v_14 (up ρ_15 t 8 m) Z_16 := hHc_19.uzr ht1
  have hold_25 : Old n t ω v ρ Z ω_13 v_14 (up ρ_15 t 8 m) Z_16 := hold_23.putr (Or.inl rfl)
  have holm_25 : Old m t ω1 v1 ρ1 Z1 ω_13 v_14 (up ρ_15 t 8 m) Z_16 := holm_23.putr (Or.inl rfl)
  show wp g X F_X11_init 108 3175 150 [(2, t)] [] v_14 (up ρ_15 t 8 m) Z_16
  exact c_X11_seg9 g X hX hRm hQ (m + 10) ω_13 v_14 (up ρ_15 t 8 m) Z_16 ⟨hn_21, by omega, hold_25, hH_24, htk1, htl1, ht1, fun k => (congrFun (hct_17 t (by omega) (by omega)).2.1 k).trans ((congrFun (hal_1.2.2.2.2.2 t (by omega)).1 k).trans (hv1 k)), fun j d j0 j1 hd => by
    by_cases e : j = 8
    · subst e; rw [up_s]; cases hd; exact hT_18
    · rw [up_k e, ((hct_17 t (by omega) (by omega)).2.2.1).trans (((hal_1.2.2.2.2.2 t (by omega)).2.1).trans (rfl))]
      have z := hro j d j0 (by omega) hd
      rw [hp_22 _ (by rw [z]; exact rf_ne0 hd)]; exact z, fun j hj => by
    rw [up_k (by omega), ((hct_17 t (by omega) (by omega)).2.2.1).trans (((hal_1.2.2.2.2.2 t (by omega)).2.1).trans (rfl))]; exact hr1 j (by omega), fun _ => by rw [show (up ρ_15 t 8 m) t 0 = ρ_15 t 0 from up_k (by decide), ((hct_17 t (by omega) (by omega)).2.2.1).trans (((hal_1.2.2.2.2.2 t (by omega)).2.1).trans (rfl))]; exact (congrFun (holm_25 (ρ1 t 0) fl0 fn0).2.1 1).trans (fz0 (by decide)), fun h => absurd h (by decide)⟩ ht4 htn (by omega)
set_option maxHeartbeats 4000000 in
set_option maxRecDepth 100000 in
theorem c_X11_seg7 (g : Gp) (X : Cx) {n t : Int} {ω : Rw} {v ρ : Mv} {Z : Mz} (hX : okX g X F_X11_init) (hRm : xR X = rmd 6 173 11940) (hQ : hQt g X (RwQ n t ω v ρ Z) 173 11940) (m : Int) (ω1 : Rw) (v1 ρ1 : Mv) (Z1 : Mz) (hI : RwI n t ω v ρ Z 7 m ω1 v1 ρ1 Z1) (ht4 : 4 ≤ t) (htn : t < n) (hmo : m = n + 88) : wp g X F_X11_init 88 1615 114 [(2, t)] [] v1 ρ1 Z1 := by
  obtain ⟨hm, hnm, hold1, hH1, htk1, htl1, ht1, hv1, hro, hr1, fz0, fz13⟩ := hI
  have holm1 : Old m t ω1 v1 ρ1 Z1 ω1 v1 ρ1 Z1 := Old.rf
  have fw0 : ω1 (ρ1 t 0) = 2 := hro 0 2 (by decide) (by decide) rfl
  have fl0 : ρ1 t 0 < m := by have := hH1.lt fw0 (by decide); omega
  have fn0 : ρ1 t 0 ≠ t := fun q => by rw [q, ht1] at fw0; exact absurd fw0 (by decide)
  have hp0 : ∀ e, ω1 e ≠ 0 → ω1 e = ω1 e := fun _ _ => rfl
  have hf4 : ω1 (ρ1 t 4) = 22 := hro 4 22 (by decide) (by decide) rfl
  have hlt4 : ρ1 t 4 < m := by have := hH1.lt hf4 (by decide); omega
  refine r_aload_n (pc := 114) hX 52 rfl rfl ?_
  refine r_newX (K := 2) (q := (RX2, TX2, 15)) (n := m) hX 53 hm rfl rfl cl_X11_65 in_X2 iz_X2 (by omega) (by rw [hRm]; exact Nat.le_of_ble_eq_true rfl) (by rw [hRm]; exact Nat.le_of_ble_eq_true rfl) (fun v_2 ρ_3 Z_4 hal_1 => ?_)
  have hn_5 : Z_4.2.2 = (m + 1) := by have := hal_1.1; omega
  have hH_6 : HT ω1 v_2 ρ_3 Z_4 := hH1.al hm (by omega) hal_1
  replace htk1 : Z_4.1 t = 11 := (hal_1.2.2.2.2.2 t (by omega)).2.2.1.trans htk1
  replace htl1 : Z_4.2.1 t = 0 := (hal_1.2.2.2.2.2 t (by omega)).2.2.2.trans htl1
  have hz_7 : ω1 m = 0 := hH1.z0 (by omega)
  have hk_8 : Z_4.1 m = 2 := hal_1.2.1
  have hl_9 : Z_4.2.1 m = 0 := hal_1.2.2.1
  have hold_10 : Old n t ω v ρ Z ω1 v_2 ρ_3 Z_4 := hold1.al0 hal_1 (by omega)
  have holm_10 : Old m t ω1 v1 ρ1 Z1 ω1 v_2 ρ_3 Z_4 := holm1.al0 hal_1 (by omega)
  clear hm
  show wp g X F_X11_init 89 1630 118 [(2, t)] [(2, m), (2, t)] v_2 ρ_3 Z_4
  refine r_dup (pc := 118) hX 54 rfl (show (2 : Nat) ≠ 1 by decide) ?_
  refine r_aload_n (pc := 119) hX 55 rfl rfl ?_
  refine r_getR (q := (ρ1 t 4)) (pc := 120) hX 56 rfl fl_X11_47 rfl htk1 ((congrFun (hal_1.2.2.2.2.2 t (by omega)).2.1 4).trans (rfl)) ?_
  refine r_getR (q := (ρ1 (ρ1 t 4) 0)) (pc := 123) hX 57 rfl fl_X11_51 rfl (hH_6.kd hf4 (by decide)) ((congrFun (hal_1.2.2.2.2.2 (ρ1 t 4) (by have z9 := hlt4; omega)).2.1 0).trans (rfl)) ?_
  have hw_11 : ω1 (ρ1 (ρ1 t 4) 0) = 5 := by rw [← show ρ_3 (ρ1 t 4) 0 = (ρ1 (ρ1 t 4) 0) from (congrFun (hal_1.2.2.2.2.2 (ρ1 t 4) (by have z9 := hlt4; omega)).2.1 0).trans (rfl)]; exact hH_6.rf hf4 (by decide) rfl
  have hlt_12 : (ρ1 (ρ1 t 4) 0) < (m + 1) := by have := hH_6.lt hw_11 (by decide); omega
  refine r_callI (as := [(2, (ρ1 (ρ1 t 4) 0))]) (st := [(2, m), (2, t)]) (pc := 126) hX 58 rfl mo_X2_init rfl rfl ml_X11_67 im_X2_init (c_X2_init g ω1 v_2 ρ_3 Z_4 hH_6 m hz_7 hk_8 hl_9 (by omega) (m + 1) hn_5 (by omega) (fun k => hal_1.2.2.2.1 k) (fun k => hal_1.2.2.2.2.1 k) (ρ1 (ρ1 t 4) 0) hw_11) rfl (by omega) (by rw [hRm]; exact ⟨Nat.le_of_ble_eq_true rfl, Nat.le_of_ble_eq_true rfl⟩) (by rw [hRm]; exact ⟨Nat.le_of_ble_eq_true rfl, Nat.le_of_ble_eq_true rfl⟩) (Nat.le_of_ble_eq_true rfl) (fun o9 v_14 ρ_15 Z_16 hq9 _ => ?_)
  obtain ⟨rfl, hn_20, ω_13, hct_17, hT_18, hHc_19⟩ := hq9
  have hn_21 : Z_16.2.2 = (m + 10) := by omega
  clear hn_20
  have hp_22 : ∀ e, ω1 e ≠ 0 → ω_13 e = ω1 e := fun e he => ((hct_17 e (by have z9 := hH_6.lt (hp0 e he) he; omega) (fun q => he (by rw [← hp0 e he, q]; exact hz_7))).1).trans (hp0 e he)
  replace hf4 : ω_13 (ρ1 t 4) = 22 := ((hct_17 (ρ1 t 4) (by have := hH_6.lt hf4 (by decide); omega) (fun q => by have z := hf4; rw [q, hz_7] at z; exact absurd z (by decide))).1).trans hf4
  replace hw_11 : ω_13 (ρ1 (ρ1 t 4) 0) = 5 := ((hct_17 (ρ1 (ρ1 t 4) 0) (by have := hH_6.lt hw_11 (by decide); omega) (fun q => by have z := hw_11; rw [q, hz_7] at z; exact absurd z (by decide))).1).trans hw_11
  replace ht1 : ω_13 t = 0 := ((hct_17 t (by omega) (by omega)).1).trans ht1
  replace htk1 : Z_16.1 t = 11 := ((hct_17 t (by omega) (by omega)).2.2.2.1).trans htk1
  replace htl1 : Z_16.2.1 t = 0 := ((hct_17 t (by omega) (by omega)).2.2.2.2).trans htl1
  have hold_23 : Old n t ω v ρ Z ω_13 v_14 ρ_15 Z_16 := hold_10.ct hct_17 (by omega) (Or.inr (by omega))
  have holm_23 : Old m t ω1 v1 ρ1 Z1 ω_13 v_14 ρ_15 Z_16 := holm_10.ct hct_17 (by omega) (Or.inr (by omega))
  clear hz_7 hk_8 hl_9
  show wp g X F_X11_init 98 2395 129 [(2, t)] [(2, m), (2, t)] v_14 ρ_15 Z_16
  refine r_putRF (K := 11) (k := 7) (pc := 129) hX 59 rfl rfl (by decide) fw_X11_68 rfl rfl rfl rfl htk1 ht4 ?_
  have hH_24 : HT ω_13 v_14 (up ρ_15 t 7 m) Z_16 := hHc_19.uzr ht1
  have hold_25 : Old n t ω v ρ Z ω_13 v_14 (up ρ_15 t 7 m) Z_16 := hold_23.putr (Or.inl rfl)
  have holm_25 : Old m t ω1 v1 ρ1 Z1 ω_13 v_14 (up ρ_15 t 7 m) Z_16 := holm_23.putr (Or.inl rfl)
  show wp g X F_X11_init 98 2395 132 [(2, t)] [] v_14 (up ρ_15 t 7 m) Z_16
  exact c_X11_seg8 g X hX hRm hQ (m + 10) ω_13 v_14 (up ρ_15 t 7 m) Z_16 ⟨hn_21, by omega, hold_25, hH_24, htk1, htl1, ht1, fun k => (congrFun (hct_17 t (by omega) (by omega)).2.1 k).trans ((congrFun (hal_1.2.2.2.2.2 t (by omega)).1 k).trans (hv1 k)), fun j d j0 j1 hd => by
    by_cases e : j = 7
    · subst e; rw [up_s]; cases hd; exact hT_18
    · rw [up_k e, ((hct_17 t (by omega) (by omega)).2.2.1).trans (((hal_1.2.2.2.2.2 t (by omega)).2.1).trans (rfl))]
      have z := hro j d j0 (by omega) hd
      rw [hp_22 _ (by rw [z]; exact rf_ne0 hd)]; exact z, fun j hj => by
    rw [up_k (by omega), ((hct_17 t (by omega) (by omega)).2.2.1).trans (((hal_1.2.2.2.2.2 t (by omega)).2.1).trans (rfl))]; exact hr1 j (by omega), fun _ => by rw [show (up ρ_15 t 7 m) t 0 = ρ_15 t 0 from up_k (by decide), ((hct_17 t (by omega) (by omega)).2.2.1).trans (((hal_1.2.2.2.2.2 t (by omega)).2.1).trans (rfl))]; exact (congrFun (holm_25 (ρ1 t 0) fl0 fn0).2.1 1).trans (fz0 (by decide)), fun h => absurd h (by decide)⟩ ht4 htn (by omega)
set_option maxHeartbeats 4000000 in
set_option maxRecDepth 100000 in
theorem c_X11_seg6 (g : Gp) (X : Cx) {n t : Int} {ω : Rw} {v ρ : Mv} {Z : Mz} (hX : okX g X F_X11_init) (hRm : xR X = rmd 6 173 11940) (hQ : hQt g X (RwQ n t ω v ρ Z) 173 11940) (m : Int) (ω1 : Rw) (v1 ρ1 : Mv) (Z1 : Mz) (hI : RwI n t ω v ρ Z 6 m ω1 v1 ρ1 Z1) (ht4 : 4 ≤ t) (htn : t < n) (hmo : m = n + 46) : wp g X F_X11_init 46 1381 96 [(2, t)] [] v1 ρ1 Z1 := by
  obtain ⟨hm, hnm, hold1, hH1, htk1, htl1, ht1, hv1, hro, hr1, fz0, fz13⟩ := hI
  have holm1 : Old m t ω1 v1 ρ1 Z1 ω1 v1 ρ1 Z1 := Old.rf
  have fw0 : ω1 (ρ1 t 0) = 2 := hro 0 2 (by decide) (by decide) rfl
  have fl0 : ρ1 t 0 < m := by have := hH1.lt fw0 (by decide); omega
  have fn0 : ρ1 t 0 ≠ t := fun q => by rw [q, ht1] at fw0; exact absurd fw0 (by decide)
  have hp0 : ∀ e, ω1 e ≠ 0 → ω1 e = ω1 e := fun _ _ => rfl
  have hf4 : ω1 (ρ1 t 4) = 22 := hro 4 22 (by decide) (by decide) rfl
  have hlt4 : ρ1 t 4 < m := by have := hH1.lt hf4 (by decide); omega
  refine r_aload_n (pc := 96) hX 44 rfl rfl ?_
  refine r_newX (K := 3) (q := (RX3, TX3, 2)) (n := m) hX 45 hm rfl rfl cl_X11_58 in_X3 iz_X3 (by omega) (by rw [hRm]; exact Nat.le_of_ble_eq_true rfl) (by rw [hRm]; exact Nat.le_of_ble_eq_true rfl) (fun v_2 ρ_3 Z_4 hal_1 => ?_)
  have hn_5 : Z_4.2.2 = (m + 1) := by have := hal_1.1; omega
  have hH_6 : HT ω1 v_2 ρ_3 Z_4 := hH1.al hm (by omega) hal_1
  replace htk1 : Z_4.1 t = 11 := (hal_1.2.2.2.2.2 t (by omega)).2.2.1.trans htk1
  replace htl1 : Z_4.2.1 t = 0 := (hal_1.2.2.2.2.2 t (by omega)).2.2.2.trans htl1
  have hz_7 : ω1 m = 0 := hH1.z0 (by omega)
  have hk_8 : Z_4.1 m = 3 := hal_1.2.1
  have hl_9 : Z_4.2.1 m = 0 := hal_1.2.2.1
  have hold_10 : Old n t ω v ρ Z ω1 v_2 ρ_3 Z_4 := hold1.al0 hal_1 (by omega)
  have holm_10 : Old m t ω1 v1 ρ1 Z1 ω1 v_2 ρ_3 Z_4 := holm1.al0 hal_1 (by omega)
  clear hm
  show wp g X F_X11_init 47 1383 100 [(2, t)] [(2, m), (2, t)] v_2 ρ_3 Z_4
  refine r_dup (pc := 100) hX 46 rfl (show (2 : Nat) ≠ 1 by decide) ?_
  refine r_aload_n (pc := 101) hX 47 rfl rfl ?_
  refine r_getR (q := (ρ1 t 4)) (pc := 102) hX 48 rfl fl_X11_47 rfl htk1 ((congrFun (hal_1.2.2.2.2.2 t (by omega)).2.1 4).trans (rfl)) ?_
  refine r_getR (q := (ρ1 (ρ1 t 4) 0)) (pc := 105) hX 49 rfl fl_X11_51 rfl (hH_6.kd hf4 (by decide)) ((congrFun (hal_1.2.2.2.2.2 (ρ1 t 4) (by have z9 := hlt4; omega)).2.1 0).trans (rfl)) ?_
  have hw_11 : ω1 (ρ1 (ρ1 t 4) 0) = 5 := by rw [← show ρ_3 (ρ1 t 4) 0 = (ρ1 (ρ1 t 4) 0) from (congrFun (hal_1.2.2.2.2.2 (ρ1 t 4) (by have z9 := hlt4; omega)).2.1 0).trans (rfl)]; exact hH_6.rf hf4 (by decide) rfl
  have hlt_12 : (ρ1 (ρ1 t 4) 0) < (m + 1) := by have := hH_6.lt hw_11 (by decide); omega
  refine r_callI (as := [(2, (ρ1 (ρ1 t 4) 0))]) (st := [(2, m), (2, t)]) (pc := 108) hX 50 rfl mo_X3_init rfl rfl ml_X11_60 im_X3_init (c_X3_init g ω1 v_2 ρ_3 Z_4 hH_6 m hz_7 hk_8 hl_9 (by omega) (m + 1) hn_5 (by omega) (fun k => hal_1.2.2.2.1 k) (fun k => hal_1.2.2.2.2.1 k) (ρ1 (ρ1 t 4) 0) hw_11) rfl (by omega) (by rw [hRm]; exact ⟨Nat.le_of_ble_eq_true rfl, Nat.le_of_ble_eq_true rfl⟩) (by rw [hRm]; exact ⟨Nat.le_of_ble_eq_true rfl, Nat.le_of_ble_eq_true rfl⟩) (Nat.le_of_ble_eq_true rfl) (fun o9 v_14 ρ_15 Z_16 hq9 _ => ?_)
  obtain ⟨rfl, hn_20, ω_13, hct_17, hT_18, hHc_19⟩ := hq9
  have hn_21 : Z_16.2.2 = (m + 42) := by omega
  clear hn_20
  have hp_22 : ∀ e, ω1 e ≠ 0 → ω_13 e = ω1 e := fun e he => ((hct_17 e (by have z9 := hH_6.lt (hp0 e he) he; omega) (fun q => he (by rw [← hp0 e he, q]; exact hz_7))).1).trans (hp0 e he)
  replace hf4 : ω_13 (ρ1 t 4) = 22 := ((hct_17 (ρ1 t 4) (by have := hH_6.lt hf4 (by decide); omega) (fun q => by have z := hf4; rw [q, hz_7] at z; exact absurd z (by decide))).1).trans hf4
  replace hw_11 : ω_13 (ρ1 (ρ1 t 4) 0) = 5 := ((hct_17 (ρ1 (ρ1 t 4) 0) (by have := hH_6.lt hw_11 (by decide); omega) (fun q => by have z := hw_11; rw [q, hz_7] at z; exact absurd z (by decide))).1).trans hw_11
  replace ht1 : ω_13 t = 0 := ((hct_17 t (by omega) (by omega)).1).trans ht1
  replace htk1 : Z_16.1 t = 11 := ((hct_17 t (by omega) (by omega)).2.2.2.1).trans htk1
  replace htl1 : Z_16.2.1 t = 0 := ((hct_17 t (by omega) (by omega)).2.2.2.2).trans htl1
  have hold_23 : Old n t ω v ρ Z ω_13 v_14 ρ_15 Z_16 := hold_10.ct hct_17 (by omega) (Or.inr (by omega))
  have holm_23 : Old m t ω1 v1 ρ1 Z1 ω_13 v_14 ρ_15 Z_16 := holm_10.ct hct_17 (by omega) (Or.inr (by omega))
  clear hz_7 hk_8 hl_9
  show wp g X F_X11_init 88 1615 111 [(2, t)] [(2, m), (2, t)] v_14 ρ_15 Z_16
  refine r_putRF (K := 11) (k := 6) (pc := 111) hX 51 rfl rfl (by decide) fw_X11_61 rfl rfl rfl rfl htk1 ht4 ?_
  have hH_24 : HT ω_13 v_14 (up ρ_15 t 6 m) Z_16 := hHc_19.uzr ht1
  have hold_25 : Old n t ω v ρ Z ω_13 v_14 (up ρ_15 t 6 m) Z_16 := hold_23.putr (Or.inl rfl)
  have holm_25 : Old m t ω1 v1 ρ1 Z1 ω_13 v_14 (up ρ_15 t 6 m) Z_16 := holm_23.putr (Or.inl rfl)
  show wp g X F_X11_init 88 1615 114 [(2, t)] [] v_14 (up ρ_15 t 6 m) Z_16
  exact c_X11_seg7 g X hX hRm hQ (m + 42) ω_13 v_14 (up ρ_15 t 6 m) Z_16 ⟨hn_21, by omega, hold_25, hH_24, htk1, htl1, ht1, fun k => (congrFun (hct_17 t (by omega) (by omega)).2.1 k).trans ((congrFun (hal_1.2.2.2.2.2 t (by omega)).1 k).trans (hv1 k)), fun j d j0 j1 hd => by
    by_cases e : j = 6
    · subst e; rw [up_s]; cases hd; exact hT_18
    · rw [up_k e, ((hct_17 t (by omega) (by omega)).2.2.1).trans (((hal_1.2.2.2.2.2 t (by omega)).2.1).trans (rfl))]
      have z := hro j d j0 (by omega) hd
      rw [hp_22 _ (by rw [z]; exact rf_ne0 hd)]; exact z, fun j hj => by
    rw [up_k (by omega), ((hct_17 t (by omega) (by omega)).2.2.1).trans (((hal_1.2.2.2.2.2 t (by omega)).2.1).trans (rfl))]; exact hr1 j (by omega), fun _ => by rw [show (up ρ_15 t 6 m) t 0 = ρ_15 t 0 from up_k (by decide), ((hct_17 t (by omega) (by omega)).2.2.1).trans (((hal_1.2.2.2.2.2 t (by omega)).2.1).trans (rfl))]; exact (congrFun (holm_25 (ρ1 t 0) fl0 fn0).2.1 1).trans (fz0 (by decide)), fun h => absurd h (by decide)⟩ ht4 htn (by omega)
set_option maxHeartbeats 4000000 in
set_option maxRecDepth 100000 in
theorem c_X11_seg5 (g : Gp) (X : Cx) {n t : Int} {ω : Rw} {v ρ : Mv} {Z : Mz} (hX : okX g X F_X11_init) (hRm : xR X = rmd 6 173 11940) (hQ : hQt g X (RwQ n t ω v ρ Z) 173 11940) (m : Int) (ω1 : Rw) (v1 ρ1 : Mv) (Z1 : Mz) (hI : RwI n t ω v ρ Z 5 m ω1 v1 ρ1 Z1) (ht4 : 4 ≤ t) (htn : t < n) (hmo : m = n + 41) : wp g X F_X11_init 41 1353 78 [(2, t)] [] v1 ρ1 Z1 := by
  obtain ⟨hm, hnm, hold1, hH1, htk1, htl1, ht1, hv1, hro, hr1, fz0, fz13⟩ := hI
  have holm1 : Old m t ω1 v1 ρ1 Z1 ω1 v1 ρ1 Z1 := Old.rf
  have fw0 : ω1 (ρ1 t 0) = 2 := hro 0 2 (by decide) (by decide) rfl
  have fl0 : ρ1 t 0 < m := by have := hH1.lt fw0 (by decide); omega
  have fn0 : ρ1 t 0 ≠ t := fun q => by rw [q, ht1] at fw0; exact absurd fw0 (by decide)
  have hp0 : ∀ e, ω1 e ≠ 0 → ω1 e = ω1 e := fun _ _ => rfl
  have hf4 : ω1 (ρ1 t 4) = 22 := hro 4 22 (by decide) (by decide) rfl
  have hlt4 : ρ1 t 4 < m := by have := hH1.lt hf4 (by decide); omega
  refine r_aload_n (pc := 78) hX 36 rfl rfl ?_
  refine r_newX (K := 9) (q := (RX9, TX9, 7)) (n := m) hX 37 hm rfl rfl cl_X11_39 in_X9 iz_X9 (by omega) (by rw [hRm]; exact Nat.le_of_ble_eq_true rfl) (by rw [hRm]; exact Nat.le_of_ble_eq_true rfl) (fun v_2 ρ_3 Z_4 hal_1 => ?_)
  have hn_5 : Z_4.2.2 = (m + 1) := by have := hal_1.1; omega
  have hH_6 : HT ω1 v_2 ρ_3 Z_4 := hH1.al hm (by omega) hal_1
  replace htk1 : Z_4.1 t = 11 := (hal_1.2.2.2.2.2 t (by omega)).2.2.1.trans htk1
  replace htl1 : Z_4.2.1 t = 0 := (hal_1.2.2.2.2.2 t (by omega)).2.2.2.trans htl1
  have hz_7 : ω1 m = 0 := hH1.z0 (by omega)
  have hk_8 : Z_4.1 m = 9 := hal_1.2.1
  have hl_9 : Z_4.2.1 m = 0 := hal_1.2.2.1
  have hold_10 : Old n t ω v ρ Z ω1 v_2 ρ_3 Z_4 := hold1.al0 hal_1 (by omega)
  have holm_10 : Old m t ω1 v1 ρ1 Z1 ω1 v_2 ρ_3 Z_4 := holm1.al0 hal_1 (by omega)
  clear hm
  show wp g X F_X11_init 42 1360 82 [(2, t)] [(2, m), (2, t)] v_2 ρ_3 Z_4
  refine r_dup (pc := 82) hX 38 rfl (show (2 : Nat) ≠ 1 by decide) ?_
  refine r_aload_n (pc := 83) hX 39 rfl rfl ?_
  refine r_getR (q := (ρ1 t 4)) (pc := 84) hX 40 rfl fl_X11_47 rfl htk1 ((congrFun (hal_1.2.2.2.2.2 t (by omega)).2.1 4).trans (rfl)) ?_
  refine r_getR (q := (ρ1 (ρ1 t 4) 0)) (pc := 87) hX 41 rfl fl_X11_51 rfl (hH_6.kd hf4 (by decide)) ((congrFun (hal_1.2.2.2.2.2 (ρ1 t 4) (by have z9 := hlt4; omega)).2.1 0).trans (rfl)) ?_
  have hw_11 : ω1 (ρ1 (ρ1 t 4) 0) = 5 := by rw [← show ρ_3 (ρ1 t 4) 0 = (ρ1 (ρ1 t 4) 0) from (congrFun (hal_1.2.2.2.2.2 (ρ1 t 4) (by have z9 := hlt4; omega)).2.1 0).trans (rfl)]; exact hH_6.rf hf4 (by decide) rfl
  have hlt_12 : (ρ1 (ρ1 t 4) 0) < (m + 1) := by have := hH_6.lt hw_11 (by decide); omega
  refine r_callI (as := [(2, (ρ1 (ρ1 t 4) 0))]) (st := [(2, m), (2, t)]) (pc := 90) hX 42 rfl mo_X9_init rfl rfl ml_X11_44 im_X9_init (c_X9_initB g ω1 v_2 ρ_3 Z_4 hH_6 m hz_7 hk_8 hl_9 (by omega) (m + 1) hn_5 (by omega) (fun k => hal_1.2.2.2.1 k) (fun k => hal_1.2.2.2.2.1 k) (ρ1 (ρ1 t 4) 0) hw_11) rfl (by omega) (by rw [hRm]; exact ⟨Nat.le_of_ble_eq_true rfl, Nat.le_of_ble_eq_true rfl⟩) (by rw [hRm]; exact ⟨Nat.le_of_ble_eq_true rfl, Nat.le_of_ble_eq_true rfl⟩) (Nat.le_of_ble_eq_true rfl) (fun o9 v_14 ρ_15 Z_16 hq9 _ => ?_)
  obtain ⟨rfl, hn_20, ω_13, hct_17, hT_18, hHc_19⟩ := hq9
  have hn_21 : Z_16.2.2 = (m + 5) := by omega
  clear hn_20
  have hp_22 : ∀ e, ω1 e ≠ 0 → ω_13 e = ω1 e := fun e he => ((hct_17 e (by have z9 := hH_6.lt (hp0 e he) he; omega) (fun q => he (by rw [← hp0 e he, q]; exact hz_7))).1).trans (hp0 e he)
  replace hf4 : ω_13 (ρ1 t 4) = 22 := ((hct_17 (ρ1 t 4) (by have := hH_6.lt hf4 (by decide); omega) (fun q => by have z := hf4; rw [q, hz_7] at z; exact absurd z (by decide))).1).trans hf4
  replace hw_11 : ω_13 (ρ1 (ρ1 t 4) 0) = 5 := ((hct_17 (ρ1 (ρ1 t 4) 0) (by have := hH_6.lt hw_11 (by decide); omega) (fun q => by have z := hw_11; rw [q, hz_7] at z; exact absurd z (by decide))).1).trans hw_11
  replace ht1 : ω_13 t = 0 := ((hct_17 t (by omega) (by omega)).1).trans ht1
  replace htk1 : Z_16.1 t = 11 := ((hct_17 t (by omega) (by omega)).2.2.2.1).trans htk1
  replace htl1 : Z_16.2.1 t = 0 := ((hct_17 t (by omega) (by omega)).2.2.2.2).trans htl1
  have hold_23 : Old n t ω v ρ Z ω_13 v_14 ρ_15 Z_16 := hold_10.ct hct_17 (by omega) (Or.inr (by omega))
  have holm_23 : Old m t ω1 v1 ρ1 Z1 ω_13 v_14 ρ_15 Z_16 := holm_10.ct hct_17 (by omega) (Or.inr (by omega))
  clear hz_7 hk_8 hl_9
  show wp g X F_X11_init 46 1381 93 [(2, t)] [(2, m), (2, t)] v_14 ρ_15 Z_16
  refine r_putRF (K := 11) (k := 5) (pc := 93) hX 43 rfl rfl (by decide) fw_X11_55 rfl rfl rfl rfl htk1 ht4 ?_
  have hH_24 : HT ω_13 v_14 (up ρ_15 t 5 m) Z_16 := hHc_19.uzr ht1
  have hold_25 : Old n t ω v ρ Z ω_13 v_14 (up ρ_15 t 5 m) Z_16 := hold_23.putr (Or.inl rfl)
  have holm_25 : Old m t ω1 v1 ρ1 Z1 ω_13 v_14 (up ρ_15 t 5 m) Z_16 := holm_23.putr (Or.inl rfl)
  show wp g X F_X11_init 46 1381 96 [(2, t)] [] v_14 (up ρ_15 t 5 m) Z_16
  exact c_X11_seg6 g X hX hRm hQ (m + 5) ω_13 v_14 (up ρ_15 t 5 m) Z_16 ⟨hn_21, by omega, hold_25, hH_24, htk1, htl1, ht1, fun k => (congrFun (hct_17 t (by omega) (by omega)).2.1 k).trans ((congrFun (hal_1.2.2.2.2.2 t (by omega)).1 k).trans (hv1 k)), fun j d j0 j1 hd => by
    by_cases e : j = 5
    · subst e; rw [up_s]; cases hd; exact hT_18
    · rw [up_k e, ((hct_17 t (by omega) (by omega)).2.2.1).trans (((hal_1.2.2.2.2.2 t (by omega)).2.1).trans (rfl))]
      have z := hro j d j0 (by omega) hd
      rw [hp_22 _ (by rw [z]; exact rf_ne0 hd)]; exact z, fun j hj => by
    rw [up_k (by omega), ((hct_17 t (by omega) (by omega)).2.2.1).trans (((hal_1.2.2.2.2.2 t (by omega)).2.1).trans (rfl))]; exact hr1 j (by omega), fun _ => by rw [show (up ρ_15 t 5 m) t 0 = ρ_15 t 0 from up_k (by decide), ((hct_17 t (by omega) (by omega)).2.2.1).trans (((hal_1.2.2.2.2.2 t (by omega)).2.1).trans (rfl))]; exact (congrFun (holm_25 (ρ1 t 0) fl0 fn0).2.1 1).trans (fz0 (by decide)), fun h => absurd h (by decide)⟩ ht4 htn (by omega)
set_option maxHeartbeats 4000000 in
set_option maxRecDepth 100000 in
theorem c_X11_seg4 (g : Gp) (X : Cx) {n t : Int} {ω : Rw} {v ρ : Mv} {Z : Mz} (hX : okX g X F_X11_init) (hRm : xR X = rmd 6 173 11940) (hQ : hQt g X (RwQ n t ω v ρ Z) 173 11940) (m : Int) (ω1 : Rw) (v1 ρ1 : Mv) (Z1 : Mz) (hI : RwI n t ω v ρ Z 4 m ω1 v1 ρ1 Z1) (ht4 : 4 ≤ t) (htn : t < n) (hmo : m = n + 24) : wp g X F_X11_init 24 1266 60 [(2, t)] [] v1 ρ1 Z1 := by
  obtain ⟨hm, hnm, hold1, hH1, htk1, htl1, ht1, hv1, hro, hr1, fz0, fz13⟩ := hI
  have holm1 : Old m t ω1 v1 ρ1 Z1 ω1 v1 ρ1 Z1 := Old.rf
  have fw0 : ω1 (ρ1 t 0) = 2 := hro 0 2 (by decide) (by decide) rfl
  have fl0 : ρ1 t 0 < m := by have := hH1.lt fw0 (by decide); omega
  have fn0 : ρ1 t 0 ≠ t := fun q => by rw [q, ht1] at fw0; exact absurd fw0 (by decide)
  have hp0 : ∀ e, ω1 e ≠ 0 → ω1 e = ω1 e := fun _ _ => rfl
  refine r_aload_n (pc := 60) hX 28 rfl rfl ?_
  refine r_newX (K := 9) (q := (RX9, TX9, 7)) (n := m) hX 29 hm rfl rfl cl_X11_39 in_X9 iz_X9 (by omega) (by rw [hRm]; exact Nat.le_of_ble_eq_true rfl) (by rw [hRm]; exact Nat.le_of_ble_eq_true rfl) (fun v_2 ρ_3 Z_4 hal_1 => ?_)
  have hn_5 : Z_4.2.2 = (m + 1) := by have := hal_1.1; omega
  have hH_6 : HT ω1 v_2 ρ_3 Z_4 := hH1.al hm (by omega) hal_1
  replace htk1 : Z_4.1 t = 11 := (hal_1.2.2.2.2.2 t (by omega)).2.2.1.trans htk1
  replace htl1 : Z_4.2.1 t = 0 := (hal_1.2.2.2.2.2 t (by omega)).2.2.2.trans htl1
  have hz_7 : ω1 m = 0 := hH1.z0 (by omega)
  have hk_8 : Z_4.1 m = 9 := hal_1.2.1
  have hl_9 : Z_4.2.1 m = 0 := hal_1.2.2.1
  have hold_10 : Old n t ω v ρ Z ω1 v_2 ρ_3 Z_4 := hold1.al0 hal_1 (by omega)
  have holm_10 : Old m t ω1 v1 ρ1 Z1 ω1 v_2 ρ_3 Z_4 := holm1.al0 hal_1 (by omega)
  clear hm
  show wp g X F_X11_init 25 1273 64 [(2, t)] [(2, m), (2, t)] v_2 ρ_3 Z_4
  refine r_dup (pc := 64) hX 30 rfl (show (2 : Nat) ≠ 1 by decide) ?_
  refine r_newX (K := 4) (q := (RX4, TX4, 15)) (n := (m + 1)) hX 31 hn_5 rfl rfl cl_X11_41 in_X4 iz_X4 (by omega) (by rw [hRm]; exact Nat.le_of_ble_eq_true rfl) (by rw [hRm]; exact Nat.le_of_ble_eq_true rfl) (fun v_12 ρ_13 Z_14 hal_11 => ?_)
  have hn_15 : Z_14.2.2 = (m + 2) := by have := hal_11.1; omega
  have hH_16 : HT ω1 v_12 ρ_13 Z_14 := hH_6.al hn_5 (by omega) hal_11
  replace htk1 : Z_14.1 t = 11 := (hal_11.2.2.2.2.2 t (by omega)).2.2.1.trans htk1
  replace htl1 : Z_14.2.1 t = 0 := (hal_11.2.2.2.2.2 t (by omega)).2.2.2.trans htl1
  replace hk_8 : Z_14.1 m = 9 := (hal_11.2.2.2.2.2 m (by omega)).2.2.1.trans hk_8
  replace hl_9 : Z_14.2.1 m = 0 := (hal_11.2.2.2.2.2 m (by omega)).2.2.2.trans hl_9
  have hz_17 : ω1 (m + 1) = 0 := hH_6.z0 (by omega)
  have hk_18 : Z_14.1 (m + 1) = 4 := hal_11.2.1
  have hl_19 : Z_14.2.1 (m + 1) = 0 := hal_11.2.2.1
  have hold_20 : Old n t ω v ρ Z ω1 v_12 ρ_13 Z_14 := hold_10.al0 hal_11 (by omega)
  have holm_20 : Old m t ω1 v1 ρ1 Z1 ω1 v_12 ρ_13 Z_14 := holm_10.al0 hal_11 (by omega)
  clear hn_5
  show wp g X F_X11_init 26 1288 68 [(2, t)] [(2, (m + 1)), (2, m), (2, m), (2, t)] v_12 ρ_13 Z_14
  refine r_dup (pc := 68) hX 32 rfl (show (2 : Nat) ≠ 1 by decide) ?_
  refine r_callI (as := []) (st := [(2, (m + 1)), (2, m), (2, m), (2, t)]) (pc := 69) hX 33 rfl mo_X4_init rfl rfl ml_X11_43 im_X4_init (c_X4_init g ω1 v_12 ρ_13 Z_14 hH_16 (m + 1) hz_17 hk_18 hl_19 (by omega) (m + 2) hn_15 (by omega) (fun k => hal_11.2.2.2.1 k) (fun k => hal_11.2.2.2.2.1 k) ) rfl (by omega) (by rw [hRm]; exact ⟨Nat.le_of_ble_eq_true rfl, Nat.le_of_ble_eq_true rfl⟩) (by rw [hRm]; exact ⟨Nat.le_of_ble_eq_true rfl, Nat.le_of_ble_eq_true rfl⟩) (Nat.le_of_ble_eq_true rfl) (fun o9 v_22 ρ_23 Z_24 hq9 _ => ?_)
  obtain ⟨rfl, hn_28, ω_21, hct_25, hT_26, hHc_27⟩ := hq9
  have hn_29 : Z_24.2.2 = (m + 13) := by omega
  clear hn_28
  have hp_30 : ∀ e, ω1 e ≠ 0 → ω_21 e = ω1 e := fun e he => ((hct_25 e (by have z9 := hH_16.lt (hp0 e he) he; omega) (fun q => he (by rw [← hp0 e he, q]; exact hz_17))).1).trans (hp0 e he)
  replace ht1 : ω_21 t = 0 := ((hct_25 t (by omega) (by omega)).1).trans ht1
  replace htk1 : Z_24.1 t = 11 := ((hct_25 t (by omega) (by omega)).2.2.2.1).trans htk1
  replace htl1 : Z_24.2.1 t = 0 := ((hct_25 t (by omega) (by omega)).2.2.2.2).trans htl1
  replace hz_7 : ω_21 m = 0 := ((hct_25 m (by omega) (by omega)).1).trans hz_7
  replace hk_8 : Z_24.1 m = 9 := ((hct_25 m (by omega) (by omega)).2.2.2.1).trans hk_8
  replace hl_9 : Z_24.2.1 m = 0 := ((hct_25 m (by omega) (by omega)).2.2.2.2).trans hl_9
  have hold_31 : Old n t ω v ρ Z ω_21 v_22 ρ_23 Z_24 := hold_20.ct hct_25 (by omega) (Or.inr (by omega))
  have holm_31 : Old m t ω1 v1 ρ1 Z1 ω_21 v_22 ρ_23 Z_24 := holm_20.ct hct_25 (by omega) (Or.inr (by omega))
  clear hz_17 hk_18 hl_19
  show wp g X F_X11_init 37 1332 72 [(2, t)] [(2, (m + 1)), (2, m), (2, m), (2, t)] v_22 ρ_23 Z_24
  refine r_callI (as := [(2, (m + 1))]) (st := [(2, m), (2, t)]) (pc := 72) hX 34 rfl mo_X9_init rfl rfl ml_X11_44 im_X9_init (c_X9_init g ω_21 v_22 ρ_23 Z_24 hHc_27 m hz_7 hk_8 hl_9 (by omega) (m + 13) hn_29 (by omega) (fun k => (congrFun (hct_25 m (by omega) (by omega)).2.1 k).trans ((congrFun (hal_11.2.2.2.2.2 m (by omega)).1 k).trans (hal_1.2.2.2.1 k))) (fun k => (congrFun (hct_25 m (by omega) (by omega)).2.2.1 k).trans ((congrFun (hal_11.2.2.2.2.2 m (by omega)).2.1 k).trans (hal_1.2.2.2.2.1 k))) (m + 1) hT_26) rfl (by omega) (by rw [hRm]; exact ⟨Nat.le_of_ble_eq_true rfl, Nat.le_of_ble_eq_true rfl⟩) (by rw [hRm]; exact ⟨Nat.le_of_ble_eq_true rfl, Nat.le_of_ble_eq_true rfl⟩) (Nat.le_of_ble_eq_true rfl) (fun o9 v_33 ρ_34 Z_35 hq9 _ => ?_)
  obtain ⟨rfl, hn_39, ω_32, hct_36, hT_37, hHc_38⟩ := hq9
  have hn_40 : Z_35.2.2 = (m + 17) := by omega
  clear hn_39
  have hp_41 : ∀ e, ω1 e ≠ 0 → ω_32 e = ω1 e := fun e he => ((hct_36 e (by have z9 := hHc_27.lt (hp_30 e he) he; omega) (fun q => he (by rw [← hp_30 e he, q]; exact hz_7))).1).trans (hp_30 e he)
  replace hT_26 : ω_32 (m + 1) = 5 := ((hct_36 (m + 1) (by have := hHc_27.lt hT_26 (by decide); omega) (by omega)).1).trans hT_26
  replace ht1 : ω_32 t = 0 := ((hct_36 t (by omega) (by omega)).1).trans ht1
  replace htk1 : Z_35.1 t = 11 := ((hct_36 t (by omega) (by omega)).2.2.2.1).trans htk1
  replace htl1 : Z_35.2.1 t = 0 := ((hct_36 t (by omega) (by omega)).2.2.2.2).trans htl1
  have hold_42 : Old n t ω v ρ Z ω_32 v_33 ρ_34 Z_35 := hold_31.ct hct_36 (by omega) (Or.inr (by omega))
  have holm_42 : Old m t ω1 v1 ρ1 Z1 ω_32 v_33 ρ_34 Z_35 := holm_31.ct hct_36 (by omega) (Or.inr (by omega))
  clear hz_7 hk_8 hl_9
  show wp g X F_X11_init 41 1353 75 [(2, t)] [(2, m), (2, t)] v_33 ρ_34 Z_35
  refine r_putRF (K := 11) (k := 4) (pc := 75) hX 35 rfl rfl (by decide) fw_X11_47 rfl rfl rfl rfl htk1 ht4 ?_
  have hH_43 : HT ω_32 v_33 (up ρ_34 t 4 m) Z_35 := hHc_38.uzr ht1
  have hold_44 : Old n t ω v ρ Z ω_32 v_33 (up ρ_34 t 4 m) Z_35 := hold_42.putr (Or.inl rfl)
  have holm_44 : Old m t ω1 v1 ρ1 Z1 ω_32 v_33 (up ρ_34 t 4 m) Z_35 := holm_42.putr (Or.inl rfl)
  show wp g X F_X11_init 41 1353 78 [(2, t)] [] v_33 (up ρ_34 t 4 m) Z_35
  exact c_X11_seg5 g X hX hRm hQ (m + 17) ω_32 v_33 (up ρ_34 t 4 m) Z_35 ⟨hn_40, by omega, hold_44, hH_43, htk1, htl1, ht1, fun k => (congrFun (hct_36 t (by omega) (by omega)).2.1 k).trans ((congrFun (hct_25 t (by omega) (by omega)).2.1 k).trans ((congrFun (hal_11.2.2.2.2.2 t (by omega)).1 k).trans ((congrFun (hal_1.2.2.2.2.2 t (by omega)).1 k).trans (hv1 k)))), fun j d j0 j1 hd => by
    by_cases e : j = 4
    · subst e; rw [up_s]; cases hd; exact hT_37
    · rw [up_k e, ((hct_36 t (by omega) (by omega)).2.2.1).trans (((hct_25 t (by omega) (by omega)).2.2.1).trans (((hal_11.2.2.2.2.2 t (by omega)).2.1).trans (((hal_1.2.2.2.2.2 t (by omega)).2.1).trans (rfl))))]
      have z := hro j d j0 (by omega) hd
      rw [hp_41 _ (by rw [z]; exact rf_ne0 hd)]; exact z, fun j hj => by
    rw [up_k (by omega), ((hct_36 t (by omega) (by omega)).2.2.1).trans (((hct_25 t (by omega) (by omega)).2.2.1).trans (((hal_11.2.2.2.2.2 t (by omega)).2.1).trans (((hal_1.2.2.2.2.2 t (by omega)).2.1).trans (rfl))))]; exact hr1 j (by omega), fun _ => by rw [show (up ρ_34 t 4 m) t 0 = ρ_34 t 0 from up_k (by decide), ((hct_36 t (by omega) (by omega)).2.2.1).trans (((hct_25 t (by omega) (by omega)).2.2.1).trans (((hal_11.2.2.2.2.2 t (by omega)).2.1).trans (((hal_1.2.2.2.2.2 t (by omega)).2.1).trans (rfl))))]; exact (congrFun (holm_44 (ρ1 t 0) fl0 fn0).2.1 1).trans (fz0 (by decide)), fun h => absurd h (by decide)⟩ ht4 htn (by omega)
set_option maxHeartbeats 4000000 in
set_option maxRecDepth 100000 in
theorem c_X11_seg3 (g : Gp) (X : Cx) {n t : Int} {ω : Rw} {v ρ : Mv} {Z : Mz} (hX : okX g X F_X11_init) (hRm : xR X = rmd 6 173 11940) (hQ : hQt g X (RwQ n t ω v ρ Z) 173 11940) (m : Int) (ω1 : Rw) (v1 ρ1 : Mv) (Z1 : Mz) (hI : RwI n t ω v ρ Z 3 m ω1 v1 ρ1 Z1) (ht4 : 4 ≤ t) (htn : t < n) (hmo : m = n + 19) : wp g X F_X11_init 19 1139 45 [(2, t)] [] v1 ρ1 Z1 := by
  obtain ⟨hm, hnm, hold1, hH1, htk1, htl1, ht1, hv1, hro, hr1, fz0, fz13⟩ := hI
  have holm1 : Old m t ω1 v1 ρ1 Z1 ω1 v1 ρ1 Z1 := Old.rf
  have fw0 : ω1 (ρ1 t 0) = 2 := hro 0 2 (by decide) (by decide) rfl
  have fl0 : ρ1 t 0 < m := by have := hH1.lt fw0 (by decide); omega
  have fn0 : ρ1 t 0 ≠ t := fun q => by rw [q, ht1] at fw0; exact absurd fw0 (by decide)
  have hp0 : ∀ e, ω1 e ≠ 0 → ω1 e = ω1 e := fun _ _ => rfl
  have hf0 : ω1 (ρ1 t 0) = 2 := hro 0 2 (by decide) (by decide) rfl
  have hlt0 : ρ1 t 0 < m := by have := hH1.lt hf0 (by decide); omega
  refine r_aload_n (pc := 45) hX 21 rfl rfl ?_
  refine r_newX (K := 7) (q := (RX7, TX7, 2)) (n := m) hX 22 hm rfl rfl cl_X11_32 in_X7 iz_X7 (by omega) (by rw [hRm]; exact Nat.le_of_ble_eq_true rfl) (by rw [hRm]; exact Nat.le_of_ble_eq_true rfl) (fun v_2 ρ_3 Z_4 hal_1 => ?_)
  have hn_5 : Z_4.2.2 = (m + 1) := by have := hal_1.1; omega
  have hH_6 : HT ω1 v_2 ρ_3 Z_4 := hH1.al hm (by omega) hal_1
  replace htk1 : Z_4.1 t = 11 := (hal_1.2.2.2.2.2 t (by omega)).2.2.1.trans htk1
  replace htl1 : Z_4.2.1 t = 0 := (hal_1.2.2.2.2.2 t (by omega)).2.2.2.trans htl1
  have hz_7 : ω1 m = 0 := hH1.z0 (by omega)
  have hk_8 : Z_4.1 m = 7 := hal_1.2.1
  have hl_9 : Z_4.2.1 m = 0 := hal_1.2.2.1
  have hold_10 : Old n t ω v ρ Z ω1 v_2 ρ_3 Z_4 := hold1.al0 hal_1 (by omega)
  have holm_10 : Old m t ω1 v1 ρ1 Z1 ω1 v_2 ρ_3 Z_4 := holm1.al0 hal_1 (by omega)
  clear hm
  show wp g X F_X11_init 20 1141 49 [(2, t)] [(2, m), (2, t)] v_2 ρ_3 Z_4
  refine r_dup (pc := 49) hX 23 rfl (show (2 : Nat) ≠ 1 by decide) ?_
  refine r_aload_n (pc := 50) hX 24 rfl rfl ?_
  refine r_getR (q := (ρ1 t 0)) (pc := 51) hX 25 rfl fl_X11_12 rfl htk1 ((congrFun (hal_1.2.2.2.2.2 t (by omega)).2.1 0).trans (rfl)) ?_
  refine r_callI (as := [(2, (ρ1 t 0))]) (st := [(2, m), (2, t)]) (pc := 54) hX 26 rfl mo_X7_init rfl rfl ml_X11_34 im_X7_init (c_X7_init g ω1 v_2 ρ_3 Z_4 hH_6 m hz_7 hk_8 hl_9 (by omega) (m + 1) hn_5 (by omega) (fun k => hal_1.2.2.2.1 k) (fun k => hal_1.2.2.2.2.1 k) (ρ1 t 0) hf0) rfl (by omega) (by rw [hRm]; exact ⟨Nat.le_of_ble_eq_true rfl, Nat.le_of_ble_eq_true rfl⟩) (by rw [hRm]; exact ⟨Nat.le_of_ble_eq_true rfl, Nat.le_of_ble_eq_true rfl⟩) (Nat.le_of_ble_eq_true rfl) (fun o9 v_12 ρ_13 Z_14 hq9 _ => ?_)
  obtain ⟨rfl, hn_18, ω_11, hct_15, hT_16, hHc_17⟩ := hq9
  have hn_19 : Z_14.2.2 = (m + 5) := by omega
  clear hn_18
  have hp_20 : ∀ e, ω1 e ≠ 0 → ω_11 e = ω1 e := fun e he => ((hct_15 e (by have z9 := hH_6.lt (hp0 e he) he; omega) (fun q => he (by rw [← hp0 e he, q]; exact hz_7))).1).trans (hp0 e he)
  replace hf0 : ω_11 (ρ1 t 0) = 2 := ((hct_15 (ρ1 t 0) (by have := hH_6.lt hf0 (by decide); omega) (fun q => by have z := hf0; rw [q, hz_7] at z; exact absurd z (by decide))).1).trans hf0
  replace ht1 : ω_11 t = 0 := ((hct_15 t (by omega) (by omega)).1).trans ht1
  replace htk1 : Z_14.1 t = 11 := ((hct_15 t (by omega) (by omega)).2.2.2.1).trans htk1
  replace htl1 : Z_14.2.1 t = 0 := ((hct_15 t (by omega) (by omega)).2.2.2.2).trans htl1
  have hold_21 : Old n t ω v ρ Z ω_11 v_12 ρ_13 Z_14 := hold_10.ct hct_15 (by omega) (Or.inr (by omega))
  have holm_21 : Old m t ω1 v1 ρ1 Z1 ω_11 v_12 ρ_13 Z_14 := holm_10.ct hct_15 (by omega) (Or.inr (by omega))
  clear hz_7 hk_8 hl_9
  show wp g X F_X11_init 24 1266 57 [(2, t)] [(2, m), (2, t)] v_12 ρ_13 Z_14
  refine r_putRF (K := 11) (k := 3) (pc := 57) hX 27 rfl rfl (by decide) fw_X11_35 rfl rfl rfl rfl htk1 ht4 ?_
  have hH_22 : HT ω_11 v_12 (up ρ_13 t 3 m) Z_14 := hHc_17.uzr ht1
  have hold_23 : Old n t ω v ρ Z ω_11 v_12 (up ρ_13 t 3 m) Z_14 := hold_21.putr (Or.inl rfl)
  have holm_23 : Old m t ω1 v1 ρ1 Z1 ω_11 v_12 (up ρ_13 t 3 m) Z_14 := holm_21.putr (Or.inl rfl)
  show wp g X F_X11_init 24 1266 60 [(2, t)] [] v_12 (up ρ_13 t 3 m) Z_14
  exact c_X11_seg4 g X hX hRm hQ (m + 5) ω_11 v_12 (up ρ_13 t 3 m) Z_14 ⟨hn_19, by omega, hold_23, hH_22, htk1, htl1, ht1, fun k => (congrFun (hct_15 t (by omega) (by omega)).2.1 k).trans ((congrFun (hal_1.2.2.2.2.2 t (by omega)).1 k).trans (hv1 k)), fun j d j0 j1 hd => by
    by_cases e : j = 3
    · subst e; rw [up_s]; cases hd; exact hT_16
    · rw [up_k e, ((hct_15 t (by omega) (by omega)).2.2.1).trans (((hal_1.2.2.2.2.2 t (by omega)).2.1).trans (rfl))]
      have z := hro j d j0 (by omega) hd
      rw [hp_20 _ (by rw [z]; exact rf_ne0 hd)]; exact z, fun j hj => by
    rw [up_k (by omega), ((hct_15 t (by omega) (by omega)).2.2.1).trans (((hal_1.2.2.2.2.2 t (by omega)).2.1).trans (rfl))]; exact hr1 j (by omega), fun _ => by rw [show (up ρ_13 t 3 m) t 0 = ρ_13 t 0 from up_k (by decide), ((hct_15 t (by omega) (by omega)).2.2.1).trans (((hal_1.2.2.2.2.2 t (by omega)).2.1).trans (rfl))]; exact (congrFun (holm_23 (ρ1 t 0) fl0 fn0).2.1 1).trans (fz0 (by decide)), fun h => absurd h (by decide)⟩ ht4 htn (by omega)
set_option maxHeartbeats 4000000 in
set_option maxRecDepth 100000 in
theorem c_X11_seg2 (g : Gp) (X : Cx) {n t : Int} {ω : Rw} {v ρ : Mv} {Z : Mz} (hX : okX g X F_X11_init) (hRm : xR X = rmd 6 173 11940) (hQ : hQt g X (RwQ n t ω v ρ Z) 173 11940) (m : Int) (ω1 : Rw) (v1 ρ1 : Mv) (Z1 : Mz) (hI : RwI n t ω v ρ Z 2 m ω1 v1 ρ1 Z1) (ht4 : 4 ≤ t) (htn : t < n) (hmo : m = n + 15) : wp g X F_X11_init 15 1014 30 [(2, t)] [] v1 ρ1 Z1 := by
  obtain ⟨hm, hnm, hold1, hH1, htk1, htl1, ht1, hv1, hro, hr1, fz0, fz13⟩ := hI
  have holm1 : Old m t ω1 v1 ρ1 Z1 ω1 v1 ρ1 Z1 := Old.rf
  have fw0 : ω1 (ρ1 t 0) = 2 := hro 0 2 (by decide) (by decide) rfl
  have fl0 : ρ1 t 0 < m := by have := hH1.lt fw0 (by decide); omega
  have fn0 : ρ1 t 0 ≠ t := fun q => by rw [q, ht1] at fw0; exact absurd fw0 (by decide)
  have hp0 : ∀ e, ω1 e ≠ 0 → ω1 e = ω1 e := fun _ _ => rfl
  have hf0 : ω1 (ρ1 t 0) = 2 := hro 0 2 (by decide) (by decide) rfl
  have hlt0 : ρ1 t 0 < m := by have := hH1.lt hf0 (by decide); omega
  refine r_aload_n (pc := 30) hX 14 rfl rfl ?_
  refine r_newX (K := 1) (q := (RX1, TX1, 5)) (n := m) hX 15 hm rfl rfl cl_X11_25 in_X1 iz_X1 (by omega) (by rw [hRm]; exact Nat.le_of_ble_eq_true rfl) (by rw [hRm]; exact Nat.le_of_ble_eq_true rfl) (fun v_2 ρ_3 Z_4 hal_1 => ?_)
  have hn_5 : Z_4.2.2 = (m + 1) := by have := hal_1.1; omega
  have hH_6 : HT ω1 v_2 ρ_3 Z_4 := hH1.al hm (by omega) hal_1
  replace htk1 : Z_4.1 t = 11 := (hal_1.2.2.2.2.2 t (by omega)).2.2.1.trans htk1
  replace htl1 : Z_4.2.1 t = 0 := (hal_1.2.2.2.2.2 t (by omega)).2.2.2.trans htl1
  have hz_7 : ω1 m = 0 := hH1.z0 (by omega)
  have hk_8 : Z_4.1 m = 1 := hal_1.2.1
  have hl_9 : Z_4.2.1 m = 0 := hal_1.2.2.1
  have hold_10 : Old n t ω v ρ Z ω1 v_2 ρ_3 Z_4 := hold1.al0 hal_1 (by omega)
  have holm_10 : Old m t ω1 v1 ρ1 Z1 ω1 v_2 ρ_3 Z_4 := holm1.al0 hal_1 (by omega)
  clear hm
  show wp g X F_X11_init 16 1019 34 [(2, t)] [(2, m), (2, t)] v_2 ρ_3 Z_4
  refine r_dup (pc := 34) hX 16 rfl (show (2 : Nat) ≠ 1 by decide) ?_
  refine r_aload_n (pc := 35) hX 17 rfl rfl ?_
  refine r_getR (q := (ρ1 t 0)) (pc := 36) hX 18 rfl fl_X11_12 rfl htk1 ((congrFun (hal_1.2.2.2.2.2 t (by omega)).2.1 0).trans (rfl)) ?_
  refine r_callI (as := [(2, (ρ1 t 0))]) (st := [(2, m), (2, t)]) (pc := 39) hX 19 rfl mo_X1_init rfl rfl ml_X11_27 im_X1_init (c_X1_init g ω1 v_2 ρ_3 Z_4 hH_6 m hz_7 hk_8 hl_9 (by omega) (m + 1) hn_5 (by omega) (fun k => hal_1.2.2.2.1 k) (fun k => hal_1.2.2.2.2.1 k) (ρ1 t 0) hf0) rfl (by omega) (by rw [hRm]; exact ⟨Nat.le_of_ble_eq_true rfl, Nat.le_of_ble_eq_true rfl⟩) (by rw [hRm]; exact ⟨Nat.le_of_ble_eq_true rfl, Nat.le_of_ble_eq_true rfl⟩) (Nat.le_of_ble_eq_true rfl) (fun o9 v_12 ρ_13 Z_14 hq9 _ => ?_)
  obtain ⟨rfl, hn_18, ω_11, hct_15, hT_16, hHc_17⟩ := hq9
  have hn_19 : Z_14.2.2 = (m + 4) := by omega
  clear hn_18
  have hp_20 : ∀ e, ω1 e ≠ 0 → ω_11 e = ω1 e := fun e he => ((hct_15 e (by have z9 := hH_6.lt (hp0 e he) he; omega) (fun q => he (by rw [← hp0 e he, q]; exact hz_7))).1).trans (hp0 e he)
  replace hf0 : ω_11 (ρ1 t 0) = 2 := ((hct_15 (ρ1 t 0) (by have := hH_6.lt hf0 (by decide); omega) (fun q => by have z := hf0; rw [q, hz_7] at z; exact absurd z (by decide))).1).trans hf0
  replace ht1 : ω_11 t = 0 := ((hct_15 t (by omega) (by omega)).1).trans ht1
  replace htk1 : Z_14.1 t = 11 := ((hct_15 t (by omega) (by omega)).2.2.2.1).trans htk1
  replace htl1 : Z_14.2.1 t = 0 := ((hct_15 t (by omega) (by omega)).2.2.2.2).trans htl1
  have hold_21 : Old n t ω v ρ Z ω_11 v_12 ρ_13 Z_14 := hold_10.ct hct_15 (by omega) (Or.inr (by omega))
  have holm_21 : Old m t ω1 v1 ρ1 Z1 ω_11 v_12 ρ_13 Z_14 := holm_10.ct hct_15 (by omega) (Or.inr (by omega))
  clear hz_7 hk_8 hl_9
  show wp g X F_X11_init 19 1139 42 [(2, t)] [(2, m), (2, t)] v_12 ρ_13 Z_14
  refine r_putRF (K := 11) (k := 2) (pc := 42) hX 20 rfl rfl (by decide) fw_X11_28 rfl rfl rfl rfl htk1 ht4 ?_
  have hH_22 : HT ω_11 v_12 (up ρ_13 t 2 m) Z_14 := hHc_17.uzr ht1
  have hold_23 : Old n t ω v ρ Z ω_11 v_12 (up ρ_13 t 2 m) Z_14 := hold_21.putr (Or.inl rfl)
  have holm_23 : Old m t ω1 v1 ρ1 Z1 ω_11 v_12 (up ρ_13 t 2 m) Z_14 := holm_21.putr (Or.inl rfl)
  show wp g X F_X11_init 19 1139 45 [(2, t)] [] v_12 (up ρ_13 t 2 m) Z_14
  exact c_X11_seg3 g X hX hRm hQ (m + 4) ω_11 v_12 (up ρ_13 t 2 m) Z_14 ⟨hn_19, by omega, hold_23, hH_22, htk1, htl1, ht1, fun k => (congrFun (hct_15 t (by omega) (by omega)).2.1 k).trans ((congrFun (hal_1.2.2.2.2.2 t (by omega)).1 k).trans (hv1 k)), fun j d j0 j1 hd => by
    by_cases e : j = 2
    · subst e; rw [up_s]; cases hd; exact hT_16
    · rw [up_k e, ((hct_15 t (by omega) (by omega)).2.2.1).trans (((hal_1.2.2.2.2.2 t (by omega)).2.1).trans (rfl))]
      have z := hro j d j0 (by omega) hd
      rw [hp_20 _ (by rw [z]; exact rf_ne0 hd)]; exact z, fun j hj => by
    rw [up_k (by omega), ((hct_15 t (by omega) (by omega)).2.2.1).trans (((hal_1.2.2.2.2.2 t (by omega)).2.1).trans (rfl))]; exact hr1 j (by omega), fun _ => by rw [show (up ρ_13 t 2 m) t 0 = ρ_13 t 0 from up_k (by decide), ((hct_15 t (by omega) (by omega)).2.2.1).trans (((hal_1.2.2.2.2.2 t (by omega)).2.1).trans (rfl))]; exact (congrFun (holm_23 (ρ1 t 0) fl0 fn0).2.1 1).trans (fz0 (by decide)), fun h => absurd h (by decide)⟩ ht4 htn (by omega)
set_option maxHeartbeats 4000000 in
set_option maxRecDepth 100000 in
theorem c_X11_seg1 (g : Gp) (X : Cx) {n t : Int} {ω : Rw} {v ρ : Mv} {Z : Mz} (hX : okX g X F_X11_init) (hRm : xR X = rmd 6 173 11940) (hQ : hQt g X (RwQ n t ω v ρ Z) 173 11940) (m : Int) (ω1 : Rw) (v1 ρ1 : Mv) (Z1 : Mz) (hI : RwI n t ω v ρ Z 1 m ω1 v1 ρ1 Z1) (ht4 : 4 ≤ t) (htn : t < n) (hmo : m = n + 2) : wp g X F_X11_init 2 951 15 [(2, t)] [] v1 ρ1 Z1 := by
  obtain ⟨hm, hnm, hold1, hH1, htk1, htl1, ht1, hv1, hro, hr1, fz0, fz13⟩ := hI
  have holm1 : Old m t ω1 v1 ρ1 Z1 ω1 v1 ρ1 Z1 := Old.rf
  have fw0 : ω1 (ρ1 t 0) = 2 := hro 0 2 (by decide) (by decide) rfl
  have fl0 : ρ1 t 0 < m := by have := hH1.lt fw0 (by decide); omega
  have fn0 : ρ1 t 0 ≠ t := fun q => by rw [q, ht1] at fw0; exact absurd fw0 (by decide)
  have hp0 : ∀ e, ω1 e ≠ 0 → ω1 e = ω1 e := fun _ _ => rfl
  have hf0 : ω1 (ρ1 t 0) = 2 := hro 0 2 (by decide) (by decide) rfl
  have hlt0 : ρ1 t 0 < m := by have := hH1.lt hf0 (by decide); omega
  refine r_aload_n (pc := 15) hX 7 rfl rfl ?_
  refine r_newX (K := 5) (q := (RX5, TX5, 4)) (n := m) hX 8 hm rfl rfl cl_X11_16 in_X5 iz_X5 (by omega) (by rw [hRm]; exact Nat.le_of_ble_eq_true rfl) (by rw [hRm]; exact Nat.le_of_ble_eq_true rfl) (fun v_2 ρ_3 Z_4 hal_1 => ?_)
  have hn_5 : Z_4.2.2 = (m + 1) := by have := hal_1.1; omega
  have hH_6 : HT ω1 v_2 ρ_3 Z_4 := hH1.al hm (by omega) hal_1
  replace htk1 : Z_4.1 t = 11 := (hal_1.2.2.2.2.2 t (by omega)).2.2.1.trans htk1
  replace htl1 : Z_4.2.1 t = 0 := (hal_1.2.2.2.2.2 t (by omega)).2.2.2.trans htl1
  have hz_7 : ω1 m = 0 := hH1.z0 (by omega)
  have hk_8 : Z_4.1 m = 5 := hal_1.2.1
  have hl_9 : Z_4.2.1 m = 0 := hal_1.2.2.1
  have hold_10 : Old n t ω v ρ Z ω1 v_2 ρ_3 Z_4 := hold1.al0 hal_1 (by omega)
  have holm_10 : Old m t ω1 v1 ρ1 Z1 ω1 v_2 ρ_3 Z_4 := holm1.al0 hal_1 (by omega)
  clear hm
  show wp g X F_X11_init 3 955 19 [(2, t)] [(2, m), (2, t)] v_2 ρ_3 Z_4
  refine r_dup (pc := 19) hX 9 rfl (show (2 : Nat) ≠ 1 by decide) ?_
  refine r_aload_n (pc := 20) hX 10 rfl rfl ?_
  refine r_getR (q := (ρ1 t 0)) (pc := 21) hX 11 rfl fl_X11_12 rfl htk1 ((congrFun (hal_1.2.2.2.2.2 t (by omega)).2.1 0).trans (rfl)) ?_
  refine r_callI (as := [(2, (ρ1 t 0))]) (st := [(2, m), (2, t)]) (pc := 24) hX 12 rfl mo_X5_init rfl rfl ml_X11_18 im_X5_init (c_X5_init g ω1 v_2 ρ_3 Z_4 hH_6 m hz_7 hk_8 hl_9 (by omega) (m + 1) hn_5 (by omega) (fun k => hal_1.2.2.2.1 k) (fun k => hal_1.2.2.2.2.1 k) (ρ1 t 0) hf0) rfl (by omega) (by rw [hRm]; exact ⟨Nat.le_of_ble_eq_true rfl, Nat.le_of_ble_eq_true rfl⟩) (by rw [hRm]; exact ⟨Nat.le_of_ble_eq_true rfl, Nat.le_of_ble_eq_true rfl⟩) (Nat.le_of_ble_eq_true rfl) (fun o9 v_12 ρ_13 Z_14 hq9 _ => ?_)
  obtain ⟨rfl, hn_18, ω_11, hct_15, hT_16, hHc_17⟩ := hq9
  have hn_19 : Z_14.2.2 = (m + 13) := by omega
  clear hn_18
  have hp_20 : ∀ e, ω1 e ≠ 0 → ω_11 e = ω1 e := fun e he => ((hct_15 e (by have z9 := hH_6.lt (hp0 e he) he; omega) (fun q => he (by rw [← hp0 e he, q]; exact hz_7))).1).trans (hp0 e he)
  replace hf0 : ω_11 (ρ1 t 0) = 2 := ((hct_15 (ρ1 t 0) (by have := hH_6.lt hf0 (by decide); omega) (fun q => by have z := hf0; rw [q, hz_7] at z; exact absurd z (by decide))).1).trans hf0
  replace ht1 : ω_11 t = 0 := ((hct_15 t (by omega) (by omega)).1).trans ht1
  replace htk1 : Z_14.1 t = 11 := ((hct_15 t (by omega) (by omega)).2.2.2.1).trans htk1
  replace htl1 : Z_14.2.1 t = 0 := ((hct_15 t (by omega) (by omega)).2.2.2.2).trans htl1
  have hold_21 : Old n t ω v ρ Z ω_11 v_12 ρ_13 Z_14 := hold_10.ct hct_15 (by omega) (Or.inr (by omega))
  have holm_21 : Old m t ω1 v1 ρ1 Z1 ω_11 v_12 ρ_13 Z_14 := holm_10.ct hct_15 (by omega) (Or.inr (by omega))
  clear hz_7 hk_8 hl_9
  show wp g X F_X11_init 15 1014 27 [(2, t)] [(2, m), (2, t)] v_12 ρ_13 Z_14
  refine r_putRF (K := 11) (k := 1) (pc := 27) hX 13 rfl rfl (by decide) fw_X11_21 rfl rfl rfl rfl htk1 ht4 ?_
  have hH_22 : HT ω_11 v_12 (up ρ_13 t 1 m) Z_14 := hHc_17.uzr ht1
  have hold_23 : Old n t ω v ρ Z ω_11 v_12 (up ρ_13 t 1 m) Z_14 := hold_21.putr (Or.inl rfl)
  have holm_23 : Old m t ω1 v1 ρ1 Z1 ω_11 v_12 (up ρ_13 t 1 m) Z_14 := holm_21.putr (Or.inl rfl)
  show wp g X F_X11_init 15 1014 30 [(2, t)] [] v_12 (up ρ_13 t 1 m) Z_14
  exact c_X11_seg2 g X hX hRm hQ (m + 13) ω_11 v_12 (up ρ_13 t 1 m) Z_14 ⟨hn_19, by omega, hold_23, hH_22, htk1, htl1, ht1, fun k => (congrFun (hct_15 t (by omega) (by omega)).2.1 k).trans ((congrFun (hal_1.2.2.2.2.2 t (by omega)).1 k).trans (hv1 k)), fun j d j0 j1 hd => by
    by_cases e : j = 1
    · subst e; rw [up_s]; cases hd; exact hT_16
    · rw [up_k e, ((hct_15 t (by omega) (by omega)).2.2.1).trans (((hal_1.2.2.2.2.2 t (by omega)).2.1).trans (rfl))]
      have z := hro j d j0 (by omega) hd
      rw [hp_20 _ (by rw [z]; exact rf_ne0 hd)]; exact z, fun j hj => by
    rw [up_k (by omega), ((hct_15 t (by omega) (by omega)).2.2.1).trans (((hal_1.2.2.2.2.2 t (by omega)).2.1).trans (rfl))]; exact hr1 j (by omega), fun _ => by rw [show (up ρ_13 t 1 m) t 0 = ρ_13 t 0 from up_k (by decide), ((hct_15 t (by omega) (by omega)).2.2.1).trans (((hal_1.2.2.2.2.2 t (by omega)).2.1).trans (rfl))]; exact (congrFun (holm_23 (ρ1 t 0) fl0 fn0).2.1 1).trans (fz0 (by decide)), fun h => absurd h (by decide)⟩ ht4 htn (by omega)
set_option maxHeartbeats 4000000 in
set_option maxRecDepth 100000 in
theorem c_X11_seg0 (g : Gp) (X : Cx) {n t : Int} {ω : Rw} {v ρ : Mv} {Z : Mz} (hX : okX g X F_X11_init) (hRm : xR X = rmd 6 173 11940) (hQ : hQt g X (RwQ n t ω v ρ Z) 173 11940) (m : Int) (ω1 : Rw) (v1 ρ1 : Mv) (Z1 : Mz) (hI : RwI n t ω v ρ Z 0 m ω1 v1 ρ1 Z1) (ht4 : 4 ≤ t) (htn : t < n) (hmo : m = n + 0) : wp g X F_X11_init 0 0 4 [(2, t)] [] v1 ρ1 Z1 := by
  obtain ⟨hm, hnm, hold1, hH1, htk1, htl1, ht1, hv1, hro, hr1, fz0, fz13⟩ := hI
  have holm1 : Old m t ω1 v1 ρ1 Z1 ω1 v1 ρ1 Z1 := Old.rf
  have hp0 : ∀ e, ω1 e ≠ 0 → ω1 e = ω1 e := fun _ _ => rfl
  refine r_aload_n (pc := 4) hX 2 rfl rfl ?_
  refine r_newX (K := 8) (q := (RX8, TX8, 11)) (n := m) hX 3 hm rfl rfl cl_X11_9 in_X8 iz_X8 (by omega) (by rw [hRm]; exact Nat.le_of_ble_eq_true rfl) (by rw [hRm]; exact Nat.le_of_ble_eq_true rfl) (fun v_2 ρ_3 Z_4 hal_1 => ?_)
  have hn_5 : Z_4.2.2 = (m + 1) := by have := hal_1.1; omega
  have hH_6 : HT ω1 v_2 ρ_3 Z_4 := hH1.al hm (by omega) hal_1
  replace htk1 : Z_4.1 t = 11 := (hal_1.2.2.2.2.2 t (by omega)).2.2.1.trans htk1
  replace htl1 : Z_4.2.1 t = 0 := (hal_1.2.2.2.2.2 t (by omega)).2.2.2.trans htl1
  have hz_7 : ω1 m = 0 := hH1.z0 (by omega)
  have hk_8 : Z_4.1 m = 8 := hal_1.2.1
  have hl_9 : Z_4.2.1 m = 0 := hal_1.2.2.1
  have hold_10 : Old n t ω v ρ Z ω1 v_2 ρ_3 Z_4 := hold1.al0 hal_1 (by omega)
  have holm_10 : Old m t ω1 v1 ρ1 Z1 ω1 v_2 ρ_3 Z_4 := holm1.al0 hal_1 (by omega)
  clear hm
  show wp g X F_X11_init 1 11 8 [(2, t)] [(2, m), (2, t)] v_2 ρ_3 Z_4
  refine r_dup (pc := 8) hX 4 rfl (show (2 : Nat) ≠ 1 by decide) ?_
  refine r_callIN (as := []) (st := [(2, m), (2, t)]) (pc := 9) hX 5 rfl mo_X8_init rfl rfl mn_X11_11 pn_X8_init im_X8_init (c_X8_init g ω1 v_2 ρ_3 Z_4 hH_6 m hz_7 hk_8 hl_9 (by omega) (m + 1) hn_5 (by omega) (fun k => hal_1.2.2.2.1 k) (fun k => hal_1.2.2.2.2.1 k) ) rfl (by omega) (by rw [hRm]; exact ⟨Nat.le_of_ble_eq_true rfl, Nat.le_of_ble_eq_true rfl⟩) (by rw [hRm]; exact ⟨Nat.le_of_ble_eq_true rfl, Nat.le_of_ble_eq_true rfl⟩) (Nat.le_of_ble_eq_true rfl) (fun o9 v_12 ρ_13 Z_14 hq9 _ => ?_)
  obtain ⟨rfl, hn_18, ω_11, hct_15, hT_16, hHc_17, fz1⟩ := hq9
  have hn_19 : Z_14.2.2 = (m + 2) := by omega
  clear hn_18
  have hp_20 : ∀ e, ω1 e ≠ 0 → ω_11 e = ω1 e := fun e he => ((hct_15 e (by have z9 := hH_6.lt (hp0 e he) he; omega) (fun q => he (by rw [← hp0 e he, q]; exact hz_7))).1).trans (hp0 e he)
  replace ht1 : ω_11 t = 0 := ((hct_15 t (by omega) (by omega)).1).trans ht1
  replace htk1 : Z_14.1 t = 11 := ((hct_15 t (by omega) (by omega)).2.2.2.1).trans htk1
  replace htl1 : Z_14.2.1 t = 0 := ((hct_15 t (by omega) (by omega)).2.2.2.2).trans htl1
  have hold_21 : Old n t ω v ρ Z ω_11 v_12 ρ_13 Z_14 := hold_10.ct hct_15 (by omega) (Or.inr (by omega))
  have holm_21 : Old m t ω1 v1 ρ1 Z1 ω_11 v_12 ρ_13 Z_14 := holm_10.ct hct_15 (by omega) (Or.inr (by omega))
  clear hz_7 hk_8 hl_9
  show wp g X F_X11_init 2 951 12 [(2, t)] [(2, m), (2, t)] v_12 ρ_13 Z_14
  refine r_putRF (K := 11) (k := 0) (pc := 12) hX 6 rfl rfl (by decide) fw_X11_12 rfl rfl rfl rfl htk1 ht4 ?_
  have hH_22 : HT ω_11 v_12 (up ρ_13 t 0 m) Z_14 := hHc_17.uzr ht1
  have hold_23 : Old n t ω v ρ Z ω_11 v_12 (up ρ_13 t 0 m) Z_14 := hold_21.putr (Or.inl rfl)
  have holm_23 : Old m t ω1 v1 ρ1 Z1 ω_11 v_12 (up ρ_13 t 0 m) Z_14 := holm_21.putr (Or.inl rfl)
  show wp g X F_X11_init 2 951 15 [(2, t)] [] v_12 (up ρ_13 t 0 m) Z_14
  exact c_X11_seg1 g X hX hRm hQ (m + 2) ω_11 v_12 (up ρ_13 t 0 m) Z_14 ⟨hn_19, by omega, hold_23, hH_22, htk1, htl1, ht1, fun k => (congrFun (hct_15 t (by omega) (by omega)).2.1 k).trans ((congrFun (hal_1.2.2.2.2.2 t (by omega)).1 k).trans (hv1 k)), fun j d j0 j1 hd => by
    by_cases e : j = 0
    · subst e; rw [up_s]; cases hd; exact hT_16
    · rw [up_k e, ((hct_15 t (by omega) (by omega)).2.2.1).trans (((hal_1.2.2.2.2.2 t (by omega)).2.1).trans (rfl))]
      have z := hro j d j0 (by omega) hd
      rw [hp_20 _ (by rw [z]; exact rf_ne0 hd)]; exact z, fun j hj => by
    rw [up_k (by omega), ((hct_15 t (by omega) (by omega)).2.2.1).trans (((hal_1.2.2.2.2.2 t (by omega)).2.1).trans (rfl))]; exact hr1 j (by omega), fun _ => by rw [up_s]; exact fz1, fun h => absurd h (by decide)⟩ ht4 htn (by omega)
set_option maxRecDepth 100000 in
theorem c_X11_init (g : Gp) (ω : Rw) (v ρ : Mv) (Z : Mz) (hH : HT ω v ρ Z) (t : Int) (ht : ω t = 0) (htk : Z.1 t = 11) (htl : Z.2.1 t = 0) (ht4 : 4 ≤ t) (n : Int) (hn : Z.2.2 = n) (htn : t < n) (hv0 : ∀ k, v t k = 0) (hr0 : ∀ k, ρ t k = -1) : Ok g 6 173 11940 F_X11_init [(2, t)] v ρ Z (RwQ n t ω v ρ Z) := by
  refine Ok.of mo_X11_init (Nat.le_of_ble_eq_true rfl) ?_
  intro X hX hRm hxn hQ
  show wp g X F_X11_init 0 0 0 [(2, t)] [] v ρ Z
  refine r_aload_n (pc := 0) hX 0 rfl rfl ?_
  refine r_objInit (pc := 1) hX 1 rfl (by omega) oi_X11 oi_in oi_cd (by rw [hRm]; exact Nat.le_of_ble_eq_true rfl) (by rw [hRm]; exact Nat.le_of_ble_eq_true rfl) rfl ?_
  exact c_X11_seg0 g X hX hRm hQ n ω v ρ Z ⟨hn, Int.le_refl _, Old.rf, hH, htk, htl, ht, hv0, fun j d a b => by omega, fun j _ => hr0 j, fun h => absurd h (by decide), fun h => absurd h (by decide)⟩ ht4 htn (by omega)
