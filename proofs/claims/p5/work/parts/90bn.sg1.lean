def RwK (n t : Int) (ω : Rw) (v ρ : Mv) (Z : Mz) (k : Nat) (m : Int) (ω1 : Rw) (v1 ρ1 : Mv) (Z1 : Mz) : Prop := Z1.2.2 = m ∧ n ≤ m ∧ Old n t ω v ρ Z ω1 v1 ρ1 Z1 ∧ HT ω1 v1 ρ1 Z1 ∧ Z1.1 t = 11 ∧ Z1.2.1 t = 0 ∧ ω1 t = 0 ∧ (∀ k, v1 t k = 0) ∧ (∀ j d, 0 ≤ j → j < (k : Int) → rfO 1 j = some d → ω1 (ρ1 t j) = d) ∧ (∀ j, (k : Int) ≤ j → ρ1 t j = -1) ∧ (1 ≤ k → v1 (ρ1 t 0) 1 = 0) ∧ (14 ≤ k → ∀ j, v1 (ρ1 t 13) j = 0) ∧ (2 ≤ k → ρ1 (ρ1 t 1) 0 = ρ1 t 0) ∧ StJ k v1 ρ1 t
def RwQG (n t : Int) (ω : Rw) (v ρ : Mv) (Z : Mz) : Option V2 → Mv → Mv → Mz → Prop := fun o9 v' ρ' Z' => o9 = none ∧ Z'.2.2 = n + 173 ∧ ∃ ω' : Rw, Old n t ω v ρ Z ω' v' ρ' Z' ∧ ω' t = 1 ∧ HT ω' v' ρ' Z' ∧ v' (ρ' t 0) 1 = 0 ∧ (∀ j, v' (ρ' t 13) j = 0) ∧ ρ' (ρ' t 1) 0 = ρ' t 0 ∧ StJ 17 v' ρ' t
set_option maxRecDepth 100000 in
theorem c_X11_sgG17 (g : Gp) (X : Cx) {n t : Int} {ω : Rw} {v ρ : Mv} {Z : Mz} (hX : okX g X F_X11_init) (hRm : xR X = rmd 6 173 11940) (hQ : hQt g X (RwQG n t ω v ρ Z) 173 11940) (m : Int) (ω1 : Rw) (v1 ρ1 : Mv) (Z1 : Mz) (hI : RwK n t ω v ρ Z 17 m ω1 v1 ρ1 Z1) (ht4 : 4 ≤ t) (htn : t < n) (hmo : m = n + 173) : wp g X F_X11_init 173 11940 289 [(2, t)] [] v1 ρ1 Z1 := by
  obtain ⟨hm, hnm, hold1, hH1, htk1, htl1, ht1, hv1, hro, hr1, fz0, fz13, fzt, hst⟩ := hI
  exact r_vret (pc := 289) hX 153 hQ rfl rfl (Nat.le_of_ble_eq_true rfl) (Nat.le_of_ble_eq_true rfl) ⟨rfl, by omega, setR ω1 t 1, hold1.set, setR_s, hH1.add ht1 ⟨ht4, by omega, by rw [htk1]; rfl, by rw [htl1]; rfl, (fun k a b hh => by cases hh), (fun k e hh => by
    have hk : 0 ≤ k ∧ k < 17 := by have := rfL1 hh; omega
    have z := hro k e hk.1 (by omega) hh
    rw [setR_ne (fun q => by rw [q, ht1] at z; exact rf_ne0 hh z.symm)]; exact z), (fun k e hh => by
    obtain ⟨rfl, rfl⟩ := rnL1 hh
    exact Or.inl (by rw [hr1 17 (by decide)]; decide))⟩, fz0 (by decide), fz13 (by decide), fzt (by decide), hst⟩
set_option maxHeartbeats 4000000 in
set_option maxRecDepth 100000 in
theorem c_X11_sgG16 (g : Gp) (X : Cx) {n t : Int} {ω : Rw} {v ρ : Mv} {Z : Mz} (hX : okX g X F_X11_init) (hRm : xR X = rmd 6 173 11940) (hQ : hQt g X (RwQG n t ω v ρ Z) 173 11940) (m : Int) (ω1 : Rw) (v1 ρ1 : Mv) (Z1 : Mz) (hI : RwK n t ω v ρ Z 16 m ω1 v1 ρ1 Z1) (ht4 : 4 ≤ t) (htn : t < n) (hmo : m = n + 172) : wp g X F_X11_init 172 11936 266 [(2, t)] [] v1 ρ1 Z1 := by
  obtain ⟨hm, hnm, hold1, hH1, htk1, htl1, ht1, hv1, hro, hr1, fz0, fz13, fzt, hst⟩ := hI
  have hm0 := hm
  have ht10 := ht1
  have holm1 : Old m t ω1 v1 ρ1 Z1 ω1 v1 ρ1 Z1 := Old.rf
  have fw1 : ω1 (ρ1 t 1) = 4 := hro 1 4 (by decide) (by decide) rfl
  have fl1 : ρ1 t 1 < m := by have := hH1.lt fw1 (by decide); omega
  have fn1 : ρ1 t 1 ≠ t := fun q => by rw [q, ht1] at fw1; exact absurd fw1 (by decide)
  have fw0 : ω1 (ρ1 t 0) = 2 := hro 0 2 (by decide) (by decide) rfl
  have fl0 : ρ1 t 0 < m := by have := hH1.lt fw0 (by decide); omega
  have fn0 : ρ1 t 0 ≠ t := fun q => by rw [q, ht1] at fw0; exact absurd fw0 (by decide)
  have fw13 : ω1 (ρ1 t 13) = 62 := hro 13 62 (by decide) (by decide) rfl
  have fl13 : ρ1 t 13 < m := by have := hH1.lt fw13 (by decide); omega
  have fn13 : ρ1 t 13 ≠ t := fun q => by rw [q, ht1] at fw13; exact absurd fw13 (by decide)
  have hp0 : ∀ e, ω1 e ≠ 0 → ω1 e = ω1 e := fun _ _ => rfl
  refine r_aload_n (pc := 266) hX 133 rfl rfl ?_
  refine r_iconst (pc := 267) hX 134 rfl ?_
  refine r_newaX hX 135 13 4 (n := m) hm rfl rfl (by decide) (by decide) ac_int (by decide) (by omega) (by rw [hRm]; exact Nat.le_of_ble_eq_true rfl) (by rw [hRm]; exact Nat.le_of_ble_eq_true rfl) (fun v_2 ρ_3 Z_4 hal_1 => ?_)
  have hn_5 : Z_4.2.2 = (m + 1) := by have := hal_1.1; omega
  obtain ⟨ω_6, ho_7, hw_8, hH_9⟩ := hH1.alR hm (by omega) 65 hal_1 rfl rfl (fun k a b h => by cases h) (fun _ => rfl)
  have hp_10 : ∀ e, ω1 e ≠ 0 → ω_6 e = ω1 e := fun e he => (ho_7 e (by have z9 := hH1.lt (hp0 e he) he; omega)).trans (hp0 e he)
  replace ht1 : ω_6 t = 0 := (ho_7 t (by omega)).trans ht1
  replace htk1 : Z_4.1 t = 11 := ((hal_1.2.2.2.2.2 t (by omega)).2.2.1).trans htk1
  replace htl1 : Z_4.2.1 t = 0 := ((hal_1.2.2.2.2.2 t (by omega)).2.2.2).trans htl1
  have hold_11 : Old n t ω v ρ Z ω_6 v_2 ρ_3 Z_4 := hold1.al ho_7 hal_1 (by omega)
  have holm_11 : Old m t ω1 v1 ρ1 Z1 ω_6 v_2 ρ_3 Z_4 := holm1.al ho_7 hal_1 (by omega)
  clear hm
  show wp g X F_X11_init 173 11940 270 [(2, t)] [(2, m), (2, t)] v_2 ρ_3 Z_4
  refine r_dup (pc := 270) hX 136 rfl (show (2 : Nat) ≠ 1 by decide) ?_
  refine r_iconst (pc := 271) hX 137 rfl ?_
  refine r_iconst (pc := 272) hX 138 rfl ?_
  refine e_iast (n := 4) (pc := 273) hX 139 rfl (hH_9.kd hw_8 (by decide)) (hH_9.ln hw_8 (by decide)) (by omega) (by decide) (by decide) ?_
  have hH_12 : HT ω_6 (up v_2 m 0 (-1)) ρ_3 Z_4 := hH_9.up0 hw_8 (by decide) rfl
  have hold_13 : Old n t ω v ρ Z ω_6 (up v_2 m 0 (-1)) ρ_3 Z_4 := hold_11.put (Or.inr (by omega))
  have holm_13 : Old m t ω1 v1 ρ1 Z1 ω_6 (up v_2 m 0 (-1)) ρ_3 Z_4 := holm_11.put (Or.inr (by omega))
  refine r_dup (pc := 274) hX 140 rfl (show (2 : Nat) ≠ 1 by decide) ?_
  refine r_iconst (pc := 275) hX 141 rfl ?_
  refine r_iconst (pc := 276) hX 142 rfl ?_
  refine e_iast (n := 4) (pc := 277) hX 143 rfl (hH_12.kd hw_8 (by decide)) (hH_12.ln hw_8 (by decide)) (by omega) (by decide) (by decide) ?_
  have hH_14 : HT ω_6 (up (up v_2 m 0 (-1)) m 1 (-1)) ρ_3 Z_4 := hH_12.up0 hw_8 (by decide) rfl
  have hold_15 : Old n t ω v ρ Z ω_6 (up (up v_2 m 0 (-1)) m 1 (-1)) ρ_3 Z_4 := hold_13.put (Or.inr (by omega))
  have holm_15 : Old m t ω1 v1 ρ1 Z1 ω_6 (up (up v_2 m 0 (-1)) m 1 (-1)) ρ_3 Z_4 := holm_13.put (Or.inr (by omega))
  refine r_dup (pc := 278) hX 144 rfl (show (2 : Nat) ≠ 1 by decide) ?_
  refine r_iconst (pc := 279) hX 145 rfl ?_
  refine r_iconst (pc := 280) hX 146 rfl ?_
  refine e_iast (n := 4) (pc := 281) hX 147 rfl (hH_14.kd hw_8 (by decide)) (hH_14.ln hw_8 (by decide)) (by omega) (by decide) (by decide) ?_
  have hH_16 : HT ω_6 (up (up (up v_2 m 0 (-1)) m 1 (-1)) m 2 (-1)) ρ_3 Z_4 := hH_14.up0 hw_8 (by decide) rfl
  have hold_17 : Old n t ω v ρ Z ω_6 (up (up (up v_2 m 0 (-1)) m 1 (-1)) m 2 (-1)) ρ_3 Z_4 := hold_15.put (Or.inr (by omega))
  have holm_17 : Old m t ω1 v1 ρ1 Z1 ω_6 (up (up (up v_2 m 0 (-1)) m 1 (-1)) m 2 (-1)) ρ_3 Z_4 := holm_15.put (Or.inr (by omega))
  refine r_dup (pc := 282) hX 148 rfl (show (2 : Nat) ≠ 1 by decide) ?_
  refine r_iconst (pc := 283) hX 149 rfl ?_
  refine r_iconst (pc := 284) hX 150 rfl ?_
  refine e_iast (n := 4) (pc := 285) hX 151 rfl (hH_16.kd hw_8 (by decide)) (hH_16.ln hw_8 (by decide)) (by omega) (by decide) (by decide) ?_
  have hH_18 : HT ω_6 (up (up (up (up v_2 m 0 (-1)) m 1 (-1)) m 2 (-1)) m 3 (-1)) ρ_3 Z_4 := hH_16.up0 hw_8 (by decide) rfl
  have hold_19 : Old n t ω v ρ Z ω_6 (up (up (up (up v_2 m 0 (-1)) m 1 (-1)) m 2 (-1)) m 3 (-1)) ρ_3 Z_4 := hold_17.put (Or.inr (by omega))
  have holm_19 : Old m t ω1 v1 ρ1 Z1 ω_6 (up (up (up (up v_2 m 0 (-1)) m 1 (-1)) m 2 (-1)) m 3 (-1)) ρ_3 Z_4 := holm_17.put (Or.inr (by omega))
  refine r_putRF (K := 11) (k := 16) (pc := 286) hX 152 rfl rfl (by decide) fw_X11_112 rfl rfl rfl rfl htk1 ht4 ?_
  have hH_20 : HT ω_6 (up (up (up (up v_2 m 0 (-1)) m 1 (-1)) m 2 (-1)) m 3 (-1)) (up ρ_3 t 16 m) Z_4 := hH_18.uzr ht1
  have hold_21 : Old n t ω v ρ Z ω_6 (up (up (up (up v_2 m 0 (-1)) m 1 (-1)) m 2 (-1)) m 3 (-1)) (up ρ_3 t 16 m) Z_4 := hold_19.putr (Or.inl rfl)
  have holm_21 : Old m t ω1 v1 ρ1 Z1 ω_6 (up (up (up (up v_2 m 0 (-1)) m 1 (-1)) m 2 (-1)) m 3 (-1)) (up ρ_3 t 16 m) Z_4 := holm_19.putr (Or.inl rfl)
  show wp g X F_X11_init 173 11940 289 [(2, t)] [] (up (up (up (up v_2 m 0 (-1)) m 1 (-1)) m 2 (-1)) m 3 (-1)) (up ρ_3 t 16 m) Z_4
  exact c_X11_sgG17 g X hX hRm hQ (m + 1) ω_6 (up (up (up (up v_2 m 0 (-1)) m 1 (-1)) m 2 (-1)) m 3 (-1)) (up ρ_3 t 16 m) Z_4 ⟨hn_5, by omega, hold_21, hH_20, htk1, htl1, ht1, fun k => (up_r (by omega)).trans ((up_r (by omega)).trans ((up_r (by omega)).trans ((up_r (by omega)).trans ((congrFun (hal_1.2.2.2.2.2 t (by omega)).1 k).trans (hv1 k))))), fun j d j0 j1 hd => by
    by_cases e : j = 16
    · subst e; rw [up_s]; cases hd; exact hw_8
    · rw [up_k e, ((hal_1.2.2.2.2.2 t (by omega)).2.1).trans (rfl)]
      have z := hro j d j0 (by omega) hd
      rw [hp_10 _ (by rw [z]; exact rf_ne0 hd)]; exact z, fun j hj => by
    rw [up_k (by omega), ((hal_1.2.2.2.2.2 t (by omega)).2.1).trans (rfl)]; exact hr1 j (by omega), fun _ => by rw [show (up ρ_3 t 16 m) t 0 = ρ_3 t 0 from up_k (by decide), ((hal_1.2.2.2.2.2 t (by omega)).2.1).trans (rfl)]; exact (congrFun (holm_21 (ρ1 t 0) fl0 fn0).2.1 1).trans (fz0 (by decide)), fun _ => fun j => by rw [show (up ρ_3 t 16 m) t 13 = ρ_3 t 13 from up_k (by decide), ((hal_1.2.2.2.2.2 t (by omega)).2.1).trans (rfl)]; exact (congrFun (holm_21 (ρ1 t 13) fl13 fn13).2.1 j).trans (fz13 (by decide) j), fun _ => by rw [show (up ρ_3 t 16 m) t 1 = ρ_3 t 1 from up_k (by decide), ((hal_1.2.2.2.2.2 t (by omega)).2.1).trans (rfl), show (up ρ_3 t 16 m) t 0 = ρ_3 t 0 from up_k (by decide), ((hal_1.2.2.2.2.2 t (by omega)).2.1).trans (rfl)]; exact (congrFun (holm_21 (ρ1 t 1) fl1 fn1).2.2.1 0).trans (fzt (by decide)), StJ.next hst hH1 hm0 ht10 hro holm_21 (fun j hj => (up_k (by omega)).trans (congrFun (((hal_1.2.2.2.2.2 t (by omega)).2.1).trans (rfl)) j)) (fun e => absurd e (by decide)) (fun e => absurd e (by decide)) (fun e => absurd e (by decide)) (fun e => absurd e (by decide)) (fun e => absurd e (by decide)) (fun e => absurd e (by decide))⟩ ht4 htn (by omega)
set_option maxHeartbeats 4000000 in
set_option maxRecDepth 100000 in
theorem c_X11_sgG15 (g : Gp) (X : Cx) {n t : Int} {ω : Rw} {v ρ : Mv} {Z : Mz} (hX : okX g X F_X11_init) (hRm : xR X = rmd 6 173 11940) (hQ : hQt g X (RwQG n t ω v ρ Z) 173 11940) (m : Int) (ω1 : Rw) (v1 ρ1 : Mv) (Z1 : Mz) (hI : RwK n t ω v ρ Z 15 m ω1 v1 ρ1 Z1) (ht4 : 4 ≤ t) (htn : t < n) (hmo : m = n + 171) : wp g X F_X11_init 171 11933 259 [(2, t)] [] v1 ρ1 Z1 := by
  obtain ⟨hm, hnm, hold1, hH1, htk1, htl1, ht1, hv1, hro, hr1, fz0, fz13, fzt, hst⟩ := hI
  have hm0 := hm
  have ht10 := ht1
  have holm1 : Old m t ω1 v1 ρ1 Z1 ω1 v1 ρ1 Z1 := Old.rf
  have fw1 : ω1 (ρ1 t 1) = 4 := hro 1 4 (by decide) (by decide) rfl
  have fl1 : ρ1 t 1 < m := by have := hH1.lt fw1 (by decide); omega
  have fn1 : ρ1 t 1 ≠ t := fun q => by rw [q, ht1] at fw1; exact absurd fw1 (by decide)
  have fw0 : ω1 (ρ1 t 0) = 2 := hro 0 2 (by decide) (by decide) rfl
  have fl0 : ρ1 t 0 < m := by have := hH1.lt fw0 (by decide); omega
  have fn0 : ρ1 t 0 ≠ t := fun q => by rw [q, ht1] at fw0; exact absurd fw0 (by decide)
  have fw13 : ω1 (ρ1 t 13) = 62 := hro 13 62 (by decide) (by decide) rfl
  have fl13 : ρ1 t 13 < m := by have := hH1.lt fw13 (by decide); omega
  have fn13 : ρ1 t 13 ≠ t := fun q => by rw [q, ht1] at fw13; exact absurd fw13 (by decide)
  have hp0 : ∀ e, ω1 e ≠ 0 → ω1 e = ω1 e := fun _ _ => rfl
  refine r_aload_n (pc := 259) hX 129 rfl rfl ?_
  refine r_iconst (pc := 260) hX 130 rfl ?_
  refine r_newaX hX 131 13 3 (n := m) hm rfl rfl (by decide) (by decide) ac_int (by decide) (by omega) (by rw [hRm]; exact Nat.le_of_ble_eq_true rfl) (by rw [hRm]; exact Nat.le_of_ble_eq_true rfl) (fun v_2 ρ_3 Z_4 hal_1 => ?_)
  have hn_5 : Z_4.2.2 = (m + 1) := by have := hal_1.1; omega
  obtain ⟨ω_6, ho_7, hw_8, hH_9⟩ := hH1.alR hm (by omega) 64 hal_1 rfl rfl (fun k a b h => by cases h) (fun _ => rfl)
  have hp_10 : ∀ e, ω1 e ≠ 0 → ω_6 e = ω1 e := fun e he => (ho_7 e (by have z9 := hH1.lt (hp0 e he) he; omega)).trans (hp0 e he)
  replace ht1 : ω_6 t = 0 := (ho_7 t (by omega)).trans ht1
  replace htk1 : Z_4.1 t = 11 := ((hal_1.2.2.2.2.2 t (by omega)).2.2.1).trans htk1
  replace htl1 : Z_4.2.1 t = 0 := ((hal_1.2.2.2.2.2 t (by omega)).2.2.2).trans htl1
  have hold_11 : Old n t ω v ρ Z ω_6 v_2 ρ_3 Z_4 := hold1.al ho_7 hal_1 (by omega)
  have holm_11 : Old m t ω1 v1 ρ1 Z1 ω_6 v_2 ρ_3 Z_4 := holm1.al ho_7 hal_1 (by omega)
  clear hm
  show wp g X F_X11_init 172 11936 263 [(2, t)] [(2, m), (2, t)] v_2 ρ_3 Z_4
  refine r_putRF (K := 11) (k := 15) (pc := 263) hX 132 rfl rfl (by decide) fw_X11_109 rfl rfl rfl rfl htk1 ht4 ?_
  have hH_12 : HT ω_6 v_2 (up ρ_3 t 15 m) Z_4 := hH_9.uzr ht1
  have hold_13 : Old n t ω v ρ Z ω_6 v_2 (up ρ_3 t 15 m) Z_4 := hold_11.putr (Or.inl rfl)
  have holm_13 : Old m t ω1 v1 ρ1 Z1 ω_6 v_2 (up ρ_3 t 15 m) Z_4 := holm_11.putr (Or.inl rfl)
  show wp g X F_X11_init 172 11936 266 [(2, t)] [] v_2 (up ρ_3 t 15 m) Z_4
  exact c_X11_sgG16 g X hX hRm hQ (m + 1) ω_6 v_2 (up ρ_3 t 15 m) Z_4 ⟨hn_5, by omega, hold_13, hH_12, htk1, htl1, ht1, fun k => (congrFun (hal_1.2.2.2.2.2 t (by omega)).1 k).trans (hv1 k), fun j d j0 j1 hd => by
    by_cases e : j = 15
    · subst e; rw [up_s]; cases hd; exact hw_8
    · rw [up_k e, ((hal_1.2.2.2.2.2 t (by omega)).2.1).trans (rfl)]
      have z := hro j d j0 (by omega) hd
      rw [hp_10 _ (by rw [z]; exact rf_ne0 hd)]; exact z, fun j hj => by
    rw [up_k (by omega), ((hal_1.2.2.2.2.2 t (by omega)).2.1).trans (rfl)]; exact hr1 j (by omega), fun _ => by rw [show (up ρ_3 t 15 m) t 0 = ρ_3 t 0 from up_k (by decide), ((hal_1.2.2.2.2.2 t (by omega)).2.1).trans (rfl)]; exact (congrFun (holm_13 (ρ1 t 0) fl0 fn0).2.1 1).trans (fz0 (by decide)), fun _ => fun j => by rw [show (up ρ_3 t 15 m) t 13 = ρ_3 t 13 from up_k (by decide), ((hal_1.2.2.2.2.2 t (by omega)).2.1).trans (rfl)]; exact (congrFun (holm_13 (ρ1 t 13) fl13 fn13).2.1 j).trans (fz13 (by decide) j), fun _ => by rw [show (up ρ_3 t 15 m) t 1 = ρ_3 t 1 from up_k (by decide), ((hal_1.2.2.2.2.2 t (by omega)).2.1).trans (rfl), show (up ρ_3 t 15 m) t 0 = ρ_3 t 0 from up_k (by decide), ((hal_1.2.2.2.2.2 t (by omega)).2.1).trans (rfl)]; exact (congrFun (holm_13 (ρ1 t 1) fl1 fn1).2.2.1 0).trans (fzt (by decide)), StJ.next hst hH1 hm0 ht10 hro holm_13 (fun j hj => (up_k (by omega)).trans (congrFun (((hal_1.2.2.2.2.2 t (by omega)).2.1).trans (rfl)) j)) (fun e => absurd e (by decide)) (fun e => absurd e (by decide)) (fun e => absurd e (by decide)) (fun e => absurd e (by decide)) (fun e => absurd e (by decide)) (fun e => absurd e (by decide))⟩ ht4 htn (by omega)
set_option maxHeartbeats 4000000 in
set_option maxRecDepth 100000 in
theorem c_X11_sgG14 (g : Gp) (X : Cx) {n t : Int} {ω : Rw} {v ρ : Mv} {Z : Mz} (hX : okX g X F_X11_init) (hRm : xR X = rmd 6 173 11940) (hQ : hQt g X (RwQG n t ω v ρ Z) 173 11940) (m : Int) (ω1 : Rw) (v1 ρ1 : Mv) (Z1 : Mz) (hI : RwK n t ω v ρ Z 14 m ω1 v1 ρ1 Z1) (ht4 : 4 ≤ t) (htn : t < n) (hmo : m = n + 170) : wp g X F_X11_init 170 11930 240 [(2, t)] [] v1 ρ1 Z1 := by
  obtain ⟨hm, hnm, hold1, hH1, htk1, htl1, ht1, hv1, hro, hr1, fz0, fz13, fzt, hst⟩ := hI
  have hm0 := hm
  have ht10 := ht1
  have holm1 : Old m t ω1 v1 ρ1 Z1 ω1 v1 ρ1 Z1 := Old.rf
  have fw1 : ω1 (ρ1 t 1) = 4 := hro 1 4 (by decide) (by decide) rfl
  have fl1 : ρ1 t 1 < m := by have := hH1.lt fw1 (by decide); omega
  have fn1 : ρ1 t 1 ≠ t := fun q => by rw [q, ht1] at fw1; exact absurd fw1 (by decide)
  have fw0 : ω1 (ρ1 t 0) = 2 := hro 0 2 (by decide) (by decide) rfl
  have fl0 : ρ1 t 0 < m := by have := hH1.lt fw0 (by decide); omega
  have fn0 : ρ1 t 0 ≠ t := fun q => by rw [q, ht1] at fw0; exact absurd fw0 (by decide)
  have fw13 : ω1 (ρ1 t 13) = 62 := hro 13 62 (by decide) (by decide) rfl
  have fl13 : ρ1 t 13 < m := by have := hH1.lt fw13 (by decide); omega
  have fn13 : ρ1 t 13 ≠ t := fun q => by rw [q, ht1] at fw13; exact absurd fw13 (by decide)
  have hp0 : ∀ e, ω1 e ≠ 0 → ω1 e = ω1 e := fun _ _ => rfl
  refine r_aload_n (pc := 240) hX 113 rfl rfl ?_
  refine r_iconst (pc := 241) hX 114 rfl ?_
  refine r_newaX hX 115 13 3 (n := m) hm rfl rfl (by decide) (by decide) ac_int (by decide) (by omega) (by rw [hRm]; exact Nat.le_of_ble_eq_true rfl) (by rw [hRm]; exact Nat.le_of_ble_eq_true rfl) (fun v_2 ρ_3 Z_4 hal_1 => ?_)
  have hn_5 : Z_4.2.2 = (m + 1) := by have := hal_1.1; omega
  obtain ⟨ω_6, ho_7, hw_8, hH_9⟩ := hH1.alR hm (by omega) 63 hal_1 rfl rfl (fun k a b h => by cases h) (fun _ => rfl)
  have hp_10 : ∀ e, ω1 e ≠ 0 → ω_6 e = ω1 e := fun e he => (ho_7 e (by have z9 := hH1.lt (hp0 e he) he; omega)).trans (hp0 e he)
  replace ht1 : ω_6 t = 0 := (ho_7 t (by omega)).trans ht1
  replace htk1 : Z_4.1 t = 11 := ((hal_1.2.2.2.2.2 t (by omega)).2.2.1).trans htk1
  replace htl1 : Z_4.2.1 t = 0 := ((hal_1.2.2.2.2.2 t (by omega)).2.2.2).trans htl1
  have hold_11 : Old n t ω v ρ Z ω_6 v_2 ρ_3 Z_4 := hold1.al ho_7 hal_1 (by omega)
  have holm_11 : Old m t ω1 v1 ρ1 Z1 ω_6 v_2 ρ_3 Z_4 := holm1.al ho_7 hal_1 (by omega)
  clear hm
  show wp g X F_X11_init 171 11933 244 [(2, t)] [(2, m), (2, t)] v_2 ρ_3 Z_4
  refine r_dup (pc := 244) hX 116 rfl (show (2 : Nat) ≠ 1 by decide) ?_
  refine r_iconst (pc := 245) hX 117 rfl ?_
  refine r_iconst (pc := 246) hX 118 rfl ?_
  refine e_iast (n := 3) (pc := 247) hX 119 rfl (hH_9.kd hw_8 (by decide)) (hH_9.ln hw_8 (by decide)) (by omega) (by decide) (by decide) ?_
  have hH_12 : HT ω_6 (up v_2 m 0 (-1)) ρ_3 Z_4 := hH_9.up0 hw_8 (by decide) rfl
  have hold_13 : Old n t ω v ρ Z ω_6 (up v_2 m 0 (-1)) ρ_3 Z_4 := hold_11.put (Or.inr (by omega))
  have holm_13 : Old m t ω1 v1 ρ1 Z1 ω_6 (up v_2 m 0 (-1)) ρ_3 Z_4 := holm_11.put (Or.inr (by omega))
  refine r_dup (pc := 248) hX 120 rfl (show (2 : Nat) ≠ 1 by decide) ?_
  refine r_iconst (pc := 249) hX 121 rfl ?_
  refine r_iconst (pc := 250) hX 122 rfl ?_
  refine e_iast (n := 3) (pc := 251) hX 123 rfl (hH_12.kd hw_8 (by decide)) (hH_12.ln hw_8 (by decide)) (by omega) (by decide) (by decide) ?_
  have hH_14 : HT ω_6 (up (up v_2 m 0 (-1)) m 1 (-1)) ρ_3 Z_4 := hH_12.up0 hw_8 (by decide) rfl
  have hold_15 : Old n t ω v ρ Z ω_6 (up (up v_2 m 0 (-1)) m 1 (-1)) ρ_3 Z_4 := hold_13.put (Or.inr (by omega))
  have holm_15 : Old m t ω1 v1 ρ1 Z1 ω_6 (up (up v_2 m 0 (-1)) m 1 (-1)) ρ_3 Z_4 := holm_13.put (Or.inr (by omega))
  refine r_dup (pc := 252) hX 124 rfl (show (2 : Nat) ≠ 1 by decide) ?_
  refine r_iconst (pc := 253) hX 125 rfl ?_
  refine r_iconst (pc := 254) hX 126 rfl ?_
  refine e_iast (n := 3) (pc := 255) hX 127 rfl (hH_14.kd hw_8 (by decide)) (hH_14.ln hw_8 (by decide)) (by omega) (by decide) (by decide) ?_
  have hH_16 : HT ω_6 (up (up (up v_2 m 0 (-1)) m 1 (-1)) m 2 (-1)) ρ_3 Z_4 := hH_14.up0 hw_8 (by decide) rfl
  have hold_17 : Old n t ω v ρ Z ω_6 (up (up (up v_2 m 0 (-1)) m 1 (-1)) m 2 (-1)) ρ_3 Z_4 := hold_15.put (Or.inr (by omega))
  have holm_17 : Old m t ω1 v1 ρ1 Z1 ω_6 (up (up (up v_2 m 0 (-1)) m 1 (-1)) m 2 (-1)) ρ_3 Z_4 := holm_15.put (Or.inr (by omega))
  refine r_putRF (K := 11) (k := 14) (pc := 256) hX 128 rfl rfl (by decide) fw_X11_105 rfl rfl rfl rfl htk1 ht4 ?_
  have hH_18 : HT ω_6 (up (up (up v_2 m 0 (-1)) m 1 (-1)) m 2 (-1)) (up ρ_3 t 14 m) Z_4 := hH_16.uzr ht1
  have hold_19 : Old n t ω v ρ Z ω_6 (up (up (up v_2 m 0 (-1)) m 1 (-1)) m 2 (-1)) (up ρ_3 t 14 m) Z_4 := hold_17.putr (Or.inl rfl)
  have holm_19 : Old m t ω1 v1 ρ1 Z1 ω_6 (up (up (up v_2 m 0 (-1)) m 1 (-1)) m 2 (-1)) (up ρ_3 t 14 m) Z_4 := holm_17.putr (Or.inl rfl)
  show wp g X F_X11_init 171 11933 259 [(2, t)] [] (up (up (up v_2 m 0 (-1)) m 1 (-1)) m 2 (-1)) (up ρ_3 t 14 m) Z_4
  exact c_X11_sgG15 g X hX hRm hQ (m + 1) ω_6 (up (up (up v_2 m 0 (-1)) m 1 (-1)) m 2 (-1)) (up ρ_3 t 14 m) Z_4 ⟨hn_5, by omega, hold_19, hH_18, htk1, htl1, ht1, fun k => (up_r (by omega)).trans ((up_r (by omega)).trans ((up_r (by omega)).trans ((congrFun (hal_1.2.2.2.2.2 t (by omega)).1 k).trans (hv1 k)))), fun j d j0 j1 hd => by
    by_cases e : j = 14
    · subst e; rw [up_s]; cases hd; exact hw_8
    · rw [up_k e, ((hal_1.2.2.2.2.2 t (by omega)).2.1).trans (rfl)]
      have z := hro j d j0 (by omega) hd
      rw [hp_10 _ (by rw [z]; exact rf_ne0 hd)]; exact z, fun j hj => by
    rw [up_k (by omega), ((hal_1.2.2.2.2.2 t (by omega)).2.1).trans (rfl)]; exact hr1 j (by omega), fun _ => by rw [show (up ρ_3 t 14 m) t 0 = ρ_3 t 0 from up_k (by decide), ((hal_1.2.2.2.2.2 t (by omega)).2.1).trans (rfl)]; exact (congrFun (holm_19 (ρ1 t 0) fl0 fn0).2.1 1).trans (fz0 (by decide)), fun _ => fun j => by rw [show (up ρ_3 t 14 m) t 13 = ρ_3 t 13 from up_k (by decide), ((hal_1.2.2.2.2.2 t (by omega)).2.1).trans (rfl)]; exact (congrFun (holm_19 (ρ1 t 13) fl13 fn13).2.1 j).trans (fz13 (by decide) j), fun _ => by rw [show (up ρ_3 t 14 m) t 1 = ρ_3 t 1 from up_k (by decide), ((hal_1.2.2.2.2.2 t (by omega)).2.1).trans (rfl), show (up ρ_3 t 14 m) t 0 = ρ_3 t 0 from up_k (by decide), ((hal_1.2.2.2.2.2 t (by omega)).2.1).trans (rfl)]; exact (congrFun (holm_19 (ρ1 t 1) fl1 fn1).2.2.1 0).trans (fzt (by decide)), StJ.next hst hH1 hm0 ht10 hro holm_19 (fun j hj => (up_k (by omega)).trans (congrFun (((hal_1.2.2.2.2.2 t (by omega)).2.1).trans (rfl)) j)) (fun e => absurd e (by decide)) (fun e => absurd e (by decide)) (fun e => absurd e (by decide)) (fun e => absurd e (by decide)) (fun e => absurd e (by decide)) (fun e => absurd e (by decide))⟩ ht4 htn (by omega)
set_option maxHeartbeats 4000000 in
set_option maxRecDepth 100000 in
theorem c_X11_sgG13 (g : Gp) (X : Cx) {n t : Int} {ω : Rw} {v ρ : Mv} {Z : Mz} (hX : okX g X F_X11_init) (hRm : xR X = rmd 6 173 11940) (hQ : hQt g X (RwQG n t ω v ρ Z) 173 11940) (m : Int) (ω1 : Rw) (v1 ρ1 : Mv) (Z1 : Mz) (hI : RwK n t ω v ρ Z 13 m ω1 v1 ρ1 Z1) (ht4 : 4 ≤ t) (htn : t < n) (hmo : m = n + 169) : wp g X F_X11_init 169 11928 233 [(2, t)] [] v1 ρ1 Z1 := by
  obtain ⟨hm, hnm, hold1, hH1, htk1, htl1, ht1, hv1, hro, hr1, fz0, fz13, fzt, hst⟩ := hI
  have hm0 := hm
  have ht10 := ht1
  have holm1 : Old m t ω1 v1 ρ1 Z1 ω1 v1 ρ1 Z1 := Old.rf
  have fw1 : ω1 (ρ1 t 1) = 4 := hro 1 4 (by decide) (by decide) rfl
  have fl1 : ρ1 t 1 < m := by have := hH1.lt fw1 (by decide); omega
  have fn1 : ρ1 t 1 ≠ t := fun q => by rw [q, ht1] at fw1; exact absurd fw1 (by decide)
  have fw0 : ω1 (ρ1 t 0) = 2 := hro 0 2 (by decide) (by decide) rfl
  have fl0 : ρ1 t 0 < m := by have := hH1.lt fw0 (by decide); omega
  have fn0 : ρ1 t 0 ≠ t := fun q => by rw [q, ht1] at fw0; exact absurd fw0 (by decide)
  have hp0 : ∀ e, ω1 e ≠ 0 → ω1 e = ω1 e := fun _ _ => rfl
  refine r_aload_n (pc := 233) hX 109 rfl rfl ?_
  refine r_iconst (pc := 234) hX 110 rfl ?_
  refine r_newaX hX 111 16 2 (n := m) hm rfl rfl (by decide) (by decide) ac_boolean (by decide) (by omega) (by rw [hRm]; exact Nat.le_of_ble_eq_true rfl) (by rw [hRm]; exact Nat.le_of_ble_eq_true rfl) (fun v_2 ρ_3 Z_4 hal_1 => ?_)
  have hn_5 : Z_4.2.2 = (m + 1) := by have := hal_1.1; omega
  obtain ⟨ω_6, ho_7, hw_8, hH_9⟩ := hH1.alR hm (by omega) 62 hal_1 rfl rfl (fun k a b h => by cases h) (fun _ => rfl)
  have hp_10 : ∀ e, ω1 e ≠ 0 → ω_6 e = ω1 e := fun e he => (ho_7 e (by have z9 := hH1.lt (hp0 e he) he; omega)).trans (hp0 e he)
  replace ht1 : ω_6 t = 0 := (ho_7 t (by omega)).trans ht1
  replace htk1 : Z_4.1 t = 11 := ((hal_1.2.2.2.2.2 t (by omega)).2.2.1).trans htk1
  replace htl1 : Z_4.2.1 t = 0 := ((hal_1.2.2.2.2.2 t (by omega)).2.2.2).trans htl1
  have hold_11 : Old n t ω v ρ Z ω_6 v_2 ρ_3 Z_4 := hold1.al ho_7 hal_1 (by omega)
  have holm_11 : Old m t ω1 v1 ρ1 Z1 ω_6 v_2 ρ_3 Z_4 := holm1.al ho_7 hal_1 (by omega)
  clear hm
  show wp g X F_X11_init 170 11930 237 [(2, t)] [(2, m), (2, t)] v_2 ρ_3 Z_4
  refine r_putRF (K := 11) (k := 13) (pc := 237) hX 112 rfl rfl (by decide) fw_X11_101 rfl rfl rfl rfl htk1 ht4 ?_
  have hH_12 : HT ω_6 v_2 (up ρ_3 t 13 m) Z_4 := hH_9.uzr ht1
  have hold_13 : Old n t ω v ρ Z ω_6 v_2 (up ρ_3 t 13 m) Z_4 := hold_11.putr (Or.inl rfl)
  have holm_13 : Old m t ω1 v1 ρ1 Z1 ω_6 v_2 (up ρ_3 t 13 m) Z_4 := holm_11.putr (Or.inl rfl)
  show wp g X F_X11_init 170 11930 240 [(2, t)] [] v_2 (up ρ_3 t 13 m) Z_4
  exact c_X11_sgG14 g X hX hRm hQ (m + 1) ω_6 v_2 (up ρ_3 t 13 m) Z_4 ⟨hn_5, by omega, hold_13, hH_12, htk1, htl1, ht1, fun k => (congrFun (hal_1.2.2.2.2.2 t (by omega)).1 k).trans (hv1 k), fun j d j0 j1 hd => by
    by_cases e : j = 13
    · subst e; rw [up_s]; cases hd; exact hw_8
    · rw [up_k e, ((hal_1.2.2.2.2.2 t (by omega)).2.1).trans (rfl)]
      have z := hro j d j0 (by omega) hd
      rw [hp_10 _ (by rw [z]; exact rf_ne0 hd)]; exact z, fun j hj => by
    rw [up_k (by omega), ((hal_1.2.2.2.2.2 t (by omega)).2.1).trans (rfl)]; exact hr1 j (by omega), fun _ => by rw [show (up ρ_3 t 13 m) t 0 = ρ_3 t 0 from up_k (by decide), ((hal_1.2.2.2.2.2 t (by omega)).2.1).trans (rfl)]; exact (congrFun (holm_13 (ρ1 t 0) fl0 fn0).2.1 1).trans (fz0 (by decide)), fun _ => fun j => by rw [up_s]; exact hal_1.2.2.2.1 j, fun _ => by rw [show (up ρ_3 t 13 m) t 1 = ρ_3 t 1 from up_k (by decide), ((hal_1.2.2.2.2.2 t (by omega)).2.1).trans (rfl), show (up ρ_3 t 13 m) t 0 = ρ_3 t 0 from up_k (by decide), ((hal_1.2.2.2.2.2 t (by omega)).2.1).trans (rfl)]; exact (congrFun (holm_13 (ρ1 t 1) fl1 fn1).2.2.1 0).trans (fzt (by decide)), StJ.next hst hH1 hm0 ht10 hro holm_13 (fun j hj => (up_k (by omega)).trans (congrFun (((hal_1.2.2.2.2.2 t (by omega)).2.1).trans (rfl)) j)) (fun e => absurd e (by decide)) (fun e => absurd e (by decide)) (fun e => absurd e (by decide)) (fun e => absurd e (by decide)) (fun e => absurd e (by decide)) (fun e => absurd e (by decide))⟩ ht4 htn (by omega)
set_option maxHeartbeats 4000000 in
set_option maxRecDepth 100000 in
theorem c_X11_sgG12 (g : Gp) (X : Cx) {n t : Int} {ω : Rw} {v ρ : Mv} {Z : Mz} (hX : okX g X F_X11_init) (hRm : xR X = rmd 6 173 11940) (hQ : hQt g X (RwQG n t ω v ρ Z) 173 11940) (m : Int) (ω1 : Rw) (v1 ρ1 : Mv) (Z1 : Mz) (hI : RwK n t ω v ρ Z 12 m ω1 v1 ρ1 Z1) (ht4 : 4 ≤ t) (htn : t < n) (hmo : m = n + 168) : wp g X F_X11_init 168 11926 225 [(2, t)] [] v1 ρ1 Z1 := by
  obtain ⟨hm, hnm, hold1, hH1, htk1, htl1, ht1, hv1, hro, hr1, fz0, fz13, fzt, hst⟩ := hI
  have hm0 := hm
  have ht10 := ht1
  have holm1 : Old m t ω1 v1 ρ1 Z1 ω1 v1 ρ1 Z1 := Old.rf
  have fw1 : ω1 (ρ1 t 1) = 4 := hro 1 4 (by decide) (by decide) rfl
  have fl1 : ρ1 t 1 < m := by have := hH1.lt fw1 (by decide); omega
  have fn1 : ρ1 t 1 ≠ t := fun q => by rw [q, ht1] at fw1; exact absurd fw1 (by decide)
  have fw0 : ω1 (ρ1 t 0) = 2 := hro 0 2 (by decide) (by decide) rfl
  have fl0 : ρ1 t 0 < m := by have := hH1.lt fw0 (by decide); omega
  have fn0 : ρ1 t 0 ≠ t := fun q => by rw [q, ht1] at fw0; exact absurd fw0 (by decide)
  have hp0 : ∀ e, ω1 e ≠ 0 → ω1 e = ω1 e := fun _ _ => rfl
  refine r_aload_n (pc := 225) hX 105 rfl rfl ?_
  refine r_iconst (pc := 226) hX 106 rfl ?_
  refine r_anewaX hX 107 18 2 (n := m) hm rfl rfl (by decide) (by decide) cl_X11_95 hX.2.2.2.2.2.2.1.2.2.2.2.1 (by decide) (by omega) (by rw [hRm]; exact Nat.le_of_ble_eq_true rfl) (by rw [hRm]; exact Nat.le_of_ble_eq_true rfl) (fun v_2 ρ_3 Z_4 hal_1 => ?_)
  have hn_5 : Z_4.2.2 = (m + 1) := by have := hal_1.1; omega
  obtain ⟨ω_6, ho_7, hw_8, hH_9⟩ := hH1.alR hm (by omega) 61 hal_1 rfl rfl (fun k a b h => by cases h) (fun _ => rfl)
  have hp_10 : ∀ e, ω1 e ≠ 0 → ω_6 e = ω1 e := fun e he => (ho_7 e (by have z9 := hH1.lt (hp0 e he) he; omega)).trans (hp0 e he)
  replace ht1 : ω_6 t = 0 := (ho_7 t (by omega)).trans ht1
  replace htk1 : Z_4.1 t = 11 := ((hal_1.2.2.2.2.2 t (by omega)).2.2.1).trans htk1
  replace htl1 : Z_4.2.1 t = 0 := ((hal_1.2.2.2.2.2 t (by omega)).2.2.2).trans htl1
  have hold_11 : Old n t ω v ρ Z ω_6 v_2 ρ_3 Z_4 := hold1.al ho_7 hal_1 (by omega)
  have holm_11 : Old m t ω1 v1 ρ1 Z1 ω_6 v_2 ρ_3 Z_4 := holm1.al ho_7 hal_1 (by omega)
  clear hm
  show wp g X F_X11_init 169 11928 230 [(2, t)] [(2, m), (2, t)] v_2 ρ_3 Z_4
  refine r_putRF (K := 11) (k := 12) (pc := 230) hX 108 rfl rfl (by decide) fw_X11_97 rfl rfl rfl rfl htk1 ht4 ?_
  have hH_12 : HT ω_6 v_2 (up ρ_3 t 12 m) Z_4 := hH_9.uzr ht1
  have hold_13 : Old n t ω v ρ Z ω_6 v_2 (up ρ_3 t 12 m) Z_4 := hold_11.putr (Or.inl rfl)
  have holm_13 : Old m t ω1 v1 ρ1 Z1 ω_6 v_2 (up ρ_3 t 12 m) Z_4 := holm_11.putr (Or.inl rfl)
  show wp g X F_X11_init 169 11928 233 [(2, t)] [] v_2 (up ρ_3 t 12 m) Z_4
  exact c_X11_sgG13 g X hX hRm hQ (m + 1) ω_6 v_2 (up ρ_3 t 12 m) Z_4 ⟨hn_5, by omega, hold_13, hH_12, htk1, htl1, ht1, fun k => (congrFun (hal_1.2.2.2.2.2 t (by omega)).1 k).trans (hv1 k), fun j d j0 j1 hd => by
    by_cases e : j = 12
    · subst e; rw [up_s]; cases hd; exact hw_8
    · rw [up_k e, ((hal_1.2.2.2.2.2 t (by omega)).2.1).trans (rfl)]
      have z := hro j d j0 (by omega) hd
      rw [hp_10 _ (by rw [z]; exact rf_ne0 hd)]; exact z, fun j hj => by
    rw [up_k (by omega), ((hal_1.2.2.2.2.2 t (by omega)).2.1).trans (rfl)]; exact hr1 j (by omega), fun _ => by rw [show (up ρ_3 t 12 m) t 0 = ρ_3 t 0 from up_k (by decide), ((hal_1.2.2.2.2.2 t (by omega)).2.1).trans (rfl)]; exact (congrFun (holm_13 (ρ1 t 0) fl0 fn0).2.1 1).trans (fz0 (by decide)), fun h => absurd h (by decide), fun _ => by rw [show (up ρ_3 t 12 m) t 1 = ρ_3 t 1 from up_k (by decide), ((hal_1.2.2.2.2.2 t (by omega)).2.1).trans (rfl), show (up ρ_3 t 12 m) t 0 = ρ_3 t 0 from up_k (by decide), ((hal_1.2.2.2.2.2 t (by omega)).2.1).trans (rfl)]; exact (congrFun (holm_13 (ρ1 t 1) fl1 fn1).2.2.1 0).trans (fzt (by decide)), StJ.next hst hH1 hm0 ht10 hro holm_13 (fun j hj => (up_k (by omega)).trans (congrFun (((hal_1.2.2.2.2.2 t (by omega)).2.1).trans (rfl)) j)) (fun e => absurd e (by decide)) (fun e => absurd e (by decide)) (fun e => absurd e (by decide)) (fun e => absurd e (by decide)) (fun e => absurd e (by decide)) (fun e => absurd e (by decide))⟩ ht4 htn (by omega)
set_option maxHeartbeats 4000000 in
set_option maxRecDepth 100000 in
theorem c_X11_sgG11 (g : Gp) (X : Cx) {n t : Int} {ω : Rw} {v ρ : Mv} {Z : Mz} (hX : okX g X F_X11_init) (hRm : xR X = rmd 6 173 11940) (hQ : hQt g X (RwQG n t ω v ρ Z) 173 11940) (m : Int) (ω1 : Rw) (v1 ρ1 : Mv) (Z1 : Mz) (hI : RwK n t ω v ρ Z 11 m ω1 v1 ρ1 Z1) (ht4 : 4 ≤ t) (htn : t < n) (hmo : m = n + 157) : wp g X F_X11_init 157 11868 183 [(2, t)] [] v1 ρ1 Z1 := by
  obtain ⟨hm, hnm, hold1, hH1, htk1, htl1, ht1, hv1, hro, hr1, fz0, fz13, fzt, hst⟩ := hI
  have hm0 := hm
  have ht10 := ht1
  have holm1 : Old m t ω1 v1 ρ1 Z1 ω1 v1 ρ1 Z1 := Old.rf
  have fw1 : ω1 (ρ1 t 1) = 4 := hro 1 4 (by decide) (by decide) rfl
  have fl1 : ρ1 t 1 < m := by have := hH1.lt fw1 (by decide); omega
  have fn1 : ρ1 t 1 ≠ t := fun q => by rw [q, ht1] at fw1; exact absurd fw1 (by decide)
  have fw0 : ω1 (ρ1 t 0) = 2 := hro 0 2 (by decide) (by decide) rfl
  have fl0 : ρ1 t 0 < m := by have := hH1.lt fw0 (by decide); omega
  have fn0 : ρ1 t 0 ≠ t := fun q => by rw [q, ht1] at fw0; exact absurd fw0 (by decide)
  have hp0 : ∀ e, ω1 e ≠ 0 → ω1 e = ω1 e := fun _ _ => rfl
  have hf4 : ω1 (ρ1 t 4) = 22 := hro 4 22 (by decide) (by decide) rfl
  have hlt4 : ρ1 t 4 < m := by have := hH1.lt hf4 (by decide); omega
  refine r_aload_n (pc := 183) hX 83 rfl rfl ?_
  refine r_iconst (pc := 184) hX 84 rfl ?_
  refine r_anewaX hX 85 17 2 (n := m) hm rfl rfl (by decide) (by decide) cl_X11_39 hX.2.2.2.2.2.2.1.2.2.2.1 (by decide) (by omega) (by rw [hRm]; exact Nat.le_of_ble_eq_true rfl) (by rw [hRm]; exact Nat.le_of_ble_eq_true rfl) (fun v_2 ρ_3 Z_4 hal_1 => ?_)
  have hn_5 : Z_4.2.2 = (m + 1) := by have := hal_1.1; omega
  have hH_6 : HT ω1 v_2 ρ_3 Z_4 := hH1.al hm (by omega) hal_1
  replace htk1 : Z_4.1 t = 11 := (hal_1.2.2.2.2.2 t (by omega)).2.2.1.trans htk1
  replace htl1 : Z_4.2.1 t = 0 := (hal_1.2.2.2.2.2 t (by omega)).2.2.2.trans htl1
  have hz_7 : ω1 m = 0 := hH1.z0 (by omega)
  have hk_8 : Z_4.1 m = 17 := hal_1.2.1
  have hl_9 : Z_4.2.1 m = 2 := hal_1.2.2.1
  have hold_10 : Old n t ω v ρ Z ω1 v_2 ρ_3 Z_4 := hold1.al0 hal_1 (by omega)
  have holm_10 : Old m t ω1 v1 ρ1 Z1 ω1 v_2 ρ_3 Z_4 := holm1.al0 hal_1 (by omega)
  clear hm
  show wp g X F_X11_init 158 11870 188 [(2, t)] [(2, m), (2, t)] v_2 ρ_3 Z_4
  refine r_dup (pc := 188) hX 86 rfl (show (2 : Nat) ≠ 1 by decide) ?_
  refine r_iconst (pc := 189) hX 87 rfl ?_
  refine r_newX (K := 9) (q := (RX9, TX9, 7)) (n := (m + 1)) hX 88 hn_5 rfl rfl cl_X11_39 in_X9 iz_X9 (by omega) (by rw [hRm]; exact Nat.le_of_ble_eq_true rfl) (by rw [hRm]; exact Nat.le_of_ble_eq_true rfl) (fun v_12 ρ_13 Z_14 hal_11 => ?_)
  have hn_15 : Z_14.2.2 = (m + 2) := by have := hal_11.1; omega
  have hH_16 : HT ω1 v_12 ρ_13 Z_14 := hH_6.al hn_5 (by omega) hal_11
  replace htk1 : Z_14.1 t = 11 := (hal_11.2.2.2.2.2 t (by omega)).2.2.1.trans htk1
  replace htl1 : Z_14.2.1 t = 0 := (hal_11.2.2.2.2.2 t (by omega)).2.2.2.trans htl1
  replace hk_8 : Z_14.1 m = 17 := (hal_11.2.2.2.2.2 m (by omega)).2.2.1.trans hk_8
  replace hl_9 : Z_14.2.1 m = 2 := (hal_11.2.2.2.2.2 m (by omega)).2.2.2.trans hl_9
  have hz_17 : ω1 (m + 1) = 0 := hH_6.z0 (by omega)
  have hk_18 : Z_14.1 (m + 1) = 9 := hal_11.2.1
  have hl_19 : Z_14.2.1 (m + 1) = 0 := hal_11.2.2.1
  have hold_20 : Old n t ω v ρ Z ω1 v_12 ρ_13 Z_14 := hold_10.al0 hal_11 (by omega)
  have holm_20 : Old m t ω1 v1 ρ1 Z1 ω1 v_12 ρ_13 Z_14 := holm_10.al0 hal_11 (by omega)
  clear hn_5
  show wp g X F_X11_init 159 11877 193 [(2, t)] [(2, (m + 1)), (0, 0), (2, m), (2, m), (2, t)] v_12 ρ_13 Z_14
  refine r_dup (pc := 193) hX 89 rfl (show (2 : Nat) ≠ 1 by decide) ?_
  refine r_aload_n (pc := 194) hX 90 rfl rfl ?_
  refine r_getR (q := (ρ1 t 4)) (pc := 195) hX 91 rfl fl_X11_47 rfl htk1 ((congrFun (hal_11.2.2.2.2.2 t (by omega)).2.1 4).trans ((congrFun (hal_1.2.2.2.2.2 t (by omega)).2.1 4).trans (rfl))) ?_
  refine r_getR (q := (ρ1 (ρ1 t 4) 0)) (pc := 198) hX 92 rfl fl_X11_51 rfl (hH_16.kd hf4 (by decide)) ((congrFun (hal_11.2.2.2.2.2 (ρ1 t 4) (by have z9 := hlt4; omega)).2.1 0).trans ((congrFun (hal_1.2.2.2.2.2 (ρ1 t 4) (by have z9 := hlt4; omega)).2.1 0).trans (rfl))) ?_
  have hw_21 : ω1 (ρ1 (ρ1 t 4) 0) = 5 := by rw [← show ρ_13 (ρ1 t 4) 0 = (ρ1 (ρ1 t 4) 0) from (congrFun (hal_11.2.2.2.2.2 (ρ1 t 4) (by have z9 := hlt4; omega)).2.1 0).trans ((congrFun (hal_1.2.2.2.2.2 (ρ1 t 4) (by have z9 := hlt4; omega)).2.1 0).trans (rfl))]; exact hH_16.rf hf4 (by decide) rfl
  have hlt_22 : (ρ1 (ρ1 t 4) 0) < (m + 2) := by have := hH_16.lt hw_21 (by decide); omega
  refine r_callIW (as := [(2, (ρ1 (ρ1 t 4) 0))]) (st := [(2, (m + 1)), (0, 0), (2, m), (2, m), (2, t)]) (pc := 201) hX 93 rfl mo_X9_init rfl rfl ml_X11_44 im_X9_init (c_X9_initB g ω1 v_12 ρ_13 Z_14 hH_16 (m + 1) hz_17 hk_18 hl_19 (by omega) (m + 2) hn_15 (by omega) (fun k => hal_11.2.2.2.1 k) (fun k => hal_11.2.2.2.2.1 k) (ρ1 (ρ1 t 4) 0) hw_21) rfl (by omega) (by rw [hRm]; exact ⟨Nat.le_of_ble_eq_true rfl, Nat.le_of_ble_eq_true rfl⟩) (by rw [hRm]; exact ⟨Nat.le_of_ble_eq_true rfl, Nat.le_of_ble_eq_true rfl⟩) (Nat.le_of_ble_eq_true rfl) (fun o9 v_24 ρ_25 Z_26 hq9 _ => ?_)
  obtain ⟨rfl, hn_30, ω_23, hct_27, hT_28, hHc_29⟩ := hq9
  have hn_31 : Z_26.2.2 = (m + 6) := by omega
  clear hn_30
  have hp_32 : ∀ e, ω1 e ≠ 0 → ω_23 e = ω1 e := fun e he => ((hct_27 e (by have z9 := hH_16.lt (hp0 e he) he; omega) (fun q => he (by rw [← hp0 e he, q]; exact hz_17))).1).trans (hp0 e he)
  replace hf4 : ω_23 (ρ1 t 4) = 22 := ((hct_27 (ρ1 t 4) (by have := hH_16.lt hf4 (by decide); omega) (fun q => by have z := hf4; rw [q, hz_17] at z; exact absurd z (by decide))).1).trans hf4
  replace hw_21 : ω_23 (ρ1 (ρ1 t 4) 0) = 5 := ((hct_27 (ρ1 (ρ1 t 4) 0) (by have := hH_16.lt hw_21 (by decide); omega) (fun q => by have z := hw_21; rw [q, hz_17] at z; exact absurd z (by decide))).1).trans hw_21
  replace ht1 : ω_23 t = 0 := ((hct_27 t (by omega) (by omega)).1).trans ht1
  replace htk1 : Z_26.1 t = 11 := ((hct_27 t (by omega) (by omega)).2.2.2.1).trans htk1
  replace htl1 : Z_26.2.1 t = 0 := ((hct_27 t (by omega) (by omega)).2.2.2.2).trans htl1
  replace hz_7 : ω_23 m = 0 := ((hct_27 m (by omega) (by omega)).1).trans hz_7
  replace hk_8 : Z_26.1 m = 17 := ((hct_27 m (by omega) (by omega)).2.2.2.1).trans hk_8
  replace hl_9 : Z_26.2.1 m = 2 := ((hct_27 m (by omega) (by omega)).2.2.2.2).trans hl_9
  have hold_33 : Old n t ω v ρ Z ω_23 v_24 ρ_25 Z_26 := hold_20.ct hct_27 (by omega) (Or.inr (by omega))
  have holm_33 : Old m t ω1 v1 ρ1 Z1 ω_23 v_24 ρ_25 Z_26 := holm_20.ct hct_27 (by omega) (Or.inr (by omega))
  clear hz_17 hk_18 hl_19
  show wp g X F_X11_init 163 11898 204 [(2, t)] [(2, (m + 1)), (0, 0), (2, m), (2, m), (2, t)] v_24 ρ_25 Z_26
  refine r_aast (pc := 204) hX 94 17 9 rfl hk_8 (by decide) (by decide) rfl rfl (by omega) (by decide) (by rw [hl_9]; decide) (Or.inr (hHc_29.kd hT_28 (by decide))) ?_
  have hH_34 : HT ω_23 v_24 (up ρ_25 m 0 (m + 1)) Z_26 := hHc_29.uzr hz_7
  have hold_35 : Old n t ω v ρ Z ω_23 v_24 (up ρ_25 m 0 (m + 1)) Z_26 := hold_33.putr (Or.inr (by omega))
  have holm_35 : Old m t ω1 v1 ρ1 Z1 ω_23 v_24 (up ρ_25 m 0 (m + 1)) Z_26 := holm_33.putr (Or.inr (by omega))
  refine r_dup (pc := 205) hX 95 rfl (show (2 : Nat) ≠ 1 by decide) ?_
  refine r_iconst (pc := 206) hX 96 rfl ?_
  refine r_newX (K := 9) (q := (RX9, TX9, 7)) (n := (m + 6)) hX 97 hn_31 rfl rfl cl_X11_39 in_X9 iz_X9 (by omega) (by rw [hRm]; exact Nat.le_of_ble_eq_true rfl) (by rw [hRm]; exact Nat.le_of_ble_eq_true rfl) (fun v_37 ρ_38 Z_39 hal_36 => ?_)
  have hn_40 : Z_39.2.2 = (m + 7) := by have := hal_36.1; omega
  have hH_41 : HT ω_23 v_37 ρ_38 Z_39 := hH_34.al hn_31 (by omega) hal_36
  replace htk1 : Z_39.1 t = 11 := (hal_36.2.2.2.2.2 t (by omega)).2.2.1.trans htk1
  replace htl1 : Z_39.2.1 t = 0 := (hal_36.2.2.2.2.2 t (by omega)).2.2.2.trans htl1
  replace hk_8 : Z_39.1 m = 17 := (hal_36.2.2.2.2.2 m (by omega)).2.2.1.trans hk_8
  replace hl_9 : Z_39.2.1 m = 2 := (hal_36.2.2.2.2.2 m (by omega)).2.2.2.trans hl_9
  have hz_42 : ω_23 (m + 6) = 0 := hH_34.z0 (by omega)
  have hk_43 : Z_39.1 (m + 6) = 9 := hal_36.2.1
  have hl_44 : Z_39.2.1 (m + 6) = 0 := hal_36.2.2.1
  have hold_45 : Old n t ω v ρ Z ω_23 v_37 ρ_38 Z_39 := hold_35.al0 hal_36 (by omega)
  have holm_45 : Old m t ω1 v1 ρ1 Z1 ω_23 v_37 ρ_38 Z_39 := holm_35.al0 hal_36 (by omega)
  clear hn_31
  show wp g X F_X11_init 164 11905 210 [(2, t)] [(2, (m + 6)), (0, 1), (2, m), (2, m), (2, t)] v_37 ρ_38 Z_39
  refine r_dup (pc := 210) hX 98 rfl (show (2 : Nat) ≠ 1 by decide) ?_
  refine r_aload_n (pc := 211) hX 99 rfl rfl ?_
  refine r_getR (q := (ρ1 t 4)) (pc := 212) hX 100 rfl fl_X11_47 rfl htk1 ((congrFun (hal_36.2.2.2.2.2 t (by omega)).2.1 4).trans ((up_k (by decide)).trans ((congrFun (hct_27 t (by omega) (by omega)).2.2.1 4).trans ((congrFun (hal_11.2.2.2.2.2 t (by omega)).2.1 4).trans ((congrFun (hal_1.2.2.2.2.2 t (by omega)).2.1 4).trans (rfl)))))) ?_
  refine r_getR (q := (ρ1 (ρ1 t 4) 0)) (pc := 215) hX 101 rfl fl_X11_51 rfl (hH_41.kd hf4 (by decide)) ((congrFun (hal_36.2.2.2.2.2 (ρ1 t 4) (by have z9 := hlt4; omega)).2.1 0).trans ((up_r (by have z9 := hlt4; omega)).trans ((congrFun (hct_27 (ρ1 t 4) (by have := hH_41.lt hf4 (by decide); omega) (by have z9 := hlt4; omega)).2.2.1 0).trans ((congrFun (hal_11.2.2.2.2.2 (ρ1 t 4) (by have z9 := hlt4; omega)).2.1 0).trans ((congrFun (hal_1.2.2.2.2.2 (ρ1 t 4) (by have z9 := hlt4; omega)).2.1 0).trans (rfl)))))) ?_
  refine r_callIW (as := [(2, (ρ1 (ρ1 t 4) 0))]) (st := [(2, (m + 6)), (0, 1), (2, m), (2, m), (2, t)]) (pc := 218) hX 102 rfl mo_X9_init rfl rfl ml_X11_44 im_X9_init (c_X9_initB g ω_23 v_37 ρ_38 Z_39 hH_41 (m + 6) hz_42 hk_43 hl_44 (by omega) (m + 7) hn_40 (by omega) (fun k => hal_36.2.2.2.1 k) (fun k => hal_36.2.2.2.2.1 k) (ρ1 (ρ1 t 4) 0) hw_21) rfl (by omega) (by rw [hRm]; exact ⟨Nat.le_of_ble_eq_true rfl, Nat.le_of_ble_eq_true rfl⟩) (by rw [hRm]; exact ⟨Nat.le_of_ble_eq_true rfl, Nat.le_of_ble_eq_true rfl⟩) (Nat.le_of_ble_eq_true rfl) (fun o9 v_47 ρ_48 Z_49 hq9 _ => ?_)
  obtain ⟨rfl, hn_53, ω_46, hct_50, hT_51, hHc_52⟩ := hq9
  have hn_54 : Z_49.2.2 = (m + 11) := by omega
  clear hn_53
  have hp_55 : ∀ e, ω1 e ≠ 0 → ω_46 e = ω1 e := fun e he => ((hct_50 e (by have z9 := hH_41.lt (hp_32 e he) he; omega) (fun q => he (by rw [← hp_32 e he, q]; exact hz_42))).1).trans (hp_32 e he)
  replace hf4 : ω_46 (ρ1 t 4) = 22 := ((hct_50 (ρ1 t 4) (by have := hH_41.lt hf4 (by decide); omega) (fun q => by have z := hf4; rw [q, hz_42] at z; exact absurd z (by decide))).1).trans hf4
  replace hw_21 : ω_46 (ρ1 (ρ1 t 4) 0) = 5 := ((hct_50 (ρ1 (ρ1 t 4) 0) (by have := hH_41.lt hw_21 (by decide); omega) (fun q => by have z := hw_21; rw [q, hz_42] at z; exact absurd z (by decide))).1).trans hw_21
  replace hT_28 : ω_46 (m + 1) = 66 := ((hct_50 (m + 1) (by have := hH_41.lt hT_28 (by decide); omega) (by omega)).1).trans hT_28
  replace ht1 : ω_46 t = 0 := ((hct_50 t (by omega) (by omega)).1).trans ht1
  replace htk1 : Z_49.1 t = 11 := ((hct_50 t (by omega) (by omega)).2.2.2.1).trans htk1
  replace htl1 : Z_49.2.1 t = 0 := ((hct_50 t (by omega) (by omega)).2.2.2.2).trans htl1
  replace hz_7 : ω_46 m = 0 := ((hct_50 m (by omega) (by omega)).1).trans hz_7
  replace hk_8 : Z_49.1 m = 17 := ((hct_50 m (by omega) (by omega)).2.2.2.1).trans hk_8
  replace hl_9 : Z_49.2.1 m = 2 := ((hct_50 m (by omega) (by omega)).2.2.2.2).trans hl_9
  have hold_56 : Old n t ω v ρ Z ω_46 v_47 ρ_48 Z_49 := hold_45.ct hct_50 (by omega) (Or.inr (by omega))
  have holm_56 : Old m t ω1 v1 ρ1 Z1 ω_46 v_47 ρ_48 Z_49 := holm_45.ct hct_50 (by omega) (Or.inr (by omega))
  clear hz_42 hk_43 hl_44
  show wp g X F_X11_init 168 11926 221 [(2, t)] [(2, (m + 6)), (0, 1), (2, m), (2, m), (2, t)] v_47 ρ_48 Z_49
  refine r_aast (pc := 221) hX 103 17 9 rfl hk_8 (by decide) (by decide) rfl rfl (by omega) (by decide) (by rw [hl_9]; decide) (Or.inr (hHc_52.kd hT_51 (by decide))) ?_
  have hH_57 : HT ω_46 v_47 (up ρ_48 m 1 (m + 6)) Z_49 := hHc_52.uzr hz_7
  have hold_58 : Old n t ω v ρ Z ω_46 v_47 (up ρ_48 m 1 (m + 6)) Z_49 := hold_56.putr (Or.inr (by omega))
  have holm_58 : Old m t ω1 v1 ρ1 Z1 ω_46 v_47 (up ρ_48 m 1 (m + 6)) Z_49 := holm_56.putr (Or.inr (by omega))
  refine r_putRF (K := 11) (k := 11) (pc := 222) hX 104 rfl rfl (by decide) fw_X11_91 rfl rfl rfl rfl htk1 ht4 ?_
  have hH_59 : HT ω_46 v_47 (up (up ρ_48 m 1 (m + 6)) t 11 m) Z_49 := hH_57.uzr ht1
  have hold_60 : Old n t ω v ρ Z ω_46 v_47 (up (up ρ_48 m 1 (m + 6)) t 11 m) Z_49 := hold_58.putr (Or.inl rfl)
  have holm_60 : Old m t ω1 v1 ρ1 Z1 ω_46 v_47 (up (up ρ_48 m 1 (m + 6)) t 11 m) Z_49 := holm_58.putr (Or.inl rfl)
  show wp g X F_X11_init 168 11926 225 [(2, t)] [] v_47 (up (up ρ_48 m 1 (m + 6)) t 11 m) Z_49
  have hA_60 : ∀ k e, rfO 60 k = some e → setR ω_46 m 60 ((up (up ρ_48 m 1 (m + 6)) t 11 m) m k) = e := fun k e hh => by
    obtain ⟨k0, k1, rfl⟩ := rfA60 hh
    have hk : k = 0 ∨ k = 1 := by omega
    rcases hk with rfl | rfl
    · rw [show (up (up ρ_48 m 1 (m + 6)) t 11 m) m 0 = (m + 1) from (up_k (by decide)).trans ((up_k (by decide)).trans ((congrFun (hct_50 m (by omega) (by omega)).2.2.1 0).trans ((congrFun (hal_36.2.2.2.2.2 m (by omega)).2.1 0).trans (up_s _ _ _ _)))), setR_ne (by omega)]; exact hT_28
    · rw [show (up (up ρ_48 m 1 (m + 6)) t 11 m) m 1 = (m + 6) from (up_k (by decide)).trans (up_s _ _ _ _), setR_ne (by omega)]; exact hT_51
  have hH_61 : HT (setR ω_46 m 60) v_47 (up (up ρ_48 m 1 (m + 6)) t 11 m) Z_49 := hH_59.add hz_7 ⟨by omega, by omega, by rw [hk_8]; rfl, by rw [hl_9]; rfl, (fun k a b hh => by cases hh), hA_60, (fun k e hh => by cases hh)⟩
  have hp_62 : ∀ e, ω1 e ≠ 0 → (setR ω_46 m 60) e = ω1 e := fun e he => (setR_ne (fun q => he (by rw [← hp_55 e he, q]; exact hz_7))).trans (hp_55 e he)
  replace ht1 : (setR ω_46 m 60) t = 0 := (setR_ne (by omega)).trans ht1
  have hold_63 : Old n t ω v ρ Z (setR ω_46 m 60) v_47 (up (up ρ_48 m 1 (m + 6)) t 11 m) Z_49 := hold_60.setN (by omega)
  have holm_63 : Old m t ω1 v1 ρ1 Z1 (setR ω_46 m 60) v_47 (up (up ρ_48 m 1 (m + 6)) t 11 m) Z_49 := holm_60.setN (by omega)
  have hwm : (setR ω_46 m 60) m = 60 := setR_s
  exact c_X11_sgG12 g X hX hRm hQ (m + 11) (setR ω_46 m 60) v_47 (up (up ρ_48 m 1 (m + 6)) t 11 m) Z_49 ⟨hn_54, by omega, hold_63, hH_61, htk1, htl1, ht1, fun k => (congrFun (hct_50 t (by omega) (by omega)).2.1 k).trans ((congrFun (hal_36.2.2.2.2.2 t (by omega)).1 k).trans ((congrFun (hct_27 t (by omega) (by omega)).2.1 k).trans ((congrFun (hal_11.2.2.2.2.2 t (by omega)).1 k).trans ((congrFun (hal_1.2.2.2.2.2 t (by omega)).1 k).trans (hv1 k))))), fun j d j0 j1 hd => by
    by_cases e : j = 11
    · subst e; rw [up_s]; cases hd; exact hwm
    · rw [up_k e, (up_f (by omega)).trans (((hct_50 t (by omega) (by omega)).2.2.1).trans (((hal_36.2.2.2.2.2 t (by omega)).2.1).trans ((up_f (by omega)).trans (((hct_27 t (by omega) (by omega)).2.2.1).trans (((hal_11.2.2.2.2.2 t (by omega)).2.1).trans (((hal_1.2.2.2.2.2 t (by omega)).2.1).trans (rfl)))))))]
      have z := hro j d j0 (by omega) hd
      rw [hp_62 _ (by rw [z]; exact rf_ne0 hd)]; exact z, fun j hj => by
    rw [up_k (by omega), (up_f (by omega)).trans (((hct_50 t (by omega) (by omega)).2.2.1).trans (((hal_36.2.2.2.2.2 t (by omega)).2.1).trans ((up_f (by omega)).trans (((hct_27 t (by omega) (by omega)).2.2.1).trans (((hal_11.2.2.2.2.2 t (by omega)).2.1).trans (((hal_1.2.2.2.2.2 t (by omega)).2.1).trans (rfl)))))))]; exact hr1 j (by omega), fun _ => by rw [show (up (up ρ_48 m 1 (m + 6)) t 11 m) t 0 = (up ρ_48 m 1 (m + 6)) t 0 from up_k (by decide), (up_f (by omega)).trans (((hct_50 t (by omega) (by omega)).2.2.1).trans (((hal_36.2.2.2.2.2 t (by omega)).2.1).trans ((up_f (by omega)).trans (((hct_27 t (by omega) (by omega)).2.2.1).trans (((hal_11.2.2.2.2.2 t (by omega)).2.1).trans (((hal_1.2.2.2.2.2 t (by omega)).2.1).trans (rfl)))))))]; exact (congrFun (holm_63 (ρ1 t 0) fl0 fn0).2.1 1).trans (fz0 (by decide)), fun h => absurd h (by decide), fun _ => by rw [show (up (up ρ_48 m 1 (m + 6)) t 11 m) t 1 = (up ρ_48 m 1 (m + 6)) t 1 from up_k (by decide), (up_f (by omega)).trans (((hct_50 t (by omega) (by omega)).2.2.1).trans (((hal_36.2.2.2.2.2 t (by omega)).2.1).trans ((up_f (by omega)).trans (((hct_27 t (by omega) (by omega)).2.2.1).trans (((hal_11.2.2.2.2.2 t (by omega)).2.1).trans (((hal_1.2.2.2.2.2 t (by omega)).2.1).trans (rfl))))))), show (up (up ρ_48 m 1 (m + 6)) t 11 m) t 0 = (up ρ_48 m 1 (m + 6)) t 0 from up_k (by decide), (up_f (by omega)).trans (((hct_50 t (by omega) (by omega)).2.2.1).trans (((hal_36.2.2.2.2.2 t (by omega)).2.1).trans ((up_f (by omega)).trans (((hct_27 t (by omega) (by omega)).2.2.1).trans (((hal_11.2.2.2.2.2 t (by omega)).2.1).trans (((hal_1.2.2.2.2.2 t (by omega)).2.1).trans (rfl)))))))]; exact (congrFun (holm_63 (ρ1 t 1) fl1 fn1).2.2.1 0).trans (fzt (by decide)), StJ.next hst hH1 hm0 ht10 hro holm_63 (fun j hj => (up_k (by omega)).trans (congrFun ((up_f (by omega)).trans (((hct_50 t (by omega) (by omega)).2.2.1).trans (((hal_36.2.2.2.2.2 t (by omega)).2.1).trans ((up_f (by omega)).trans (((hct_27 t (by omega) (by omega)).2.2.1).trans (((hal_11.2.2.2.2.2 t (by omega)).2.1).trans (((hal_1.2.2.2.2.2 t (by omega)).2.1).trans (rfl)))))))) j)) (fun e => absurd e (by decide)) (fun e => absurd e (by decide)) (fun _ => TrD.s11 hH1 hm0 ht10 hro holm_63 (fun j hj => (up_k (by omega)).trans (congrFun ((up_f (by omega)).trans (((hct_50 t (by omega) (by omega)).2.2.1).trans (((hal_36.2.2.2.2.2 t (by omega)).2.1).trans ((up_f (by omega)).trans (((hct_27 t (by omega) (by omega)).2.2.1).trans (((hal_11.2.2.2.2.2 t (by omega)).2.1).trans (((hal_1.2.2.2.2.2 t (by omega)).2.1).trans (rfl)))))))) j)) (up_s _ _ _ _) (show (up (up ρ_48 m 1 (m + 6)) t 11 m) m 0 = (m + 1) from (up_k (by decide)).trans ((up_k (by decide)).trans ((congrFun (hct_50 m (by omega) (by omega)).2.2.1 0).trans ((congrFun (hal_36.2.2.2.2.2 m (by omega)).2.1 0).trans (up_s _ _ _ _))))) ((up_r (by omega)).trans (up_s _ _ _ _))) (fun e => absurd e (by decide)) (fun e => absurd e (by decide)) (fun e => absurd e (by decide))⟩ ht4 htn (by omega)
set_option maxHeartbeats 4000000 in
set_option maxRecDepth 100000 in
theorem c_X11_sgG10 (g : Gp) (X : Cx) {n t : Int} {ω : Rw} {v ρ : Mv} {Z : Mz} (hX : okX g X F_X11_init) (hRm : xR X = rmd 6 173 11940) (hQ : hQt g X (RwQG n t ω v ρ Z) 173 11940) (m : Int) (ω1 : Rw) (v1 ρ1 : Mv) (Z1 : Mz) (hI : RwK n t ω v ρ Z 10 m ω1 v1 ρ1 Z1) (ht4 : 4 ≤ t) (htn : t < n) (hmo : m = n + 120) : wp g X F_X11_init 120 3216 165 [(2, t)] [] v1 ρ1 Z1 := by
  obtain ⟨hm, hnm, hold1, hH1, htk1, htl1, ht1, hv1, hro, hr1, fz0, fz13, fzt, hst⟩ := hI
  have hm0 := hm
  have ht10 := ht1
  have holm1 : Old m t ω1 v1 ρ1 Z1 ω1 v1 ρ1 Z1 := Old.rf
  have fw1 : ω1 (ρ1 t 1) = 4 := hro 1 4 (by decide) (by decide) rfl
  have fl1 : ρ1 t 1 < m := by have := hH1.lt fw1 (by decide); omega
  have fn1 : ρ1 t 1 ≠ t := fun q => by rw [q, ht1] at fw1; exact absurd fw1 (by decide)
  have fw0 : ω1 (ρ1 t 0) = 2 := hro 0 2 (by decide) (by decide) rfl
  have fl0 : ρ1 t 0 < m := by have := hH1.lt fw0 (by decide); omega
  have fn0 : ρ1 t 0 ≠ t := fun q => by rw [q, ht1] at fw0; exact absurd fw0 (by decide)
  have hp0 : ∀ e, ω1 e ≠ 0 → ω1 e = ω1 e := fun _ _ => rfl
  have hf4 : ω1 (ρ1 t 4) = 22 := hro 4 22 (by decide) (by decide) rfl
  have hlt4 : ρ1 t 4 < m := by have := hH1.lt hf4 (by decide); omega
  refine r_aload_n (pc := 165) hX 75 rfl rfl ?_
  refine r_newX (K := 10) (q := (RX10, TX10, 20)) (n := m) hX 76 hm rfl rfl cl_X11_84 in_X10 iz_X10 (by omega) (by rw [hRm]; exact Nat.le_of_ble_eq_true rfl) (by rw [hRm]; exact Nat.le_of_ble_eq_true rfl) (fun v_2 ρ_3 Z_4 hal_1 => ?_)
  have hn_5 : Z_4.2.2 = (m + 1) := by have := hal_1.1; omega
  have hH_6 : HT ω1 v_2 ρ_3 Z_4 := hH1.al hm (by omega) hal_1
  replace htk1 : Z_4.1 t = 11 := (hal_1.2.2.2.2.2 t (by omega)).2.2.1.trans htk1
  replace htl1 : Z_4.2.1 t = 0 := (hal_1.2.2.2.2.2 t (by omega)).2.2.2.trans htl1
  have hz_7 : ω1 m = 0 := hH1.z0 (by omega)
  have hk_8 : Z_4.1 m = 10 := hal_1.2.1
  have hl_9 : Z_4.2.1 m = 0 := hal_1.2.2.1
  have hold_10 : Old n t ω v ρ Z ω1 v_2 ρ_3 Z_4 := hold1.al0 hal_1 (by omega)
  have holm_10 : Old m t ω1 v1 ρ1 Z1 ω1 v_2 ρ_3 Z_4 := holm1.al0 hal_1 (by omega)
  clear hm
  show wp g X F_X11_init 121 3236 169 [(2, t)] [(2, m), (2, t)] v_2 ρ_3 Z_4
  refine r_dup (pc := 169) hX 77 rfl (show (2 : Nat) ≠ 1 by decide) ?_
  refine r_aload_n (pc := 170) hX 78 rfl rfl ?_
  refine r_getR (q := (ρ1 t 4)) (pc := 171) hX 79 rfl fl_X11_47 rfl htk1 ((congrFun (hal_1.2.2.2.2.2 t (by omega)).2.1 4).trans (rfl)) ?_
  refine r_getR (q := (ρ1 (ρ1 t 4) 0)) (pc := 174) hX 80 rfl fl_X11_51 rfl (hH_6.kd hf4 (by decide)) ((congrFun (hal_1.2.2.2.2.2 (ρ1 t 4) (by have z9 := hlt4; omega)).2.1 0).trans (rfl)) ?_
  have hw_11 : ω1 (ρ1 (ρ1 t 4) 0) = 5 := by rw [← show ρ_3 (ρ1 t 4) 0 = (ρ1 (ρ1 t 4) 0) from (congrFun (hal_1.2.2.2.2.2 (ρ1 t 4) (by have z9 := hlt4; omega)).2.1 0).trans (rfl)]; exact hH_6.rf hf4 (by decide) rfl
  have hlt_12 : (ρ1 (ρ1 t 4) 0) < (m + 1) := by have := hH_6.lt hw_11 (by decide); omega
  refine r_callI (as := [(2, (ρ1 (ρ1 t 4) 0))]) (st := [(2, m), (2, t)]) (pc := 177) hX 81 rfl mo_X10_init rfl rfl ml_X11_86 im_X10_init (c_X10_init g ω1 v_2 ρ_3 Z_4 hH_6 m hz_7 hk_8 hl_9 (by omega) (m + 1) hn_5 (by omega) (fun k => hal_1.2.2.2.1 k) (fun k => hal_1.2.2.2.2.1 k) (ρ1 (ρ1 t 4) 0) hw_11) rfl (by omega) (by rw [hRm]; exact ⟨Nat.le_of_ble_eq_true rfl, Nat.le_of_ble_eq_true rfl⟩) (by rw [hRm]; exact ⟨Nat.le_of_ble_eq_true rfl, Nat.le_of_ble_eq_true rfl⟩) (Nat.le_of_ble_eq_true rfl) (fun o9 v_14 ρ_15 Z_16 hq9 _ => ?_)
  obtain ⟨rfl, hn_20, ω_13, hct_17, hT_18, hHc_19⟩ := hq9
  have hn_21 : Z_16.2.2 = (m + 37) := by omega
  clear hn_20
  have hp_22 : ∀ e, ω1 e ≠ 0 → ω_13 e = ω1 e := fun e he => ((hct_17 e (by have z9 := hH_6.lt (hp0 e he) he; omega) (fun q => he (by rw [← hp0 e he, q]; exact hz_7))).1).trans (hp0 e he)
  replace hf4 : ω_13 (ρ1 t 4) = 22 := ((hct_17 (ρ1 t 4) (by have := hH_6.lt hf4 (by decide); omega) (fun q => by have z := hf4; rw [q, hz_7] at z; exact absurd z (by decide))).1).trans hf4
  replace hw_11 : ω_13 (ρ1 (ρ1 t 4) 0) = 5 := ((hct_17 (ρ1 (ρ1 t 4) 0) (by have := hH_6.lt hw_11 (by decide); omega) (fun q => by have z := hw_11; rw [q, hz_7] at z; exact absurd z (by decide))).1).trans hw_11
  replace ht1 : ω_13 t = 0 := ((hct_17 t (by omega) (by omega)).1).trans ht1
  replace htk1 : Z_16.1 t = 11 := ((hct_17 t (by omega) (by omega)).2.2.2.1).trans htk1
  replace htl1 : Z_16.2.1 t = 0 := ((hct_17 t (by omega) (by omega)).2.2.2.2).trans htl1
  have hold_23 : Old n t ω v ρ Z ω_13 v_14 ρ_15 Z_16 := hold_10.ct hct_17 (by omega) (Or.inr (by omega))
  have holm_23 : Old m t ω1 v1 ρ1 Z1 ω_13 v_14 ρ_15 Z_16 := holm_10.ct hct_17 (by omega) (Or.inr (by omega))
  clear hz_7 hk_8 hl_9
  show wp g X F_X11_init 157 11868 180 [(2, t)] [(2, m), (2, t)] v_14 ρ_15 Z_16
  refine r_putRF (K := 11) (k := 10) (pc := 180) hX 82 rfl rfl (by decide) fw_X11_87 rfl rfl rfl rfl htk1 ht4 ?_
  have hH_24 : HT ω_13 v_14 (up ρ_15 t 10 m) Z_16 := hHc_19.uzr ht1
  have hold_25 : Old n t ω v ρ Z ω_13 v_14 (up ρ_15 t 10 m) Z_16 := hold_23.putr (Or.inl rfl)
  have holm_25 : Old m t ω1 v1 ρ1 Z1 ω_13 v_14 (up ρ_15 t 10 m) Z_16 := holm_23.putr (Or.inl rfl)
  show wp g X F_X11_init 157 11868 183 [(2, t)] [] v_14 (up ρ_15 t 10 m) Z_16
  exact c_X11_sgG11 g X hX hRm hQ (m + 37) ω_13 v_14 (up ρ_15 t 10 m) Z_16 ⟨hn_21, by omega, hold_25, hH_24, htk1, htl1, ht1, fun k => (congrFun (hct_17 t (by omega) (by omega)).2.1 k).trans ((congrFun (hal_1.2.2.2.2.2 t (by omega)).1 k).trans (hv1 k)), fun j d j0 j1 hd => by
    by_cases e : j = 10
    · subst e; rw [up_s]; cases hd; exact hT_18
    · rw [up_k e, ((hct_17 t (by omega) (by omega)).2.2.1).trans (((hal_1.2.2.2.2.2 t (by omega)).2.1).trans (rfl))]
      have z := hro j d j0 (by omega) hd
      rw [hp_22 _ (by rw [z]; exact rf_ne0 hd)]; exact z, fun j hj => by
    rw [up_k (by omega), ((hct_17 t (by omega) (by omega)).2.2.1).trans (((hal_1.2.2.2.2.2 t (by omega)).2.1).trans (rfl))]; exact hr1 j (by omega), fun _ => by rw [show (up ρ_15 t 10 m) t 0 = ρ_15 t 0 from up_k (by decide), ((hct_17 t (by omega) (by omega)).2.2.1).trans (((hal_1.2.2.2.2.2 t (by omega)).2.1).trans (rfl))]; exact (congrFun (holm_25 (ρ1 t 0) fl0 fn0).2.1 1).trans (fz0 (by decide)), fun h => absurd h (by decide), fun _ => by rw [show (up ρ_15 t 10 m) t 1 = ρ_15 t 1 from up_k (by decide), ((hct_17 t (by omega) (by omega)).2.2.1).trans (((hal_1.2.2.2.2.2 t (by omega)).2.1).trans (rfl)), show (up ρ_15 t 10 m) t 0 = ρ_15 t 0 from up_k (by decide), ((hct_17 t (by omega) (by omega)).2.2.1).trans (((hal_1.2.2.2.2.2 t (by omega)).2.1).trans (rfl))]; exact (congrFun (holm_25 (ρ1 t 1) fl1 fn1).2.2.1 0).trans (fzt (by decide)), StJ.next hst hH1 hm0 ht10 hro holm_25 (fun j hj => (up_k (by omega)).trans (congrFun (((hct_17 t (by omega) (by omega)).2.2.1).trans (((hal_1.2.2.2.2.2 t (by omega)).2.1).trans (rfl))) j)) (fun e => absurd e (by decide)) (fun e => absurd e (by decide)) (fun e => absurd e (by decide)) (fun e => absurd e (by decide)) (fun e => absurd e (by decide)) (fun e => absurd e (by decide))⟩ ht4 htn (by omega)
set_option maxHeartbeats 4000000 in
set_option maxRecDepth 100000 in
theorem c_X11_sgG9 (g : Gp) (X : Cx) {n t : Int} {ω : Rw} {v ρ : Mv} {Z : Mz} (hX : okX g X F_X11_init) (hRm : xR X = rmd 6 173 11940) (hQ : hQt g X (RwQG n t ω v ρ Z) 173 11940) (m : Int) (ω1 : Rw) (v1 ρ1 : Mv) (Z1 : Mz) (hI : RwK n t ω v ρ Z 9 m ω1 v1 ρ1 Z1) (ht4 : 4 ≤ t) (htn : t < n) (hmo : m = n + 108) : wp g X F_X11_init 108 3175 150 [(2, t)] [] v1 ρ1 Z1 := by
  obtain ⟨hm, hnm, hold1, hH1, htk1, htl1, ht1, hv1, hro, hr1, fz0, fz13, fzt, hst⟩ := hI
  have hm0 := hm
  have ht10 := ht1
  have holm1 : Old m t ω1 v1 ρ1 Z1 ω1 v1 ρ1 Z1 := Old.rf
  have fw1 : ω1 (ρ1 t 1) = 4 := hro 1 4 (by decide) (by decide) rfl
  have fl1 : ρ1 t 1 < m := by have := hH1.lt fw1 (by decide); omega
  have fn1 : ρ1 t 1 ≠ t := fun q => by rw [q, ht1] at fw1; exact absurd fw1 (by decide)
  have fw0 : ω1 (ρ1 t 0) = 2 := hro 0 2 (by decide) (by decide) rfl
  have fl0 : ρ1 t 0 < m := by have := hH1.lt fw0 (by decide); omega
  have fn0 : ρ1 t 0 ≠ t := fun q => by rw [q, ht1] at fw0; exact absurd fw0 (by decide)
  have hp0 : ∀ e, ω1 e ≠ 0 → ω1 e = ω1 e := fun _ _ => rfl
  have hf8 : ω1 (ρ1 t 8) = 29 := hro 8 29 (by decide) (by decide) rfl
  have hlt8 : ρ1 t 8 < m := by have := hH1.lt hf8 (by decide); omega
  refine r_aload_n (pc := 150) hX 68 rfl rfl ?_
  refine r_newX (K := 0) (q := (RX0, TX0, 6)) (n := m) hX 69 hm rfl rfl cl_X11_75 in_X0 iz_X0 (by omega) (by rw [hRm]; exact Nat.le_of_ble_eq_true rfl) (by rw [hRm]; exact Nat.le_of_ble_eq_true rfl) (fun v_2 ρ_3 Z_4 hal_1 => ?_)
  have hn_5 : Z_4.2.2 = (m + 1) := by have := hal_1.1; omega
  have hH_6 : HT ω1 v_2 ρ_3 Z_4 := hH1.al hm (by omega) hal_1
  replace htk1 : Z_4.1 t = 11 := (hal_1.2.2.2.2.2 t (by omega)).2.2.1.trans htk1
  replace htl1 : Z_4.2.1 t = 0 := (hal_1.2.2.2.2.2 t (by omega)).2.2.2.trans htl1
  have hz_7 : ω1 m = 0 := hH1.z0 (by omega)
  have hk_8 : Z_4.1 m = 0 := hal_1.2.1
  have hl_9 : Z_4.2.1 m = 0 := hal_1.2.2.1
  have hold_10 : Old n t ω v ρ Z ω1 v_2 ρ_3 Z_4 := hold1.al0 hal_1 (by omega)
  have holm_10 : Old m t ω1 v1 ρ1 Z1 ω1 v_2 ρ_3 Z_4 := holm1.al0 hal_1 (by omega)
  clear hm
  show wp g X F_X11_init 109 3181 154 [(2, t)] [(2, m), (2, t)] v_2 ρ_3 Z_4
  refine r_dup (pc := 154) hX 70 rfl (show (2 : Nat) ≠ 1 by decide) ?_
  refine r_aload_n (pc := 155) hX 71 rfl rfl ?_
  refine r_getR (q := (ρ1 t 8)) (pc := 156) hX 72 rfl fl_X11_72 rfl htk1 ((congrFun (hal_1.2.2.2.2.2 t (by omega)).2.1 8).trans (rfl)) ?_
  refine r_callI (as := [(2, (ρ1 t 8))]) (st := [(2, m), (2, t)]) (pc := 159) hX 73 rfl mo_X0_init rfl rfl ml_X11_77 im_X0_init (c_X0_init g ω1 v_2 ρ_3 Z_4 hH_6 m hz_7 hk_8 hl_9 (by omega) (m + 1) hn_5 (by omega) (fun k => hal_1.2.2.2.1 k) (fun k => hal_1.2.2.2.2.1 k) (ρ1 t 8) hf8) rfl (by omega) (by rw [hRm]; exact ⟨Nat.le_of_ble_eq_true rfl, Nat.le_of_ble_eq_true rfl⟩) (by rw [hRm]; exact ⟨Nat.le_of_ble_eq_true rfl, Nat.le_of_ble_eq_true rfl⟩) (Nat.le_of_ble_eq_true rfl) (fun o9 v_12 ρ_13 Z_14 hq9 _ => ?_)
  obtain ⟨rfl, hn_18, ω_11, hct_15, hT_16, hHc_17⟩ := hq9
  have hn_19 : Z_14.2.2 = (m + 12) := by omega
  clear hn_18
  have hp_20 : ∀ e, ω1 e ≠ 0 → ω_11 e = ω1 e := fun e he => ((hct_15 e (by have z9 := hH_6.lt (hp0 e he) he; omega) (fun q => he (by rw [← hp0 e he, q]; exact hz_7))).1).trans (hp0 e he)
  replace hf8 : ω_11 (ρ1 t 8) = 29 := ((hct_15 (ρ1 t 8) (by have := hH_6.lt hf8 (by decide); omega) (fun q => by have z := hf8; rw [q, hz_7] at z; exact absurd z (by decide))).1).trans hf8
  replace ht1 : ω_11 t = 0 := ((hct_15 t (by omega) (by omega)).1).trans ht1
  replace htk1 : Z_14.1 t = 11 := ((hct_15 t (by omega) (by omega)).2.2.2.1).trans htk1
  replace htl1 : Z_14.2.1 t = 0 := ((hct_15 t (by omega) (by omega)).2.2.2.2).trans htl1
  have hold_21 : Old n t ω v ρ Z ω_11 v_12 ρ_13 Z_14 := hold_10.ct hct_15 (by omega) (Or.inr (by omega))
  have holm_21 : Old m t ω1 v1 ρ1 Z1 ω_11 v_12 ρ_13 Z_14 := holm_10.ct hct_15 (by omega) (Or.inr (by omega))
  clear hz_7 hk_8 hl_9
  show wp g X F_X11_init 120 3216 162 [(2, t)] [(2, m), (2, t)] v_12 ρ_13 Z_14
  refine r_putRF (K := 11) (k := 9) (pc := 162) hX 74 rfl rfl (by decide) fw_X11_80 rfl rfl rfl rfl htk1 ht4 ?_
  have hH_22 : HT ω_11 v_12 (up ρ_13 t 9 m) Z_14 := hHc_17.uzr ht1
  have hold_23 : Old n t ω v ρ Z ω_11 v_12 (up ρ_13 t 9 m) Z_14 := hold_21.putr (Or.inl rfl)
  have holm_23 : Old m t ω1 v1 ρ1 Z1 ω_11 v_12 (up ρ_13 t 9 m) Z_14 := holm_21.putr (Or.inl rfl)
  show wp g X F_X11_init 120 3216 165 [(2, t)] [] v_12 (up ρ_13 t 9 m) Z_14
  exact c_X11_sgG10 g X hX hRm hQ (m + 12) ω_11 v_12 (up ρ_13 t 9 m) Z_14 ⟨hn_19, by omega, hold_23, hH_22, htk1, htl1, ht1, fun k => (congrFun (hct_15 t (by omega) (by omega)).2.1 k).trans ((congrFun (hal_1.2.2.2.2.2 t (by omega)).1 k).trans (hv1 k)), fun j d j0 j1 hd => by
    by_cases e : j = 9
    · subst e; rw [up_s]; cases hd; exact hT_16
    · rw [up_k e, ((hct_15 t (by omega) (by omega)).2.2.1).trans (((hal_1.2.2.2.2.2 t (by omega)).2.1).trans (rfl))]
      have z := hro j d j0 (by omega) hd
      rw [hp_20 _ (by rw [z]; exact rf_ne0 hd)]; exact z, fun j hj => by
    rw [up_k (by omega), ((hct_15 t (by omega) (by omega)).2.2.1).trans (((hal_1.2.2.2.2.2 t (by omega)).2.1).trans (rfl))]; exact hr1 j (by omega), fun _ => by rw [show (up ρ_13 t 9 m) t 0 = ρ_13 t 0 from up_k (by decide), ((hct_15 t (by omega) (by omega)).2.2.1).trans (((hal_1.2.2.2.2.2 t (by omega)).2.1).trans (rfl))]; exact (congrFun (holm_23 (ρ1 t 0) fl0 fn0).2.1 1).trans (fz0 (by decide)), fun h => absurd h (by decide), fun _ => by rw [show (up ρ_13 t 9 m) t 1 = ρ_13 t 1 from up_k (by decide), ((hct_15 t (by omega) (by omega)).2.2.1).trans (((hal_1.2.2.2.2.2 t (by omega)).2.1).trans (rfl)), show (up ρ_13 t 9 m) t 0 = ρ_13 t 0 from up_k (by decide), ((hct_15 t (by omega) (by omega)).2.2.1).trans (((hal_1.2.2.2.2.2 t (by omega)).2.1).trans (rfl))]; exact (congrFun (holm_23 (ρ1 t 1) fl1 fn1).2.2.1 0).trans (fzt (by decide)), StJ.next hst hH1 hm0 ht10 hro holm_23 (fun j hj => (up_k (by omega)).trans (congrFun (((hct_15 t (by omega) (by omega)).2.2.1).trans (((hal_1.2.2.2.2.2 t (by omega)).2.1).trans (rfl))) j)) (fun e => absurd e (by decide)) (fun e => absurd e (by decide)) (fun e => absurd e (by decide)) (fun e => absurd e (by decide)) (fun e => absurd e (by decide)) (fun e => absurd e (by decide))⟩ ht4 htn (by omega)
