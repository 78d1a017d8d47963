set_option maxHeartbeats 4000000 in
set_option maxRecDepth 100000 in
theorem c_X8_init (g : Gp) (ω : Rw) (v ρ : Mv) (Z : Mz) (hH : HT ω v ρ Z) (t : Int) (ht : ω t = 0) (htk : Z.1 t = 8) (htl : Z.2.1 t = 0) (ht4 : 4 ≤ t) (n : Int) (hn : Z.2.2 = n) (htn : t < n) (hv0 : ∀ k, v t k = 0) (hr0 : ∀ k, ρ t k = -1) : Ok g 2 1 940 F_X8_init [(2, t)] v ρ Z (fun o9 v' ρ' Z' => o9 = none ∧ Z'.2.2 = n + 1 ∧ ∃ ω' : Rw, Old n t ω v ρ Z ω' v' ρ' Z' ∧ ω' t = 2 ∧ HT ω' v' ρ' Z' ∧ v' t 1 = 0) := by
  refine Ok.of mo_X8_init (Nat.le_of_ble_eq_true rfl) ?_
  intro X hX hRm hxn hQ
  show wp g X F_X8_init 0 0 0 [(2, t)] [] v ρ Z
  have hold0 : Old n t ω v ρ Z ω v ρ Z := Old.rf
  refine r_aload_n (pc := 0) hX 0 rfl rfl ?_
  refine r_objInit (pc := 1) hX 1 rfl (by omega) oi_X8 oi_in oi_cd (by rw [hRm]; exact Nat.le_of_ble_eq_true rfl) (by rw [hRm]; exact Nat.le_of_ble_eq_true rfl) rfl ?_
  refine r_aload_n (pc := 4) hX 2 rfl rfl ?_
  refine r_sipush (pc := 5) hX 3 rfl (by decide) ?_
  refine r_newaX hX 4 15 940 (n := n) hn rfl rfl (by decide) (by decide) ac_byte (by decide) (by omega) (by rw [hRm]; exact Nat.le_of_ble_eq_true rfl) (by rw [hRm]; exact Nat.le_of_ble_eq_true rfl) (fun v_2 ρ_3 Z_4 hal_1 => ?_)
  have hn_5 : Z_4.2.2 = (n + 1) := by have := hal_1.1; omega
  obtain ⟨ω_6, ho_7, hw_8, hH_9⟩ := hH.alR hn (by omega) 3 hal_1 rfl rfl (fun k a b h => by cases h) (fun _ => rfl)
  replace ht : ω_6 t = 0 := (ho_7 t (by omega)).trans ht
  replace htk : Z_4.1 t = 8 := ((hal_1.2.2.2.2.2 t (by omega)).2.2.1).trans htk
  replace htl : Z_4.2.1 t = 0 := ((hal_1.2.2.2.2.2 t (by omega)).2.2.2).trans htl
  have hold_10 : Old n t ω v ρ Z ω_6 v_2 ρ_3 Z_4 := hold0.al ho_7 hal_1 (by omega)
  show wp g X F_X8_init 1 940 10 [(2, t)] [(2, n), (2, t)] v_2 ρ_3 Z_4
  refine r_putRF (K := 8) (k := 0) (pc := 10) hX 5 rfl rfl (by decide) fw_X8_11 rfl rfl rfl rfl htk ht4 ?_
  have hH_11 : HT ω_6 v_2 (up ρ_3 t 0 n) Z_4 := hH_9.uzr ht
  have hold_12 : Old n t ω v ρ Z ω_6 v_2 (up ρ_3 t 0 n) Z_4 := hold_10.putr (Or.inl rfl)
  show wp g X F_X8_init 1 940 13 [(2, t)] [] v_2 (up ρ_3 t 0 n) Z_4
  have hrg : ∀ k a b, rgO 2 k = some (a, b) → a ≤ v_2 t k ∧ v_2 t k ≤ b := fun k a b hh => by
    rcases rgL2 hh with ⟨rfl, rfl, rfl⟩ | ⟨rfl, rfl, rfl⟩ | ⟨rfl, rfl, rfl⟩ | ⟨rfl, rfl, rfl⟩ | ⟨rfl, rfl, rfl⟩ | ⟨rfl, rfl, rfl⟩ | ⟨rfl, rfl, rfl⟩ | ⟨rfl, rfl, rfl⟩ | ⟨rfl, rfl, rfl⟩
    · rw [show v_2 t 1 = 0 from (congrFun (hal_1.2.2.2.2.2 t (by omega)).1 1).trans (hv0 1)]; decide
    · rw [show v_2 t 2 = 0 from (congrFun (hal_1.2.2.2.2.2 t (by omega)).1 2).trans (hv0 2)]; decide
    · rw [show v_2 t 3 = 0 from (congrFun (hal_1.2.2.2.2.2 t (by omega)).1 3).trans (hv0 3)]; decide
    · rw [show v_2 t 4 = 0 from (congrFun (hal_1.2.2.2.2.2 t (by omega)).1 4).trans (hv0 4)]; decide
    · rw [show v_2 t 5 = 0 from (congrFun (hal_1.2.2.2.2.2 t (by omega)).1 5).trans (hv0 5)]; decide
    · rw [show v_2 t 6 = 0 from (congrFun (hal_1.2.2.2.2.2 t (by omega)).1 6).trans (hv0 6)]; decide
    · rw [show v_2 t 7 = 0 from (congrFun (hal_1.2.2.2.2.2 t (by omega)).1 7).trans (hv0 7)]; decide
    · rw [show v_2 t 9 = 0 from (congrFun (hal_1.2.2.2.2.2 t (by omega)).1 9).trans (hv0 9)]; decide
    · rw [show v_2 t 10 = 0 from (congrFun (hal_1.2.2.2.2.2 t (by omega)).1 10).trans (hv0 10)]; decide
  have hrf : ∀ k e, rfO 2 k = some e → setR ω_6 t 2 ((up ρ_3 t 0 n) t k) = e := fun k e hh => by
    rcases rfL2 hh with ⟨rfl, rfl⟩
    · rw [show (up ρ_3 t 0 n) t 0 = n from up_s _ _ _ _, setR_ne (by first | omega | exact fun q => by have z := hw_8; rw [q, ht] at z; exact absurd z (by decide))]; exact hw_8
  have hrn : ∀ k e, rnO 2 k = some e → (up ρ_3 t 0 n) t k < 0 ∨ setR ω_6 t 2 ((up ρ_3 t 0 n) t k) = e := fun k e hh => by cases hh
  exact r_vret (pc := 13) hX 6 hQ rfl rfl (Nat.le_of_ble_eq_true rfl) (Nat.le_of_ble_eq_true rfl) ⟨rfl, by omega, setR ω_6 t 2, hold_12.set, setR_s, hH_11.add ht ⟨ht4, by omega, by rw [htk]; rfl, by rw [htl]; rfl, hrg, hrf, hrn⟩, (congrFun (hal_1.2.2.2.2.2 t (by omega)).1 1).trans (hv0 1)⟩
set_option maxHeartbeats 4000000 in
set_option maxRecDepth 100000 in
theorem c_X6_init (g : Gp) (ω : Rw) (v ρ : Mv) (Z : Mz) (hH : HT ω v ρ Z) (t : Int) (ht : ω t = 0) (htk : Z.1 t = 6) (htl : Z.2.1 t = 0) (ht4 : 4 ≤ t) (n : Int) (hn : Z.2.2 = n) (htn : t < n) (hv0 : ∀ k, v t k = 0) (hr0 : ∀ k, ρ t k = -1) : Ok g 2 3 120 F_X6_init [(2, t)] v ρ Z (fun o9 v' ρ' Z' => o9 = none ∧ Z'.2.2 = n + 3 ∧ ∃ ω' : Rw, Old n t ω v ρ Z ω' v' ρ' Z' ∧ ω' t = 19 ∧ HT ω' v' ρ' Z') := by
  refine Ok.of mo_X6_init (Nat.le_of_ble_eq_true rfl) ?_
  intro X hX hRm hxn hQ
  show wp g X F_X6_init 0 0 0 [(2, t)] [] v ρ Z
  have hold0 : Old n t ω v ρ Z ω v ρ Z := Old.rf
  refine r_aload_n (pc := 0) hX 0 rfl rfl ?_
  refine r_objInit (pc := 1) hX 1 rfl (by omega) oi_X6 oi_in oi_cd (by rw [hRm]; exact Nat.le_of_ble_eq_true rfl) (by rw [hRm]; exact Nat.le_of_ble_eq_true rfl) rfl ?_
  refine r_aload_n (pc := 4) hX 2 rfl rfl ?_
  refine r_bipush (pc := 5) hX 3 rfl (by decide) ?_
  refine r_newaX hX 4 13 40 (n := n) hn rfl rfl (by decide) (by decide) ac_int (by decide) (by omega) (by rw [hRm]; exact Nat.le_of_ble_eq_true rfl) (by rw [hRm]; exact Nat.le_of_ble_eq_true rfl) (fun v_2 ρ_3 Z_4 hal_1 => ?_)
  have hn_5 : Z_4.2.2 = (n + 1) := by have := hal_1.1; omega
  obtain ⟨ω_6, ho_7, hw_8, hH_9⟩ := hH.alR hn (by omega) 20 hal_1 rfl rfl (fun k a b h => by cases h) (fun _ => rfl)
  replace ht : ω_6 t = 0 := (ho_7 t (by omega)).trans ht
  replace htk : Z_4.1 t = 6 := ((hal_1.2.2.2.2.2 t (by omega)).2.2.1).trans htk
  replace htl : Z_4.2.1 t = 0 := ((hal_1.2.2.2.2.2 t (by omega)).2.2.2).trans htl
  have hold_10 : Old n t ω v ρ Z ω_6 v_2 ρ_3 Z_4 := hold0.al ho_7 hal_1 (by omega)
  show wp g X F_X6_init 1 40 9 [(2, t)] [(2, n), (2, t)] v_2 ρ_3 Z_4
  refine r_putRF (K := 6) (k := 0) (pc := 9) hX 5 rfl rfl (by decide) fw_X6_11 rfl rfl rfl rfl htk ht4 ?_
  have hH_11 : HT ω_6 v_2 (up ρ_3 t 0 n) Z_4 := hH_9.uzr ht
  have hold_12 : Old n t ω v ρ Z ω_6 v_2 (up ρ_3 t 0 n) Z_4 := hold_10.putr (Or.inl rfl)
  show wp g X F_X6_init 1 40 12 [(2, t)] [] v_2 (up ρ_3 t 0 n) Z_4
  refine r_aload_n (pc := 12) hX 6 rfl rfl ?_
  refine r_bipush (pc := 13) hX 7 rfl (by decide) ?_
  refine r_newaX hX 8 13 40 (n := (n + 1)) hn_5 rfl rfl (by decide) (by decide) ac_int (by decide) (by omega) (by rw [hRm]; exact Nat.le_of_ble_eq_true rfl) (by rw [hRm]; exact Nat.le_of_ble_eq_true rfl) (fun v_14 ρ_15 Z_16 hal_13 => ?_)
  have hn_17 : Z_16.2.2 = (n + 2) := by have := hal_13.1; omega
  obtain ⟨ω_18, ho_19, hw_20, hH_21⟩ := hH_11.alR hn_5 (by omega) 20 hal_13 rfl rfl (fun k a b h => by cases h) (fun _ => rfl)
  replace hw_8 : ω_18 n = 20 := (ho_19 n (by have := hH_11.lt hw_8 (by decide); omega)).trans hw_8
  replace ht : ω_18 t = 0 := (ho_19 t (by omega)).trans ht
  replace htk : Z_16.1 t = 6 := ((hal_13.2.2.2.2.2 t (by omega)).2.2.1).trans htk
  replace htl : Z_16.2.1 t = 0 := ((hal_13.2.2.2.2.2 t (by omega)).2.2.2).trans htl
  have hold_22 : Old n t ω v ρ Z ω_18 v_14 ρ_15 Z_16 := hold_12.al ho_19 hal_13 (by omega)
  clear hn_5
  show wp g X F_X6_init 2 80 17 [(2, t)] [(2, (n + 1)), (2, t)] v_14 ρ_15 Z_16
  refine r_putRF (K := 6) (k := 1) (pc := 17) hX 9 rfl rfl (by decide) fw_X6_15 rfl rfl rfl rfl htk ht4 ?_
  have hH_23 : HT ω_18 v_14 (up ρ_15 t 1 (n + 1)) Z_16 := hH_21.uzr ht
  have hold_24 : Old n t ω v ρ Z ω_18 v_14 (up ρ_15 t 1 (n + 1)) Z_16 := hold_22.putr (Or.inl rfl)
  show wp g X F_X6_init 2 80 20 [(2, t)] [] v_14 (up ρ_15 t 1 (n + 1)) Z_16
  refine r_aload_n (pc := 20) hX 10 rfl rfl ?_
  refine r_bipush (pc := 21) hX 11 rfl (by decide) ?_
  refine r_newaX hX 12 13 40 (n := (n + 2)) hn_17 rfl rfl (by decide) (by decide) ac_int (by decide) (by omega) (by rw [hRm]; exact Nat.le_of_ble_eq_true rfl) (by rw [hRm]; exact Nat.le_of_ble_eq_true rfl) (fun v_26 ρ_27 Z_28 hal_25 => ?_)
  have hn_29 : Z_28.2.2 = (n + 3) := by have := hal_25.1; omega
  obtain ⟨ω_30, ho_31, hw_32, hH_33⟩ := hH_23.alR hn_17 (by omega) 20 hal_25 rfl rfl (fun k a b h => by cases h) (fun _ => rfl)
  replace hw_8 : ω_30 n = 20 := (ho_31 n (by have := hH_23.lt hw_8 (by decide); omega)).trans hw_8
  replace hw_20 : ω_30 (n + 1) = 20 := (ho_31 (n + 1) (by have := hH_23.lt hw_20 (by decide); omega)).trans hw_20
  replace ht : ω_30 t = 0 := (ho_31 t (by omega)).trans ht
  replace htk : Z_28.1 t = 6 := ((hal_25.2.2.2.2.2 t (by omega)).2.2.1).trans htk
  replace htl : Z_28.2.1 t = 0 := ((hal_25.2.2.2.2.2 t (by omega)).2.2.2).trans htl
  have hold_34 : Old n t ω v ρ Z ω_30 v_26 ρ_27 Z_28 := hold_24.al ho_31 hal_25 (by omega)
  clear hn_17
  show wp g X F_X6_init 3 120 25 [(2, t)] [(2, (n + 2)), (2, t)] v_26 ρ_27 Z_28
  refine r_putRF (K := 6) (k := 2) (pc := 25) hX 13 rfl rfl (by decide) fw_X6_18 rfl rfl rfl rfl htk ht4 ?_
  have hH_35 : HT ω_30 v_26 (up ρ_27 t 2 (n + 2)) Z_28 := hH_33.uzr ht
  have hold_36 : Old n t ω v ρ Z ω_30 v_26 (up ρ_27 t 2 (n + 2)) Z_28 := hold_34.putr (Or.inl rfl)
  show wp g X F_X6_init 3 120 28 [(2, t)] [] v_26 (up ρ_27 t 2 (n + 2)) Z_28
  have hrg : ∀ k a b, rgO 19 k = some (a, b) → a ≤ v_26 t k ∧ v_26 t k ≤ b := fun k a b hh => by
    rcases rgL19 hh with ⟨rfl, rfl, rfl⟩ | ⟨rfl, rfl, rfl⟩
    · rw [show v_26 t 3 = 0 from (congrFun (hal_25.2.2.2.2.2 t (by omega)).1 3).trans ((congrFun (hal_13.2.2.2.2.2 t (by omega)).1 3).trans ((congrFun (hal_1.2.2.2.2.2 t (by omega)).1 3).trans (hv0 3)))]; decide
    · rw [show v_26 t 4 = 0 from (congrFun (hal_25.2.2.2.2.2 t (by omega)).1 4).trans ((congrFun (hal_13.2.2.2.2.2 t (by omega)).1 4).trans ((congrFun (hal_1.2.2.2.2.2 t (by omega)).1 4).trans (hv0 4)))]; decide
  have hrf : ∀ k e, rfO 19 k = some e → setR ω_30 t 19 ((up ρ_27 t 2 (n + 2)) t k) = e := fun k e hh => by
    rcases rfL19 hh with ⟨rfl, rfl⟩ | ⟨rfl, rfl⟩ | ⟨rfl, rfl⟩
    · rw [show (up ρ_27 t 2 (n + 2)) t 0 = n from (up_k (by decide)).trans ((congrFun (hal_25.2.2.2.2.2 t (by omega)).2.1 0).trans ((up_k (by decide)).trans ((congrFun (hal_13.2.2.2.2.2 t (by omega)).2.1 0).trans (up_s _ _ _ _)))), setR_ne (by first | omega | exact fun q => by have z := hw_8; rw [q, ht] at z; exact absurd z (by decide))]; exact hw_8
    · rw [show (up ρ_27 t 2 (n + 2)) t 1 = (n + 1) from (up_k (by decide)).trans ((congrFun (hal_25.2.2.2.2.2 t (by omega)).2.1 1).trans (up_s _ _ _ _)), setR_ne (by first | omega | exact fun q => by have z := hw_20; rw [q, ht] at z; exact absurd z (by decide))]; exact hw_20
    · rw [show (up ρ_27 t 2 (n + 2)) t 2 = (n + 2) from up_s _ _ _ _, setR_ne (by first | omega | exact fun q => by have z := hw_32; rw [q, ht] at z; exact absurd z (by decide))]; exact hw_32
  have hrn : ∀ k e, rnO 19 k = some e → (up ρ_27 t 2 (n + 2)) t k < 0 ∨ setR ω_30 t 19 ((up ρ_27 t 2 (n + 2)) t k) = e := fun k e hh => by cases hh
  exact r_vret (pc := 28) hX 14 hQ rfl rfl (Nat.le_of_ble_eq_true rfl) (Nat.le_of_ble_eq_true rfl) ⟨rfl, by omega, setR ω_30 t 19, hold_36.set, setR_s, hH_35.add ht ⟨ht4, by omega, by rw [htk]; rfl, by rw [htl]; rfl, hrg, hrf, hrn⟩⟩
set_option maxHeartbeats 4000000 in
set_option maxRecDepth 100000 in
theorem c_X4_init (g : Gp) (ω : Rw) (v ρ : Mv) (Z : Mz) (hH : HT ω v ρ Z) (t : Int) (ht : ω t = 0) (htk : Z.1 t = 4) (htl : Z.2.1 t = 0) (ht4 : 4 ≤ t) (n : Int) (hn : Z.2.2 = n) (htn : t < n) (hv0 : ∀ k, v t k = 0) (hr0 : ∀ k, ρ t k = -1) : Ok g 2 11 44 F_X4_init [(2, t)] v ρ Z (fun o9 v' ρ' Z' => o9 = none ∧ Z'.2.2 = n + 11 ∧ ∃ ω' : Rw, Old n t ω v ρ Z ω' v' ρ' Z' ∧ ω' t = 5 ∧ HT ω' v' ρ' Z') := by
  refine Ok.of mo_X4_init (Nat.le_of_ble_eq_true rfl) ?_
  intro X hX hRm hxn hQ
  show wp g X F_X4_init 0 0 0 [(2, t), (3, 0)] [] v ρ Z
  have hold0 : Old n t ω v ρ Z ω v ρ Z := Old.rf
  refine r_aload_n (pc := 0) hX 0 rfl rfl ?_
  refine r_objInit (pc := 1) hX 1 rfl (by omega) oi_X4 oi_in oi_cd (by rw [hRm]; exact Nat.le_of_ble_eq_true rfl) (by rw [hRm]; exact Nat.le_of_ble_eq_true rfl) rfl ?_
  refine r_aload_n (pc := 4) hX 2 rfl rfl ?_
  refine r_iconst (pc := 5) hX 3 rfl ?_
  refine r_newaX hX 4 14 4 (n := n) hn rfl rfl (by decide) (by decide) ac_long (by decide) (by omega) (by rw [hRm]; exact Nat.le_of_ble_eq_true rfl) (by rw [hRm]; exact Nat.le_of_ble_eq_true rfl) (fun v_2 ρ_3 Z_4 hal_1 => ?_)
  have hn_5 : Z_4.2.2 = (n + 1) := by have := hal_1.1; omega
  obtain ⟨ω_6, ho_7, hw_8, hH_9⟩ := hH.alR hn (by omega) 6 hal_1 rfl rfl (fun k a b h => by cases h) (fun _ => rfl)
  replace ht : ω_6 t = 0 := (ho_7 t (by omega)).trans ht
  replace htk : Z_4.1 t = 4 := ((hal_1.2.2.2.2.2 t (by omega)).2.2.1).trans htk
  replace htl : Z_4.2.1 t = 0 := ((hal_1.2.2.2.2.2 t (by omega)).2.2.2).trans htl
  have hold_10 : Old n t ω v ρ Z ω_6 v_2 ρ_3 Z_4 := hold0.al ho_7 hal_1 (by omega)
  show wp g X F_X4_init 1 4 8 [(2, t), (3, 0)] [(2, n), (2, t)] v_2 ρ_3 Z_4
  refine r_putRF (K := 4) (k := 0) (pc := 8) hX 5 rfl rfl (by decide) fw_X4_9 rfl rfl rfl rfl htk ht4 ?_
  have hH_11 : HT ω_6 v_2 (up ρ_3 t 0 n) Z_4 := hH_9.uzr ht
  have hold_12 : Old n t ω v ρ Z ω_6 v_2 (up ρ_3 t 0 n) Z_4 := hold_10.putr (Or.inl rfl)
  show wp g X F_X4_init 1 4 11 [(2, t), (3, 0)] [] v_2 (up ρ_3 t 0 n) Z_4
  refine r_aload_n (pc := 11) hX 6 rfl rfl ?_
  refine r_iconst (pc := 12) hX 7 rfl ?_
  refine r_newaX hX 8 13 5 (n := (n + 1)) hn_5 rfl rfl (by decide) (by decide) ac_int (by decide) (by omega) (by rw [hRm]; exact Nat.le_of_ble_eq_true rfl) (by rw [hRm]; exact Nat.le_of_ble_eq_true rfl) (fun v_14 ρ_15 Z_16 hal_13 => ?_)
  have hn_17 : Z_16.2.2 = (n + 2) := by have := hal_13.1; omega
  obtain ⟨ω_18, ho_19, hw_20, hH_21⟩ := hH_11.alR hn_5 (by omega) 9 hal_13 rfl rfl (fun k a b h => by cases h; decide) (fun _ => rfl)
  replace hw_8 : ω_18 n = 6 := (ho_19 n (by have := hH_11.lt hw_8 (by decide); omega)).trans hw_8
  replace ht : ω_18 t = 0 := (ho_19 t (by omega)).trans ht
  replace htk : Z_16.1 t = 4 := ((hal_13.2.2.2.2.2 t (by omega)).2.2.1).trans htk
  replace htl : Z_16.2.1 t = 0 := ((hal_13.2.2.2.2.2 t (by omega)).2.2.2).trans htl
  have hold_22 : Old n t ω v ρ Z ω_18 v_14 ρ_15 Z_16 := hold_12.al ho_19 hal_13 (by omega)
  clear hn_5
  show wp g X F_X4_init 2 9 15 [(2, t), (3, 0)] [(2, (n + 1)), (2, t)] v_14 ρ_15 Z_16
  refine r_putRF (K := 4) (k := 1) (pc := 15) hX 9 rfl rfl (by decide) fw_X4_15 rfl rfl rfl rfl htk ht4 ?_
  have hH_23 : HT ω_18 v_14 (up ρ_15 t 1 (n + 1)) Z_16 := hH_21.uzr ht
  have hold_24 : Old n t ω v ρ Z ω_18 v_14 (up ρ_15 t 1 (n + 1)) Z_16 := hold_22.putr (Or.inl rfl)
  show wp g X F_X4_init 2 9 18 [(2, t), (3, 0)] [] v_14 (up ρ_15 t 1 (n + 1)) Z_16
  refine r_aload_n (pc := 18) hX 10 rfl rfl ?_
  refine r_iconst (pc := 19) hX 11 rfl ?_
  refine r_newaX hX 12 16 5 (n := (n + 2)) hn_17 rfl rfl (by decide) (by decide) ac_boolean (by decide) (by omega) (by rw [hRm]; exact Nat.le_of_ble_eq_true rfl) (by rw [hRm]; exact Nat.le_of_ble_eq_true rfl) (fun v_26 ρ_27 Z_28 hal_25 => ?_)
  have hn_29 : Z_28.2.2 = (n + 3) := by have := hal_25.1; omega
  obtain ⟨ω_30, ho_31, hw_32, hH_33⟩ := hH_23.alR hn_17 (by omega) 10 hal_25 rfl rfl (fun k a b h => by cases h) (fun _ => rfl)
  replace hw_8 : ω_30 n = 6 := (ho_31 n (by have := hH_23.lt hw_8 (by decide); omega)).trans hw_8
  replace hw_20 : ω_30 (n + 1) = 9 := (ho_31 (n + 1) (by have := hH_23.lt hw_20 (by decide); omega)).trans hw_20
  replace ht : ω_30 t = 0 := (ho_31 t (by omega)).trans ht
  replace htk : Z_28.1 t = 4 := ((hal_25.2.2.2.2.2 t (by omega)).2.2.1).trans htk
  replace htl : Z_28.2.1 t = 0 := ((hal_25.2.2.2.2.2 t (by omega)).2.2.2).trans htl
  have hold_34 : Old n t ω v ρ Z ω_30 v_26 ρ_27 Z_28 := hold_24.al ho_31 hal_25 (by omega)
  clear hn_17
  show wp g X F_X4_init 3 14 22 [(2, t), (3, 0)] [(2, (n + 2)), (2, t)] v_26 ρ_27 Z_28
  refine r_putRF (K := 4) (k := 2) (pc := 22) hX 13 rfl rfl (by decide) fw_X4_19 rfl rfl rfl rfl htk ht4 ?_
  have hH_35 : HT ω_30 v_26 (up ρ_27 t 2 (n + 2)) Z_28 := hH_33.uzr ht
  have hold_36 : Old n t ω v ρ Z ω_30 v_26 (up ρ_27 t 2 (n + 2)) Z_28 := hold_34.putr (Or.inl rfl)
  show wp g X F_X4_init 3 14 25 [(2, t), (3, 0)] [] v_26 (up ρ_27 t 2 (n + 2)) Z_28
  refine r_aload_n (pc := 25) hX 14 rfl rfl ?_
  refine r_iconst (pc := 26) hX 15 rfl ?_
  refine r_newaX hX 16 14 3 (n := (n + 3)) hn_29 rfl rfl (by decide) (by decide) ac_long (by decide) (by omega) (by rw [hRm]; exact Nat.le_of_ble_eq_true rfl) (by rw [hRm]; exact Nat.le_of_ble_eq_true rfl) (fun v_38 ρ_39 Z_40 hal_37 => ?_)
  have hn_41 : Z_40.2.2 = (n + 4) := by have := hal_37.1; omega
  obtain ⟨ω_42, ho_43, hw_44, hH_45⟩ := hH_35.alR hn_29 (by omega) 7 hal_37 rfl rfl (fun k a b h => by cases h) (fun _ => rfl)
  replace hw_8 : ω_42 n = 6 := (ho_43 n (by have := hH_35.lt hw_8 (by decide); omega)).trans hw_8
  replace hw_20 : ω_42 (n + 1) = 9 := (ho_43 (n + 1) (by have := hH_35.lt hw_20 (by decide); omega)).trans hw_20
  replace hw_32 : ω_42 (n + 2) = 10 := (ho_43 (n + 2) (by have := hH_35.lt hw_32 (by decide); omega)).trans hw_32
  replace ht : ω_42 t = 0 := (ho_43 t (by omega)).trans ht
  replace htk : Z_40.1 t = 4 := ((hal_37.2.2.2.2.2 t (by omega)).2.2.1).trans htk
  replace htl : Z_40.2.1 t = 0 := ((hal_37.2.2.2.2.2 t (by omega)).2.2.2).trans htl
  have hold_46 : Old n t ω v ρ Z ω_42 v_38 ρ_39 Z_40 := hold_36.al ho_43 hal_37 (by omega)
  clear hn_29
  show wp g X F_X4_init 4 17 29 [(2, t), (3, 0)] [(2, (n + 3)), (2, t)] v_38 ρ_39 Z_40
  refine r_putRF (K := 4) (k := 3) (pc := 29) hX 17 rfl rfl (by decide) fw_X4_23 rfl rfl rfl rfl htk ht4 ?_
  have hH_47 : HT ω_42 v_38 (up ρ_39 t 3 (n + 3)) Z_40 := hH_45.uzr ht
  have hold_48 : Old n t ω v ρ Z ω_42 v_38 (up ρ_39 t 3 (n + 3)) Z_40 := hold_46.putr (Or.inl rfl)
  show wp g X F_X4_init 4 17 32 [(2, t), (3, 0)] [] v_38 (up ρ_39 t 3 (n + 3)) Z_40
  refine r_aload_n (pc := 32) hX 18 rfl rfl ?_
  refine r_iconst (pc := 33) hX 19 rfl ?_
  refine r_newaX hX 20 13 3 (n := (n + 4)) hn_41 rfl rfl (by decide) (by decide) ac_int (by decide) (by omega) (by rw [hRm]; exact Nat.le_of_ble_eq_true rfl) (by rw [hRm]; exact Nat.le_of_ble_eq_true rfl) (fun v_50 ρ_51 Z_52 hal_49 => ?_)
  have hn_53 : Z_52.2.2 = (n + 5) := by have := hal_49.1; omega
  obtain ⟨ω_54, ho_55, hw_56, hH_57⟩ := hH_47.alR hn_41 (by omega) 11 hal_49 rfl rfl (fun k a b h => by cases h; decide) (fun _ => rfl)
  replace hw_8 : ω_54 n = 6 := (ho_55 n (by have := hH_47.lt hw_8 (by decide); omega)).trans hw_8
  replace hw_20 : ω_54 (n + 1) = 9 := (ho_55 (n + 1) (by have := hH_47.lt hw_20 (by decide); omega)).trans hw_20
  replace hw_32 : ω_54 (n + 2) = 10 := (ho_55 (n + 2) (by have := hH_47.lt hw_32 (by decide); omega)).trans hw_32
  replace hw_44 : ω_54 (n + 3) = 7 := (ho_55 (n + 3) (by have := hH_47.lt hw_44 (by decide); omega)).trans hw_44
  replace ht : ω_54 t = 0 := (ho_55 t (by omega)).trans ht
  replace htk : Z_52.1 t = 4 := ((hal_49.2.2.2.2.2 t (by omega)).2.2.1).trans htk
  replace htl : Z_52.2.1 t = 0 := ((hal_49.2.2.2.2.2 t (by omega)).2.2.2).trans htl
  have hold_58 : Old n t ω v ρ Z ω_54 v_50 ρ_51 Z_52 := hold_48.al ho_55 hal_49 (by omega)
  clear hn_41
  show wp g X F_X4_init 5 20 36 [(2, t), (3, 0)] [(2, (n + 4)), (2, t)] v_50 ρ_51 Z_52
  refine r_dup (pc := 36) hX 21 rfl (show (2 : Nat) ≠ 1 by decide) ?_
  refine r_iconst (pc := 37) hX 22 rfl ?_
  refine r_iconst (pc := 38) hX 23 rfl ?_
  refine e_iast (n := 3) (pc := 39) hX 24 rfl (hH_57.kd hw_56 (by decide)) (hH_57.ln hw_56 (by decide)) (by omega) (by decide) (by decide) ?_
  have hH_59 : HT ω_54 (up v_50 (n + 4) 0 1) ρ_51 Z_52 := hH_57.upR hw_56 (by decide) rfl (by decide) (by decide)
  have hold_60 : Old n t ω v ρ Z ω_54 (up v_50 (n + 4) 0 1) ρ_51 Z_52 := hold_58.put (Or.inr (by omega))
  refine r_dup (pc := 40) hX 25 rfl (show (2 : Nat) ≠ 1 by decide) ?_
  refine r_iconst (pc := 41) hX 26 rfl ?_
  refine r_iconst (pc := 42) hX 27 rfl ?_
  refine e_iast (n := 3) (pc := 43) hX 28 rfl (hH_59.kd hw_56 (by decide)) (hH_59.ln hw_56 (by decide)) (by omega) (by decide) (by decide) ?_
  have hH_61 : HT ω_54 (up (up v_50 (n + 4) 0 1) (n + 4) 1 0) ρ_51 Z_52 := hH_59.upR hw_56 (by decide) rfl (by decide) (by decide)
  have hold_62 : Old n t ω v ρ Z ω_54 (up (up v_50 (n + 4) 0 1) (n + 4) 1 0) ρ_51 Z_52 := hold_60.put (Or.inr (by omega))
  refine r_dup (pc := 44) hX 29 rfl (show (2 : Nat) ≠ 1 by decide) ?_
  refine r_iconst (pc := 45) hX 30 rfl ?_
  refine r_iconst (pc := 46) hX 31 rfl ?_
  refine e_iast (n := 3) (pc := 47) hX 32 rfl (hH_61.kd hw_56 (by decide)) (hH_61.ln hw_56 (by decide)) (by omega) (by decide) (by decide) ?_
  have hH_63 : HT ω_54 (up (up (up v_50 (n + 4) 0 1) (n + 4) 1 0) (n + 4) 2 0) ρ_51 Z_52 := hH_61.upR hw_56 (by decide) rfl (by decide) (by decide)
  have hold_64 : Old n t ω v ρ Z ω_54 (up (up (up v_50 (n + 4) 0 1) (n + 4) 1 0) (n + 4) 2 0) ρ_51 Z_52 := hold_62.put (Or.inr (by omega))
  refine r_putRF (K := 4) (k := 4) (pc := 48) hX 33 rfl rfl (by decide) fw_X4_26 rfl rfl rfl rfl htk ht4 ?_
  have hH_65 : HT ω_54 (up (up (up v_50 (n + 4) 0 1) (n + 4) 1 0) (n + 4) 2 0) (up ρ_51 t 4 (n + 4)) Z_52 := hH_63.uzr ht
  have hold_66 : Old n t ω v ρ Z ω_54 (up (up (up v_50 (n + 4) 0 1) (n + 4) 1 0) (n + 4) 2 0) (up ρ_51 t 4 (n + 4)) Z_52 := hold_64.putr (Or.inl rfl)
  show wp g X F_X4_init 5 20 51 [(2, t), (3, 0)] [] (up (up (up v_50 (n + 4) 0 1) (n + 4) 1 0) (n + 4) 2 0) (up ρ_51 t 4 (n + 4)) Z_52
  refine r_aload_n (pc := 51) hX 34 rfl rfl ?_
  refine r_iconst (pc := 52) hX 35 rfl ?_
  refine r_iconst (pc := 53) hX 36 rfl ?_
  refine r_mna hX 37 19 13 3 5 (n := (n + 5)) hn_53 rfl (by decide) cl_X4_29 ac_int (by decide) (by decide) (by omega) (by rw [hRm]; exact Nat.le_of_ble_eq_true rfl) (by rw [hRm]; exact Nat.le_of_ble_eq_true rfl) (fun v_68 ρ_69 Z_70 hal_67 => ?_)
  have hn_71 : Z_70.2.2 = (n + 9) := by have := hal_67.1; omega
  obtain ⟨ω_72, ho_73, hw_74, hwr_76, hH_75⟩ := hH_65.al2R hn_53 (by omega) 12 13 hal_67 (by decide) rfl rfl rfl rfl (fun k a b h => by cases h; decide) (fun _ => rfl) (fun _ => rfl) (fun _ => rfl) (fun k d h => rfA12 h) (fun _ => rfl) (by decide)
  replace hw_8 : ω_72 n = 6 := (ho_73 n (by have := hH_65.lt hw_8 (by decide); omega)).trans hw_8
  replace hw_20 : ω_72 (n + 1) = 9 := (ho_73 (n + 1) (by have := hH_65.lt hw_20 (by decide); omega)).trans hw_20
  replace hw_32 : ω_72 (n + 2) = 10 := (ho_73 (n + 2) (by have := hH_65.lt hw_32 (by decide); omega)).trans hw_32
  replace hw_44 : ω_72 (n + 3) = 7 := (ho_73 (n + 3) (by have := hH_65.lt hw_44 (by decide); omega)).trans hw_44
  replace hw_56 : ω_72 (n + 4) = 11 := (ho_73 (n + 4) (by have := hH_65.lt hw_56 (by decide); omega)).trans hw_56
  replace ht : ω_72 t = 0 := (ho_73 t (by omega)).trans ht
  replace htk : Z_70.1 t = 4 := ((hal_67.2.2.2.2.2 t (by omega)).2.2.1).trans htk
  replace htl : Z_70.2.1 t = 0 := ((hal_67.2.2.2.2.2 t (by omega)).2.2.2).trans htl
  have hw_77 : ω_72 (n + 6) = 13 := by have z := hwr_76 0 (by decide) (by decide); rw [show (n + 5) + 1 + (0 : Int) = (n + 6) by omega] at z; exact z
  have hw_78 : ω_72 (n + 7) = 13 := by have z := hwr_76 1 (by decide) (by decide); rw [show (n + 5) + 1 + (1 : Int) = (n + 7) by omega] at z; exact z
  have hw_79 : ω_72 (n + 8) = 13 := by have z := hwr_76 2 (by decide) (by decide); rw [show (n + 5) + 1 + (2 : Int) = (n + 8) by omega] at z; exact z
  have hold_80 : Old n t ω v ρ Z ω_72 v_68 ρ_69 Z_70 := hold_66.al2 ho_73 hal_67 (by omega)
  clear hn_53
  show wp g X F_X4_init 9 38 58 [(2, t), (3, 0)] [(2, (n + 5)), (2, t)] v_68 ρ_69 Z_70
  refine r_putRF (K := 4) (k := 5) (pc := 58) hX 38 rfl rfl (by decide) fw_X4_31 rfl rfl rfl rfl htk ht4 ?_
  have hH_81 : HT ω_72 v_68 (up ρ_69 t 5 (n + 5)) Z_70 := hH_75.uzr ht
  have hold_82 : Old n t ω v ρ Z ω_72 v_68 (up ρ_69 t 5 (n + 5)) Z_70 := hold_80.putr (Or.inl rfl)
  show wp g X F_X4_init 9 38 61 [(2, t), (3, 0)] [] v_68 (up ρ_69 t 5 (n + 5)) Z_70
  refine r_aload_n (pc := 61) hX 39 rfl rfl ?_
  refine r_iconst (pc := 62) hX 40 rfl ?_
  refine r_newaX hX 41 14 3 (n := (n + 9)) hn_71 rfl rfl (by decide) (by decide) ac_long (by decide) (by omega) (by rw [hRm]; exact Nat.le_of_ble_eq_true rfl) (by rw [hRm]; exact Nat.le_of_ble_eq_true rfl) (fun v_84 ρ_85 Z_86 hal_83 => ?_)
  have hn_87 : Z_86.2.2 = (n + 10) := by have := hal_83.1; omega
  obtain ⟨ω_88, ho_89, hw_90, hH_91⟩ := hH_81.alR hn_71 (by omega) 8 hal_83 rfl rfl (fun k a b h => by cases h) (fun _ => rfl)
  replace hw_8 : ω_88 n = 6 := (ho_89 n (by have := hH_81.lt hw_8 (by decide); omega)).trans hw_8
  replace hw_20 : ω_88 (n + 1) = 9 := (ho_89 (n + 1) (by have := hH_81.lt hw_20 (by decide); omega)).trans hw_20
  replace hw_32 : ω_88 (n + 2) = 10 := (ho_89 (n + 2) (by have := hH_81.lt hw_32 (by decide); omega)).trans hw_32
  replace hw_44 : ω_88 (n + 3) = 7 := (ho_89 (n + 3) (by have := hH_81.lt hw_44 (by decide); omega)).trans hw_44
  replace hw_56 : ω_88 (n + 4) = 11 := (ho_89 (n + 4) (by have := hH_81.lt hw_56 (by decide); omega)).trans hw_56
  replace hw_77 : ω_88 (n + 6) = 13 := (ho_89 (n + 6) (by have := hH_81.lt hw_77 (by decide); omega)).trans hw_77
  replace hw_78 : ω_88 (n + 7) = 13 := (ho_89 (n + 7) (by have := hH_81.lt hw_78 (by decide); omega)).trans hw_78
  replace hw_79 : ω_88 (n + 8) = 13 := (ho_89 (n + 8) (by have := hH_81.lt hw_79 (by decide); omega)).trans hw_79
  replace hw_74 : ω_88 (n + 5) = 12 := (ho_89 (n + 5) (by have := hH_81.lt hw_74 (by decide); omega)).trans hw_74
  replace ht : ω_88 t = 0 := (ho_89 t (by omega)).trans ht
  replace htk : Z_86.1 t = 4 := ((hal_83.2.2.2.2.2 t (by omega)).2.2.1).trans htk
  replace htl : Z_86.2.1 t = 0 := ((hal_83.2.2.2.2.2 t (by omega)).2.2.2).trans htl
  have hold_92 : Old n t ω v ρ Z ω_88 v_84 ρ_85 Z_86 := hold_82.al ho_89 hal_83 (by omega)
  clear hn_71
  show wp g X F_X4_init 10 41 65 [(2, t), (3, 0)] [(2, (n + 9)), (2, t)] v_84 ρ_85 Z_86
  refine r_putRF (K := 4) (k := 6) (pc := 65) hX 42 rfl rfl (by decide) fw_X4_34 rfl rfl rfl rfl htk ht4 ?_
  have hH_93 : HT ω_88 v_84 (up ρ_85 t 6 (n + 9)) Z_86 := hH_91.uzr ht
  have hold_94 : Old n t ω v ρ Z ω_88 v_84 (up ρ_85 t 6 (n + 9)) Z_86 := hold_92.putr (Or.inl rfl)
  show wp g X F_X4_init 10 41 68 [(2, t), (3, 0)] [] v_84 (up ρ_85 t 6 (n + 9)) Z_86
  refine r_aload_n (pc := 68) hX 43 rfl rfl ?_
  refine r_iconst (pc := 69) hX 44 rfl ?_
  refine r_newaX hX 45 13 3 (n := (n + 10)) hn_87 rfl rfl (by decide) (by decide) ac_int (by decide) (by omega) (by rw [hRm]; exact Nat.le_of_ble_eq_true rfl) (by rw [hRm]; exact Nat.le_of_ble_eq_true rfl) (fun v_96 ρ_97 Z_98 hal_95 => ?_)
  have hn_99 : Z_98.2.2 = (n + 11) := by have := hal_95.1; omega
  obtain ⟨ω_100, ho_101, hw_102, hH_103⟩ := hH_93.alR hn_87 (by omega) 14 hal_95 rfl rfl (fun k a b h => by cases h; decide) (fun _ => rfl)
  replace hw_8 : ω_100 n = 6 := (ho_101 n (by have := hH_93.lt hw_8 (by decide); omega)).trans hw_8
  replace hw_20 : ω_100 (n + 1) = 9 := (ho_101 (n + 1) (by have := hH_93.lt hw_20 (by decide); omega)).trans hw_20
  replace hw_32 : ω_100 (n + 2) = 10 := (ho_101 (n + 2) (by have := hH_93.lt hw_32 (by decide); omega)).trans hw_32
  replace hw_44 : ω_100 (n + 3) = 7 := (ho_101 (n + 3) (by have := hH_93.lt hw_44 (by decide); omega)).trans hw_44
  replace hw_56 : ω_100 (n + 4) = 11 := (ho_101 (n + 4) (by have := hH_93.lt hw_56 (by decide); omega)).trans hw_56
  replace hw_77 : ω_100 (n + 6) = 13 := (ho_101 (n + 6) (by have := hH_93.lt hw_77 (by decide); omega)).trans hw_77
  replace hw_78 : ω_100 (n + 7) = 13 := (ho_101 (n + 7) (by have := hH_93.lt hw_78 (by decide); omega)).trans hw_78
  replace hw_79 : ω_100 (n + 8) = 13 := (ho_101 (n + 8) (by have := hH_93.lt hw_79 (by decide); omega)).trans hw_79
  replace hw_74 : ω_100 (n + 5) = 12 := (ho_101 (n + 5) (by have := hH_93.lt hw_74 (by decide); omega)).trans hw_74
  replace hw_90 : ω_100 (n + 9) = 8 := (ho_101 (n + 9) (by have := hH_93.lt hw_90 (by decide); omega)).trans hw_90
  replace ht : ω_100 t = 0 := (ho_101 t (by omega)).trans ht
  replace htk : Z_98.1 t = 4 := ((hal_95.2.2.2.2.2 t (by omega)).2.2.1).trans htk
  replace htl : Z_98.2.1 t = 0 := ((hal_95.2.2.2.2.2 t (by omega)).2.2.2).trans htl
  have hold_104 : Old n t ω v ρ Z ω_100 v_96 ρ_97 Z_98 := hold_94.al ho_101 hal_95 (by omega)
  clear hn_87
  show wp g X F_X4_init 11 44 72 [(2, t), (3, 0)] [(2, (n + 10)), (2, t)] v_96 ρ_97 Z_98
  refine r_putRF (K := 4) (k := 7) (pc := 72) hX 46 rfl rfl (by decide) fw_X4_37 rfl rfl rfl rfl htk ht4 ?_
  have hH_105 : HT ω_100 v_96 (up ρ_97 t 7 (n + 10)) Z_98 := hH_103.uzr ht
  have hold_106 : Old n t ω v ρ Z ω_100 v_96 (up ρ_97 t 7 (n + 10)) Z_98 := hold_104.putr (Or.inl rfl)
  show wp g X F_X4_init 11 44 75 [(2, t), (3, 0)] [] v_96 (up ρ_97 t 7 (n + 10)) Z_98
  refine r_aload_n (pc := 75) hX 47 rfl rfl ?_
  refine r_bipush (pc := 76) hX 48 rfl (by decide) ?_
  refine r_putI (pc := 78) hX 49 rfl fl_X4_40 rfl (fun _ h => by cases h; rfl) htk ht4 ?_
  have hH_107 : HT ω_100 (up v_96 t 11 9) (up ρ_97 t 7 (n + 10)) Z_98 := hH_105.uz ht ht4
  have hold_108 : Old n t ω v ρ Z ω_100 (up v_96 t 11 9) (up ρ_97 t 7 (n + 10)) Z_98 := hold_106.put (Or.inl rfl)
  show wp g X F_X4_init 11 44 81 [(2, t), (3, 0)] [] (up v_96 t 11 9) (up ρ_97 t 7 (n + 10)) Z_98
  refine r_aload_n (pc := 81) hX 50 rfl rfl ?_
  refine r_bipush (pc := 82) hX 51 rfl (by decide) ?_
  refine r_putI (pc := 84) hX 52 rfl fl_X4_44 rfl (fun _ h => by cases h; rfl) htk ht4 ?_
  have hH_109 : HT ω_100 (up (up v_96 t 11 9) t 12 12) (up ρ_97 t 7 (n + 10)) Z_98 := hH_107.uz ht ht4
  have hold_110 : Old n t ω v ρ Z ω_100 (up (up v_96 t 11 9) t 12 12) (up ρ_97 t 7 (n + 10)) Z_98 := hold_108.put (Or.inl rfl)
  show wp g X F_X4_init 11 44 87 [(2, t), (3, 0)] [] (up (up v_96 t 11 9) t 12 12) (up ρ_97 t 7 (n + 10)) Z_98
  refine r_iconst (pc := 87) hX 53 rfl ?_
  refine r_istore_n (ls' := [(2, t), (0, 0)]) (pc := 88) hX 54 rfl (by decide) rfl ?_
  refine r_iload_n (pc := 89) hX 55 rfl rfl ?_
  refine r_iconst (pc := 90) hX 56 rfl ?_
  refine r_icmp_ge (pc := 91) hX 57 (tgt := 110) rfl (by decide) (by decide) (by decide) (fun h => absurd h (by decide)) (fun _ => ?_)
  refine r_aload_n (pc := 94) hX 58 rfl rfl ?_
  refine r_getR (q := (n + 5)) (pc := 95) hX 59 rfl fl_X4_31 rfl htk ((up_k (by decide)).trans ((congrFun (hal_95.2.2.2.2.2 t (by omega)).2.1 5).trans ((up_k (by decide)).trans ((congrFun (hal_83.2.2.2.2.2 t (by omega)).2.1 5).trans (up_s _ _ _ _))))) ?_
  refine r_iload_n (pc := 98) hX 60 rfl rfl ?_
  refine r_aald (q := (n + 6)) (pc := 99) hX 61 19 rfl (hH_109.kd hw_74 (by decide)) (by decide) (by decide) rfl rfl (by decide) (by rw [show Z_98.2.1 (n + 5) = 3 from (hH_109.ln hw_74 (by decide))]; decide) ((up_k (by decide)).trans ((congrFun (hal_95.2.2.2.2.2 (n + 5) (by omega)).2.1 0).trans ((up_k (by decide)).trans ((congrFun (hal_83.2.2.2.2.2 (n + 5) (by omega)).2.1 0).trans ((up_k (by decide)).trans ((hal_67.2.2.2.1 0 (by decide) (by decide)).1.trans (by omega))))))) ?_
  refine r_iconst (pc := 100) hX 62 rfl ?_
  refine r_bipush (pc := 101) hX 63 rfl (by decide) ?_
  refine e_iast (n := 5) (pc := 103) hX 64 rfl (hH_109.kd hw_77 (by decide)) (hH_109.ln hw_77 (by decide)) (by omega) (by decide) (by decide) ?_
  have hH_111 : HT ω_100 (up (up (up v_96 t 11 9) t 12 12) (n + 6) 4 12) (up ρ_97 t 7 (n + 10)) Z_98 := hH_109.upR hw_77 (by decide) rfl (by decide) (by decide)
  have hold_112 : Old n t ω v ρ Z ω_100 (up (up (up v_96 t 11 9) t 12 12) (n + 6) 4 12) (up ρ_97 t 7 (n + 10)) Z_98 := hold_110.put (Or.inr (by omega))
  refine r_iinc (ls' := [(2, t), (0, 1)]) (pc := 104) hX 65 rfl rfl (by decide) rfl ?_
  refine r_goto (pc := 107) hX 66 (tgt := 89) rfl (by decide) ?_
  refine r_iload_n (pc := 89) hX 55 rfl rfl ?_
  refine r_iconst (pc := 90) hX 56 rfl ?_
  refine r_icmp_ge (pc := 91) hX 57 (tgt := 110) rfl (by decide) (by decide) (by decide) (fun h => absurd h (by decide)) (fun _ => ?_)
  refine r_aload_n (pc := 94) hX 58 rfl rfl ?_
  refine r_getR (q := (n + 5)) (pc := 95) hX 59 rfl fl_X4_31 rfl htk ((up_k (by decide)).trans ((congrFun (hal_95.2.2.2.2.2 t (by omega)).2.1 5).trans ((up_k (by decide)).trans ((congrFun (hal_83.2.2.2.2.2 t (by omega)).2.1 5).trans (up_s _ _ _ _))))) ?_
  refine r_iload_n (pc := 98) hX 60 rfl rfl ?_
  refine r_aald (q := (n + 7)) (pc := 99) hX 61 19 rfl (hH_111.kd hw_74 (by decide)) (by decide) (by decide) rfl rfl (by decide) (by rw [show Z_98.2.1 (n + 5) = 3 from (hH_111.ln hw_74 (by decide))]; decide) ((up_k (by decide)).trans ((congrFun (hal_95.2.2.2.2.2 (n + 5) (by omega)).2.1 1).trans ((up_k (by decide)).trans ((congrFun (hal_83.2.2.2.2.2 (n + 5) (by omega)).2.1 1).trans ((up_k (by decide)).trans ((hal_67.2.2.2.1 1 (by decide) (by decide)).1.trans (by omega))))))) ?_
  refine r_iconst (pc := 100) hX 62 rfl ?_
  refine r_bipush (pc := 101) hX 63 rfl (by decide) ?_
  refine e_iast (n := 5) (pc := 103) hX 64 rfl (hH_111.kd hw_78 (by decide)) (hH_111.ln hw_78 (by decide)) (by omega) (by decide) (by decide) ?_
  have hH_113 : HT ω_100 (up (up (up (up v_96 t 11 9) t 12 12) (n + 6) 4 12) (n + 7) 4 12) (up ρ_97 t 7 (n + 10)) Z_98 := hH_111.upR hw_78 (by decide) rfl (by decide) (by decide)
  have hold_114 : Old n t ω v ρ Z ω_100 (up (up (up (up v_96 t 11 9) t 12 12) (n + 6) 4 12) (n + 7) 4 12) (up ρ_97 t 7 (n + 10)) Z_98 := hold_112.put (Or.inr (by omega))
  refine r_iinc (ls' := [(2, t), (0, 2)]) (pc := 104) hX 65 rfl rfl (by decide) rfl ?_
  refine r_goto (pc := 107) hX 66 (tgt := 89) rfl (by decide) ?_
  refine r_iload_n (pc := 89) hX 55 rfl rfl ?_
  refine r_iconst (pc := 90) hX 56 rfl ?_
  refine r_icmp_ge (pc := 91) hX 57 (tgt := 110) rfl (by decide) (by decide) (by decide) (fun h => absurd h (by decide)) (fun _ => ?_)
  refine r_aload_n (pc := 94) hX 58 rfl rfl ?_
  refine r_getR (q := (n + 5)) (pc := 95) hX 59 rfl fl_X4_31 rfl htk ((up_k (by decide)).trans ((congrFun (hal_95.2.2.2.2.2 t (by omega)).2.1 5).trans ((up_k (by decide)).trans ((congrFun (hal_83.2.2.2.2.2 t (by omega)).2.1 5).trans (up_s _ _ _ _))))) ?_
  refine r_iload_n (pc := 98) hX 60 rfl rfl ?_
  refine r_aald (q := (n + 8)) (pc := 99) hX 61 19 rfl (hH_113.kd hw_74 (by decide)) (by decide) (by decide) rfl rfl (by decide) (by rw [show Z_98.2.1 (n + 5) = 3 from (hH_113.ln hw_74 (by decide))]; decide) ((up_k (by decide)).trans ((congrFun (hal_95.2.2.2.2.2 (n + 5) (by omega)).2.1 2).trans ((up_k (by decide)).trans ((congrFun (hal_83.2.2.2.2.2 (n + 5) (by omega)).2.1 2).trans ((up_k (by decide)).trans ((hal_67.2.2.2.1 2 (by decide) (by decide)).1.trans (by omega))))))) ?_
  refine r_iconst (pc := 100) hX 62 rfl ?_
  refine r_bipush (pc := 101) hX 63 rfl (by decide) ?_
  refine e_iast (n := 5) (pc := 103) hX 64 rfl (hH_113.kd hw_79 (by decide)) (hH_113.ln hw_79 (by decide)) (by omega) (by decide) (by decide) ?_
  have hH_115 : HT ω_100 (up (up (up (up (up v_96 t 11 9) t 12 12) (n + 6) 4 12) (n + 7) 4 12) (n + 8) 4 12) (up ρ_97 t 7 (n + 10)) Z_98 := hH_113.upR hw_79 (by decide) rfl (by decide) (by decide)
  have hold_116 : Old n t ω v ρ Z ω_100 (up (up (up (up (up v_96 t 11 9) t 12 12) (n + 6) 4 12) (n + 7) 4 12) (n + 8) 4 12) (up ρ_97 t 7 (n + 10)) Z_98 := hold_114.put (Or.inr (by omega))
  refine r_iinc (ls' := [(2, t), (0, 3)]) (pc := 104) hX 65 rfl rfl (by decide) rfl ?_
  refine r_goto (pc := 107) hX 66 (tgt := 89) rfl (by decide) ?_
  refine r_iload_n (pc := 89) hX 55 rfl rfl ?_
  refine r_iconst (pc := 90) hX 56 rfl ?_
  refine r_icmp_ge (pc := 91) hX 57 (tgt := 110) rfl (by decide) (by decide) (by decide) (fun _ => ?_) (fun h => absurd (by decide) h)
  have hrg : ∀ k a b, rgO 5 k = some (a, b) → a ≤ (up (up (up (up (up v_96 t 11 9) t 12 12) (n + 6) 4 12) (n + 7) 4 12) (n + 8) 4 12) t k ∧ (up (up (up (up (up v_96 t 11 9) t 12 12) (n + 6) 4 12) (n + 7) 4 12) (n + 8) 4 12) t k ≤ b := fun k a b hh => by
    rcases rgL5 hh with ⟨rfl, rfl, rfl⟩ | ⟨rfl, rfl, rfl⟩ | ⟨rfl, rfl, rfl⟩ | ⟨rfl, rfl, rfl⟩ | ⟨rfl, rfl, rfl⟩ | ⟨rfl, rfl, rfl⟩
    · rw [show (up (up (up (up (up v_96 t 11 9) t 12 12) (n + 6) 4 12) (n + 7) 4 12) (n + 8) 4 12) t 8 = 0 from (up_k (by decide)).trans ((up_k (by decide)).trans ((up_k (by decide)).trans ((up_k (by decide)).trans ((up_k (by decide)).trans ((congrFun (hal_95.2.2.2.2.2 t (by omega)).1 8).trans ((congrFun (hal_83.2.2.2.2.2 t (by omega)).1 8).trans ((congrFun (hal_67.2.2.2.2.2 t (by omega)).1 8).trans ((up_k (by decide)).trans ((up_k (by decide)).trans ((up_k (by decide)).trans ((congrFun (hal_49.2.2.2.2.2 t (by omega)).1 8).trans ((congrFun (hal_37.2.2.2.2.2 t (by omega)).1 8).trans ((congrFun (hal_25.2.2.2.2.2 t (by omega)).1 8).trans ((congrFun (hal_13.2.2.2.2.2 t (by omega)).1 8).trans ((congrFun (hal_1.2.2.2.2.2 t (by omega)).1 8).trans (hv0 8))))))))))))))))]; decide
    · rw [show (up (up (up (up (up v_96 t 11 9) t 12 12) (n + 6) 4 12) (n + 7) 4 12) (n + 8) 4 12) t 9 = 0 from (up_k (by decide)).trans ((up_k (by decide)).trans ((up_k (by decide)).trans ((up_k (by decide)).trans ((up_k (by decide)).trans ((congrFun (hal_95.2.2.2.2.2 t (by omega)).1 9).trans ((congrFun (hal_83.2.2.2.2.2 t (by omega)).1 9).trans ((congrFun (hal_67.2.2.2.2.2 t (by omega)).1 9).trans ((up_k (by decide)).trans ((up_k (by decide)).trans ((up_k (by decide)).trans ((congrFun (hal_49.2.2.2.2.2 t (by omega)).1 9).trans ((congrFun (hal_37.2.2.2.2.2 t (by omega)).1 9).trans ((congrFun (hal_25.2.2.2.2.2 t (by omega)).1 9).trans ((congrFun (hal_13.2.2.2.2.2 t (by omega)).1 9).trans ((congrFun (hal_1.2.2.2.2.2 t (by omega)).1 9).trans (hv0 9))))))))))))))))]; decide
    · rw [show (up (up (up (up (up v_96 t 11 9) t 12 12) (n + 6) 4 12) (n + 7) 4 12) (n + 8) 4 12) t 10 = 0 from (up_k (by decide)).trans ((up_k (by decide)).trans ((up_k (by decide)).trans ((up_k (by decide)).trans ((up_k (by decide)).trans ((congrFun (hal_95.2.2.2.2.2 t (by omega)).1 10).trans ((congrFun (hal_83.2.2.2.2.2 t (by omega)).1 10).trans ((congrFun (hal_67.2.2.2.2.2 t (by omega)).1 10).trans ((up_k (by decide)).trans ((up_k (by decide)).trans ((up_k (by decide)).trans ((congrFun (hal_49.2.2.2.2.2 t (by omega)).1 10).trans ((congrFun (hal_37.2.2.2.2.2 t (by omega)).1 10).trans ((congrFun (hal_25.2.2.2.2.2 t (by omega)).1 10).trans ((congrFun (hal_13.2.2.2.2.2 t (by omega)).1 10).trans ((congrFun (hal_1.2.2.2.2.2 t (by omega)).1 10).trans (hv0 10))))))))))))))))]; decide
    · rw [show (up (up (up (up (up v_96 t 11 9) t 12 12) (n + 6) 4 12) (n + 7) 4 12) (n + 8) 4 12) t 11 = 9 from (up_k (by decide)).trans ((up_k (by decide)).trans ((up_k (by decide)).trans ((up_k (by decide)).trans (up_s _ _ _ _))))]; decide
    · rw [show (up (up (up (up (up v_96 t 11 9) t 12 12) (n + 6) 4 12) (n + 7) 4 12) (n + 8) 4 12) t 12 = 12 from (up_k (by decide)).trans ((up_k (by decide)).trans ((up_k (by decide)).trans (up_s _ _ _ _)))]; decide
    · rw [show (up (up (up (up (up v_96 t 11 9) t 12 12) (n + 6) 4 12) (n + 7) 4 12) (n + 8) 4 12) t 13 = 0 from (up_k (by decide)).trans ((up_k (by decide)).trans ((up_k (by decide)).trans ((up_k (by decide)).trans ((up_k (by decide)).trans ((congrFun (hal_95.2.2.2.2.2 t (by omega)).1 13).trans ((congrFun (hal_83.2.2.2.2.2 t (by omega)).1 13).trans ((congrFun (hal_67.2.2.2.2.2 t (by omega)).1 13).trans ((up_k (by decide)).trans ((up_k (by decide)).trans ((up_k (by decide)).trans ((congrFun (hal_49.2.2.2.2.2 t (by omega)).1 13).trans ((congrFun (hal_37.2.2.2.2.2 t (by omega)).1 13).trans ((congrFun (hal_25.2.2.2.2.2 t (by omega)).1 13).trans ((congrFun (hal_13.2.2.2.2.2 t (by omega)).1 13).trans ((congrFun (hal_1.2.2.2.2.2 t (by omega)).1 13).trans (hv0 13))))))))))))))))]; decide
  have hrf : ∀ k e, rfO 5 k = some e → setR ω_100 t 5 ((up ρ_97 t 7 (n + 10)) t k) = e := fun k e hh => by
    rcases rfL5 hh with ⟨rfl, rfl⟩ | ⟨rfl, rfl⟩ | ⟨rfl, rfl⟩ | ⟨rfl, rfl⟩ | ⟨rfl, rfl⟩ | ⟨rfl, rfl⟩ | ⟨rfl, rfl⟩ | ⟨rfl, rfl⟩
    · rw [show (up ρ_97 t 7 (n + 10)) t 0 = n from (up_k (by decide)).trans ((congrFun (hal_95.2.2.2.2.2 t (by omega)).2.1 0).trans ((up_k (by decide)).trans ((congrFun (hal_83.2.2.2.2.2 t (by omega)).2.1 0).trans ((up_k (by decide)).trans ((congrFun (hal_67.2.2.2.2.2 t (by omega)).2.1 0).trans ((up_k (by decide)).trans ((congrFun (hal_49.2.2.2.2.2 t (by omega)).2.1 0).trans ((up_k (by decide)).trans ((congrFun (hal_37.2.2.2.2.2 t (by omega)).2.1 0).trans ((up_k (by decide)).trans ((congrFun (hal_25.2.2.2.2.2 t (by omega)).2.1 0).trans ((up_k (by decide)).trans ((congrFun (hal_13.2.2.2.2.2 t (by omega)).2.1 0).trans (up_s _ _ _ _)))))))))))))), setR_ne (by first | omega | exact fun q => by have z := hw_8; rw [q, ht] at z; exact absurd z (by decide))]; exact hw_8
    · rw [show (up ρ_97 t 7 (n + 10)) t 1 = (n + 1) from (up_k (by decide)).trans ((congrFun (hal_95.2.2.2.2.2 t (by omega)).2.1 1).trans ((up_k (by decide)).trans ((congrFun (hal_83.2.2.2.2.2 t (by omega)).2.1 1).trans ((up_k (by decide)).trans ((congrFun (hal_67.2.2.2.2.2 t (by omega)).2.1 1).trans ((up_k (by decide)).trans ((congrFun (hal_49.2.2.2.2.2 t (by omega)).2.1 1).trans ((up_k (by decide)).trans ((congrFun (hal_37.2.2.2.2.2 t (by omega)).2.1 1).trans ((up_k (by decide)).trans ((congrFun (hal_25.2.2.2.2.2 t (by omega)).2.1 1).trans (up_s _ _ _ _)))))))))))), setR_ne (by first | omega | exact fun q => by have z := hw_20; rw [q, ht] at z; exact absurd z (by decide))]; exact hw_20
    · rw [show (up ρ_97 t 7 (n + 10)) t 2 = (n + 2) from (up_k (by decide)).trans ((congrFun (hal_95.2.2.2.2.2 t (by omega)).2.1 2).trans ((up_k (by decide)).trans ((congrFun (hal_83.2.2.2.2.2 t (by omega)).2.1 2).trans ((up_k (by decide)).trans ((congrFun (hal_67.2.2.2.2.2 t (by omega)).2.1 2).trans ((up_k (by decide)).trans ((congrFun (hal_49.2.2.2.2.2 t (by omega)).2.1 2).trans ((up_k (by decide)).trans ((congrFun (hal_37.2.2.2.2.2 t (by omega)).2.1 2).trans (up_s _ _ _ _)))))))))), setR_ne (by first | omega | exact fun q => by have z := hw_32; rw [q, ht] at z; exact absurd z (by decide))]; exact hw_32
    · rw [show (up ρ_97 t 7 (n + 10)) t 3 = (n + 3) from (up_k (by decide)).trans ((congrFun (hal_95.2.2.2.2.2 t (by omega)).2.1 3).trans ((up_k (by decide)).trans ((congrFun (hal_83.2.2.2.2.2 t (by omega)).2.1 3).trans ((up_k (by decide)).trans ((congrFun (hal_67.2.2.2.2.2 t (by omega)).2.1 3).trans ((up_k (by decide)).trans ((congrFun (hal_49.2.2.2.2.2 t (by omega)).2.1 3).trans (up_s _ _ _ _)))))))), setR_ne (by first | omega | exact fun q => by have z := hw_44; rw [q, ht] at z; exact absurd z (by decide))]; exact hw_44
    · rw [show (up ρ_97 t 7 (n + 10)) t 4 = (n + 4) from (up_k (by decide)).trans ((congrFun (hal_95.2.2.2.2.2 t (by omega)).2.1 4).trans ((up_k (by decide)).trans ((congrFun (hal_83.2.2.2.2.2 t (by omega)).2.1 4).trans ((up_k (by decide)).trans ((congrFun (hal_67.2.2.2.2.2 t (by omega)).2.1 4).trans (up_s _ _ _ _)))))), setR_ne (by first | omega | exact fun q => by have z := hw_56; rw [q, ht] at z; exact absurd z (by decide))]; exact hw_56
    · rw [show (up ρ_97 t 7 (n + 10)) t 5 = (n + 5) from (up_k (by decide)).trans ((congrFun (hal_95.2.2.2.2.2 t (by omega)).2.1 5).trans ((up_k (by decide)).trans ((congrFun (hal_83.2.2.2.2.2 t (by omega)).2.1 5).trans (up_s _ _ _ _)))), setR_ne (by first | omega | exact fun q => by have z := hw_74; rw [q, ht] at z; exact absurd z (by decide))]; exact hw_74
    · rw [show (up ρ_97 t 7 (n + 10)) t 6 = (n + 9) from (up_k (by decide)).trans ((congrFun (hal_95.2.2.2.2.2 t (by omega)).2.1 6).trans (up_s _ _ _ _)), setR_ne (by first | omega | exact fun q => by have z := hw_90; rw [q, ht] at z; exact absurd z (by decide))]; exact hw_90
    · rw [show (up ρ_97 t 7 (n + 10)) t 7 = (n + 10) from up_s _ _ _ _, setR_ne (by first | omega | exact fun q => by have z := hw_102; rw [q, ht] at z; exact absurd z (by decide))]; exact hw_102
  have hrn : ∀ k e, rnO 5 k = some e → (up ρ_97 t 7 (n + 10)) t k < 0 ∨ setR ω_100 t 5 ((up ρ_97 t 7 (n + 10)) t k) = e := fun k e hh => by cases hh
  exact r_vret (pc := 110) hX 67 hQ rfl rfl (Nat.le_of_ble_eq_true rfl) (Nat.le_of_ble_eq_true rfl) ⟨rfl, by omega, setR ω_100 t 5, hold_116.set, setR_s, hH_115.add ht ⟨ht4, by omega, by rw [htk]; rfl, by rw [htl]; rfl, hrg, hrf, hrn⟩⟩
