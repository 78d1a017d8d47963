set_option maxHeartbeats 4000000 in
set_option maxRecDepth 100000 in
theorem c_X0_init (g : Gp) (ω : Rw) (v ρ : Mv) (Z : Mz) (hH : HT ω v ρ Z) (t : Int) (ht : ω t = 0) (htk : Z.1 t = 0) (htl : Z.2.1 t = 0) (ht4 : 4 ≤ t) (n : Int) (hn : Z.2.2 = n) (htn : t < n) (hv0 : ∀ k, v t k = 0) (hr0 : ∀ k, ρ t k = -1) (o : Int) (ho : ω o = 29) : Ok g 2 11 35 F_X0_init [(2, t), (2, o)] v ρ Z (fun o9 v' ρ' Z' => o9 = none ∧ Z'.2.2 = n + 11 ∧ ∃ ω' : Rw, Old n t ω v ρ Z ω' v' ρ' Z' ∧ ω' t = 39 ∧ HT ω' v' ρ' Z') := by
  refine Ok.of mo_X0_init (Nat.le_of_ble_eq_true rfl) ?_
  intro X hX hRm hxn hQ
  show wp g X F_X0_init 0 0 0 [(2, t), (2, o)] [] v ρ Z
  have hold0 : Old n t ω v ρ Z ω v ρ Z := Old.rf
  have hlt_o : o < n := by have := hH.lt ho (by decide); omega
  refine r_aload_n (pc := 0) hX 0 rfl rfl ?_
  refine r_objInit (pc := 1) hX 1 rfl (by omega) oi_X0 oi_in oi_cd (by rw [hRm]; exact Nat.le_of_ble_eq_true rfl) (by rw [hRm]; exact Nat.le_of_ble_eq_true rfl) rfl ?_
  refine r_aload_n (pc := 4) hX 2 rfl rfl ?_
  refine r_iconst (pc := 5) hX 3 rfl ?_
  refine r_putI (pc := 6) hX 4 rfl fl_X0_9 rfl (fun _ h => by cases h; rfl) htk ht4 ?_
  have hH_1 : HT ω (up v t 1 (-1)) ρ Z := hH.uz ht ht4
  have hold_2 : Old n t ω v ρ Z ω (up v t 1 (-1)) ρ Z := hold0.put (Or.inl rfl)
  show wp g X F_X0_init 0 0 9 [(2, t), (2, o)] [] (up v t 1 (-1)) ρ Z
  refine r_aload_n (pc := 9) hX 5 rfl rfl ?_
  refine r_iconst (pc := 10) hX 6 rfl ?_
  refine r_iconst (pc := 11) hX 7 rfl ?_
  refine r_mna hX 8 20 14 4 3 (n := n) hn rfl (by decide) cl_X0_15 ac_long (by decide) (by decide) (by omega) (by rw [hRm]; exact Nat.le_of_ble_eq_true rfl) (by rw [hRm]; exact Nat.le_of_ble_eq_true rfl) (fun v_4 ρ_5 Z_6 hal_3 => ?_)
  have hn_7 : Z_6.2.2 = (n + 5) := by have := hal_3.1; omega
  obtain ⟨ω_8, ho_9, hw_10, hwr_12, hH_11⟩ := hH_1.al2R hn (by omega) 40 41 hal_3 (by decide) rfl rfl rfl rfl (fun k a b h => by cases h) (fun _ => rfl) (fun _ => rfl) (fun _ => rfl) (fun k d h => rfA40 h) (fun _ => rfl) (by decide)
  replace ho : ω_8 o = 29 := (ho_9 o (by have := hH_1.lt ho (by decide); omega)).trans ho
  replace ht : ω_8 t = 0 := (ho_9 t (by omega)).trans ht
  replace htk : Z_6.1 t = 0 := ((hal_3.2.2.2.2.2 t (by omega)).2.2.1).trans htk
  replace htl : Z_6.2.1 t = 0 := ((hal_3.2.2.2.2.2 t (by omega)).2.2.2).trans htl
  have hw_13 : ω_8 (n + 1) = 41 := by have z := hwr_12 0 (by decide) (by decide); rw [show n + 1 + (0 : Int) = (n + 1) by omega] at z; exact z
  have hw_14 : ω_8 (n + 2) = 41 := by have z := hwr_12 1 (by decide) (by decide); rw [show n + 1 + (1 : Int) = (n + 2) by omega] at z; exact z
  have hw_15 : ω_8 (n + 3) = 41 := by have z := hwr_12 2 (by decide) (by decide); rw [show n + 1 + (2 : Int) = (n + 3) by omega] at z; exact z
  have hw_16 : ω_8 (n + 4) = 41 := by have z := hwr_12 3 (by decide) (by decide); rw [show n + 1 + (3 : Int) = (n + 4) by omega] at z; exact z
  have hold_17 : Old n t ω v ρ Z ω_8 v_4 ρ_5 Z_6 := hold_2.al2 ho_9 hal_3 (by omega)
  show wp g X F_X0_init 5 16 16 [(2, t), (2, o)] [(2, n), (2, t)] v_4 ρ_5 Z_6
  refine r_putRF (K := 0) (k := 3) (pc := 16) hX 9 rfl rfl (by decide) fw_X0_17 rfl rfl rfl rfl htk ht4 ?_
  have hH_18 : HT ω_8 v_4 (up ρ_5 t 3 n) Z_6 := hH_11.uzr ht
  have hold_19 : Old n t ω v ρ Z ω_8 v_4 (up ρ_5 t 3 n) Z_6 := hold_17.putr (Or.inl rfl)
  show wp g X F_X0_init 5 16 19 [(2, t), (2, o)] [] v_4 (up ρ_5 t 3 n) Z_6
  refine r_aload_n (pc := 19) hX 10 rfl rfl ?_
  refine r_iconst (pc := 20) hX 11 rfl ?_
  refine r_iconst (pc := 21) hX 12 rfl ?_
  refine r_mna hX 13 19 13 4 3 (n := (n + 5)) hn_7 rfl (by decide) cl_X0_20 ac_int (by decide) (by decide) (by omega) (by rw [hRm]; exact Nat.le_of_ble_eq_true rfl) (by rw [hRm]; exact Nat.le_of_ble_eq_true rfl) (fun v_21 ρ_22 Z_23 hal_20 => ?_)
  have hn_24 : Z_23.2.2 = (n + 10) := by have := hal_20.1; omega
  obtain ⟨ω_25, ho_26, hw_27, hwr_29, hH_28⟩ := hH_18.al2R hn_7 (by omega) 42 43 hal_20 (by decide) rfl rfl rfl rfl (fun k a b h => by cases h; decide) (fun _ => rfl) (fun _ => rfl) (fun _ => rfl) (fun k d h => rfA42 h) (fun _ => rfl) (by decide)
  replace ho : ω_25 o = 29 := (ho_26 o (by have := hH_18.lt ho (by decide); omega)).trans ho
  replace hw_13 : ω_25 (n + 1) = 41 := (ho_26 (n + 1) (by have := hH_18.lt hw_13 (by decide); omega)).trans hw_13
  replace hw_14 : ω_25 (n + 2) = 41 := (ho_26 (n + 2) (by have := hH_18.lt hw_14 (by decide); omega)).trans hw_14
  replace hw_15 : ω_25 (n + 3) = 41 := (ho_26 (n + 3) (by have := hH_18.lt hw_15 (by decide); omega)).trans hw_15
  replace hw_16 : ω_25 (n + 4) = 41 := (ho_26 (n + 4) (by have := hH_18.lt hw_16 (by decide); omega)).trans hw_16
  replace hw_10 : ω_25 n = 40 := (ho_26 n (by have := hH_18.lt hw_10 (by decide); omega)).trans hw_10
  replace ht : ω_25 t = 0 := (ho_26 t (by omega)).trans ht
  replace htk : Z_23.1 t = 0 := ((hal_20.2.2.2.2.2 t (by omega)).2.2.1).trans htk
  replace htl : Z_23.2.1 t = 0 := ((hal_20.2.2.2.2.2 t (by omega)).2.2.2).trans htl
  have hw_30 : ω_25 (n + 6) = 43 := by have z := hwr_29 0 (by decide) (by decide); rw [show (n + 5) + 1 + (0 : Int) = (n + 6) by omega] at z; exact z
  have hw_31 : ω_25 (n + 7) = 43 := by have z := hwr_29 1 (by decide) (by decide); rw [show (n + 5) + 1 + (1 : Int) = (n + 7) by omega] at z; exact z
  have hw_32 : ω_25 (n + 8) = 43 := by have z := hwr_29 2 (by decide) (by decide); rw [show (n + 5) + 1 + (2 : Int) = (n + 8) by omega] at z; exact z
  have hw_33 : ω_25 (n + 9) = 43 := by have z := hwr_29 3 (by decide) (by decide); rw [show (n + 5) + 1 + (3 : Int) = (n + 9) by omega] at z; exact z
  have hold_34 : Old n t ω v ρ Z ω_25 v_21 ρ_22 Z_23 := hold_19.al2 ho_26 hal_20 (by omega)
  clear hn_7
  show wp g X F_X0_init 10 32 26 [(2, t), (2, o)] [(2, (n + 5)), (2, t)] v_21 ρ_22 Z_23
  refine r_putRF (K := 0) (k := 4) (pc := 26) hX 14 rfl rfl (by decide) fw_X0_22 rfl rfl rfl rfl htk ht4 ?_
  have hH_35 : HT ω_25 v_21 (up ρ_22 t 4 (n + 5)) Z_23 := hH_28.uzr ht
  have hold_36 : Old n t ω v ρ Z ω_25 v_21 (up ρ_22 t 4 (n + 5)) Z_23 := hold_34.putr (Or.inl rfl)
  show wp g X F_X0_init 10 32 29 [(2, t), (2, o)] [] v_21 (up ρ_22 t 4 (n + 5)) Z_23
  refine r_aload_n (pc := 29) hX 15 rfl rfl ?_
  refine r_iconst (pc := 30) hX 16 rfl ?_
  refine r_newaX hX 17 13 3 (n := (n + 10)) hn_24 rfl rfl (by decide) (by decide) ac_int (by decide) (by omega) (by rw [hRm]; exact Nat.le_of_ble_eq_true rfl) (by rw [hRm]; exact Nat.le_of_ble_eq_true rfl) (fun v_38 ρ_39 Z_40 hal_37 => ?_)
  have hn_41 : Z_40.2.2 = (n + 11) := by have := hal_37.1; omega
  obtain ⟨ω_42, ho_43, hw_44, hH_45⟩ := hH_35.alR hn_24 (by omega) 44 hal_37 rfl rfl (fun k a b h => by cases h; decide) (fun _ => rfl)
  replace ho : ω_42 o = 29 := (ho_43 o (by have := hH_35.lt ho (by decide); omega)).trans ho
  replace hw_13 : ω_42 (n + 1) = 41 := (ho_43 (n + 1) (by have := hH_35.lt hw_13 (by decide); omega)).trans hw_13
  replace hw_14 : ω_42 (n + 2) = 41 := (ho_43 (n + 2) (by have := hH_35.lt hw_14 (by decide); omega)).trans hw_14
  replace hw_15 : ω_42 (n + 3) = 41 := (ho_43 (n + 3) (by have := hH_35.lt hw_15 (by decide); omega)).trans hw_15
  replace hw_16 : ω_42 (n + 4) = 41 := (ho_43 (n + 4) (by have := hH_35.lt hw_16 (by decide); omega)).trans hw_16
  replace hw_10 : ω_42 n = 40 := (ho_43 n (by have := hH_35.lt hw_10 (by decide); omega)).trans hw_10
  replace hw_30 : ω_42 (n + 6) = 43 := (ho_43 (n + 6) (by have := hH_35.lt hw_30 (by decide); omega)).trans hw_30
  replace hw_31 : ω_42 (n + 7) = 43 := (ho_43 (n + 7) (by have := hH_35.lt hw_31 (by decide); omega)).trans hw_31
  replace hw_32 : ω_42 (n + 8) = 43 := (ho_43 (n + 8) (by have := hH_35.lt hw_32 (by decide); omega)).trans hw_32
  replace hw_33 : ω_42 (n + 9) = 43 := (ho_43 (n + 9) (by have := hH_35.lt hw_33 (by decide); omega)).trans hw_33
  replace hw_27 : ω_42 (n + 5) = 42 := (ho_43 (n + 5) (by have := hH_35.lt hw_27 (by decide); omega)).trans hw_27
  replace ht : ω_42 t = 0 := (ho_43 t (by omega)).trans ht
  replace htk : Z_40.1 t = 0 := ((hal_37.2.2.2.2.2 t (by omega)).2.2.1).trans htk
  replace htl : Z_40.2.1 t = 0 := ((hal_37.2.2.2.2.2 t (by omega)).2.2.2).trans htl
  have hold_46 : Old n t ω v ρ Z ω_42 v_38 ρ_39 Z_40 := hold_36.al ho_43 hal_37 (by omega)
  clear hn_24
  show wp g X F_X0_init 11 35 33 [(2, t), (2, o)] [(2, (n + 10)), (2, t)] v_38 ρ_39 Z_40
  refine r_putRF (K := 0) (k := 5) (pc := 33) hX 18 rfl rfl (by decide) fw_X0_25 rfl rfl rfl rfl htk ht4 ?_
  have hH_47 : HT ω_42 v_38 (up ρ_39 t 5 (n + 10)) Z_40 := hH_45.uzr ht
  have hold_48 : Old n t ω v ρ Z ω_42 v_38 (up ρ_39 t 5 (n + 10)) Z_40 := hold_46.putr (Or.inl rfl)
  show wp g X F_X0_init 11 35 36 [(2, t), (2, o)] [] v_38 (up ρ_39 t 5 (n + 10)) Z_40
  refine r_aload_n (pc := 36) hX 19 rfl rfl ?_
  refine r_aload_n (pc := 37) hX 20 rfl rfl ?_
  refine r_putRF (K := 0) (k := 0) (pc := 38) hX 21 rfl rfl (by decide) fw_X0_29 rfl rfl rfl rfl htk ht4 ?_
  have hH_49 : HT ω_42 v_38 (up (up ρ_39 t 5 (n + 10)) t 0 o) Z_40 := hH_47.uzr ht
  have hold_50 : Old n t ω v ρ Z ω_42 v_38 (up (up ρ_39 t 5 (n + 10)) t 0 o) Z_40 := hold_48.putr (Or.inl rfl)
  show wp g X F_X0_init 11 35 41 [(2, t), (2, o)] [] v_38 (up (up ρ_39 t 5 (n + 10)) t 0 o) Z_40
  have hrg : ∀ k a b, rgO 39 k = some (a, b) → a ≤ v_38 t k ∧ v_38 t k ≤ b := fun k a b hh => by cases hh
  have hrf : ∀ k e, rfO 39 k = some e → setR ω_42 t 39 ((up (up ρ_39 t 5 (n + 10)) t 0 o) t k) = e := fun k e hh => by
    rcases rfL39 hh with ⟨rfl, rfl⟩ | ⟨rfl, rfl⟩ | ⟨rfl, rfl⟩ | ⟨rfl, rfl⟩
    · rw [show (up (up ρ_39 t 5 (n + 10)) t 0 o) t 0 = o from up_s _ _ _ _, setR_ne (by first | omega | exact fun q => by have z := ho; rw [q, ht] at z; exact absurd z (by decide))]; exact ho
    · rw [show (up (up ρ_39 t 5 (n + 10)) t 0 o) t 3 = n from (up_k (by decide)).trans ((up_k (by decide)).trans ((congrFun (hal_37.2.2.2.2.2 t (by omega)).2.1 3).trans ((up_k (by decide)).trans ((congrFun (hal_20.2.2.2.2.2 t (by omega)).2.1 3).trans (up_s _ _ _ _))))), setR_ne (by first | omega | exact fun q => by have z := hw_10; rw [q, ht] at z; exact absurd z (by decide))]; exact hw_10
    · rw [show (up (up ρ_39 t 5 (n + 10)) t 0 o) t 4 = (n + 5) from (up_k (by decide)).trans ((up_k (by decide)).trans ((congrFun (hal_37.2.2.2.2.2 t (by omega)).2.1 4).trans (up_s _ _ _ _))), setR_ne (by first | omega | exact fun q => by have z := hw_27; rw [q, ht] at z; exact absurd z (by decide))]; exact hw_27
    · rw [show (up (up ρ_39 t 5 (n + 10)) t 0 o) t 5 = (n + 10) from (up_k (by decide)).trans (up_s _ _ _ _), setR_ne (by first | omega | exact fun q => by have z := hw_44; rw [q, ht] at z; exact absurd z (by decide))]; exact hw_44
  have hrn : ∀ k e, rnO 39 k = some e → (up (up ρ_39 t 5 (n + 10)) t 0 o) t k < 0 ∨ setR ω_42 t 39 ((up (up ρ_39 t 5 (n + 10)) t 0 o) t k) = e := fun k e hh => by cases hh
  exact r_vret (pc := 41) hX 22 hQ rfl rfl (Nat.le_of_ble_eq_true rfl) (Nat.le_of_ble_eq_true rfl) ⟨rfl, by omega, setR ω_42 t 39, hold_50.set, setR_s, hH_49.add ht ⟨ht4, by omega, by rw [htk]; rfl, by rw [htl]; rfl, hrg, hrf, hrn⟩⟩
