set_option maxHeartbeats 4000000 in
set_option maxRecDepth 100000 in
theorem c_X2_init (g : Gp) (ω : Rw) (v ρ : Mv) (Z : Mz) (hH : HT ω v ρ Z) (t : Int) (ht : ω t = 0) (htk : Z.1 t = 2) (htl : Z.2.1 t = 0) (ht4 : 4 ≤ t) (n : Int) (hn : Z.2.2 = n) (htn : t < n) (hv0 : ∀ k, v t k = 0) (hr0 : ∀ k, ρ t k = -1) (o : Int) (ho : ω o = 5) : Ok g 2 9 765 F_X2_init [(2, t), (2, o)] v ρ Z (fun o9 v' ρ' Z' => o9 = none ∧ Z'.2.2 = n + 9 ∧ ∃ ω' : Rw, Old n t ω v ρ Z ω' v' ρ' Z' ∧ ω' t = 29 ∧ HT ω' v' ρ' Z') := by
  refine Ok.of mo_X2_init (Nat.le_of_ble_eq_true rfl) ?_
  intro X hX hRm hxn hQ
  show wp g X F_X2_init 0 0 0 [(2, t), (2, o)] [] v ρ Z
  have hold0 : Old n t ω v ρ Z ω v ρ Z := Old.rf
  have hlt_o : o < n := by have := hH.lt ho (by decide); omega
  refine r_aload_n (pc := 0) hX 0 rfl rfl ?_
  refine r_objInit (pc := 1) hX 1 rfl (by omega) oi_X2 oi_in oi_cd (by rw [hRm]; exact Nat.le_of_ble_eq_true rfl) (by rw [hRm]; exact Nat.le_of_ble_eq_true rfl) rfl ?_
  refine r_aload_n (pc := 4) hX 2 rfl rfl ?_
  refine r_iconst (pc := 5) hX 3 rfl ?_
  refine r_putI (pc := 6) hX 4 rfl fl_X2_9 rfl (fun _ h => by cases h; rfl) htk ht4 ?_
  have hH_1 : HT ω (up v t 1 (-1)) ρ Z := hH.uz ht ht4
  have hold_2 : Old n t ω v ρ Z ω (up v t 1 (-1)) ρ Z := hold0.put (Or.inl rfl)
  show wp g X F_X2_init 0 0 9 [(2, t), (2, o)] [] (up v t 1 (-1)) ρ Z
  refine r_aload_n (pc := 9) hX 5 rfl rfl ?_
  refine r_iconst (pc := 10) hX 6 rfl ?_
  refine r_newaX hX 7 13 5 (n := n) hn rfl rfl (by decide) (by decide) ac_int (by decide) (by omega) (by rw [hRm]; exact Nat.le_of_ble_eq_true rfl) (by rw [hRm]; exact Nat.le_of_ble_eq_true rfl) (fun v_4 ρ_5 Z_6 hal_3 => ?_)
  have hn_7 : Z_6.2.2 = (n + 1) := by have := hal_3.1; omega
  obtain ⟨ω_8, ho_9, hw_10, hH_11⟩ := hH_1.alR hn (by omega) 30 hal_3 rfl rfl (fun k a b h => by cases h; decide) (fun _ => rfl)
  replace ho : ω_8 o = 5 := (ho_9 o (by have := hH_1.lt ho (by decide); omega)).trans ho
  replace ht : ω_8 t = 0 := (ho_9 t (by omega)).trans ht
  replace htk : Z_6.1 t = 2 := ((hal_3.2.2.2.2.2 t (by omega)).2.2.1).trans htk
  replace htl : Z_6.2.1 t = 0 := ((hal_3.2.2.2.2.2 t (by omega)).2.2.2).trans htl
  have hold_12 : Old n t ω v ρ Z ω_8 v_4 ρ_5 Z_6 := hold_2.al ho_9 hal_3 (by omega)
  show wp g X F_X2_init 1 5 13 [(2, t), (2, o)] [(2, n), (2, t)] v_4 ρ_5 Z_6
  refine r_putRF (K := 2) (k := 2) (pc := 13) hX 8 rfl rfl (by decide) fw_X2_15 rfl rfl rfl rfl htk ht4 ?_
  have hH_13 : HT ω_8 v_4 (up ρ_5 t 2 n) Z_6 := hH_11.uzr ht
  have hold_14 : Old n t ω v ρ Z ω_8 v_4 (up ρ_5 t 2 n) Z_6 := hold_12.putr (Or.inl rfl)
  show wp g X F_X2_init 1 5 16 [(2, t), (2, o)] [] v_4 (up ρ_5 t 2 n) Z_6
  refine r_aload_n (pc := 16) hX 9 rfl rfl ?_
  refine r_iconst (pc := 17) hX 10 rfl ?_
  refine r_newaX hX 11 13 3 (n := (n + 1)) hn_7 rfl rfl (by decide) (by decide) ac_int (by decide) (by omega) (by rw [hRm]; exact Nat.le_of_ble_eq_true rfl) (by rw [hRm]; exact Nat.le_of_ble_eq_true rfl) (fun v_16 ρ_17 Z_18 hal_15 => ?_)
  have hn_19 : Z_18.2.2 = (n + 2) := by have := hal_15.1; omega
  obtain ⟨ω_20, ho_21, hw_22, hH_23⟩ := hH_13.alR hn_7 (by omega) 31 hal_15 rfl rfl (fun k a b h => by cases h; decide) (fun _ => rfl)
  replace ho : ω_20 o = 5 := (ho_21 o (by have := hH_13.lt ho (by decide); omega)).trans ho
  replace hw_10 : ω_20 n = 30 := (ho_21 n (by have := hH_13.lt hw_10 (by decide); omega)).trans hw_10
  replace ht : ω_20 t = 0 := (ho_21 t (by omega)).trans ht
  replace htk : Z_18.1 t = 2 := ((hal_15.2.2.2.2.2 t (by omega)).2.2.1).trans htk
  replace htl : Z_18.2.1 t = 0 := ((hal_15.2.2.2.2.2 t (by omega)).2.2.2).trans htl
  have hold_24 : Old n t ω v ρ Z ω_20 v_16 ρ_17 Z_18 := hold_14.al ho_21 hal_15 (by omega)
  clear hn_7
  show wp g X F_X2_init 2 8 20 [(2, t), (2, o)] [(2, (n + 1)), (2, t)] v_16 ρ_17 Z_18
  refine r_putRF (K := 2) (k := 3) (pc := 20) hX 12 rfl rfl (by decide) fw_X2_19 rfl rfl rfl rfl htk ht4 ?_
  have hH_25 : HT ω_20 v_16 (up ρ_17 t 3 (n + 1)) Z_18 := hH_23.uzr ht
  have hold_26 : Old n t ω v ρ Z ω_20 v_16 (up ρ_17 t 3 (n + 1)) Z_18 := hold_24.putr (Or.inl rfl)
  show wp g X F_X2_init 2 8 23 [(2, t), (2, o)] [] v_16 (up ρ_17 t 3 (n + 1)) Z_18
  refine r_aload_n (pc := 23) hX 13 rfl rfl ?_
  refine r_iconst (pc := 24) hX 14 rfl ?_
  refine r_newaX hX 15 14 3 (n := (n + 2)) hn_19 rfl rfl (by decide) (by decide) ac_long (by decide) (by omega) (by rw [hRm]; exact Nat.le_of_ble_eq_true rfl) (by rw [hRm]; exact Nat.le_of_ble_eq_true rfl) (fun v_28 ρ_29 Z_30 hal_27 => ?_)
  have hn_31 : Z_30.2.2 = (n + 3) := by have := hal_27.1; omega
  obtain ⟨ω_32, ho_33, hw_34, hH_35⟩ := hH_25.alR hn_19 (by omega) 32 hal_27 rfl rfl (fun k a b h => by cases h) (fun _ => rfl)
  replace ho : ω_32 o = 5 := (ho_33 o (by have := hH_25.lt ho (by decide); omega)).trans ho
  replace hw_10 : ω_32 n = 30 := (ho_33 n (by have := hH_25.lt hw_10 (by decide); omega)).trans hw_10
  replace hw_22 : ω_32 (n + 1) = 31 := (ho_33 (n + 1) (by have := hH_25.lt hw_22 (by decide); omega)).trans hw_22
  replace ht : ω_32 t = 0 := (ho_33 t (by omega)).trans ht
  replace htk : Z_30.1 t = 2 := ((hal_27.2.2.2.2.2 t (by omega)).2.2.1).trans htk
  replace htl : Z_30.2.1 t = 0 := ((hal_27.2.2.2.2.2 t (by omega)).2.2.2).trans htl
  have hold_36 : Old n t ω v ρ Z ω_32 v_28 ρ_29 Z_30 := hold_26.al ho_33 hal_27 (by omega)
  clear hn_19
  show wp g X F_X2_init 3 11 27 [(2, t), (2, o)] [(2, (n + 2)), (2, t)] v_28 ρ_29 Z_30
  refine r_putRF (K := 2) (k := 4) (pc := 27) hX 16 rfl rfl (by decide) fw_X2_22 rfl rfl rfl rfl htk ht4 ?_
  have hH_37 : HT ω_32 v_28 (up ρ_29 t 4 (n + 2)) Z_30 := hH_35.uzr ht
  have hold_38 : Old n t ω v ρ Z ω_32 v_28 (up ρ_29 t 4 (n + 2)) Z_30 := hold_36.putr (Or.inl rfl)
  show wp g X F_X2_init 3 11 30 [(2, t), (2, o)] [] v_28 (up ρ_29 t 4 (n + 2)) Z_30
  refine r_aload_n (pc := 30) hX 17 rfl rfl ?_
  refine r_iconst (pc := 31) hX 18 rfl ?_
  refine r_newaX hX 19 14 3 (n := (n + 3)) hn_31 rfl rfl (by decide) (by decide) ac_long (by decide) (by omega) (by rw [hRm]; exact Nat.le_of_ble_eq_true rfl) (by rw [hRm]; exact Nat.le_of_ble_eq_true rfl) (fun v_40 ρ_41 Z_42 hal_39 => ?_)
  have hn_43 : Z_42.2.2 = (n + 4) := by have := hal_39.1; omega
  obtain ⟨ω_44, ho_45, hw_46, hH_47⟩ := hH_37.alR hn_31 (by omega) 33 hal_39 rfl rfl (fun k a b h => by cases h) (fun _ => rfl)
  replace ho : ω_44 o = 5 := (ho_45 o (by have := hH_37.lt ho (by decide); omega)).trans ho
  replace hw_10 : ω_44 n = 30 := (ho_45 n (by have := hH_37.lt hw_10 (by decide); omega)).trans hw_10
  replace hw_22 : ω_44 (n + 1) = 31 := (ho_45 (n + 1) (by have := hH_37.lt hw_22 (by decide); omega)).trans hw_22
  replace hw_34 : ω_44 (n + 2) = 32 := (ho_45 (n + 2) (by have := hH_37.lt hw_34 (by decide); omega)).trans hw_34
  replace ht : ω_44 t = 0 := (ho_45 t (by omega)).trans ht
  replace htk : Z_42.1 t = 2 := ((hal_39.2.2.2.2.2 t (by omega)).2.2.1).trans htk
  replace htl : Z_42.2.1 t = 0 := ((hal_39.2.2.2.2.2 t (by omega)).2.2.2).trans htl
  have hold_48 : Old n t ω v ρ Z ω_44 v_40 ρ_41 Z_42 := hold_38.al ho_45 hal_39 (by omega)
  clear hn_31
  show wp g X F_X2_init 4 14 34 [(2, t), (2, o)] [(2, (n + 3)), (2, t)] v_40 ρ_41 Z_42
  refine r_putRF (K := 2) (k := 9) (pc := 34) hX 20 rfl rfl (by decide) fw_X2_26 rfl rfl rfl rfl htk ht4 ?_
  have hH_49 : HT ω_44 v_40 (up ρ_41 t 9 (n + 3)) Z_42 := hH_47.uzr ht
  have hold_50 : Old n t ω v ρ Z ω_44 v_40 (up ρ_41 t 9 (n + 3)) Z_42 := hold_48.putr (Or.inl rfl)
  show wp g X F_X2_init 4 14 37 [(2, t), (2, o)] [] v_40 (up ρ_41 t 9 (n + 3)) Z_42
  refine r_aload_n (pc := 37) hX 21 rfl rfl ?_
  refine r_bipush (pc := 38) hX 22 rfl (by decide) ?_
  refine r_newaX hX 23 14 13 (n := (n + 4)) hn_43 rfl rfl (by decide) (by decide) ac_long (by decide) (by omega) (by rw [hRm]; exact Nat.le_of_ble_eq_true rfl) (by rw [hRm]; exact Nat.le_of_ble_eq_true rfl) (fun v_52 ρ_53 Z_54 hal_51 => ?_)
  have hn_55 : Z_54.2.2 = (n + 5) := by have := hal_51.1; omega
  obtain ⟨ω_56, ho_57, hw_58, hH_59⟩ := hH_49.alR hn_43 (by omega) 34 hal_51 rfl rfl (fun k a b h => by cases h) (fun _ => rfl)
  replace ho : ω_56 o = 5 := (ho_57 o (by have := hH_49.lt ho (by decide); omega)).trans ho
  replace hw_10 : ω_56 n = 30 := (ho_57 n (by have := hH_49.lt hw_10 (by decide); omega)).trans hw_10
  replace hw_22 : ω_56 (n + 1) = 31 := (ho_57 (n + 1) (by have := hH_49.lt hw_22 (by decide); omega)).trans hw_22
  replace hw_34 : ω_56 (n + 2) = 32 := (ho_57 (n + 2) (by have := hH_49.lt hw_34 (by decide); omega)).trans hw_34
  replace hw_46 : ω_56 (n + 3) = 33 := (ho_57 (n + 3) (by have := hH_49.lt hw_46 (by decide); omega)).trans hw_46
  replace ht : ω_56 t = 0 := (ho_57 t (by omega)).trans ht
  replace htk : Z_54.1 t = 2 := ((hal_51.2.2.2.2.2 t (by omega)).2.2.1).trans htk
  replace htl : Z_54.2.1 t = 0 := ((hal_51.2.2.2.2.2 t (by omega)).2.2.2).trans htl
  have hold_60 : Old n t ω v ρ Z ω_56 v_52 ρ_53 Z_54 := hold_50.al ho_57 hal_51 (by omega)
  clear hn_43
  show wp g X F_X2_init 5 27 42 [(2, t), (2, o)] [(2, (n + 4)), (2, t)] v_52 ρ_53 Z_54
  refine r_putRF (K := 2) (k := 10) (pc := 42) hX 24 rfl rfl (by decide) fw_X2_29 rfl rfl rfl rfl htk ht4 ?_
  have hH_61 : HT ω_56 v_52 (up ρ_53 t 10 (n + 4)) Z_54 := hH_59.uzr ht
  have hold_62 : Old n t ω v ρ Z ω_56 v_52 (up ρ_53 t 10 (n + 4)) Z_54 := hold_60.putr (Or.inl rfl)
  show wp g X F_X2_init 5 27 45 [(2, t), (2, o)] [] v_52 (up ρ_53 t 10 (n + 4)) Z_54
  refine r_aload_n (pc := 45) hX 25 rfl rfl ?_
  refine r_sipush (pc := 46) hX 26 rfl (by decide) ?_
  refine r_newaX hX 27 14 729 (n := (n + 5)) hn_55 rfl rfl (by decide) (by decide) ac_long (by decide) (by omega) (by rw [hRm]; exact Nat.le_of_ble_eq_true rfl) (by rw [hRm]; exact Nat.le_of_ble_eq_true rfl) (fun v_64 ρ_65 Z_66 hal_63 => ?_)
  have hn_67 : Z_66.2.2 = (n + 6) := by have := hal_63.1; omega
  obtain ⟨ω_68, ho_69, hw_70, hH_71⟩ := hH_61.alR hn_55 (by omega) 35 hal_63 rfl rfl (fun k a b h => by cases h) (fun _ => rfl)
  replace ho : ω_68 o = 5 := (ho_69 o (by have := hH_61.lt ho (by decide); omega)).trans ho
  replace hw_10 : ω_68 n = 30 := (ho_69 n (by have := hH_61.lt hw_10 (by decide); omega)).trans hw_10
  replace hw_22 : ω_68 (n + 1) = 31 := (ho_69 (n + 1) (by have := hH_61.lt hw_22 (by decide); omega)).trans hw_22
  replace hw_34 : ω_68 (n + 2) = 32 := (ho_69 (n + 2) (by have := hH_61.lt hw_34 (by decide); omega)).trans hw_34
  replace hw_46 : ω_68 (n + 3) = 33 := (ho_69 (n + 3) (by have := hH_61.lt hw_46 (by decide); omega)).trans hw_46
  replace hw_58 : ω_68 (n + 4) = 34 := (ho_69 (n + 4) (by have := hH_61.lt hw_58 (by decide); omega)).trans hw_58
  replace ht : ω_68 t = 0 := (ho_69 t (by omega)).trans ht
  replace htk : Z_66.1 t = 2 := ((hal_63.2.2.2.2.2 t (by omega)).2.2.1).trans htk
  replace htl : Z_66.2.1 t = 0 := ((hal_63.2.2.2.2.2 t (by omega)).2.2.2).trans htl
  have hold_72 : Old n t ω v ρ Z ω_68 v_64 ρ_65 Z_66 := hold_62.al ho_69 hal_63 (by omega)
  clear hn_55
  show wp g X F_X2_init 6 756 51 [(2, t), (2, o)] [(2, (n + 5)), (2, t)] v_64 ρ_65 Z_66
  refine r_putRF (K := 2) (k := 11) (pc := 51) hX 28 rfl rfl (by decide) fw_X2_32 rfl rfl rfl rfl htk ht4 ?_
  have hH_73 : HT ω_68 v_64 (up ρ_65 t 11 (n + 5)) Z_66 := hH_71.uzr ht
  have hold_74 : Old n t ω v ρ Z ω_68 v_64 (up ρ_65 t 11 (n + 5)) Z_66 := hold_72.putr (Or.inl rfl)
  show wp g X F_X2_init 6 756 54 [(2, t), (2, o)] [] v_64 (up ρ_65 t 11 (n + 5)) Z_66
  refine r_aload_n (pc := 54) hX 29 rfl rfl ?_
  refine r_iconst (pc := 55) hX 30 rfl ?_
  refine r_newaX hX 31 13 3 (n := (n + 6)) hn_67 rfl rfl (by decide) (by decide) ac_int (by decide) (by omega) (by rw [hRm]; exact Nat.le_of_ble_eq_true rfl) (by rw [hRm]; exact Nat.le_of_ble_eq_true rfl) (fun v_76 ρ_77 Z_78 hal_75 => ?_)
  have hn_79 : Z_78.2.2 = (n + 7) := by have := hal_75.1; omega
  obtain ⟨ω_80, ho_81, hw_82, hH_83⟩ := hH_73.alR hn_67 (by omega) 36 hal_75 rfl rfl (fun k a b h => by cases h; decide) (fun _ => rfl)
  replace ho : ω_80 o = 5 := (ho_81 o (by have := hH_73.lt ho (by decide); omega)).trans ho
  replace hw_10 : ω_80 n = 30 := (ho_81 n (by have := hH_73.lt hw_10 (by decide); omega)).trans hw_10
  replace hw_22 : ω_80 (n + 1) = 31 := (ho_81 (n + 1) (by have := hH_73.lt hw_22 (by decide); omega)).trans hw_22
  replace hw_34 : ω_80 (n + 2) = 32 := (ho_81 (n + 2) (by have := hH_73.lt hw_34 (by decide); omega)).trans hw_34
  replace hw_46 : ω_80 (n + 3) = 33 := (ho_81 (n + 3) (by have := hH_73.lt hw_46 (by decide); omega)).trans hw_46
  replace hw_58 : ω_80 (n + 4) = 34 := (ho_81 (n + 4) (by have := hH_73.lt hw_58 (by decide); omega)).trans hw_58
  replace hw_70 : ω_80 (n + 5) = 35 := (ho_81 (n + 5) (by have := hH_73.lt hw_70 (by decide); omega)).trans hw_70
  replace ht : ω_80 t = 0 := (ho_81 t (by omega)).trans ht
  replace htk : Z_78.1 t = 2 := ((hal_75.2.2.2.2.2 t (by omega)).2.2.1).trans htk
  replace htl : Z_78.2.1 t = 0 := ((hal_75.2.2.2.2.2 t (by omega)).2.2.2).trans htl
  have hold_84 : Old n t ω v ρ Z ω_80 v_76 ρ_77 Z_78 := hold_74.al ho_81 hal_75 (by omega)
  clear hn_67
  show wp g X F_X2_init 7 759 58 [(2, t), (2, o)] [(2, (n + 6)), (2, t)] v_76 ρ_77 Z_78
  refine r_putRF (K := 2) (k := 12) (pc := 58) hX 32 rfl rfl (by decide) fw_X2_35 rfl rfl rfl rfl htk ht4 ?_
  have hH_85 : HT ω_80 v_76 (up ρ_77 t 12 (n + 6)) Z_78 := hH_83.uzr ht
  have hold_86 : Old n t ω v ρ Z ω_80 v_76 (up ρ_77 t 12 (n + 6)) Z_78 := hold_84.putr (Or.inl rfl)
  show wp g X F_X2_init 7 759 61 [(2, t), (2, o)] [] v_76 (up ρ_77 t 12 (n + 6)) Z_78
  refine r_aload_n (pc := 61) hX 33 rfl rfl ?_
  refine r_iconst (pc := 62) hX 34 rfl ?_
  refine r_newaX hX 35 13 3 (n := (n + 7)) hn_79 rfl rfl (by decide) (by decide) ac_int (by decide) (by omega) (by rw [hRm]; exact Nat.le_of_ble_eq_true rfl) (by rw [hRm]; exact Nat.le_of_ble_eq_true rfl) (fun v_88 ρ_89 Z_90 hal_87 => ?_)
  have hn_91 : Z_90.2.2 = (n + 8) := by have := hal_87.1; omega
  obtain ⟨ω_92, ho_93, hw_94, hH_95⟩ := hH_85.alR hn_79 (by omega) 37 hal_87 rfl rfl (fun k a b h => by cases h; decide) (fun _ => rfl)
  replace ho : ω_92 o = 5 := (ho_93 o (by have := hH_85.lt ho (by decide); omega)).trans ho
  replace hw_10 : ω_92 n = 30 := (ho_93 n (by have := hH_85.lt hw_10 (by decide); omega)).trans hw_10
  replace hw_22 : ω_92 (n + 1) = 31 := (ho_93 (n + 1) (by have := hH_85.lt hw_22 (by decide); omega)).trans hw_22
  replace hw_34 : ω_92 (n + 2) = 32 := (ho_93 (n + 2) (by have := hH_85.lt hw_34 (by decide); omega)).trans hw_34
  replace hw_46 : ω_92 (n + 3) = 33 := (ho_93 (n + 3) (by have := hH_85.lt hw_46 (by decide); omega)).trans hw_46
  replace hw_58 : ω_92 (n + 4) = 34 := (ho_93 (n + 4) (by have := hH_85.lt hw_58 (by decide); omega)).trans hw_58
  replace hw_70 : ω_92 (n + 5) = 35 := (ho_93 (n + 5) (by have := hH_85.lt hw_70 (by decide); omega)).trans hw_70
  replace hw_82 : ω_92 (n + 6) = 36 := (ho_93 (n + 6) (by have := hH_85.lt hw_82 (by decide); omega)).trans hw_82
  replace ht : ω_92 t = 0 := (ho_93 t (by omega)).trans ht
  replace htk : Z_90.1 t = 2 := ((hal_87.2.2.2.2.2 t (by omega)).2.2.1).trans htk
  replace htl : Z_90.2.1 t = 0 := ((hal_87.2.2.2.2.2 t (by omega)).2.2.2).trans htl
  have hold_96 : Old n t ω v ρ Z ω_92 v_88 ρ_89 Z_90 := hold_86.al ho_93 hal_87 (by omega)
  clear hn_79
  show wp g X F_X2_init 8 762 65 [(2, t), (2, o)] [(2, (n + 7)), (2, t)] v_88 ρ_89 Z_90
  refine r_putRF (K := 2) (k := 13) (pc := 65) hX 36 rfl rfl (by decide) fw_X2_38 rfl rfl rfl rfl htk ht4 ?_
  have hH_97 : HT ω_92 v_88 (up ρ_89 t 13 (n + 7)) Z_90 := hH_95.uzr ht
  have hold_98 : Old n t ω v ρ Z ω_92 v_88 (up ρ_89 t 13 (n + 7)) Z_90 := hold_96.putr (Or.inl rfl)
  show wp g X F_X2_init 8 762 68 [(2, t), (2, o)] [] v_88 (up ρ_89 t 13 (n + 7)) Z_90
  refine r_aload_n (pc := 68) hX 37 rfl rfl ?_
  refine r_iconst (pc := 69) hX 38 rfl ?_
  refine r_newaX hX 39 13 3 (n := (n + 8)) hn_91 rfl rfl (by decide) (by decide) ac_int (by decide) (by omega) (by rw [hRm]; exact Nat.le_of_ble_eq_true rfl) (by rw [hRm]; exact Nat.le_of_ble_eq_true rfl) (fun v_100 ρ_101 Z_102 hal_99 => ?_)
  have hn_103 : Z_102.2.2 = (n + 9) := by have := hal_99.1; omega
  obtain ⟨ω_104, ho_105, hw_106, hH_107⟩ := hH_97.alR hn_91 (by omega) 38 hal_99 rfl rfl (fun k a b h => by cases h; decide) (fun _ => rfl)
  replace ho : ω_104 o = 5 := (ho_105 o (by have := hH_97.lt ho (by decide); omega)).trans ho
  replace hw_10 : ω_104 n = 30 := (ho_105 n (by have := hH_97.lt hw_10 (by decide); omega)).trans hw_10
  replace hw_22 : ω_104 (n + 1) = 31 := (ho_105 (n + 1) (by have := hH_97.lt hw_22 (by decide); omega)).trans hw_22
  replace hw_34 : ω_104 (n + 2) = 32 := (ho_105 (n + 2) (by have := hH_97.lt hw_34 (by decide); omega)).trans hw_34
  replace hw_46 : ω_104 (n + 3) = 33 := (ho_105 (n + 3) (by have := hH_97.lt hw_46 (by decide); omega)).trans hw_46
  replace hw_58 : ω_104 (n + 4) = 34 := (ho_105 (n + 4) (by have := hH_97.lt hw_58 (by decide); omega)).trans hw_58
  replace hw_70 : ω_104 (n + 5) = 35 := (ho_105 (n + 5) (by have := hH_97.lt hw_70 (by decide); omega)).trans hw_70
  replace hw_82 : ω_104 (n + 6) = 36 := (ho_105 (n + 6) (by have := hH_97.lt hw_82 (by decide); omega)).trans hw_82
  replace hw_94 : ω_104 (n + 7) = 37 := (ho_105 (n + 7) (by have := hH_97.lt hw_94 (by decide); omega)).trans hw_94
  replace ht : ω_104 t = 0 := (ho_105 t (by omega)).trans ht
  replace htk : Z_102.1 t = 2 := ((hal_99.2.2.2.2.2 t (by omega)).2.2.1).trans htk
  replace htl : Z_102.2.1 t = 0 := ((hal_99.2.2.2.2.2 t (by omega)).2.2.2).trans htl
  have hold_108 : Old n t ω v ρ Z ω_104 v_100 ρ_101 Z_102 := hold_98.al ho_105 hal_99 (by omega)
  clear hn_91
  show wp g X F_X2_init 9 765 72 [(2, t), (2, o)] [(2, (n + 8)), (2, t)] v_100 ρ_101 Z_102
  refine r_putRF (K := 2) (k := 14) (pc := 72) hX 40 rfl rfl (by decide) fw_X2_41 rfl rfl rfl rfl htk ht4 ?_
  have hH_109 : HT ω_104 v_100 (up ρ_101 t 14 (n + 8)) Z_102 := hH_107.uzr ht
  have hold_110 : Old n t ω v ρ Z ω_104 v_100 (up ρ_101 t 14 (n + 8)) Z_102 := hold_108.putr (Or.inl rfl)
  show wp g X F_X2_init 9 765 75 [(2, t), (2, o)] [] v_100 (up ρ_101 t 14 (n + 8)) Z_102
  refine r_aload_n (pc := 75) hX 41 rfl rfl ?_
  refine r_aload_n (pc := 76) hX 42 rfl rfl ?_
  refine r_putR (pc := 77) hX 43 rfl fl_X2_44 rfl (fun _ h => by cases h; rfl) htk ht4 ?_
  have hH_111 : HT ω_104 v_100 (up (up ρ_101 t 14 (n + 8)) t 0 o) Z_102 := hH_109.uzr ht
  have hold_112 : Old n t ω v ρ Z ω_104 v_100 (up (up ρ_101 t 14 (n + 8)) t 0 o) Z_102 := hold_110.putr (Or.inl rfl)
  show wp g X F_X2_init 9 765 80 [(2, t), (2, o)] [] v_100 (up (up ρ_101 t 14 (n + 8)) t 0 o) Z_102
  have hrg : ∀ k a b, rgO 29 k = some (a, b) → a ≤ v_100 t k ∧ v_100 t k ≤ b := fun k a b hh => by
    rcases rgL29 hh with ⟨rfl, rfl, rfl⟩ | ⟨rfl, rfl, rfl⟩
    · rw [show v_100 t 5 = 0 from (congrFun (hal_99.2.2.2.2.2 t (by omega)).1 5).trans ((congrFun (hal_87.2.2.2.2.2 t (by omega)).1 5).trans ((congrFun (hal_75.2.2.2.2.2 t (by omega)).1 5).trans ((congrFun (hal_63.2.2.2.2.2 t (by omega)).1 5).trans ((congrFun (hal_51.2.2.2.2.2 t (by omega)).1 5).trans ((congrFun (hal_39.2.2.2.2.2 t (by omega)).1 5).trans ((congrFun (hal_27.2.2.2.2.2 t (by omega)).1 5).trans ((congrFun (hal_15.2.2.2.2.2 t (by omega)).1 5).trans ((congrFun (hal_3.2.2.2.2.2 t (by omega)).1 5).trans ((up_k (by decide)).trans (hv0 5))))))))))]; decide
    · rw [show v_100 t 6 = 0 from (congrFun (hal_99.2.2.2.2.2 t (by omega)).1 6).trans ((congrFun (hal_87.2.2.2.2.2 t (by omega)).1 6).trans ((congrFun (hal_75.2.2.2.2.2 t (by omega)).1 6).trans ((congrFun (hal_63.2.2.2.2.2 t (by omega)).1 6).trans ((congrFun (hal_51.2.2.2.2.2 t (by omega)).1 6).trans ((congrFun (hal_39.2.2.2.2.2 t (by omega)).1 6).trans ((congrFun (hal_27.2.2.2.2.2 t (by omega)).1 6).trans ((congrFun (hal_15.2.2.2.2.2 t (by omega)).1 6).trans ((congrFun (hal_3.2.2.2.2.2 t (by omega)).1 6).trans ((up_k (by decide)).trans (hv0 6))))))))))]; decide
  have hrf : ∀ k e, rfO 29 k = some e → setR ω_104 t 29 ((up (up ρ_101 t 14 (n + 8)) t 0 o) t k) = e := fun k e hh => by
    rcases rfL29 hh with ⟨rfl, rfl⟩ | ⟨rfl, rfl⟩ | ⟨rfl, rfl⟩ | ⟨rfl, rfl⟩ | ⟨rfl, rfl⟩ | ⟨rfl, rfl⟩ | ⟨rfl, rfl⟩ | ⟨rfl, rfl⟩ | ⟨rfl, rfl⟩ | ⟨rfl, rfl⟩
    · rw [show (up (up ρ_101 t 14 (n + 8)) t 0 o) t 0 = o from up_s _ _ _ _, setR_ne (by first | omega | exact fun q => by have z := ho; rw [q, ht] at z; exact absurd z (by decide))]; exact ho
    · rw [show (up (up ρ_101 t 14 (n + 8)) t 0 o) t 2 = n from (up_k (by decide)).trans ((up_k (by decide)).trans ((congrFun (hal_99.2.2.2.2.2 t (by omega)).2.1 2).trans ((up_k (by decide)).trans ((congrFun (hal_87.2.2.2.2.2 t (by omega)).2.1 2).trans ((up_k (by decide)).trans ((congrFun (hal_75.2.2.2.2.2 t (by omega)).2.1 2).trans ((up_k (by decide)).trans ((congrFun (hal_63.2.2.2.2.2 t (by omega)).2.1 2).trans ((up_k (by decide)).trans ((congrFun (hal_51.2.2.2.2.2 t (by omega)).2.1 2).trans ((up_k (by decide)).trans ((congrFun (hal_39.2.2.2.2.2 t (by omega)).2.1 2).trans ((up_k (by decide)).trans ((congrFun (hal_27.2.2.2.2.2 t (by omega)).2.1 2).trans ((up_k (by decide)).trans ((congrFun (hal_15.2.2.2.2.2 t (by omega)).2.1 2).trans (up_s _ _ _ _))))))))))))))))), setR_ne (by first | omega | exact fun q => by have z := hw_10; rw [q, ht] at z; exact absurd z (by decide))]; exact hw_10
    · rw [show (up (up ρ_101 t 14 (n + 8)) t 0 o) t 3 = (n + 1) from (up_k (by decide)).trans ((up_k (by decide)).trans ((congrFun (hal_99.2.2.2.2.2 t (by omega)).2.1 3).trans ((up_k (by decide)).trans ((congrFun (hal_87.2.2.2.2.2 t (by omega)).2.1 3).trans ((up_k (by decide)).trans ((congrFun (hal_75.2.2.2.2.2 t (by omega)).2.1 3).trans ((up_k (by decide)).trans ((congrFun (hal_63.2.2.2.2.2 t (by omega)).2.1 3).trans ((up_k (by decide)).trans ((congrFun (hal_51.2.2.2.2.2 t (by omega)).2.1 3).trans ((up_k (by decide)).trans ((congrFun (hal_39.2.2.2.2.2 t (by omega)).2.1 3).trans ((up_k (by decide)).trans ((congrFun (hal_27.2.2.2.2.2 t (by omega)).2.1 3).trans (up_s _ _ _ _))))))))))))))), setR_ne (by first | omega | exact fun q => by have z := hw_22; rw [q, ht] at z; exact absurd z (by decide))]; exact hw_22
    · rw [show (up (up ρ_101 t 14 (n + 8)) t 0 o) t 4 = (n + 2) from (up_k (by decide)).trans ((up_k (by decide)).trans ((congrFun (hal_99.2.2.2.2.2 t (by omega)).2.1 4).trans ((up_k (by decide)).trans ((congrFun (hal_87.2.2.2.2.2 t (by omega)).2.1 4).trans ((up_k (by decide)).trans ((congrFun (hal_75.2.2.2.2.2 t (by omega)).2.1 4).trans ((up_k (by decide)).trans ((congrFun (hal_63.2.2.2.2.2 t (by omega)).2.1 4).trans ((up_k (by decide)).trans ((congrFun (hal_51.2.2.2.2.2 t (by omega)).2.1 4).trans ((up_k (by decide)).trans ((congrFun (hal_39.2.2.2.2.2 t (by omega)).2.1 4).trans (up_s _ _ _ _))))))))))))), setR_ne (by first | omega | exact fun q => by have z := hw_34; rw [q, ht] at z; exact absurd z (by decide))]; exact hw_34
    · rw [show (up (up ρ_101 t 14 (n + 8)) t 0 o) t 9 = (n + 3) from (up_k (by decide)).trans ((up_k (by decide)).trans ((congrFun (hal_99.2.2.2.2.2 t (by omega)).2.1 9).trans ((up_k (by decide)).trans ((congrFun (hal_87.2.2.2.2.2 t (by omega)).2.1 9).trans ((up_k (by decide)).trans ((congrFun (hal_75.2.2.2.2.2 t (by omega)).2.1 9).trans ((up_k (by decide)).trans ((congrFun (hal_63.2.2.2.2.2 t (by omega)).2.1 9).trans ((up_k (by decide)).trans ((congrFun (hal_51.2.2.2.2.2 t (by omega)).2.1 9).trans (up_s _ _ _ _))))))))))), setR_ne (by first | omega | exact fun q => by have z := hw_46; rw [q, ht] at z; exact absurd z (by decide))]; exact hw_46
    · rw [show (up (up ρ_101 t 14 (n + 8)) t 0 o) t 10 = (n + 4) from (up_k (by decide)).trans ((up_k (by decide)).trans ((congrFun (hal_99.2.2.2.2.2 t (by omega)).2.1 10).trans ((up_k (by decide)).trans ((congrFun (hal_87.2.2.2.2.2 t (by omega)).2.1 10).trans ((up_k (by decide)).trans ((congrFun (hal_75.2.2.2.2.2 t (by omega)).2.1 10).trans ((up_k (by decide)).trans ((congrFun (hal_63.2.2.2.2.2 t (by omega)).2.1 10).trans (up_s _ _ _ _))))))))), setR_ne (by first | omega | exact fun q => by have z := hw_58; rw [q, ht] at z; exact absurd z (by decide))]; exact hw_58
    · rw [show (up (up ρ_101 t 14 (n + 8)) t 0 o) t 11 = (n + 5) from (up_k (by decide)).trans ((up_k (by decide)).trans ((congrFun (hal_99.2.2.2.2.2 t (by omega)).2.1 11).trans ((up_k (by decide)).trans ((congrFun (hal_87.2.2.2.2.2 t (by omega)).2.1 11).trans ((up_k (by decide)).trans ((congrFun (hal_75.2.2.2.2.2 t (by omega)).2.1 11).trans (up_s _ _ _ _))))))), setR_ne (by first | omega | exact fun q => by have z := hw_70; rw [q, ht] at z; exact absurd z (by decide))]; exact hw_70
    · rw [show (up (up ρ_101 t 14 (n + 8)) t 0 o) t 12 = (n + 6) from (up_k (by decide)).trans ((up_k (by decide)).trans ((congrFun (hal_99.2.2.2.2.2 t (by omega)).2.1 12).trans ((up_k (by decide)).trans ((congrFun (hal_87.2.2.2.2.2 t (by omega)).2.1 12).trans (up_s _ _ _ _))))), setR_ne (by first | omega | exact fun q => by have z := hw_82; rw [q, ht] at z; exact absurd z (by decide))]; exact hw_82
    · rw [show (up (up ρ_101 t 14 (n + 8)) t 0 o) t 13 = (n + 7) from (up_k (by decide)).trans ((up_k (by decide)).trans ((congrFun (hal_99.2.2.2.2.2 t (by omega)).2.1 13).trans (up_s _ _ _ _))), setR_ne (by first | omega | exact fun q => by have z := hw_94; rw [q, ht] at z; exact absurd z (by decide))]; exact hw_94
    · rw [show (up (up ρ_101 t 14 (n + 8)) t 0 o) t 14 = (n + 8) from (up_k (by decide)).trans (up_s _ _ _ _), setR_ne (by first | omega | exact fun q => by have z := hw_106; rw [q, ht] at z; exact absurd z (by decide))]; exact hw_106
  have hrn : ∀ k e, rnO 29 k = some e → (up (up ρ_101 t 14 (n + 8)) t 0 o) t k < 0 ∨ setR ω_104 t 29 ((up (up ρ_101 t 14 (n + 8)) t 0 o) t k) = e := fun k e hh => by cases hh
  exact r_vret (pc := 80) hX 44 hQ rfl rfl (Nat.le_of_ble_eq_true rfl) (Nat.le_of_ble_eq_true rfl) ⟨rfl, by omega, setR ω_104 t 29, hold_112.set, setR_s, hH_111.add ht ⟨ht4, by omega, by rw [htk]; rfl, by rw [htl]; rfl, hrg, hrf, hrn⟩⟩
