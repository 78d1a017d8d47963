set_option maxHeartbeats 4000000 in
set_option maxRecDepth 100000 in
theorem c_X10_init (g : Gp) (ω : Rw) (v ρ : Mv) (Z : Mz) (hH : HT ω v ρ Z) (t : Int) (ht : ω t = 0) (htk : Z.1 t = 10) (htl : Z.2.1 t = 0) (ht4 : 4 ≤ t) (n : Int) (hn : Z.2.2 = n) (htn : t < n) (hv0 : ∀ k, v t k = 0) (hr0 : ∀ k, ρ t k = -1) (o : Int) (ho : ω o = 5) : Ok g 2 36 8632 F_X10_init [(2, t), (2, o)] v ρ Z (fun o9 v' ρ' Z' => o9 = none ∧ Z'.2.2 = n + 36 ∧ ∃ ω' : Rw, Old n t ω v ρ Z ω' v' ρ' Z' ∧ ω' t = 45 ∧ HT ω' v' ρ' Z') := by
  refine Ok.of mo_X10_init (Nat.le_of_ble_eq_true rfl) ?_
  intro X hX hRm hxn hQ
  show wp g X F_X10_init 0 0 0 [(2, t), (2, o)] [] v ρ Z
  have hold0 : Old n t ω v ρ Z ω v ρ Z := Old.rf
  have hlt_o : o < n := by have := hH.lt ho (by decide); omega
  refine r_aload_n (pc := 0) hX 0 rfl rfl ?_
  refine r_objInit (pc := 1) hX 1 rfl (by omega) oi_X10 oi_in oi_cd (by rw [hRm]; exact Nat.le_of_ble_eq_true rfl) (by rw [hRm]; exact Nat.le_of_ble_eq_true rfl) rfl ?_
  refine r_aload_n (pc := 4) hX 2 rfl rfl ?_
  refine r_iconst (pc := 5) hX 3 rfl ?_
  refine r_putI (pc := 6) hX 4 rfl fl_X10_9 rfl (fun _ h => by cases h; rfl) htk ht4 ?_
  have hH_1 : HT ω (up v t 1 (-1)) ρ Z := hH.uz ht ht4
  have hold_2 : Old n t ω v ρ Z ω (up v t 1 (-1)) ρ Z := hold0.put (Or.inl rfl)
  show wp g X F_X10_init 0 0 9 [(2, t), (2, o)] [] (up v t 1 (-1)) ρ Z
  refine r_aload_n (pc := 9) hX 5 rfl rfl ?_
  refine r_iconst (pc := 10) hX 6 rfl ?_
  refine r_putI (pc := 11) hX 7 rfl fl_X10_15 rfl (fun _ h => by cases h; rfl) htk ht4 ?_
  have hH_3 : HT ω (up (up v t 1 (-1)) t 2 (-1)) ρ Z := hH_1.uz ht ht4
  have hold_4 : Old n t ω v ρ Z ω (up (up v t 1 (-1)) t 2 (-1)) ρ Z := hold_2.put (Or.inl rfl)
  show wp g X F_X10_init 0 0 14 [(2, t), (2, o)] [] (up (up v t 1 (-1)) t 2 (-1)) ρ Z
  refine r_aload_n (pc := 14) hX 8 rfl rfl ?_
  refine r_iconst (pc := 15) hX 9 rfl ?_
  refine r_putI (pc := 16) hX 10 rfl fl_X10_18 rfl (fun _ h => by cases h; rfl) htk ht4 ?_
  have hH_5 : HT ω (up (up (up v t 1 (-1)) t 2 (-1)) t 5 (-1)) ρ Z := hH_3.uz ht ht4
  have hold_6 : Old n t ω v ρ Z ω (up (up (up v t 1 (-1)) t 2 (-1)) t 5 (-1)) ρ Z := hold_4.put (Or.inl rfl)
  show wp g X F_X10_init 0 0 19 [(2, t), (2, o)] [] (up (up (up v t 1 (-1)) t 2 (-1)) t 5 (-1)) ρ Z
  refine r_aload_n (pc := 19) hX 11 rfl rfl ?_
  refine r_iconst (pc := 20) hX 12 rfl ?_
  refine r_newaX hX 13 13 5 (n := n) hn rfl rfl (by decide) (by decide) ac_int (by decide) (by omega) (by rw [hRm]; exact Nat.le_of_ble_eq_true rfl) (by rw [hRm]; exact Nat.le_of_ble_eq_true rfl) (fun v_8 ρ_9 Z_10 hal_7 => ?_)
  have hn_11 : Z_10.2.2 = (n + 1) := by have := hal_7.1; omega
  obtain ⟨ω_12, ho_13, hw_14, hH_15⟩ := hH_5.alR hn (by omega) 46 hal_7 rfl rfl (fun k a b h => by cases h; decide) (fun _ => rfl)
  replace ho : ω_12 o = 5 := (ho_13 o (by have := hH_5.lt ho (by decide); omega)).trans ho
  replace ht : ω_12 t = 0 := (ho_13 t (by omega)).trans ht
  replace htk : Z_10.1 t = 10 := ((hal_7.2.2.2.2.2 t (by omega)).2.2.1).trans htk
  replace htl : Z_10.2.1 t = 0 := ((hal_7.2.2.2.2.2 t (by omega)).2.2.2).trans htl
  have hold_16 : Old n t ω v ρ Z ω_12 v_8 ρ_9 Z_10 := hold_6.al ho_13 hal_7 (by omega)
  show wp g X F_X10_init 1 5 23 [(2, t), (2, o)] [(2, n), (2, t)] v_8 ρ_9 Z_10
  refine r_putRF (K := 10) (k := 7) (pc := 23) hX 14 rfl rfl (by decide) fw_X10_21 rfl rfl rfl rfl htk ht4 ?_
  have hH_17 : HT ω_12 v_8 (up ρ_9 t 7 n) Z_10 := hH_15.uzr ht
  have hold_18 : Old n t ω v ρ Z ω_12 v_8 (up ρ_9 t 7 n) Z_10 := hold_16.putr (Or.inl rfl)
  show wp g X F_X10_init 1 5 26 [(2, t), (2, o)] [] v_8 (up ρ_9 t 7 n) Z_10
  refine r_aload_n (pc := 26) hX 15 rfl rfl ?_
  refine r_iconst (pc := 27) hX 16 rfl ?_
  refine r_newaX hX 17 13 3 (n := (n + 1)) hn_11 rfl rfl (by decide) (by decide) ac_int (by decide) (by omega) (by rw [hRm]; exact Nat.le_of_ble_eq_true rfl) (by rw [hRm]; exact Nat.le_of_ble_eq_true rfl) (fun v_20 ρ_21 Z_22 hal_19 => ?_)
  have hn_23 : Z_22.2.2 = (n + 2) := by have := hal_19.1; omega
  obtain ⟨ω_24, ho_25, hw_26, hH_27⟩ := hH_17.alR hn_11 (by omega) 47 hal_19 rfl rfl (fun k a b h => by cases h; decide) (fun _ => rfl)
  replace ho : ω_24 o = 5 := (ho_25 o (by have := hH_17.lt ho (by decide); omega)).trans ho
  replace hw_14 : ω_24 n = 46 := (ho_25 n (by have := hH_17.lt hw_14 (by decide); omega)).trans hw_14
  replace ht : ω_24 t = 0 := (ho_25 t (by omega)).trans ht
  replace htk : Z_22.1 t = 10 := ((hal_19.2.2.2.2.2 t (by omega)).2.2.1).trans htk
  replace htl : Z_22.2.1 t = 0 := ((hal_19.2.2.2.2.2 t (by omega)).2.2.2).trans htl
  have hold_28 : Old n t ω v ρ Z ω_24 v_20 ρ_21 Z_22 := hold_18.al ho_25 hal_19 (by omega)
  clear hn_11
  show wp g X F_X10_init 2 8 30 [(2, t), (2, o)] [(2, (n + 1)), (2, t)] v_20 ρ_21 Z_22
  refine r_putRF (K := 10) (k := 8) (pc := 30) hX 18 rfl rfl (by decide) fw_X10_25 rfl rfl rfl rfl htk ht4 ?_
  have hH_29 : HT ω_24 v_20 (up ρ_21 t 8 (n + 1)) Z_22 := hH_27.uzr ht
  have hold_30 : Old n t ω v ρ Z ω_24 v_20 (up ρ_21 t 8 (n + 1)) Z_22 := hold_28.putr (Or.inl rfl)
  show wp g X F_X10_init 2 8 33 [(2, t), (2, o)] [] v_20 (up ρ_21 t 8 (n + 1)) Z_22
  refine r_aload_n (pc := 33) hX 19 rfl rfl ?_
  refine r_iconst (pc := 34) hX 20 rfl ?_
  refine r_newaX hX 21 13 3 (n := (n + 2)) hn_23 rfl rfl (by decide) (by decide) ac_int (by decide) (by omega) (by rw [hRm]; exact Nat.le_of_ble_eq_true rfl) (by rw [hRm]; exact Nat.le_of_ble_eq_true rfl) (fun v_32 ρ_33 Z_34 hal_31 => ?_)
  have hn_35 : Z_34.2.2 = (n + 3) := by have := hal_31.1; omega
  obtain ⟨ω_36, ho_37, hw_38, hH_39⟩ := hH_29.alR hn_23 (by omega) 48 hal_31 rfl rfl (fun k a b h => by cases h; decide) (fun _ => rfl)
  replace ho : ω_36 o = 5 := (ho_37 o (by have := hH_29.lt ho (by decide); omega)).trans ho
  replace hw_14 : ω_36 n = 46 := (ho_37 n (by have := hH_29.lt hw_14 (by decide); omega)).trans hw_14
  replace hw_26 : ω_36 (n + 1) = 47 := (ho_37 (n + 1) (by have := hH_29.lt hw_26 (by decide); omega)).trans hw_26
  replace ht : ω_36 t = 0 := (ho_37 t (by omega)).trans ht
  replace htk : Z_34.1 t = 10 := ((hal_31.2.2.2.2.2 t (by omega)).2.2.1).trans htk
  replace htl : Z_34.2.1 t = 0 := ((hal_31.2.2.2.2.2 t (by omega)).2.2.2).trans htl
  have hold_40 : Old n t ω v ρ Z ω_36 v_32 ρ_33 Z_34 := hold_30.al ho_37 hal_31 (by omega)
  clear hn_23
  show wp g X F_X10_init 3 11 37 [(2, t), (2, o)] [(2, (n + 2)), (2, t)] v_32 ρ_33 Z_34
  refine r_putRF (K := 10) (k := 10) (pc := 37) hX 22 rfl rfl (by decide) fw_X10_28 rfl rfl rfl rfl htk ht4 ?_
  have hH_41 : HT ω_36 v_32 (up ρ_33 t 10 (n + 2)) Z_34 := hH_39.uzr ht
  have hold_42 : Old n t ω v ρ Z ω_36 v_32 (up ρ_33 t 10 (n + 2)) Z_34 := hold_40.putr (Or.inl rfl)
  show wp g X F_X10_init 3 11 40 [(2, t), (2, o)] [] v_32 (up ρ_33 t 10 (n + 2)) Z_34
  refine r_aload_n (pc := 40) hX 23 rfl rfl ?_
  refine r_iconst (pc := 41) hX 24 rfl ?_
  refine r_newaX hX 25 13 4 (n := (n + 3)) hn_35 rfl rfl (by decide) (by decide) ac_int (by decide) (by omega) (by rw [hRm]; exact Nat.le_of_ble_eq_true rfl) (by rw [hRm]; exact Nat.le_of_ble_eq_true rfl) (fun v_44 ρ_45 Z_46 hal_43 => ?_)
  have hn_47 : Z_46.2.2 = (n + 4) := by have := hal_43.1; omega
  obtain ⟨ω_48, ho_49, hw_50, hH_51⟩ := hH_41.alR hn_35 (by omega) 49 hal_43 rfl rfl (fun k a b h => by cases h; decide) (fun _ => rfl)
  replace ho : ω_48 o = 5 := (ho_49 o (by have := hH_41.lt ho (by decide); omega)).trans ho
  replace hw_14 : ω_48 n = 46 := (ho_49 n (by have := hH_41.lt hw_14 (by decide); omega)).trans hw_14
  replace hw_26 : ω_48 (n + 1) = 47 := (ho_49 (n + 1) (by have := hH_41.lt hw_26 (by decide); omega)).trans hw_26
  replace hw_38 : ω_48 (n + 2) = 48 := (ho_49 (n + 2) (by have := hH_41.lt hw_38 (by decide); omega)).trans hw_38
  replace ht : ω_48 t = 0 := (ho_49 t (by omega)).trans ht
  replace htk : Z_46.1 t = 10 := ((hal_43.2.2.2.2.2 t (by omega)).2.2.1).trans htk
  replace htl : Z_46.2.1 t = 0 := ((hal_43.2.2.2.2.2 t (by omega)).2.2.2).trans htl
  have hold_52 : Old n t ω v ρ Z ω_48 v_44 ρ_45 Z_46 := hold_42.al ho_49 hal_43 (by omega)
  clear hn_35
  show wp g X F_X10_init 4 15 44 [(2, t), (2, o)] [(2, (n + 3)), (2, t)] v_44 ρ_45 Z_46
  refine r_putRF (K := 10) (k := 11) (pc := 44) hX 26 rfl rfl (by decide) fw_X10_31 rfl rfl rfl rfl htk ht4 ?_
  have hH_53 : HT ω_48 v_44 (up ρ_45 t 11 (n + 3)) Z_46 := hH_51.uzr ht
  have hold_54 : Old n t ω v ρ Z ω_48 v_44 (up ρ_45 t 11 (n + 3)) Z_46 := hold_52.putr (Or.inl rfl)
  show wp g X F_X10_init 4 15 47 [(2, t), (2, o)] [] v_44 (up ρ_45 t 11 (n + 3)) Z_46
  refine r_aload_n (pc := 47) hX 27 rfl rfl ?_
  refine r_iconst (pc := 48) hX 28 rfl ?_
  refine r_newaX hX 29 13 3 (n := (n + 4)) hn_47 rfl rfl (by decide) (by decide) ac_int (by decide) (by omega) (by rw [hRm]; exact Nat.le_of_ble_eq_true rfl) (by rw [hRm]; exact Nat.le_of_ble_eq_true rfl) (fun v_56 ρ_57 Z_58 hal_55 => ?_)
  have hn_59 : Z_58.2.2 = (n + 5) := by have := hal_55.1; omega
  obtain ⟨ω_60, ho_61, hw_62, hH_63⟩ := hH_53.alR hn_47 (by omega) 50 hal_55 rfl rfl (fun k a b h => by cases h; decide) (fun _ => rfl)
  replace ho : ω_60 o = 5 := (ho_61 o (by have := hH_53.lt ho (by decide); omega)).trans ho
  replace hw_14 : ω_60 n = 46 := (ho_61 n (by have := hH_53.lt hw_14 (by decide); omega)).trans hw_14
  replace hw_26 : ω_60 (n + 1) = 47 := (ho_61 (n + 1) (by have := hH_53.lt hw_26 (by decide); omega)).trans hw_26
  replace hw_38 : ω_60 (n + 2) = 48 := (ho_61 (n + 2) (by have := hH_53.lt hw_38 (by decide); omega)).trans hw_38
  replace hw_50 : ω_60 (n + 3) = 49 := (ho_61 (n + 3) (by have := hH_53.lt hw_50 (by decide); omega)).trans hw_50
  replace ht : ω_60 t = 0 := (ho_61 t (by omega)).trans ht
  replace htk : Z_58.1 t = 10 := ((hal_55.2.2.2.2.2 t (by omega)).2.2.1).trans htk
  replace htl : Z_58.2.1 t = 0 := ((hal_55.2.2.2.2.2 t (by omega)).2.2.2).trans htl
  have hold_64 : Old n t ω v ρ Z ω_60 v_56 ρ_57 Z_58 := hold_54.al ho_61 hal_55 (by omega)
  clear hn_47
  show wp g X F_X10_init 5 18 51 [(2, t), (2, o)] [(2, (n + 4)), (2, t)] v_56 ρ_57 Z_58
  refine r_putRF (K := 10) (k := 12) (pc := 51) hX 30 rfl rfl (by decide) fw_X10_34 rfl rfl rfl rfl htk ht4 ?_
  have hH_65 : HT ω_60 v_56 (up ρ_57 t 12 (n + 4)) Z_58 := hH_63.uzr ht
  have hold_66 : Old n t ω v ρ Z ω_60 v_56 (up ρ_57 t 12 (n + 4)) Z_58 := hold_64.putr (Or.inl rfl)
  show wp g X F_X10_init 5 18 54 [(2, t), (2, o)] [] v_56 (up ρ_57 t 12 (n + 4)) Z_58
  refine r_aload_n (pc := 54) hX 31 rfl rfl ?_
  refine r_iconst (pc := 55) hX 32 rfl ?_
  refine r_newaX hX 33 13 3 (n := (n + 5)) hn_59 rfl rfl (by decide) (by decide) ac_int (by decide) (by omega) (by rw [hRm]; exact Nat.le_of_ble_eq_true rfl) (by rw [hRm]; exact Nat.le_of_ble_eq_true rfl) (fun v_68 ρ_69 Z_70 hal_67 => ?_)
  have hn_71 : Z_70.2.2 = (n + 6) := by have := hal_67.1; omega
  obtain ⟨ω_72, ho_73, hw_74, hH_75⟩ := hH_65.alR hn_59 (by omega) 51 hal_67 rfl rfl (fun k a b h => by cases h) (fun _ => rfl)
  replace ho : ω_72 o = 5 := (ho_73 o (by have := hH_65.lt ho (by decide); omega)).trans ho
  replace hw_14 : ω_72 n = 46 := (ho_73 n (by have := hH_65.lt hw_14 (by decide); omega)).trans hw_14
  replace hw_26 : ω_72 (n + 1) = 47 := (ho_73 (n + 1) (by have := hH_65.lt hw_26 (by decide); omega)).trans hw_26
  replace hw_38 : ω_72 (n + 2) = 48 := (ho_73 (n + 2) (by have := hH_65.lt hw_38 (by decide); omega)).trans hw_38
  replace hw_50 : ω_72 (n + 3) = 49 := (ho_73 (n + 3) (by have := hH_65.lt hw_50 (by decide); omega)).trans hw_50
  replace hw_62 : ω_72 (n + 4) = 50 := (ho_73 (n + 4) (by have := hH_65.lt hw_62 (by decide); omega)).trans hw_62
  replace ht : ω_72 t = 0 := (ho_73 t (by omega)).trans ht
  replace htk : Z_70.1 t = 10 := ((hal_67.2.2.2.2.2 t (by omega)).2.2.1).trans htk
  replace htl : Z_70.2.1 t = 0 := ((hal_67.2.2.2.2.2 t (by omega)).2.2.2).trans htl
  have hold_76 : Old n t ω v ρ Z ω_72 v_68 ρ_69 Z_70 := hold_66.al ho_73 hal_67 (by omega)
  clear hn_59
  show wp g X F_X10_init 6 21 58 [(2, t), (2, o)] [(2, (n + 5)), (2, t)] v_68 ρ_69 Z_70
  refine r_putRF (K := 10) (k := 13) (pc := 58) hX 34 rfl rfl (by decide) fw_X10_37 rfl rfl rfl rfl htk ht4 ?_
  have hH_77 : HT ω_72 v_68 (up ρ_69 t 13 (n + 5)) Z_70 := hH_75.uzr ht
  have hold_78 : Old n t ω v ρ Z ω_72 v_68 (up ρ_69 t 13 (n + 5)) Z_70 := hold_76.putr (Or.inl rfl)
  show wp g X F_X10_init 6 21 61 [(2, t), (2, o)] [] v_68 (up ρ_69 t 13 (n + 5)) Z_70
  refine r_aload_n (pc := 61) hX 35 rfl rfl ?_
  refine r_iconst (pc := 62) hX 36 rfl ?_
  refine r_newaX hX 37 13 5 (n := (n + 6)) hn_71 rfl rfl (by decide) (by decide) ac_int (by decide) (by omega) (by rw [hRm]; exact Nat.le_of_ble_eq_true rfl) (by rw [hRm]; exact Nat.le_of_ble_eq_true rfl) (fun v_80 ρ_81 Z_82 hal_79 => ?_)
  have hn_83 : Z_82.2.2 = (n + 7) := by have := hal_79.1; omega
  obtain ⟨ω_84, ho_85, hw_86, hH_87⟩ := hH_77.alR hn_71 (by omega) 52 hal_79 rfl rfl (fun k a b h => by cases h) (fun _ => rfl)
  replace ho : ω_84 o = 5 := (ho_85 o (by have := hH_77.lt ho (by decide); omega)).trans ho
  replace hw_14 : ω_84 n = 46 := (ho_85 n (by have := hH_77.lt hw_14 (by decide); omega)).trans hw_14
  replace hw_26 : ω_84 (n + 1) = 47 := (ho_85 (n + 1) (by have := hH_77.lt hw_26 (by decide); omega)).trans hw_26
  replace hw_38 : ω_84 (n + 2) = 48 := (ho_85 (n + 2) (by have := hH_77.lt hw_38 (by decide); omega)).trans hw_38
  replace hw_50 : ω_84 (n + 3) = 49 := (ho_85 (n + 3) (by have := hH_77.lt hw_50 (by decide); omega)).trans hw_50
  replace hw_62 : ω_84 (n + 4) = 50 := (ho_85 (n + 4) (by have := hH_77.lt hw_62 (by decide); omega)).trans hw_62
  replace hw_74 : ω_84 (n + 5) = 51 := (ho_85 (n + 5) (by have := hH_77.lt hw_74 (by decide); omega)).trans hw_74
  replace ht : ω_84 t = 0 := (ho_85 t (by omega)).trans ht
  replace htk : Z_82.1 t = 10 := ((hal_79.2.2.2.2.2 t (by omega)).2.2.1).trans htk
  replace htl : Z_82.2.1 t = 0 := ((hal_79.2.2.2.2.2 t (by omega)).2.2.2).trans htl
  have hold_88 : Old n t ω v ρ Z ω_84 v_80 ρ_81 Z_82 := hold_78.al ho_85 hal_79 (by omega)
  clear hn_71
  show wp g X F_X10_init 7 26 65 [(2, t), (2, o)] [(2, (n + 6)), (2, t)] v_80 ρ_81 Z_82
  refine r_putRF (K := 10) (k := 14) (pc := 65) hX 38 rfl rfl (by decide) fw_X10_40 rfl rfl rfl rfl htk ht4 ?_
  have hH_89 : HT ω_84 v_80 (up ρ_81 t 14 (n + 6)) Z_82 := hH_87.uzr ht
  have hold_90 : Old n t ω v ρ Z ω_84 v_80 (up ρ_81 t 14 (n + 6)) Z_82 := hold_88.putr (Or.inl rfl)
  show wp g X F_X10_init 7 26 68 [(2, t), (2, o)] [] v_80 (up ρ_81 t 14 (n + 6)) Z_82
  refine r_aload_n (pc := 68) hX 39 rfl rfl ?_
  refine r_iconst (pc := 69) hX 40 rfl ?_
  refine r_newaX hX 41 14 3 (n := (n + 7)) hn_83 rfl rfl (by decide) (by decide) ac_long (by decide) (by omega) (by rw [hRm]; exact Nat.le_of_ble_eq_true rfl) (by rw [hRm]; exact Nat.le_of_ble_eq_true rfl) (fun v_92 ρ_93 Z_94 hal_91 => ?_)
  have hn_95 : Z_94.2.2 = (n + 8) := by have := hal_91.1; omega
  obtain ⟨ω_96, ho_97, hw_98, hH_99⟩ := hH_89.alR hn_83 (by omega) 53 hal_91 rfl rfl (fun k a b h => by cases h) (fun _ => rfl)
  replace ho : ω_96 o = 5 := (ho_97 o (by have := hH_89.lt ho (by decide); omega)).trans ho
  replace hw_14 : ω_96 n = 46 := (ho_97 n (by have := hH_89.lt hw_14 (by decide); omega)).trans hw_14
  replace hw_26 : ω_96 (n + 1) = 47 := (ho_97 (n + 1) (by have := hH_89.lt hw_26 (by decide); omega)).trans hw_26
  replace hw_38 : ω_96 (n + 2) = 48 := (ho_97 (n + 2) (by have := hH_89.lt hw_38 (by decide); omega)).trans hw_38
  replace hw_50 : ω_96 (n + 3) = 49 := (ho_97 (n + 3) (by have := hH_89.lt hw_50 (by decide); omega)).trans hw_50
  replace hw_62 : ω_96 (n + 4) = 50 := (ho_97 (n + 4) (by have := hH_89.lt hw_62 (by decide); omega)).trans hw_62
  replace hw_74 : ω_96 (n + 5) = 51 := (ho_97 (n + 5) (by have := hH_89.lt hw_74 (by decide); omega)).trans hw_74
  replace hw_86 : ω_96 (n + 6) = 52 := (ho_97 (n + 6) (by have := hH_89.lt hw_86 (by decide); omega)).trans hw_86
  replace ht : ω_96 t = 0 := (ho_97 t (by omega)).trans ht
  replace htk : Z_94.1 t = 10 := ((hal_91.2.2.2.2.2 t (by omega)).2.2.1).trans htk
  replace htl : Z_94.2.1 t = 0 := ((hal_91.2.2.2.2.2 t (by omega)).2.2.2).trans htl
  have hold_100 : Old n t ω v ρ Z ω_96 v_92 ρ_93 Z_94 := hold_90.al ho_97 hal_91 (by omega)
  clear hn_83
  show wp g X F_X10_init 8 29 72 [(2, t), (2, o)] [(2, (n + 7)), (2, t)] v_92 ρ_93 Z_94
  refine r_putRF (K := 10) (k := 15) (pc := 72) hX 42 rfl rfl (by decide) fw_X10_43 rfl rfl rfl rfl htk ht4 ?_
  have hH_101 : HT ω_96 v_92 (up ρ_93 t 15 (n + 7)) Z_94 := hH_99.uzr ht
  have hold_102 : Old n t ω v ρ Z ω_96 v_92 (up ρ_93 t 15 (n + 7)) Z_94 := hold_100.putr (Or.inl rfl)
  show wp g X F_X10_init 8 29 75 [(2, t), (2, o)] [] v_92 (up ρ_93 t 15 (n + 7)) Z_94
  refine r_aload_n (pc := 75) hX 43 rfl rfl ?_
  refine r_bipush (pc := 76) hX 44 rfl (by decide) ?_
  refine r_bipush (pc := 78) hX 45 rfl (by decide) ?_
  refine r_mna hX 46 20 14 15 13 (n := (n + 8)) hn_95 rfl (by decide) cl_X10_47 ac_long (by decide) (by decide) (by omega) (by rw [hRm]; exact Nat.le_of_ble_eq_true rfl) (by rw [hRm]; exact Nat.le_of_ble_eq_true rfl) (fun v_104 ρ_105 Z_106 hal_103 => ?_)
  have hn_107 : Z_106.2.2 = (n + 24) := by have := hal_103.1; omega
  obtain ⟨ω_108, ho_109, hw_110, hwr_112, hH_111⟩ := hH_101.al2R hn_95 (by omega) 54 55 hal_103 (by decide) rfl rfl rfl rfl (fun k a b h => by cases h) (fun _ => rfl) (fun _ => rfl) (fun _ => rfl) (fun k d h => rfA54 h) (fun _ => rfl) (by decide)
  replace ho : ω_108 o = 5 := (ho_109 o (by have := hH_101.lt ho (by decide); omega)).trans ho
  replace hw_14 : ω_108 n = 46 := (ho_109 n (by have := hH_101.lt hw_14 (by decide); omega)).trans hw_14
  replace hw_26 : ω_108 (n + 1) = 47 := (ho_109 (n + 1) (by have := hH_101.lt hw_26 (by decide); omega)).trans hw_26
  replace hw_38 : ω_108 (n + 2) = 48 := (ho_109 (n + 2) (by have := hH_101.lt hw_38 (by decide); omega)).trans hw_38
  replace hw_50 : ω_108 (n + 3) = 49 := (ho_109 (n + 3) (by have := hH_101.lt hw_50 (by decide); omega)).trans hw_50
  replace hw_62 : ω_108 (n + 4) = 50 := (ho_109 (n + 4) (by have := hH_101.lt hw_62 (by decide); omega)).trans hw_62
  replace hw_74 : ω_108 (n + 5) = 51 := (ho_109 (n + 5) (by have := hH_101.lt hw_74 (by decide); omega)).trans hw_74
  replace hw_86 : ω_108 (n + 6) = 52 := (ho_109 (n + 6) (by have := hH_101.lt hw_86 (by decide); omega)).trans hw_86
  replace hw_98 : ω_108 (n + 7) = 53 := (ho_109 (n + 7) (by have := hH_101.lt hw_98 (by decide); omega)).trans hw_98
  replace ht : ω_108 t = 0 := (ho_109 t (by omega)).trans ht
  replace htk : Z_106.1 t = 10 := ((hal_103.2.2.2.2.2 t (by omega)).2.2.1).trans htk
  replace htl : Z_106.2.1 t = 0 := ((hal_103.2.2.2.2.2 t (by omega)).2.2.2).trans htl
  have hold_113 : Old n t ω v ρ Z ω_108 v_104 ρ_105 Z_106 := hold_102.al2 ho_109 hal_103 (by omega)
  clear hn_95
  show wp g X F_X10_init 24 239 84 [(2, t), (2, o)] [(2, (n + 8)), (2, t)] v_104 ρ_105 Z_106
  refine r_putRF (K := 10) (k := 16) (pc := 84) hX 47 rfl rfl (by decide) fw_X10_49 rfl rfl rfl rfl htk ht4 ?_
  have hH_114 : HT ω_108 v_104 (up ρ_105 t 16 (n + 8)) Z_106 := hH_111.uzr ht
  have hold_115 : Old n t ω v ρ Z ω_108 v_104 (up ρ_105 t 16 (n + 8)) Z_106 := hold_113.putr (Or.inl rfl)
  show wp g X F_X10_init 24 239 87 [(2, t), (2, o)] [] v_104 (up ρ_105 t 16 (n + 8)) Z_106
  refine r_aload_n (pc := 87) hX 48 rfl rfl ?_
  refine r_iconst (pc := 88) hX 49 rfl ?_
  refine r_newaX hX 50 14 3 (n := (n + 24)) hn_107 rfl rfl (by decide) (by decide) ac_long (by decide) (by omega) (by rw [hRm]; exact Nat.le_of_ble_eq_true rfl) (by rw [hRm]; exact Nat.le_of_ble_eq_true rfl) (fun v_117 ρ_118 Z_119 hal_116 => ?_)
  have hn_120 : Z_119.2.2 = (n + 25) := by have := hal_116.1; omega
  obtain ⟨ω_121, ho_122, hw_123, hH_124⟩ := hH_114.alR hn_107 (by omega) 56 hal_116 rfl rfl (fun k a b h => by cases h) (fun _ => rfl)
  replace ho : ω_121 o = 5 := (ho_122 o (by have := hH_114.lt ho (by decide); omega)).trans ho
  replace hw_14 : ω_121 n = 46 := (ho_122 n (by have := hH_114.lt hw_14 (by decide); omega)).trans hw_14
  replace hw_26 : ω_121 (n + 1) = 47 := (ho_122 (n + 1) (by have := hH_114.lt hw_26 (by decide); omega)).trans hw_26
  replace hw_38 : ω_121 (n + 2) = 48 := (ho_122 (n + 2) (by have := hH_114.lt hw_38 (by decide); omega)).trans hw_38
  replace hw_50 : ω_121 (n + 3) = 49 := (ho_122 (n + 3) (by have := hH_114.lt hw_50 (by decide); omega)).trans hw_50
  replace hw_62 : ω_121 (n + 4) = 50 := (ho_122 (n + 4) (by have := hH_114.lt hw_62 (by decide); omega)).trans hw_62
  replace hw_74 : ω_121 (n + 5) = 51 := (ho_122 (n + 5) (by have := hH_114.lt hw_74 (by decide); omega)).trans hw_74
  replace hw_86 : ω_121 (n + 6) = 52 := (ho_122 (n + 6) (by have := hH_114.lt hw_86 (by decide); omega)).trans hw_86
  replace hw_98 : ω_121 (n + 7) = 53 := (ho_122 (n + 7) (by have := hH_114.lt hw_98 (by decide); omega)).trans hw_98
  replace hw_110 : ω_121 (n + 8) = 54 := (ho_122 (n + 8) (by have := hH_114.lt hw_110 (by decide); omega)).trans hw_110
  replace ht : ω_121 t = 0 := (ho_122 t (by omega)).trans ht
  replace htk : Z_119.1 t = 10 := ((hal_116.2.2.2.2.2 t (by omega)).2.2.1).trans htk
  replace htl : Z_119.2.1 t = 0 := ((hal_116.2.2.2.2.2 t (by omega)).2.2.2).trans htl
  have hold_125 : Old n t ω v ρ Z ω_121 v_117 ρ_118 Z_119 := hold_115.al ho_122 hal_116 (by omega)
  clear hn_107
  show wp g X F_X10_init 25 242 91 [(2, t), (2, o)] [(2, (n + 24)), (2, t)] v_117 ρ_118 Z_119
  refine r_putRF (K := 10) (k := 17) (pc := 91) hX 51 rfl rfl (by decide) fw_X10_52 rfl rfl rfl rfl htk ht4 ?_
  have hH_126 : HT ω_121 v_117 (up ρ_118 t 17 (n + 24)) Z_119 := hH_124.uzr ht
  have hold_127 : Old n t ω v ρ Z ω_121 v_117 (up ρ_118 t 17 (n + 24)) Z_119 := hold_125.putr (Or.inl rfl)
  show wp g X F_X10_init 25 242 94 [(2, t), (2, o)] [] v_117 (up ρ_118 t 17 (n + 24)) Z_119
  refine r_aload_n (pc := 94) hX 52 rfl rfl ?_
  refine r_sipush (pc := 95) hX 53 rfl (by decide) ?_
  refine r_newaX hX 54 14 1820 (n := (n + 25)) hn_120 rfl rfl (by decide) (by decide) ac_long (by decide) (by omega) (by rw [hRm]; exact Nat.le_of_ble_eq_true rfl) (by rw [hRm]; exact Nat.le_of_ble_eq_true rfl) (fun v_129 ρ_130 Z_131 hal_128 => ?_)
  have hn_132 : Z_131.2.2 = (n + 26) := by have := hal_128.1; omega
  obtain ⟨ω_133, ho_134, hw_135, hH_136⟩ := hH_126.alR hn_120 (by omega) 57 hal_128 rfl rfl (fun k a b h => by cases h) (fun _ => rfl)
  replace ho : ω_133 o = 5 := (ho_134 o (by have := hH_126.lt ho (by decide); omega)).trans ho
  replace hw_14 : ω_133 n = 46 := (ho_134 n (by have := hH_126.lt hw_14 (by decide); omega)).trans hw_14
  replace hw_26 : ω_133 (n + 1) = 47 := (ho_134 (n + 1) (by have := hH_126.lt hw_26 (by decide); omega)).trans hw_26
  replace hw_38 : ω_133 (n + 2) = 48 := (ho_134 (n + 2) (by have := hH_126.lt hw_38 (by decide); omega)).trans hw_38
  replace hw_50 : ω_133 (n + 3) = 49 := (ho_134 (n + 3) (by have := hH_126.lt hw_50 (by decide); omega)).trans hw_50
  replace hw_62 : ω_133 (n + 4) = 50 := (ho_134 (n + 4) (by have := hH_126.lt hw_62 (by decide); omega)).trans hw_62
  replace hw_74 : ω_133 (n + 5) = 51 := (ho_134 (n + 5) (by have := hH_126.lt hw_74 (by decide); omega)).trans hw_74
  replace hw_86 : ω_133 (n + 6) = 52 := (ho_134 (n + 6) (by have := hH_126.lt hw_86 (by decide); omega)).trans hw_86
  replace hw_98 : ω_133 (n + 7) = 53 := (ho_134 (n + 7) (by have := hH_126.lt hw_98 (by decide); omega)).trans hw_98
  replace hw_110 : ω_133 (n + 8) = 54 := (ho_134 (n + 8) (by have := hH_126.lt hw_110 (by decide); omega)).trans hw_110
  replace hw_123 : ω_133 (n + 24) = 56 := (ho_134 (n + 24) (by have := hH_126.lt hw_123 (by decide); omega)).trans hw_123
  replace ht : ω_133 t = 0 := (ho_134 t (by omega)).trans ht
  replace htk : Z_131.1 t = 10 := ((hal_128.2.2.2.2.2 t (by omega)).2.2.1).trans htk
  replace htl : Z_131.2.1 t = 0 := ((hal_128.2.2.2.2.2 t (by omega)).2.2.2).trans htl
  have hold_137 : Old n t ω v ρ Z ω_133 v_129 ρ_130 Z_131 := hold_127.al ho_134 hal_128 (by omega)
  clear hn_120
  show wp g X F_X10_init 26 2062 100 [(2, t), (2, o)] [(2, (n + 25)), (2, t)] v_129 ρ_130 Z_131
  refine r_putRF (K := 10) (k := 18) (pc := 100) hX 55 rfl rfl (by decide) fw_X10_55 rfl rfl rfl rfl htk ht4 ?_
  have hH_138 : HT ω_133 v_129 (up ρ_130 t 18 (n + 25)) Z_131 := hH_136.uzr ht
  have hold_139 : Old n t ω v ρ Z ω_133 v_129 (up ρ_130 t 18 (n + 25)) Z_131 := hold_137.putr (Or.inl rfl)
  show wp g X F_X10_init 26 2062 103 [(2, t), (2, o)] [] v_129 (up ρ_130 t 18 (n + 25)) Z_131
  refine r_aload_n (pc := 103) hX 56 rfl rfl ?_
  refine r_bipush (pc := 104) hX 57 rfl (by decide) ?_
  refine r_sipush (pc := 106) hX 58 rfl (by decide) ?_
  refine r_mna hX 59 20 14 9 729 (n := (n + 26)) hn_132 rfl (by decide) cl_X10_47 ac_long (by decide) (by decide) (by omega) (by rw [hRm]; exact Nat.le_of_ble_eq_true rfl) (by rw [hRm]; exact Nat.le_of_ble_eq_true rfl) (fun v_141 ρ_142 Z_143 hal_140 => ?_)
  have hn_144 : Z_143.2.2 = (n + 36) := by have := hal_140.1; omega
  obtain ⟨ω_145, ho_146, hw_147, hwr_149, hH_148⟩ := hH_138.al2R hn_132 (by omega) 58 59 hal_140 (by decide) rfl rfl rfl rfl (fun k a b h => by cases h) (fun _ => rfl) (fun _ => rfl) (fun _ => rfl) (fun k d h => rfA58 h) (fun _ => rfl) (by decide)
  replace ho : ω_145 o = 5 := (ho_146 o (by have := hH_138.lt ho (by decide); omega)).trans ho
  replace hw_14 : ω_145 n = 46 := (ho_146 n (by have := hH_138.lt hw_14 (by decide); omega)).trans hw_14
  replace hw_26 : ω_145 (n + 1) = 47 := (ho_146 (n + 1) (by have := hH_138.lt hw_26 (by decide); omega)).trans hw_26
  replace hw_38 : ω_145 (n + 2) = 48 := (ho_146 (n + 2) (by have := hH_138.lt hw_38 (by decide); omega)).trans hw_38
  replace hw_50 : ω_145 (n + 3) = 49 := (ho_146 (n + 3) (by have := hH_138.lt hw_50 (by decide); omega)).trans hw_50
  replace hw_62 : ω_145 (n + 4) = 50 := (ho_146 (n + 4) (by have := hH_138.lt hw_62 (by decide); omega)).trans hw_62
  replace hw_74 : ω_145 (n + 5) = 51 := (ho_146 (n + 5) (by have := hH_138.lt hw_74 (by decide); omega)).trans hw_74
  replace hw_86 : ω_145 (n + 6) = 52 := (ho_146 (n + 6) (by have := hH_138.lt hw_86 (by decide); omega)).trans hw_86
  replace hw_98 : ω_145 (n + 7) = 53 := (ho_146 (n + 7) (by have := hH_138.lt hw_98 (by decide); omega)).trans hw_98
  replace hw_110 : ω_145 (n + 8) = 54 := (ho_146 (n + 8) (by have := hH_138.lt hw_110 (by decide); omega)).trans hw_110
  replace hw_123 : ω_145 (n + 24) = 56 := (ho_146 (n + 24) (by have := hH_138.lt hw_123 (by decide); omega)).trans hw_123
  replace hw_135 : ω_145 (n + 25) = 57 := (ho_146 (n + 25) (by have := hH_138.lt hw_135 (by decide); omega)).trans hw_135
  replace ht : ω_145 t = 0 := (ho_146 t (by omega)).trans ht
  replace htk : Z_143.1 t = 10 := ((hal_140.2.2.2.2.2 t (by omega)).2.2.1).trans htk
  replace htl : Z_143.2.1 t = 0 := ((hal_140.2.2.2.2.2 t (by omega)).2.2.2).trans htl
  have hold_150 : Old n t ω v ρ Z ω_145 v_141 ρ_142 Z_143 := hold_139.al2 ho_146 hal_140 (by omega)
  clear hn_132
  show wp g X F_X10_init 36 8632 113 [(2, t), (2, o)] [(2, (n + 26)), (2, t)] v_141 ρ_142 Z_143
  refine r_putRF (K := 10) (k := 19) (pc := 113) hX 60 rfl rfl (by decide) fw_X10_58 rfl rfl rfl rfl htk ht4 ?_
  have hH_151 : HT ω_145 v_141 (up ρ_142 t 19 (n + 26)) Z_143 := hH_148.uzr ht
  have hold_152 : Old n t ω v ρ Z ω_145 v_141 (up ρ_142 t 19 (n + 26)) Z_143 := hold_150.putr (Or.inl rfl)
  show wp g X F_X10_init 36 8632 116 [(2, t), (2, o)] [] v_141 (up ρ_142 t 19 (n + 26)) Z_143
  refine r_aload_n (pc := 116) hX 61 rfl rfl ?_
  refine r_aload_n (pc := 117) hX 62 rfl rfl ?_
  refine r_putR (pc := 118) hX 63 rfl fl_X10_61 rfl (fun _ h => by cases h; rfl) htk ht4 ?_
  have hH_153 : HT ω_145 v_141 (up (up ρ_142 t 19 (n + 26)) t 0 o) Z_143 := hH_151.uzr ht
  have hold_154 : Old n t ω v ρ Z ω_145 v_141 (up (up ρ_142 t 19 (n + 26)) t 0 o) Z_143 := hold_152.putr (Or.inl rfl)
  show wp g X F_X10_init 36 8632 121 [(2, t), (2, o)] [] v_141 (up (up ρ_142 t 19 (n + 26)) t 0 o) Z_143
  have hrg : ∀ k a b, rgO 45 k = some (a, b) → a ≤ v_141 t k ∧ v_141 t k ≤ b := fun k a b hh => by
    rcases rgL45 hh with ⟨rfl, rfl, rfl⟩ | ⟨rfl, rfl, rfl⟩ | ⟨rfl, rfl, rfl⟩ | ⟨rfl, rfl, rfl⟩
    · rw [show v_141 t 2 = (-1) from (congrFun (hal_140.2.2.2.2.2 t (by omega)).1 2).trans ((congrFun (hal_128.2.2.2.2.2 t (by omega)).1 2).trans ((congrFun (hal_116.2.2.2.2.2 t (by omega)).1 2).trans ((congrFun (hal_103.2.2.2.2.2 t (by omega)).1 2).trans ((congrFun (hal_91.2.2.2.2.2 t (by omega)).1 2).trans ((congrFun (hal_79.2.2.2.2.2 t (by omega)).1 2).trans ((congrFun (hal_67.2.2.2.2.2 t (by omega)).1 2).trans ((congrFun (hal_55.2.2.2.2.2 t (by omega)).1 2).trans ((congrFun (hal_43.2.2.2.2.2 t (by omega)).1 2).trans ((congrFun (hal_31.2.2.2.2.2 t (by omega)).1 2).trans ((congrFun (hal_19.2.2.2.2.2 t (by omega)).1 2).trans ((congrFun (hal_7.2.2.2.2.2 t (by omega)).1 2).trans ((up_k (by decide)).trans (up_s _ _ _ _)))))))))))))]; decide
    · rw [show v_141 t 5 = (-1) from (congrFun (hal_140.2.2.2.2.2 t (by omega)).1 5).trans ((congrFun (hal_128.2.2.2.2.2 t (by omega)).1 5).trans ((congrFun (hal_116.2.2.2.2.2 t (by omega)).1 5).trans ((congrFun (hal_103.2.2.2.2.2 t (by omega)).1 5).trans ((congrFun (hal_91.2.2.2.2.2 t (by omega)).1 5).trans ((congrFun (hal_79.2.2.2.2.2 t (by omega)).1 5).trans ((congrFun (hal_67.2.2.2.2.2 t (by omega)).1 5).trans ((congrFun (hal_55.2.2.2.2.2 t (by omega)).1 5).trans ((congrFun (hal_43.2.2.2.2.2 t (by omega)).1 5).trans ((congrFun (hal_31.2.2.2.2.2 t (by omega)).1 5).trans ((congrFun (hal_19.2.2.2.2.2 t (by omega)).1 5).trans ((congrFun (hal_7.2.2.2.2.2 t (by omega)).1 5).trans (up_s _ _ _ _))))))))))))]; decide
    · rw [show v_141 t 6 = 0 from (congrFun (hal_140.2.2.2.2.2 t (by omega)).1 6).trans ((congrFun (hal_128.2.2.2.2.2 t (by omega)).1 6).trans ((congrFun (hal_116.2.2.2.2.2 t (by omega)).1 6).trans ((congrFun (hal_103.2.2.2.2.2 t (by omega)).1 6).trans ((congrFun (hal_91.2.2.2.2.2 t (by omega)).1 6).trans ((congrFun (hal_79.2.2.2.2.2 t (by omega)).1 6).trans ((congrFun (hal_67.2.2.2.2.2 t (by omega)).1 6).trans ((congrFun (hal_55.2.2.2.2.2 t (by omega)).1 6).trans ((congrFun (hal_43.2.2.2.2.2 t (by omega)).1 6).trans ((congrFun (hal_31.2.2.2.2.2 t (by omega)).1 6).trans ((congrFun (hal_19.2.2.2.2.2 t (by omega)).1 6).trans ((congrFun (hal_7.2.2.2.2.2 t (by omega)).1 6).trans ((up_k (by decide)).trans ((up_k (by decide)).trans ((up_k (by decide)).trans (hv0 6)))))))))))))))]; decide
    · rw [show v_141 t 9 = 0 from (congrFun (hal_140.2.2.2.2.2 t (by omega)).1 9).trans ((congrFun (hal_128.2.2.2.2.2 t (by omega)).1 9).trans ((congrFun (hal_116.2.2.2.2.2 t (by omega)).1 9).trans ((congrFun (hal_103.2.2.2.2.2 t (by omega)).1 9).trans ((congrFun (hal_91.2.2.2.2.2 t (by omega)).1 9).trans ((congrFun (hal_79.2.2.2.2.2 t (by omega)).1 9).trans ((congrFun (hal_67.2.2.2.2.2 t (by omega)).1 9).trans ((congrFun (hal_55.2.2.2.2.2 t (by omega)).1 9).trans ((congrFun (hal_43.2.2.2.2.2 t (by omega)).1 9).trans ((congrFun (hal_31.2.2.2.2.2 t (by omega)).1 9).trans ((congrFun (hal_19.2.2.2.2.2 t (by omega)).1 9).trans ((congrFun (hal_7.2.2.2.2.2 t (by omega)).1 9).trans ((up_k (by decide)).trans ((up_k (by decide)).trans ((up_k (by decide)).trans (hv0 9)))))))))))))))]; decide
  have hrf : ∀ k e, rfO 45 k = some e → setR ω_145 t 45 ((up (up ρ_142 t 19 (n + 26)) t 0 o) t k) = e := fun k e hh => by
    rcases rfL45 hh with ⟨rfl, rfl⟩ | ⟨rfl, rfl⟩ | ⟨rfl, rfl⟩ | ⟨rfl, rfl⟩ | ⟨rfl, rfl⟩ | ⟨rfl, rfl⟩ | ⟨rfl, rfl⟩ | ⟨rfl, rfl⟩ | ⟨rfl, rfl⟩ | ⟨rfl, rfl⟩ | ⟨rfl, rfl⟩ | ⟨rfl, rfl⟩ | ⟨rfl, rfl⟩
    · rw [show (up (up ρ_142 t 19 (n + 26)) t 0 o) t 0 = o from up_s _ _ _ _, setR_ne (by first | omega | exact fun q => by have z := ho; rw [q, ht] at z; exact absurd z (by decide))]; exact ho
    · rw [show (up (up ρ_142 t 19 (n + 26)) t 0 o) t 7 = n from (up_k (by decide)).trans ((up_k (by decide)).trans ((congrFun (hal_140.2.2.2.2.2 t (by omega)).2.1 7).trans ((up_k (by decide)).trans ((congrFun (hal_128.2.2.2.2.2 t (by omega)).2.1 7).trans ((up_k (by decide)).trans ((congrFun (hal_116.2.2.2.2.2 t (by omega)).2.1 7).trans ((up_k (by decide)).trans ((congrFun (hal_103.2.2.2.2.2 t (by omega)).2.1 7).trans ((up_k (by decide)).trans ((congrFun (hal_91.2.2.2.2.2 t (by omega)).2.1 7).trans ((up_k (by decide)).trans ((congrFun (hal_79.2.2.2.2.2 t (by omega)).2.1 7).trans ((up_k (by decide)).trans ((congrFun (hal_67.2.2.2.2.2 t (by omega)).2.1 7).trans ((up_k (by decide)).trans ((congrFun (hal_55.2.2.2.2.2 t (by omega)).2.1 7).trans ((up_k (by decide)).trans ((congrFun (hal_43.2.2.2.2.2 t (by omega)).2.1 7).trans ((up_k (by decide)).trans ((congrFun (hal_31.2.2.2.2.2 t (by omega)).2.1 7).trans ((up_k (by decide)).trans ((congrFun (hal_19.2.2.2.2.2 t (by omega)).2.1 7).trans (up_s _ _ _ _))))))))))))))))))))))), setR_ne (by first | omega | exact fun q => by have z := hw_14; rw [q, ht] at z; exact absurd z (by decide))]; exact hw_14
    · rw [show (up (up ρ_142 t 19 (n + 26)) t 0 o) t 8 = (n + 1) from (up_k (by decide)).trans ((up_k (by decide)).trans ((congrFun (hal_140.2.2.2.2.2 t (by omega)).2.1 8).trans ((up_k (by decide)).trans ((congrFun (hal_128.2.2.2.2.2 t (by omega)).2.1 8).trans ((up_k (by decide)).trans ((congrFun (hal_116.2.2.2.2.2 t (by omega)).2.1 8).trans ((up_k (by decide)).trans ((congrFun (hal_103.2.2.2.2.2 t (by omega)).2.1 8).trans ((up_k (by decide)).trans ((congrFun (hal_91.2.2.2.2.2 t (by omega)).2.1 8).trans ((up_k (by decide)).trans ((congrFun (hal_79.2.2.2.2.2 t (by omega)).2.1 8).trans ((up_k (by decide)).trans ((congrFun (hal_67.2.2.2.2.2 t (by omega)).2.1 8).trans ((up_k (by decide)).trans ((congrFun (hal_55.2.2.2.2.2 t (by omega)).2.1 8).trans ((up_k (by decide)).trans ((congrFun (hal_43.2.2.2.2.2 t (by omega)).2.1 8).trans ((up_k (by decide)).trans ((congrFun (hal_31.2.2.2.2.2 t (by omega)).2.1 8).trans (up_s _ _ _ _))))))))))))))))))))), setR_ne (by first | omega | exact fun q => by have z := hw_26; rw [q, ht] at z; exact absurd z (by decide))]; exact hw_26
    · rw [show (up (up ρ_142 t 19 (n + 26)) t 0 o) t 10 = (n + 2) from (up_k (by decide)).trans ((up_k (by decide)).trans ((congrFun (hal_140.2.2.2.2.2 t (by omega)).2.1 10).trans ((up_k (by decide)).trans ((congrFun (hal_128.2.2.2.2.2 t (by omega)).2.1 10).trans ((up_k (by decide)).trans ((congrFun (hal_116.2.2.2.2.2 t (by omega)).2.1 10).trans ((up_k (by decide)).trans ((congrFun (hal_103.2.2.2.2.2 t (by omega)).2.1 10).trans ((up_k (by decide)).trans ((congrFun (hal_91.2.2.2.2.2 t (by omega)).2.1 10).trans ((up_k (by decide)).trans ((congrFun (hal_79.2.2.2.2.2 t (by omega)).2.1 10).trans ((up_k (by decide)).trans ((congrFun (hal_67.2.2.2.2.2 t (by omega)).2.1 10).trans ((up_k (by decide)).trans ((congrFun (hal_55.2.2.2.2.2 t (by omega)).2.1 10).trans ((up_k (by decide)).trans ((congrFun (hal_43.2.2.2.2.2 t (by omega)).2.1 10).trans (up_s _ _ _ _))))))))))))))))))), setR_ne (by first | omega | exact fun q => by have z := hw_38; rw [q, ht] at z; exact absurd z (by decide))]; exact hw_38
    · rw [show (up (up ρ_142 t 19 (n + 26)) t 0 o) t 11 = (n + 3) from (up_k (by decide)).trans ((up_k (by decide)).trans ((congrFun (hal_140.2.2.2.2.2 t (by omega)).2.1 11).trans ((up_k (by decide)).trans ((congrFun (hal_128.2.2.2.2.2 t (by omega)).2.1 11).trans ((up_k (by decide)).trans ((congrFun (hal_116.2.2.2.2.2 t (by omega)).2.1 11).trans ((up_k (by decide)).trans ((congrFun (hal_103.2.2.2.2.2 t (by omega)).2.1 11).trans ((up_k (by decide)).trans ((congrFun (hal_91.2.2.2.2.2 t (by omega)).2.1 11).trans ((up_k (by decide)).trans ((congrFun (hal_79.2.2.2.2.2 t (by omega)).2.1 11).trans ((up_k (by decide)).trans ((congrFun (hal_67.2.2.2.2.2 t (by omega)).2.1 11).trans ((up_k (by decide)).trans ((congrFun (hal_55.2.2.2.2.2 t (by omega)).2.1 11).trans (up_s _ _ _ _))))))))))))))))), setR_ne (by first | omega | exact fun q => by have z := hw_50; rw [q, ht] at z; exact absurd z (by decide))]; exact hw_50
    · rw [show (up (up ρ_142 t 19 (n + 26)) t 0 o) t 12 = (n + 4) from (up_k (by decide)).trans ((up_k (by decide)).trans ((congrFun (hal_140.2.2.2.2.2 t (by omega)).2.1 12).trans ((up_k (by decide)).trans ((congrFun (hal_128.2.2.2.2.2 t (by omega)).2.1 12).trans ((up_k (by decide)).trans ((congrFun (hal_116.2.2.2.2.2 t (by omega)).2.1 12).trans ((up_k (by decide)).trans ((congrFun (hal_103.2.2.2.2.2 t (by omega)).2.1 12).trans ((up_k (by decide)).trans ((congrFun (hal_91.2.2.2.2.2 t (by omega)).2.1 12).trans ((up_k (by decide)).trans ((congrFun (hal_79.2.2.2.2.2 t (by omega)).2.1 12).trans ((up_k (by decide)).trans ((congrFun (hal_67.2.2.2.2.2 t (by omega)).2.1 12).trans (up_s _ _ _ _))))))))))))))), setR_ne (by first | omega | exact fun q => by have z := hw_62; rw [q, ht] at z; exact absurd z (by decide))]; exact hw_62
    · rw [show (up (up ρ_142 t 19 (n + 26)) t 0 o) t 13 = (n + 5) from (up_k (by decide)).trans ((up_k (by decide)).trans ((congrFun (hal_140.2.2.2.2.2 t (by omega)).2.1 13).trans ((up_k (by decide)).trans ((congrFun (hal_128.2.2.2.2.2 t (by omega)).2.1 13).trans ((up_k (by decide)).trans ((congrFun (hal_116.2.2.2.2.2 t (by omega)).2.1 13).trans ((up_k (by decide)).trans ((congrFun (hal_103.2.2.2.2.2 t (by omega)).2.1 13).trans ((up_k (by decide)).trans ((congrFun (hal_91.2.2.2.2.2 t (by omega)).2.1 13).trans ((up_k (by decide)).trans ((congrFun (hal_79.2.2.2.2.2 t (by omega)).2.1 13).trans (up_s _ _ _ _))))))))))))), setR_ne (by first | omega | exact fun q => by have z := hw_74; rw [q, ht] at z; exact absurd z (by decide))]; exact hw_74
    · rw [show (up (up ρ_142 t 19 (n + 26)) t 0 o) t 14 = (n + 6) from (up_k (by decide)).trans ((up_k (by decide)).trans ((congrFun (hal_140.2.2.2.2.2 t (by omega)).2.1 14).trans ((up_k (by decide)).trans ((congrFun (hal_128.2.2.2.2.2 t (by omega)).2.1 14).trans ((up_k (by decide)).trans ((congrFun (hal_116.2.2.2.2.2 t (by omega)).2.1 14).trans ((up_k (by decide)).trans ((congrFun (hal_103.2.2.2.2.2 t (by omega)).2.1 14).trans ((up_k (by decide)).trans ((congrFun (hal_91.2.2.2.2.2 t (by omega)).2.1 14).trans (up_s _ _ _ _))))))))))), setR_ne (by first | omega | exact fun q => by have z := hw_86; rw [q, ht] at z; exact absurd z (by decide))]; exact hw_86
    · rw [show (up (up ρ_142 t 19 (n + 26)) t 0 o) t 15 = (n + 7) from (up_k (by decide)).trans ((up_k (by decide)).trans ((congrFun (hal_140.2.2.2.2.2 t (by omega)).2.1 15).trans ((up_k (by decide)).trans ((congrFun (hal_128.2.2.2.2.2 t (by omega)).2.1 15).trans ((up_k (by decide)).trans ((congrFun (hal_116.2.2.2.2.2 t (by omega)).2.1 15).trans ((up_k (by decide)).trans ((congrFun (hal_103.2.2.2.2.2 t (by omega)).2.1 15).trans (up_s _ _ _ _))))))))), setR_ne (by first | omega | exact fun q => by have z := hw_98; rw [q, ht] at z; exact absurd z (by decide))]; exact hw_98
    · rw [show (up (up ρ_142 t 19 (n + 26)) t 0 o) t 16 = (n + 8) from (up_k (by decide)).trans ((up_k (by decide)).trans ((congrFun (hal_140.2.2.2.2.2 t (by omega)).2.1 16).trans ((up_k (by decide)).trans ((congrFun (hal_128.2.2.2.2.2 t (by omega)).2.1 16).trans ((up_k (by decide)).trans ((congrFun (hal_116.2.2.2.2.2 t (by omega)).2.1 16).trans (up_s _ _ _ _))))))), setR_ne (by first | omega | exact fun q => by have z := hw_110; rw [q, ht] at z; exact absurd z (by decide))]; exact hw_110
    · rw [show (up (up ρ_142 t 19 (n + 26)) t 0 o) t 17 = (n + 24) from (up_k (by decide)).trans ((up_k (by decide)).trans ((congrFun (hal_140.2.2.2.2.2 t (by omega)).2.1 17).trans ((up_k (by decide)).trans ((congrFun (hal_128.2.2.2.2.2 t (by omega)).2.1 17).trans (up_s _ _ _ _))))), setR_ne (by first | omega | exact fun q => by have z := hw_123; rw [q, ht] at z; exact absurd z (by decide))]; exact hw_123
    · rw [show (up (up ρ_142 t 19 (n + 26)) t 0 o) t 18 = (n + 25) from (up_k (by decide)).trans ((up_k (by decide)).trans ((congrFun (hal_140.2.2.2.2.2 t (by omega)).2.1 18).trans (up_s _ _ _ _))), setR_ne (by first | omega | exact fun q => by have z := hw_135; rw [q, ht] at z; exact absurd z (by decide))]; exact hw_135
    · rw [show (up (up ρ_142 t 19 (n + 26)) t 0 o) t 19 = (n + 26) from (up_k (by decide)).trans (up_s _ _ _ _), setR_ne (by first | omega | exact fun q => by have z := hw_147; rw [q, ht] at z; exact absurd z (by decide))]; exact hw_147
  have hrn : ∀ k e, rnO 45 k = some e → (up (up ρ_142 t 19 (n + 26)) t 0 o) t k < 0 ∨ setR ω_145 t 45 ((up (up ρ_142 t 19 (n + 26)) t 0 o) t k) = e := fun k e hh => by cases hh
  exact r_vret (pc := 121) hX 64 hQ rfl rfl (Nat.le_of_ble_eq_true rfl) (Nat.le_of_ble_eq_true rfl) ⟨rfl, by omega, setR ω_145 t 45, hold_154.set, setR_s, hH_153.add ht ⟨ht4, by omega, by rw [htk]; rfl, by rw [htl]; rfl, hrg, hrf, hrn⟩⟩
