set_option maxHeartbeats 4000000 in
set_option maxRecDepth 100000 in
theorem c_X5_initF (g : Gp) (ω : Rw) (v ρ : Mv) (Z : Mz) (hH : HT ω v ρ Z) (t : Int) (ht : ω t = 0) (htk : Z.1 t = 5) (htl : Z.2.1 t = 0) (ht4 : 4 ≤ t) (n : Int) (hn : Z.2.2 = n) (htn : t < n) (hv0 : ∀ k, v t k = 0) (hr0 : ∀ k, ρ t k = -1) (o : Int) (ho : ω o = 2) : Ok g 4 12 59 F_X5_init [(2, t), (2, o)] v ρ Z (fun o9 v' ρ' Z' => o9 = none ∧ Z'.2.2 = n + 12 ∧ ∃ ω' : Rw, Old n t ω v ρ Z ω' v' ρ' Z' ∧ ω' t = 4 ∧ HT ω' v' ρ' Z' ∧ ρ' t 0 = o) := by
  refine Ok.of mo_X5_init (Nat.le_of_ble_eq_true rfl) ?_
  intro X hX hRm hxn hQ
  show wp g X F_X5_init 0 0 0 [(2, t), (2, o)] [] v ρ Z
  have hold0 : Old n t ω v ρ Z ω v ρ Z := Old.rf
  have hlt_o : o < n := by have := hH.lt ho (by decide); omega
  refine r_aload_n (pc := 0) hX 0 rfl rfl ?_
  refine r_objInit (pc := 1) hX 1 rfl (by omega) oi_X5 oi_in oi_cd (by rw [hRm]; exact Nat.le_of_ble_eq_true rfl) (by rw [hRm]; exact Nat.le_of_ble_eq_true rfl) rfl ?_
  refine r_aload_n (pc := 4) hX 2 rfl rfl ?_
  refine r_aload_n (pc := 5) hX 3 rfl rfl ?_
  refine r_putRF (K := 5) (k := 0) (pc := 6) hX 4 rfl rfl (by decide) fw_X5_9 rfl rfl rfl rfl htk ht4 ?_
  have hH_1 : HT ω v (up ρ t 0 o) Z := hH.uzr ht
  have hold_2 : Old n t ω v ρ Z ω v (up ρ t 0 o) Z := hold0.putr (Or.inl rfl)
  show wp g X F_X5_init 0 0 9 [(2, t), (2, o)] [] v (up ρ t 0 o) Z
  refine r_aload_n (pc := 9) hX 5 rfl rfl ?_
  refine r_newX (K := 4) (q := (RX4, TX4, 15)) (n := n) hX 6 hn rfl rfl cl_X5_15 in_X4 iz_X4 (by omega) (by rw [hRm]; exact Nat.le_of_ble_eq_true rfl) (by rw [hRm]; exact Nat.le_of_ble_eq_true rfl) (fun v_4 ρ_5 Z_6 hal_3 => ?_)
  have hn_7 : Z_6.2.2 = (n + 1) := by have := hal_3.1; omega
  have hH_8 : HT ω v_4 ρ_5 Z_6 := hH_1.al hn (by omega) hal_3
  replace htk : Z_6.1 t = 5 := (hal_3.2.2.2.2.2 t (by omega)).2.2.1.trans htk
  replace htl : Z_6.2.1 t = 0 := (hal_3.2.2.2.2.2 t (by omega)).2.2.2.trans htl
  have hz_9 : ω n = 0 := hH_1.z0 (by omega)
  have hk_10 : Z_6.1 n = 4 := hal_3.2.1
  have hl_11 : Z_6.2.1 n = 0 := hal_3.2.2.1
  have hold_12 : Old n t ω v ρ Z ω v_4 ρ_5 Z_6 := hold_2.al0 hal_3 (by omega)
  show wp g X F_X5_init 1 15 13 [(2, t), (2, o)] [(2, n), (2, t)] v_4 ρ_5 Z_6
  refine r_dup (pc := 13) hX 7 rfl (show (2 : Nat) ≠ 1 by decide) ?_
  refine r_callI (as := []) (st := [(2, n), (2, t)]) (pc := 14) hX 8 rfl mo_X4_init rfl rfl ml_X5_17 im_X4_init (c_X4_init g ω v_4 ρ_5 Z_6 hH_8 n hz_9 hk_10 hl_11 (by omega) (n + 1) hn_7 (by omega) (fun k => hal_3.2.2.2.1 k) (fun k => hal_3.2.2.2.2.1 k) ) rfl (by omega) (by rw [hRm]; exact ⟨Nat.le_of_ble_eq_true rfl, Nat.le_of_ble_eq_true rfl⟩) (by rw [hRm]; exact ⟨Nat.le_of_ble_eq_true rfl, Nat.le_of_ble_eq_true rfl⟩) (Nat.le_of_ble_eq_true rfl) (fun o9 v_14 ρ_15 Z_16 hq9 _ => ?_)
  obtain ⟨rfl, hn_20, ω_13, hct_17, hT_18, hHc_19⟩ := hq9
  have hn_21 : Z_16.2.2 = (n + 12) := by omega
  clear hn_20
  replace ho : ω_13 o = 2 := ((hct_17 o (by have := hH_8.lt ho (by decide); omega) (fun q => by have z := ho; rw [q, hz_9] at z; exact absurd z (by decide))).1).trans ho
  replace ht : ω_13 t = 0 := ((hct_17 t (by omega) (by omega)).1).trans ht
  replace htk : Z_16.1 t = 5 := ((hct_17 t (by omega) (by omega)).2.2.2.1).trans htk
  replace htl : Z_16.2.1 t = 0 := ((hct_17 t (by omega) (by omega)).2.2.2.2).trans htl
  have hold_22 : Old n t ω v ρ Z ω_13 v_14 ρ_15 Z_16 := hold_12.ct hct_17 (by omega) (Or.inr (by omega))
  clear hz_9 hk_10 hl_11
  show wp g X F_X5_init 12 59 17 [(2, t), (2, o)] [(2, n), (2, t)] v_14 ρ_15 Z_16
  refine r_putR (pc := 17) hX 9 rfl fl_X5_18 rfl (fun _ h => by cases h; rfl) htk ht4 ?_
  have hH_23 : HT ω_13 v_14 (up ρ_15 t 1 n) Z_16 := hHc_19.uzr ht
  have hold_24 : Old n t ω v ρ Z ω_13 v_14 (up ρ_15 t 1 n) Z_16 := hold_22.putr (Or.inl rfl)
  show wp g X F_X5_init 12 59 20 [(2, t), (2, o)] [] v_14 (up ρ_15 t 1 n) Z_16
  have hrg : ∀ k a b, rgO 4 k = some (a, b) → a ≤ v_14 t k ∧ v_14 t k ≤ b := fun k a b hh => by
    rcases rgL4 hh with ⟨rfl, rfl, rfl⟩ | ⟨rfl, rfl, rfl⟩
    · rw [show v_14 t 2 = 0 from (congrFun (hct_17 t (by omega) (by omega)).2.1 2).trans ((congrFun (hal_3.2.2.2.2.2 t (by omega)).1 2).trans (hv0 2))]; decide
    · rw [show v_14 t 3 = 0 from (congrFun (hct_17 t (by omega) (by omega)).2.1 3).trans ((congrFun (hal_3.2.2.2.2.2 t (by omega)).1 3).trans (hv0 3))]; decide
  have hrf : ∀ k e, rfO 4 k = some e → setR ω_13 t 4 ((up ρ_15 t 1 n) t k) = e := fun k e hh => by
    rcases rfL4 hh with ⟨rfl, rfl⟩ | ⟨rfl, rfl⟩
    · rw [show (up ρ_15 t 1 n) t 0 = o from (up_k (by decide)).trans ((congrFun (hct_17 t (by omega) (by omega)).2.2.1 0).trans ((congrFun (hal_3.2.2.2.2.2 t (by omega)).2.1 0).trans (up_s _ _ _ _))), setR_ne (by first | omega | exact fun q => by have z := ho; rw [q, ht] at z; exact absurd z (by decide))]; exact ho
    · rw [show (up ρ_15 t 1 n) t 1 = n from up_s _ _ _ _, setR_ne (by first | omega | exact fun q => by have z := hT_18; rw [q, ht] at z; exact absurd z (by decide))]; exact hT_18
  have hrn : ∀ k e, rnO 4 k = some e → (up ρ_15 t 1 n) t k < 0 ∨ setR ω_13 t 4 ((up ρ_15 t 1 n) t k) = e := fun k e hh => by cases hh
  exact r_vret (pc := 20) hX 10 hQ rfl rfl (Nat.le_of_ble_eq_true rfl) (Nat.le_of_ble_eq_true rfl) ⟨rfl, by omega, setR ω_13 t 4, hold_24.set, setR_s, hH_23.add ht ⟨ht4, by omega, by rw [htk]; rfl, by rw [htl]; rfl, hrg, hrf, hrn⟩, (show (up ρ_15 t 1 n) t 0 = o from (up_k (by decide)).trans ((congrFun (hct_17 t (by omega) (by omega)).2.2.1 0).trans ((congrFun (hal_3.2.2.2.2.2 t (by omega)).2.1 0).trans (up_s _ _ _ _))))⟩
