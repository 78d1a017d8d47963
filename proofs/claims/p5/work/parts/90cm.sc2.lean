set_option maxHeartbeats 4000000 in
set_option maxRecDepth 100000 in
theorem c_X6_initF (g : Gp) (ω : Rw) (v ρ : Mv) (Z : Mz) (hH : HT ω v ρ Z) (t : Int) (ht : ω t = 0) (htk : Z.1 t = 6) (htl : Z.2.1 t = 0) (ht4 : 4 ≤ t) (n : Int) (hn : Z.2.2 = n) (htn : t < n) (hv0 : ∀ k, v t k = 0) (hr0 : ∀ k, ρ t k = -1) : Ok g 2 3 120 F_X6_init [(2, t)] v ρ Z (fun o9 v' ρ' Z' => o9 = none ∧ Z'.2.2 = n + 3 ∧ ∃ ω' : Rw, Old n t ω v ρ Z ω' v' ρ' Z' ∧ ω' t = 19 ∧ HT ω' v' ρ' Z' ∧ v' t 4 = 0) := by
  refine Ok.of mo_X6_init (Nat.le_of_ble_eq_true rfl) ?_
  intro X hX hRm hxn hQ
  show wp g X F_X6_init 0 0 0 [(2, t)] [] v ρ Z
  have hold0 : Old n t ω v ρ Z ω v ρ Z := Old.rf
  refine r_aload_n (pc := 0) hX 0 rfl rfl ?_
  refine r_objInit (pc := 1) hX 1 rfl (by omega) oi_X6 oi_in oi_cd (by rw [hRm]; exact Nat.le_of_ble_eq_true rfl) (by rw [hRm]; exact Nat.le_of_ble_eq_true rfl) rfl ?_
  refine r_aload_n (pc := 4) hX 2 rfl rfl ?_
  refine r_bipush (pc := 5) hX 3 rfl (by decide) ?_
  refine r_newaX hX 4 13 40 (n := n) hn rfl rfl (by decide) (by decide) ac_int (by decide) (by omega) (by rw [hRm]; exact Nat.le_of_ble_eq_true rfl) (by rw [hRm]; exact Nat.le_of_ble_eq_true rfl) (fun v_2 ρ_3 Z_4 hal_1 => ?_)
  have hn_5 : Z_4.2.2 = (n + 1) := by have := hal_1.1; omega
  obtain ⟨ω_6, ho_7, hw_8, hH_9⟩ := hH.alR hn (by omega) 20 hal_1 rfl rfl (fun k a b h => by cases h) (fun _ => rfl)
  replace ht : ω_6 t = 0 := (ho_7 t (by omega)).trans ht
  replace htk : Z_4.1 t = 6 := ((hal_1.2.2.2.2.2 t (by omega)).2.2.1).trans htk
  replace htl : Z_4.2.1 t = 0 := ((hal_1.2.2.2.2.2 t (by omega)).2.2.2).trans htl
  have hold_10 : Old n t ω v ρ Z ω_6 v_2 ρ_3 Z_4 := hold0.al ho_7 hal_1 (by omega)
  show wp g X F_X6_init 1 40 9 [(2, t)] [(2, n), (2, t)] v_2 ρ_3 Z_4
  refine r_putRF (K := 6) (k := 0) (pc := 9) hX 5 rfl rfl (by decide) fw_X6_11 rfl rfl rfl rfl htk ht4 ?_
  have hH_11 : HT ω_6 v_2 (up ρ_3 t 0 n) Z_4 := hH_9.uzr ht
  have hold_12 : Old n t ω v ρ Z ω_6 v_2 (up ρ_3 t 0 n) Z_4 := hold_10.putr (Or.inl rfl)
  show wp g X F_X6_init 1 40 12 [(2, t)] [] v_2 (up ρ_3 t 0 n) Z_4
  refine r_aload_n (pc := 12) hX 6 rfl rfl ?_
  refine r_bipush (pc := 13) hX 7 rfl (by decide) ?_
  refine r_newaX hX 8 13 40 (n := (n + 1)) hn_5 rfl rfl (by decide) (by decide) ac_int (by decide) (by omega) (by rw [hRm]; exact Nat.le_of_ble_eq_true rfl) (by rw [hRm]; exact Nat.le_of_ble_eq_true rfl) (fun v_14 ρ_15 Z_16 hal_13 => ?_)
  have hn_17 : Z_16.2.2 = (n + 2) := by have := hal_13.1; omega
  obtain ⟨ω_18, ho_19, hw_20, hH_21⟩ := hH_11.alR hn_5 (by omega) 20 hal_13 rfl rfl (fun k a b h => by cases h) (fun _ => rfl)
  replace hw_8 : ω_18 n = 20 := (ho_19 n (by have := hH_11.lt hw_8 (by decide); omega)).trans hw_8
  replace ht : ω_18 t = 0 := (ho_19 t (by omega)).trans ht
  replace htk : Z_16.1 t = 6 := ((hal_13.2.2.2.2.2 t (by omega)).2.2.1).trans htk
  replace htl : Z_16.2.1 t = 0 := ((hal_13.2.2.2.2.2 t (by omega)).2.2.2).trans htl
  have hold_22 : Old n t ω v ρ Z ω_18 v_14 ρ_15 Z_16 := hold_12.al ho_19 hal_13 (by omega)
  clear hn_5
  show wp g X F_X6_init 2 80 17 [(2, t)] [(2, (n + 1)), (2, t)] v_14 ρ_15 Z_16
  refine r_putRF (K := 6) (k := 1) (pc := 17) hX 9 rfl rfl (by decide) fw_X6_15 rfl rfl rfl rfl htk ht4 ?_
  have hH_23 : HT ω_18 v_14 (up ρ_15 t 1 (n + 1)) Z_16 := hH_21.uzr ht
  have hold_24 : Old n t ω v ρ Z ω_18 v_14 (up ρ_15 t 1 (n + 1)) Z_16 := hold_22.putr (Or.inl rfl)
  show wp g X F_X6_init 2 80 20 [(2, t)] [] v_14 (up ρ_15 t 1 (n + 1)) Z_16
  refine r_aload_n (pc := 20) hX 10 rfl rfl ?_
  refine r_bipush (pc := 21) hX 11 rfl (by decide) ?_
  refine r_newaX hX 12 13 40 (n := (n + 2)) hn_17 rfl rfl (by decide) (by decide) ac_int (by decide) (by omega) (by rw [hRm]; exact Nat.le_of_ble_eq_true rfl) (by rw [hRm]; exact Nat.le_of_ble_eq_true rfl) (fun v_26 ρ_27 Z_28 hal_25 => ?_)
  have hn_29 : Z_28.2.2 = (n + 3) := by have := hal_25.1; omega
  obtain ⟨ω_30, ho_31, hw_32, hH_33⟩ := hH_23.alR hn_17 (by omega) 20 hal_25 rfl rfl (fun k a b h => by cases h) (fun _ => rfl)
  replace hw_8 : ω_30 n = 20 := (ho_31 n (by have := hH_23.lt hw_8 (by decide); omega)).trans hw_8
  replace hw_20 : ω_30 (n + 1) = 20 := (ho_31 (n + 1) (by have := hH_23.lt hw_20 (by decide); omega)).trans hw_20
  replace ht : ω_30 t = 0 := (ho_31 t (by omega)).trans ht
  replace htk : Z_28.1 t = 6 := ((hal_25.2.2.2.2.2 t (by omega)).2.2.1).trans htk
  replace htl : Z_28.2.1 t = 0 := ((hal_25.2.2.2.2.2 t (by omega)).2.2.2).trans htl
  have hold_34 : Old n t ω v ρ Z ω_30 v_26 ρ_27 Z_28 := hold_24.al ho_31 hal_25 (by omega)
  clear hn_17
  show wp g X F_X6_init 3 120 25 [(2, t)] [(2, (n + 2)), (2, t)] v_26 ρ_27 Z_28
  refine r_putRF (K := 6) (k := 2) (pc := 25) hX 13 rfl rfl (by decide) fw_X6_18 rfl rfl rfl rfl htk ht4 ?_
  have hH_35 : HT ω_30 v_26 (up ρ_27 t 2 (n + 2)) Z_28 := hH_33.uzr ht
  have hold_36 : Old n t ω v ρ Z ω_30 v_26 (up ρ_27 t 2 (n + 2)) Z_28 := hold_34.putr (Or.inl rfl)
  show wp g X F_X6_init 3 120 28 [(2, t)] [] v_26 (up ρ_27 t 2 (n + 2)) Z_28
  have hrg : ∀ k a b, rgO 19 k = some (a, b) → a ≤ v_26 t k ∧ v_26 t k ≤ b := fun k a b hh => by
    rcases rgL19 hh with ⟨rfl, rfl, rfl⟩ | ⟨rfl, rfl, rfl⟩
    · rw [show v_26 t 3 = 0 from (congrFun (hal_25.2.2.2.2.2 t (by omega)).1 3).trans ((congrFun (hal_13.2.2.2.2.2 t (by omega)).1 3).trans ((congrFun (hal_1.2.2.2.2.2 t (by omega)).1 3).trans (hv0 3)))]; decide
    · rw [show v_26 t 4 = 0 from (congrFun (hal_25.2.2.2.2.2 t (by omega)).1 4).trans ((congrFun (hal_13.2.2.2.2.2 t (by omega)).1 4).trans ((congrFun (hal_1.2.2.2.2.2 t (by omega)).1 4).trans (hv0 4)))]; decide
  have hrf : ∀ k e, rfO 19 k = some e → setR ω_30 t 19 ((up ρ_27 t 2 (n + 2)) t k) = e := fun k e hh => by
    rcases rfL19 hh with ⟨rfl, rfl⟩ | ⟨rfl, rfl⟩ | ⟨rfl, rfl⟩
    · rw [show (up ρ_27 t 2 (n + 2)) t 0 = n from (up_k (by decide)).trans ((congrFun (hal_25.2.2.2.2.2 t (by omega)).2.1 0).trans ((up_k (by decide)).trans ((congrFun (hal_13.2.2.2.2.2 t (by omega)).2.1 0).trans (up_s _ _ _ _)))), setR_ne (by first | omega | exact fun q => by have z := hw_8; rw [q, ht] at z; exact absurd z (by decide))]; exact hw_8
    · rw [show (up ρ_27 t 2 (n + 2)) t 1 = (n + 1) from (up_k (by decide)).trans ((congrFun (hal_25.2.2.2.2.2 t (by omega)).2.1 1).trans (up_s _ _ _ _)), setR_ne (by first | omega | exact fun q => by have z := hw_20; rw [q, ht] at z; exact absurd z (by decide))]; exact hw_20
    · rw [show (up ρ_27 t 2 (n + 2)) t 2 = (n + 2) from up_s _ _ _ _, setR_ne (by first | omega | exact fun q => by have z := hw_32; rw [q, ht] at z; exact absurd z (by decide))]; exact hw_32
  have hrn : ∀ k e, rnO 19 k = some e → (up ρ_27 t 2 (n + 2)) t k < 0 ∨ setR ω_30 t 19 ((up ρ_27 t 2 (n + 2)) t k) = e := fun k e hh => by cases hh
  exact r_vret (pc := 28) hX 14 hQ rfl rfl (Nat.le_of_ble_eq_true rfl) (Nat.le_of_ble_eq_true rfl) ⟨rfl, by omega, setR ω_30 t 19, hold_36.set, setR_s, hH_35.add ht ⟨ht4, by omega, by rw [htk]; rfl, by rw [htl]; rfl, hrg, hrf, hrn⟩, (congrFun (hal_25.2.2.2.2.2 t (by omega)).1 4).trans ((congrFun (hal_13.2.2.2.2.2 t (by omega)).1 4).trans ((congrFun (hal_1.2.2.2.2.2 t (by omega)).1 4).trans (hv0 4)))⟩
set_option maxHeartbeats 4000000 in
set_option maxRecDepth 100000 in
theorem c_X7_readS (g : Gp) (ω : Rw) (v ρ : Mv) (Z : Mz) (hH : HT ω v ρ Z) {L q : Int} {s : Rd} (t : Int) (ht : ω t = 21) (o : Int) (ho : ω o = 5) (hR : RcI v ρ o L q s) : Ok g 26 4 125 F_X7_read [(2, t), (2, o)] v ρ Z (fun o9 v' ρ' Z' => ∃ ω' : Rw, OmX Z.2.2 ω ω' ∧ ZzX Z.2.2 Z Z' ∧ FrB Z.2.2 ω [2, 19, 20] v v' ∧ FrB Z.2.2 ω [21] ρ ρ' ∧ HT ω' v' ρ' Z' ∧ ∃ r : Int, o9 = some (2, r) ∧ (r < 0 ∨ ω' r = 19) ∧ (SaC (cb (v (ρ t 0) 1) (v (ρ (ρ t 0) 0))) (v (ρ t 0) 1) 200 (fun x => fnd s.N x 0 (s.H 0).toNat 0) v' ρ' t r) ∧ (ρ' t 0 = ρ t 0) ∧ (v' (ρ' t 0) 9 = (sR (cb (v (ρ t 0) 1) (v (ρ (ρ t 0) 0))) (v (ρ t 0) 1) 200 (fun x => fnd s.N x 0 (s.H 0).toNat 0) false [] 0 0).1)) := by
  refine Ok.of mo_X7_read (Nat.le_of_ble_eq_true rfl) ?_
  intro X hX hRm hxn hQ
  show wp g X F_X7_read 0 0 0 [(2, t), (2, o)] [] v ρ Z
  have htz := hH.lt ht (by decide)
  have hw0 : ω (ρ t 0) = 2 := hH.rf ht (by decide) rfl
  have hw00 : ω (ρ (ρ t 0) 0) = 3 := hH.rf hw0 (by decide) rfl
  have htz0 := hH.lt hw0 (by decide)
  have htz00 := hH.lt hw00 (by decide)
  have hcbs := cb_sam (v (ρ t 0) 1) (v (ρ (ρ t 0) 0))
  have hlen : 0 ≤ v (ρ t 0) 1 ∧ v (ρ t 0) 1 ≤ 940 := hH.rg hw0 (by decide) rfl
  have ho0 := ho
  have hoz := hH.lt ho (by decide)
  have hw12 : ω (ρ o 5) = 12 := hH.rf ho (by decide) rfl
  have hz12 := hH.lt hw12 (by decide)
  refine r_aload_n (pc := 0) hX 0 rfl rfl ?_
  obtain ⟨nA, hnA⟩ : ∃ z : Int, Z.2.2 = z := ⟨_, rfl⟩
  have hn4 : 4 ≤ nA := by have z1 := hH.g4 ht (by decide); have z2 := hH.lt ht (by decide); omega
  refine r_newX (K := 6) (q := (RX6, TX6, 5)) (n := nA) hX 1 hnA rfl rfl cl_X7_9 in_X6 iz_X6 hn4 (by rw [hRm]; exact Nat.le_of_ble_eq_true rfl) (by rw [hRm]; exact Nat.le_of_ble_eq_true rfl) (fun vA ρA ZA halA => ?_)
  have hHA : HT ω vA ρA ZA := hH.al hnA hn4 halA
  have hzA : ω nA = 0 := hH.z0 (by omega)
  refine r_dup (pc := 4) hX 2 rfl (show (2 : Nat) ≠ 1 by decide) ?_
  refine r_callIN (as := []) (st := [(2, nA), (2, t)]) (pc := 5) hX 3 rfl mo_X6_init rfl rfl mn_X7_11 pn_X6_init im_X6_init (c_X6_initF g ω vA ρA ZA hHA nA hzA halA.2.1 halA.2.2.1 hn4 (nA + 1) halA.1 (by omega) halA.2.2.2.1 halA.2.2.2.2.1) rfl (by omega) (by rw [hRm]; exact ⟨Nat.le_of_ble_eq_true rfl, Nat.le_of_ble_eq_true rfl⟩) (by rw [hRm]; exact ⟨Nat.le_of_ble_eq_true rfl, Nat.le_of_ble_eq_true rfl⟩) (Nat.le_of_ble_eq_true rfl) (fun o9 v3 ρ3 Z3 hq3 _ => ?_)
  obtain ⟨rfl, hn3, ω3, hct3, hT3, hH3, h43⟩ := hq3
  have hq3 : ∀ q, q < nA → ω3 q = ω q ∧ v3 q = v q ∧ ρ3 q = ρ q ∧ Z3.1 q = Z.1 q ∧ Z3.2.1 q = Z.2.1 q := fun q hq => by
    obtain ⟨b0, b1, b2, b3, b4⟩ := hct3 q (by omega) (by omega)
    obtain ⟨a1, a2, a3, a4⟩ := halA.2.2.2.2.2 q (by omega)
    exact ⟨b0, b1.trans a1, b2.trans a2, b3.trans a3, b4.trans a4⟩
  have hom3 : OmX Z.2.2 ω ω3 := fun r hr => (hq3 r (by omega)).1
  have hzz3 : ZzX Z.2.2 Z Z3 := ⟨by omega, fun q hq => ⟨(hq3 q (by omega)).2.2.2.1, (hq3 q (by omega)).2.2.2.2⟩⟩
  have hfv3 : FrB Z.2.2 ω [2, 19, 20] v v3 := (FrB.rf).al (fun q hq => (hq3 q (by omega)).2.1)
  have hfr3 : FrB Z.2.2 ω [21] ρ ρ3 := (FrB.rf).al (fun q hq => (hq3 q (by omega)).2.2.1)
  replace ht : ω3 t = 21 := ((hq3 t (by have z1 := hH.lt ht (by decide); omega)).1).trans ht
  replace ho : ω3 o = 5 := ((hq3 o (by have z1 := hH.lt ho (by decide); omega)).1).trans ho
  show wp g X F_X7_read 4 125 8 [(2, t), (2, o)] [(2, nA), (2, t)] v3 ρ3 Z3
  refine r_putR (pc := 8) hX 4 rfl fl_X7_12 rfl (fun _ h => by cases h; rfl) (hH3.kd ht (by decide)) (hH3.g4 ht (by decide)) ?_
  have hH_8 : HT ω3 v3 (up ρ3 t 1 nA) Z3 := hH3.uf ht rfl hT3 rfl
  show wp g X F_X7_read 4 125 11 [(2, t), (2, o)] [] v3 (up ρ3 t 1 nA) Z3
  refine t_getR (q := (ρ3 t 0)) (pc := 11) hX 5 rfl rfl rfl fl_X7_18 rfl (hH_8.kd ht (by decide)) ((up_k (by decide)).trans (rfl)) ?_
  have hw11_ : ω3 (ρ3 t 0) = 2 := hH3.rf ht (by decide) rfl
  refine r_sipush (pc := 15) hX 7 rfl (by decide) ?_
  refine r_callV (as := [(0, 200)]) (st := []) (K := 8) (pc := 18) hX 8 rfl mo_X8_open ml_X7_22 im_X8_open se_X8_open (c_X8_openF g ω3 v3 (up ρ3 t 1 nA) Z3 hH_8 (ρ3 t 0) hw11_ (200) (by omega)) rfl rfl rfl (hH_8.kd hw11_ (by decide)) (by rw [hRm]; exact ⟨by decide, by decide⟩) (by rw [hRm]; exact ⟨by decide, by decide⟩) (Nat.le_of_ble_eq_true rfl) (fun o18 v18 ρv18 Zv18 hq18 _ => ?_)
  obtain ⟨rfl, rfl, hfr18, hH18, rfl, hq18⟩ := hq18
  show wp g X F_X7_read 4 125 21 [(2, t), (2, o)] [] v18 (up ρ3 t 1 nA) Z3
  refine t_getR (q := (ρ3 t 0)) (pc := 21) hX 9 rfl rfl rfl fl_X7_18 rfl (hH18.kd ht (by decide)) ((up_k (by decide)).trans (rfl)) ?_
  refine r_callV (as := []) (st := []) (K := 8) (pc := 25) hX 11 rfl mo_X8_advance ml_X7_28 im_X8_advance se_X8_advance (c_X8_advanceF g ω3 v18 (up ρ3 t 1 nA) Z3 hH18 (ρ3 t 0) hw11_ (by have z1 : 0 ≤ v18 (ρ3 t 0) 1 ∧ v18 (ρ3 t 0) 1 ≤ 940 := hH18.rg hw11_ (by decide) rfl; omega)) rfl rfl rfl (hH18.kd hw11_ (by decide)) (by rw [hRm]; exact ⟨by decide, by decide⟩) (by rw [hRm]; exact ⟨by decide, by decide⟩) (Nat.le_of_ble_eq_true rfl) (fun o25 v25 ρv25 Zv25 hq25 _ => ?_)
  obtain ⟨rfl, rfl, hfr25, hH25, rfl, hq25⟩ := hq25
  show wp g X F_X7_read 4 125 28 [(2, t), (2, o)] [] v25 (up ρ3 t 1 nA) Z3
  have e30 : ρ3 t 0 = ρ t 0 := congrFun (hq3 t (by omega)).2.2.1 0
  have eT1 : (up ρ3 t 1 nA) t 0 = ρ3 t 0 := up_k (by decide)
  have hTt : ρ3 t 0 ≠ t := rne hw11_ ht (by decide)
  have eTr : v3 (ρ3 t 0) = v (ρ t 0) := by rw [e30]; exact (hq3 (ρ t 0) (by omega)).2.1
  have eB1 : (up ρ3 t 1 nA) (ρ3 t 0) 0 = ρ (ρ t 0) 0 := by rw [up_f hTt, e30]; exact congrFun (hq3 (ρ t 0) (by omega)).2.2.1 0
  have w3 : ω3 (ρ (ρ t 0) 0) = 3 := by
    have z := hH25.rf hw11_ (by decide) (show rfO 2 0 = some 3 from rfl)
    rw [eB1] at z
    exact z
  have hB18 : v18 (ρ (ρ t 0) 0) = v (ρ (ρ t 0) 0) := by
    rw [hfr18 _ (by rw [w3]; decide)]
    exact (hq3 _ (by omega)).2.1
  have hB25 : v25 (ρ (ρ t 0) 0) = v18 (ρ (ρ t 0) 0) := hfr25 _ (by rw [w3]; decide)
  have hn18 : v18 (ρ3 t 0) 1 = v (ρ t 0) 1 := hq18.1.trans (congrFun eTr 1)
  have hz := tkC_of (F := (cb (v (ρ t 0) 1) (v (ρ (ρ t 0) 0)))) (n := (v (ρ t 0) 1)) (m := 200) (v := v18) (v' := v25) (ρ := (up ρ3 t 1 nA)) (t := ρ3 t 0) hn18 hq18.2.1 ⟨by rw [eB1, hB18]; exact hcbs, hq18.2.2.2⟩ (by rw [eB1]; exact hB25) (by omega) (by omega) hq25.1 hq25.2.1 hq25.2.2.1 hq25.2.2.2.1 hq25.2.2.2.2.1 hq25.2.2.2.2.2.1 hq25.2.2.2.2.2.2
  rw [hq18.2.2.1] at hz
  have hTs : TkC (cb (v (ρ t 0) 1) (v (ρ (ρ t 0) 0))) (v (ρ t 0) 1) 200 v25 (up ρ3 t 1 nA) ((up ρ3 t 1 nA) t 0) 0 := by rw [eT1]; exact hz
  have w12 : ω3 (ρ o 5) = 12 := (hq3 _ (by omega)).1.trans hw12
  have hRs : RcI v25 (up ρ3 t 1 nA) o L q s := hR.frB hH ho0 hnA (fun r hr hw9 => by
    have hw9b : inW (ω3 r) = true := by rw [(hq3 r hr).1]; exact hw9
    exact (hfr25.keep (by decide) r hw9b).trans ((hfr18.keep (by decide) r hw9b).trans (hq3 r hr).2.1)) ((up_f (rne ho ht (by decide))).trans (hq3 o (by omega)).2.2.1) ((up_f (rne w12 ht (by decide))).trans (hq3 _ (by omega)).2.2.1)
  have e4 : v25 ((up ρ3 t 1 nA) t 1) 4 = 0 := by
    rw [up_s]
    exact (hfr25.at hT3 (by decide) 4).trans ((hfr18.at hT3 (by decide) 4).trans h43)
  refine r_aload_n (pc := 28) hX 12 rfl rfl ?_
  refine r_aload_n (pc := 29) hX 13 rfl rfl ?_
  refine r_iconst (pc := 30) hX 14 rfl ?_
  refine r_callV (as := [(2, o), (0, 1)]) (st := []) (K := 7) (pc := 31) hX 15 rfl mo_X7_readCond ml_X7_31 im_X7_readCond se_X7_readCond (c_X7_readCondS1 g ω3 v25 (up ρ3 t 1 nA) Z3 hH25 t ht o ho (1) (hTs) (hRs) (by omega)) rfl rfl rfl (hH25.kd ht (by decide)) (by rw [hRm]; exact ⟨by decide, by decide⟩) (by rw [hRm]; exact ⟨by decide, by decide⟩) (Nat.le_of_ble_eq_true rfl) (fun o31 v31 ρv31 Zv31 hq31 _ => ?_)
  obtain ⟨rfl, rfl, hfr31, hH31, r31, rfl, hq31⟩ := hq31
  show wp g X F_X7_read 4 125 34 [(2, t), (2, o)] [(0, r31)] v31 (up ρ3 t 1 nA) Z3
  have hc31 := hq31.2
  rw [e4] at hc31
  replace hq31 := hq31.1
  first | refine r_if_ne (pc := 34) hX 16 (tgt := 39) rfl (by decide) (⟨by omega, by omega⟩) (fun h34 => ?_) (fun h34 => ?_) | refine r_if_ne_any (pc := 34) hX 16 (tgt := 39) rfl (by decide) ?_ ?_
  · obtain ⟨p2, hT2, -, hk11, hk12, hS2⟩ := hc31.ok (by omega)
    have e2 := hS2 [] rfl rfl
    have hk2 := hT2.k4
    rw [eT1] at hk2
    have hT5 := hT2.k5
    rw [eT1] at hT5
    refine t_getR (q := (ρ3 t 0)) (pc := 39) hX 19 rfl rfl rfl fl_X7_18 rfl (hH31.kd ht (by decide)) ((up_k (by decide)).trans (rfl)) ?_
    refine r_callV (as := []) (st := []) (K := 8) (pc := 43) hX 21 rfl mo_X8_isEnd ml_X7_35 im_X8_isEnd se_X8_isEnd (c_X8_isEndF g ω3 v31 (up ρ3 t 1 nA) Z3 hH31 (ρ3 t 0) hw11_ ) rfl rfl rfl (hH31.kd hw11_ (by decide)) (by rw [hRm]; exact ⟨by decide, by decide⟩) (by rw [hRm]; exact ⟨by decide, by decide⟩) (Nat.le_of_ble_eq_true rfl) (fun o43 v43 ρv43 Zv43 hq43 _ => ?_)
    obtain ⟨rfl, rfl, rfl, r43, rfl, hq43⟩ := hq43
    show wp g X F_X7_read 4 125 46 [(2, t), (2, o)] [(0, r43)] v31 (up ρ3 t 1 nA) Z3
    first | refine r_if_ne (pc := 46) hX 22 (tgt := 60) rfl (by decide) (⟨by omega, by omega⟩) (fun h46 => ?_) (fun h46 => ?_) | refine r_if_ne_any (pc := 46) hX 22 (tgt := 60) rfl (by decide) ?_ ?_
    · refine t_getR (q := nA) (pc := 60) hX 30 rfl rfl rfl fl_X7_12 rfl (hH31.kd ht (by decide)) (up_s _ _ _ _) ?_
      exact r_aret (pc := 64) hX 32 hQ rfl rfl (Nat.le_of_ble_eq_true rfl) (Nat.le_of_ble_eq_true rfl) ⟨ω3, hom3, hzz3, (((hfv3).tr hom3 hfr18 (by decide)).tr hom3 hfr25 (by decide)).tr hom3 hfr31 (by decide), (hfr3).up (r := t) hom3 ht (by decide), hH31, nA, rfl, (Or.inr hT3), (by have e := e2.trans (sR_end hlen.2 hT2.1 hT2.2.1 (by omega) rfl); exact Or.inl ⟨by omega, by rw [e], by rw [e]; show v31 nA 4 = v31 ((up ρ3 t 1 nA) t 1) 4; rw [up_s]⟩), (eT1.trans e30), (by have e := e2.trans (sR_end hlen.2 hT2.1 hT2.2.1 (by omega) rfl); rw [e]; exact hT2.2.2.2.2.1.2)⟩
    · refine t_getR (q := (ρ3 t 0)) (pc := 49) hX 23 rfl rfl rfl fl_X7_18 rfl (hH31.kd ht (by decide)) ((up_k (by decide)).trans (rfl)) ?_
      refine r_iconst (pc := 53) hX 25 rfl ?_
      refine r_callV (as := [(0, 1)]) (st := []) (K := 8) (pc := 54) hX 26 rfl mo_X8_refuse ml_X7_39 im_X8_refuse se_X8_refuse (c_X8_refuseF g ω3 v31 (up ρ3 t 1 nA) Z3 hH31 (ρ3 t 0) hw11_ (1) (by omega)) rfl rfl rfl (hH31.kd hw11_ (by decide)) (by rw [hRm]; exact ⟨by decide, by decide⟩) (by rw [hRm]; exact ⟨by decide, by decide⟩) (Nat.le_of_ble_eq_true rfl) (fun o54 v54 ρv54 Zv54 hq54 _ => ?_)
      obtain ⟨rfl, rfl, hfr54, hH54, r54, rfl, hq54⟩ := hq54
      show wp g X F_X7_read 4 125 57 [(2, t), (2, o)] [(0, r54)] v54 (up ρ3 t 1 nA) Z3
      refine r_pop (pc := 57) hX 27 rfl (show (0 : Nat) ≠ 1 by decide) ?_
      refine r_null (pc := 58) hX 28 rfl (by have := hH54.lt ht (by decide); have := hH54.g4 ht (by decide); omega) ?_
      exact r_aret (pc := 59) hX 29 hQ rfl rfl (Nat.le_of_ble_eq_true rfl) (Nat.le_of_ble_eq_true rfl) ⟨ω3, hom3, hzz3, ((((hfv3).tr hom3 hfr18 (by decide)).tr hom3 hfr25 (by decide)).tr hom3 hfr31 (by decide)).tr hom3 hfr54 (by decide), (hfr3).up (r := t) hom3 ht (by decide), hH54, (-1), rfl, (Or.inl (by decide)), (by have e := e2.trans (sR_badt hlen.2 hT2.1 hT2.2.1 (by omega) (by omega) (fun z => z.2 rfl)); exact Or.inr ⟨by decide, by rw [e]; show (1 : Int) ≠ 0; decide, by rw [e, eT1]; exact hq54.2.1.1, by rw [e, eT1]; exact hq54.2.1.2.trans hT5⟩), (eT1.trans e30), (by have e := e2.trans (sR_badt hlen.2 hT2.1 hT2.2.1 (by omega) (by omega) (fun z => z.2 rfl)); rw [e, eT1]; exact hq54.2.1.1)⟩
  · refine r_null (pc := 37) hX 17 rfl (by have := hH31.lt ht (by decide); have := hH31.g4 ht (by decide); omega) ?_
    exact r_aret (pc := 38) hX 18 hQ rfl rfl (Nat.le_of_ble_eq_true rfl) (Nat.le_of_ble_eq_true rfl) ⟨ω3, hom3, hzz3, (((hfv3).tr hom3 hfr18 (by decide)).tr hom3 hfr25 (by decide)).tr hom3 hfr31 (by decide), (hfr3).up (r := t) hom3 ht (by decide), hH31, (-1), rfl, (Or.inl (by decide)), (by have z := hc31.no (by omega); have e := z.2 [] rfl rfl; exact Or.inr ⟨by decide, by rw [e]; exact z.1, by rw [e], by rw [e]⟩), (eT1.trans e30), (by have z := hc31.no (by omega); have e := z.2 [] rfl rfl; rw [e])⟩
set_option maxHeartbeats 4000000 in
set_option maxRecDepth 100000 in
theorem c_X11_sentenceS (g : Gp) (ω : Rw) (v ρ : Mv) (Z : Mz) (hH : HT ω v ρ Z) {L q : Int} {s : Rd} (t : Int) (ht : ω t = 1) (htp : ρ (ρ t 3) 0 = ρ t 0) (hR : RcI v ρ (ρ (ρ t 4) 0) L q s) : Ok g 27 4 125 F_X11_sentence [(2, t)] v ρ Z (fun o9 v' ρ' Z' => ∃ ω' : Rw, OmX Z.2.2 ω ω' ∧ ZzX Z.2.2 Z Z' ∧ FrB Z.2.2 ω [2, 19, 20] v v' ∧ FrB Z.2.2 ω [1, 21] ρ ρ' ∧ HT ω' v' ρ' Z' ∧ ∃ r : Int, o9 = some (0, r) ∧ (v' (ρ' t 0) 1 = 0) ∧ (ρ' t 0 = ρ t 0 ∧ ρ' t 13 = ρ t 13) ∧ (ρ' t 1 = ρ t 1) ∧ (∀ j, j ≠ 17 → ρ' t j = ρ t j) ∧ (r = sAns (cb (v (ρ t 0) 1) (v (ρ (ρ t 0) 0))) (v (ρ t 0) 1) 200 (fun x => fnd s.N x 0 (s.H 0).toNat 0)) ∧ (ρ' (ρ t 3) 0 = ρ t 0)) := by
  refine Ok.of mo_X11_sentence (Nat.le_of_ble_eq_true rfl) ?_
  intro X hX hRm hxn hQ
  show wp g X F_X11_sentence 0 0 0 [(2, t), (3, 0)] [] v ρ Z
  have htz := hH.lt ht (by decide)
  have ht0 := ht
  have hw210 : ω (ρ t 3) = 21 := hH.rf ht (by decide) rfl
  have hz21 := hH.lt hw210 (by decide)
  refine t_getR (q := (ρ t 3)) (pc := 0) hX 0 rfl rfl rfl fl_X11_35 rfl (hH.kd ht (by decide)) (rfl) ?_
  have hw0_ : ω (ρ t 3) = 21 := hH.rf ht (by decide) rfl
  refine t_getR (q := (ρ t 4)) (pc := 4) hX 2 rfl rfl rfl fl_X11_47 rfl (hH.kd ht (by decide)) (rfl) ?_
  have hw4_ : ω (ρ t 4) = 22 := hH.rf ht (by decide) rfl
  refine r_getR (q := (ρ (ρ t 4) 0)) (pc := 8) hX 4 rfl fl_X11_51 rfl (hH.kd hw4_ (by decide)) (rfl) ?_
  have hw8_ : ω (ρ (ρ t 4) 0) = 5 := hH.rf hw4_ (by decide) rfl
  refine r_callV (as := [(2, (ρ (ρ t 4) 0))]) (st := []) (K := 7) (pc := 11) hX 5 rfl mo_X7_read ml_X11_373 im_X7_read se_X7_read (c_X7_readS g ω v ρ Z hH (ρ t 3) hw0_ (ρ (ρ t 4) 0) hw8_ (hR)) rfl rfl rfl (hH.kd hw0_ (by decide)) (by rw [hRm]; exact ⟨by decide, by decide⟩) (by rw [hRm]; exact ⟨by decide, by decide⟩) (Nat.le_of_ble_eq_true rfl) (fun o11 v11 ρv11 Zv11 hq11 _ => ?_)
  obtain ⟨ωv11, homv11, hzzv11, hfr11, hfrR11, hH11, r11, rfl, hq11⟩ := hq11
  replace ht : ωv11 t = 1 := (homv11 t (hH.lt ht (by decide))).trans ht
  replace hw0_ : ωv11 (ρ t 3) = 21 := (homv11 (ρ t 3) (hH.lt hw0_ (by decide))).trans hw0_
  replace hw4_ : ωv11 (ρ t 4) = 22 := (homv11 (ρ t 4) (hH.lt hw4_ (by decide))).trans hw4_
  replace hw8_ : ωv11 (ρ (ρ t 4) 0) = 5 := (homv11 (ρ (ρ t 4) 0) (hH.lt hw8_ (by decide))).trans hw8_
  show wp g X F_X11_sentence 4 125 14 [(2, t), (3, 0)] [(2, r11)] v11 ρv11 Zv11
  have hs11 := hq11.2
  rw [htp] at hs11
  replace hq11 := hq11.1
  have e110 : ρv11 t 0 = ρ t 0 := by rw [hfrR11 t htz (by rw [ht0]; decide)]
  have hw21 : ωv11 (ρ t 3) = 21 := (homv11 _ hz21).trans hw210
  refine r_astore_n (ls' := [(2, t), (2, r11)]) (pc := 14) hX 6 rfl (by decide) rfl ?_
  refine t_getR (q := (ρv11 t 0)) (pc := 15) hX 7 rfl rfl rfl fl_X11_12 rfl (hH11.kd ht (by decide)) (rfl) ?_
  have hw15_ : ωv11 (ρv11 t 0) = 2 := hH11.rf ht (by decide) rfl
  refine r_iconst (pc := 19) hX 9 rfl ?_
  refine r_putI (pc := 20) hX 10 rfl fl_X11_123 rfl (fun _ h => by cases h; rfl) (hH11.kd hw15_ (by decide)) (hH11.g4 hw15_ (by decide)) ?_
  have hH_20 : HT ωv11 (up v11 (ρv11 t 0) 1 0) ρv11 Zv11 := hH11.upR hw15_ (by decide) rfl (by omega) (by omega)
  show wp g X F_X11_sentence 4 125 23 [(2, t), (2, r11)] [] (up v11 (ρv11 t 0) 1 0) ρv11 Zv11
  refine r_aload_n (pc := 23) hX 11 rfl rfl ?_
  refine r_ifnonnull (pc := 24) hX 12 (tgt := 37) rfl (by decide) (fun h24 => ?_) (fun h24 => ?_)
  · have hwf1_ : ωv11 r11 = 19 := hq11.resolve_left (by omega)
    refine r_aload_n (pc := 37) hX 19 rfl rfl ?_
    refine r_aload_n (pc := 38) hX 20 rfl rfl ?_
    refine r_putR (pc := 39) hX 21 rfl fl_X11_140 rfl (fun _ h => by cases h; rfl) (hH_20.kd ht (by decide)) (hH_20.g4 ht (by decide)) ?_
    have hH_39 : HT ωv11 (up v11 (ρv11 t 0) 1 0) (up ρv11 t 17 r11) Zv11 := hH_20.un ht rfl (Or.inr hwf1_) rfl
    show wp g X F_X11_sentence 4 125 42 [(2, t), (2, r11)] [] (up v11 (ρv11 t 0) 1 0) (up ρv11 t 17 r11) Zv11
    refine r_aload_n (pc := 42) hX 22 rfl rfl ?_
    refine e_getI (y := (v11 r11 4)) (pc := 43) hX 23 rfl fl_X11_376 rfl (hH_39.kd hwf1_ (by decide)) ((up_k (by decide)).trans (rfl)) ?_
    have hb43 : 0 ≤ (v11 r11 4) ∧ (v11 r11 4) ≤ 20 := hH11.rg hwf1_ (by decide) rfl
    exact r_iret (pc := 46) hX 24 hQ rfl rfl (Nat.le_of_ble_eq_true rfl) (Nat.le_of_ble_eq_true rfl) ⟨ωv11, (OmX.tr OmX.rf homv11 (by first | exact Int.le_refl _ | omega)), (ZzX.tr ZzX.rf hzzv11 (by first | exact Int.le_refl _ | omega)), ((FrB.rf).trB OmX.rf hfr11 (by first | exact Int.le_refl _ | omega) (by decide)).up (r := (ρv11 t 0)) (OmX.tr OmX.rf homv11 (by first | exact Int.le_refl _ | omega)) hw15_ (by decide), ((FrB.rf).trB OmX.rf hfrR11 (by first | exact Int.le_refl _ | omega) (by decide)).up (r := t) (OmX.tr OmX.rf homv11 (by first | exact Int.le_refl _ | omega)) ht (by decide), hH_39, (v11 r11 4), rfl, (by rw [show (up ρv11 t 17 r11) t 0 = ρv11 t 0 from up_k (by decide)]; exact up_s _ _ _ _), (⟨by rw [up_k (by decide), hfrR11 t htz (by rw [ht0]; decide)], by rw [up_k (by decide), hfrR11 t htz (by rw [ht0]; decide)]⟩), (by rw [up_k (by decide), hfrR11 t htz (by rw [ht0]; decide)]), (fun j hj => by rw [up_k hj, hfrR11 t htz (by rw [ht0]; decide)]), ((hs11.1.ans1 (by omega)).symm), ((up_r (rne hw21 ht (by decide))).trans hs11.2.1)⟩
  · refine r_iconst (pc := 27) hX 13 rfl ?_
    refine t_getR (q := (ρv11 t 0)) (pc := 28) hX 14 rfl rfl rfl fl_X11_12 rfl (hH_20.kd ht (by decide)) (rfl) ?_
    refine e_getI (y := (v11 (ρv11 t 0) 10)) (pc := 32) hX 16 rfl fl_X11_131 rfl (hH_20.kd hw15_ (by decide)) ((up_k (by decide)).trans (rfl)) ?_
    have hb32 : 0 ≤ (v11 (ρv11 t 0) 10) ∧ (v11 (ρv11 t 0) 10) ≤ 1000 := hH11.rg hw15_ (by decide) rfl
    refine r_isub (pc := 35) hX 17 rfl ?_
    exact r_iret (pc := 36) hX 18 hQ rfl rfl (Nat.le_of_ble_eq_true rfl) (Nat.le_of_ble_eq_true rfl) ⟨ωv11, (OmX.tr OmX.rf homv11 (by first | exact Int.le_refl _ | omega)), (ZzX.tr ZzX.rf hzzv11 (by first | exact Int.le_refl _ | omega)), ((FrB.rf).trB OmX.rf hfr11 (by first | exact Int.le_refl _ | omega) (by decide)).up (r := (ρv11 t 0)) (OmX.tr OmX.rf homv11 (by first | exact Int.le_refl _ | omega)) hw15_ (by decide), (FrB.rf).trB OmX.rf hfrR11 (by first | exact Int.le_refl _ | omega) (by decide), hH_20, ((-1) - (v11 (ρv11 t 0) 10)), rfl, (up_s _ _ _ _), (⟨by rw [hfrR11 t htz (by rw [ht0]; decide)], by rw [hfrR11 t htz (by rw [ht0]; decide)]⟩), (by rw [hfrR11 t htz (by rw [ht0]; decide)]), (fun j _ => by rw [hfrR11 t htz (by rw [ht0]; decide)]), (by rw [hs11.1.ans0 (by omega), hs11.2.1, e110]), (hs11.2.1)⟩
