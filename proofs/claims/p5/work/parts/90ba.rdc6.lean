set_option maxHeartbeats 4000000 in
set_option maxRecDepth 100000 in
theorem c_X8_openF (g : Gp) (ω : Rw) (v ρ : Mv) (Z : Mz) (hH : HT ω v ρ Z) (t : Int) (ht : ω t = 2) (m : Int) (hm : 0 ≤ m ∧ m ≤ 1000) : Ok g 1 0 0 F_X8_open [(2, t), (0, m)] v ρ Z (fun o9 v' ρ' Z' => ρ = ρ' ∧ Z = Z' ∧ FrW ω [2] v v' ∧ HT ω v' ρ Z ∧ o9 = none ∧ (v' t 1 = v t 1) ∧ (v' t 2 = m) ∧ (v' t 3 = 0) ∧ (v' t 9 = 0)) := by
  refine Ok.of mo_X8_open (Nat.le_of_ble_eq_true rfl) ?_
  intro X hX hRm hxn hQ
  show wp g X F_X8_open 0 0 0 [(2, t), (0, m)] [] v ρ Z
  refine r_aload_n (pc := 0) hX 0 rfl rfl ?_
  refine r_iload_n (pc := 1) hX 1 rfl rfl ?_
  refine r_putI (pc := 2) hX 2 rfl fl_X8_19 rfl (fun _ h => by cases h; rfl) (hH.kd ht (by decide)) (hH.g4 ht (by decide)) ?_
  have hH_2 : HT ω (up v t 2 m) ρ Z := hH.upR ht (by decide) rfl (by omega) (by omega)
  show wp g X F_X8_open 0 0 5 [(2, t), (0, m)] [] (up v t 2 m) ρ Z
  refine r_aload_n (pc := 5) hX 3 rfl rfl ?_
  refine r_iconst (pc := 6) hX 4 rfl ?_
  refine r_putI (pc := 7) hX 5 rfl fl_X8_22 rfl (fun _ h => by cases h; rfl) (hH_2.kd ht (by decide)) (hH_2.g4 ht (by decide)) ?_
  have hH_7 : HT ω (up (up v t 2 m) t 3 0) ρ Z := hH_2.upR ht (by decide) rfl (by omega) (by omega)
  show wp g X F_X8_open 0 0 10 [(2, t), (0, m)] [] (up (up v t 2 m) t 3 0) ρ Z
  refine r_aload_n (pc := 10) hX 6 rfl rfl ?_
  refine r_iconst (pc := 11) hX 7 rfl ?_
  refine r_putI (pc := 12) hX 8 rfl fl_X8_25 rfl (fun _ h => by cases h; rfl) (hH_7.kd ht (by decide)) (hH_7.g4 ht (by decide)) ?_
  have hH_12 : HT ω (up (up (up v t 2 m) t 3 0) t 9 0) ρ Z := hH_7.upR ht (by decide) rfl (by omega) (by omega)
  show wp g X F_X8_open 0 0 15 [(2, t), (0, m)] [] (up (up (up v t 2 m) t 3 0) t 9 0) ρ Z
  refine r_aload_n (pc := 15) hX 9 rfl rfl ?_
  refine r_iconst (pc := 16) hX 10 rfl ?_
  refine r_putI (pc := 17) hX 11 rfl fl_X8_28 rfl (fun _ h => by cases h; rfl) (hH_12.kd ht (by decide)) (hH_12.g4 ht (by decide)) ?_
  have hH_17 : HT ω (up (up (up (up v t 2 m) t 3 0) t 9 0) t 10 0) ρ Z := hH_12.upR ht (by decide) rfl (by omega) (by omega)
  show wp g X F_X8_open 0 0 20 [(2, t), (0, m)] [] (up (up (up (up v t 2 m) t 3 0) t 9 0) t 10 0) ρ Z
  exact r_vret (pc := 20) hX 12 hQ rfl rfl (Nat.le_of_ble_eq_true rfl) (Nat.le_of_ble_eq_true rfl) ⟨rfl, rfl, ((((FrW.rf).up (r := t) ht (by decide)).up (r := t) ht (by decide)).up (r := t) ht (by decide)).up (r := t) ht (by decide), hH_17, rfl, (by (repeat rw [up_k (by decide)])), (by rw [up_k (by decide), up_k (by decide), up_k (by decide), up_s]), (by rw [up_k (by decide), up_k (by decide), up_s]), (by first | exact up_s _ _ _ _ | rw [up_k (by decide), up_s] | (rw [up_k (by decide), up_k (by decide), up_s]))⟩
set_option maxHeartbeats 4000000 in
set_option maxRecDepth 100000 in
theorem c_X5_readF (g : Gp) (ω : Rw) (v ρ : Mv) (Z : Mz) (hH : HT ω v ρ Z) (t : Int) (ht : ω t = 4)  : Ok g 10 12 59 F_X5_read [(2, t)] v ρ Z (fun o9 v' ρ' Z' => ∃ ω' : Rw, OmX Z.2.2 ω ω' ∧ ZzX Z.2.2 Z Z' ∧ FrB Z.2.2 ω [2, 4, 5, 6, 7, 8, 9, 10, 11, 13, 14] v v' ∧ FrB Z.2.2 ω [4] ρ ρ' ∧ HT ω' v' ρ' Z' ∧ ∃ r : Int, o9 = some (2, r) ∧ (r < 0 ∨ ω' r = 5) ∧ (RrC (cb (v (ρ t 0) 1) (v (ρ (ρ t 0) 0))) (v (ρ t 0) 1) 900 v' ρ' t r) ∧ (ρ' t 0 = ρ t 0) ∧ (∀ r, r < Z.2.2 → inW (ω r) = true → v' r = v r) ∧ (r < 0 ∨ Z.2.2 ≤ r) ∧ (v' (ρ' t 0) 9 = (rRoad (cb (v (ρ t 0) 1) (v (ρ (ρ t 0) 0))) (v (ρ t 0) 1) 900).1)) := by
  refine Ok.of mo_X5_read (Nat.le_of_ble_eq_true rfl) ?_
  intro X hX hRm hxn hQ
  show wp g X F_X5_read 0 0 0 [(2, t), (3, 0), (3, 0)] [] v ρ Z
  have htz := hH.lt ht (by decide)
  have hw0 : ω (ρ t 0) = 2 := hH.rf ht (by decide) rfl
  have hw00 : ω (ρ (ρ t 0) 0) = 3 := hH.rf hw0 (by decide) rfl
  have htz0 := hH.lt hw0 (by decide)
  have htz00 := hH.lt hw00 (by decide)
  have hcbs := cb_sam (v (ρ t 0) 1) (v (ρ (ρ t 0) 0))
  have hlen : 0 ≤ v (ρ t 0) 1 ∧ v (ρ t 0) 1 ≤ 940 := hH.rg hw0 (by decide) rfl
  refine r_aload_n (pc := 0) hX 0 rfl rfl ?_
  obtain ⟨nA, hnA⟩ : ∃ z : Int, Z.2.2 = z := ⟨_, rfl⟩
  have hn4 : 4 ≤ nA := by have z1 := hH.g4 ht (by decide); have z2 := hH.lt ht (by decide); omega
  refine r_newX (K := 4) (q := (RX4, TX4, 15)) (n := nA) hX 1 hnA rfl rfl cl_X5_15 in_X4 iz_X4 hn4 (by rw [hRm]; exact Nat.le_of_ble_eq_true rfl) (by rw [hRm]; exact Nat.le_of_ble_eq_true rfl) (fun vA ρA ZA halA => ?_)
  have hHA : HT ω vA ρA ZA := hH.al hnA hn4 halA
  have hzA : ω nA = 0 := hH.z0 (by omega)
  refine r_dup (pc := 4) hX 2 rfl (show (2 : Nat) ≠ 1 by decide) ?_
  refine r_callI (as := []) (st := [(2, nA), (2, t)]) (pc := 5) hX 3 rfl mo_X4_init rfl rfl ml_X5_17 im_X4_init (c_X4_initF g ω vA ρA ZA hHA nA hzA halA.2.1 halA.2.2.1 hn4 (nA + 1) halA.1 (by omega) halA.2.2.2.1 halA.2.2.2.2.1) rfl (by omega) (by rw [hRm]; exact ⟨Nat.le_of_ble_eq_true rfl, Nat.le_of_ble_eq_true rfl⟩) (by rw [hRm]; exact ⟨Nat.le_of_ble_eq_true rfl, Nat.le_of_ble_eq_true rfl⟩) (Nat.le_of_ble_eq_true rfl) (fun o9 v3 ρ3 Z3 hq3 _ => ?_)
  obtain ⟨rfl, hn3, ω3, hct3, hT3, hH3, hI3, hNb3⟩ := hq3
  have hq3 : ∀ q, q < nA → ω3 q = ω q ∧ v3 q = v q ∧ ρ3 q = ρ q ∧ Z3.1 q = Z.1 q ∧ Z3.2.1 q = Z.2.1 q := fun q hq => by
    obtain ⟨b0, b1, b2, b3, b4⟩ := hct3 q (by omega) (by omega)
    obtain ⟨a1, a2, a3, a4⟩ := halA.2.2.2.2.2 q (by omega)
    exact ⟨b0, b1.trans a1, b2.trans a2, b3.trans a3, b4.trans a4⟩
  have hom3 : OmX Z.2.2 ω ω3 := fun r hr => (hq3 r (by omega)).1
  have hzz3 : ZzX Z.2.2 Z Z3 := ⟨by omega, fun q hq => ⟨(hq3 q (by omega)).2.2.2.1, (hq3 q (by omega)).2.2.2.2⟩⟩
  have hfv3 : FrB Z.2.2 ω [2, 4, 5, 6, 7, 8, 9, 10, 11, 13, 14] v v3 := (FrB.rf).al (fun q hq => (hq3 q (by omega)).2.1)
  have hfr3 : FrB Z.2.2 ω [4] ρ ρ3 := (FrB.rf).al (fun q hq => (hq3 q (by omega)).2.2.1)
  replace ht : ω3 t = 4 := ((hq3 t (by have z1 := hH.lt ht (by decide); omega)).1).trans ht
  show wp g X F_X5_read 12 59 8 [(2, t), (3, 0), (3, 0)] [(2, nA), (2, t)] v3 ρ3 Z3
  refine r_putR (pc := 8) hX 4 rfl fl_X5_18 rfl (fun _ h => by cases h; rfl) (hH3.kd ht (by decide)) (hH3.g4 ht (by decide)) ?_
  have hH_8 : HT ω3 v3 (up ρ3 t 1 nA) Z3 := hH3.uf ht rfl hT3 rfl
  show wp g X F_X5_read 12 59 11 [(2, t), (3, 0), (3, 0)] [] v3 (up ρ3 t 1 nA) Z3
  refine r_aload_n (pc := 11) hX 5 rfl rfl ?_
  refine r_iconst (pc := 12) hX 6 rfl ?_
  refine r_putZ (pc := 13) hX 7 rfl fl_X5_22 rfl (fun _ h => by cases h; rfl) ⟨by omega, by omega⟩ (hH_8.kd ht (by decide)) (hH_8.g4 ht (by decide)) ?_
  have hH_13 : HT ω3 (up v3 t 2 0) (up ρ3 t 1 nA) Z3 := hH_8.upR ht (by decide) rfl (by omega) (by omega)
  show wp g X F_X5_read 12 59 16 [(2, t), (3, 0), (3, 0)] [] (up v3 t 2 0) (up ρ3 t 1 nA) Z3
  refine r_aload_n (pc := 16) hX 8 rfl rfl ?_
  refine r_iconst (pc := 17) hX 9 rfl ?_
  refine r_putZ (pc := 18) hX 10 rfl fl_X5_26 rfl (fun _ h => by cases h; rfl) ⟨by omega, by omega⟩ (hH_13.kd ht (by decide)) (hH_13.g4 ht (by decide)) ?_
  have hH_18 : HT ω3 (up (up v3 t 2 0) t 3 0) (up ρ3 t 1 nA) Z3 := hH_13.upR ht (by decide) rfl (by omega) (by omega)
  show wp g X F_X5_read 12 59 21 [(2, t), (3, 0), (3, 0)] [] (up (up v3 t 2 0) t 3 0) (up ρ3 t 1 nA) Z3
  refine t_getR (q := (ρ3 t 0)) (pc := 21) hX 11 rfl rfl rfl fl_X5_9 rfl (hH_18.kd ht (by decide)) ((up_k (by decide)).trans (rfl)) ?_
  have hw21_ : ω3 (ρ3 t 0) = 2 := hH3.rf ht (by decide) rfl
  refine r_sipush (pc := 25) hX 13 rfl (by decide) ?_
  refine r_callV (as := [(0, 900)]) (st := []) (K := 8) (pc := 28) hX 14 rfl mo_X8_open ml_X5_29 im_X8_open se_X8_open (c_X8_openF g ω3 (up (up v3 t 2 0) t 3 0) (up ρ3 t 1 nA) Z3 hH_18 (ρ3 t 0) hw21_ (900) (by omega)) rfl rfl rfl (hH_18.kd hw21_ (by decide)) (by rw [hRm]; exact ⟨by decide, by decide⟩) (by rw [hRm]; exact ⟨by decide, by decide⟩) (Nat.le_of_ble_eq_true rfl) (fun o28 v28 ρv28 Zv28 hq28 _ => ?_)
  obtain ⟨rfl, rfl, hfr28, hH28, rfl, hq28⟩ := hq28
  try rw [show ((up (up v3 t 2 0) t 3 0) (ρ3 t 0) 1) = (v3 (ρ3 t 0) 1) from (up_k (by decide)).trans ((up_k (by decide)).trans (rfl))] at hq28
  show wp g X F_X5_read 12 59 31 [(2, t), (3, 0), (3, 0)] [] v28 (up ρ3 t 1 nA) Z3
  refine t_getR (q := (ρ3 t 0)) (pc := 31) hX 15 rfl rfl rfl fl_X5_9 rfl (hH28.kd ht (by decide)) ((up_k (by decide)).trans (rfl)) ?_
  refine r_callV (as := []) (st := []) (K := 8) (pc := 35) hX 17 rfl mo_X8_advance ml_X5_35 im_X8_advance se_X8_advance (c_X8_advanceF g ω3 v28 (up ρ3 t 1 nA) Z3 hH28 (ρ3 t 0) hw21_ (by have z1 : 0 ≤ v28 (ρ3 t 0) 1 ∧ v28 (ρ3 t 0) 1 ≤ 940 := hH28.rg hw21_ (by decide) rfl; omega)) rfl rfl rfl (hH28.kd hw21_ (by decide)) (by rw [hRm]; exact ⟨by decide, by decide⟩) (by rw [hRm]; exact ⟨by decide, by decide⟩) (Nat.le_of_ble_eq_true rfl) (fun o35 v35 ρv35 Zv35 hq35 _ => ?_)
  obtain ⟨rfl, rfl, hfr35, hH35, rfl, hq35⟩ := hq35
  show wp g X F_X5_read 12 59 38 [(2, t), (3, 0), (3, 0)] [] v35 (up ρ3 t 1 nA) Z3
  have e30 : ρ3 t 0 = ρ t 0 := congrFun (hq3 t (by omega)).2.2.1 0
  have eT1 : (up ρ3 t 1 nA) t 0 = ρ3 t 0 := up_k (by decide)
  have hWt : RtW ω3 (up ρ3 t 1 nA) t := RtW.of hH35 ht
  have hTt : ρ3 t 0 ≠ t := rne hw21_ ht (by decide)
  have eTr : v3 (ρ3 t 0) = v (ρ t 0) := by rw [e30]; exact (hq3 (ρ t 0) (by omega)).2.1
  have eB1 : (up ρ3 t 1 nA) (ρ3 t 0) 0 = ρ (ρ t 0) 0 := by rw [up_f hTt, e30]; exact congrFun (hq3 (ρ t 0) (by omega)).2.2.1 0
  have hB28 : v28 (ρ (ρ t 0) 0) = v (ρ (ρ t 0) 0) := by
    have w3 := hWt.w3
    rw [eT1, eB1] at w3
    rw [hfr28 _ (by rw [w3]; decide), up_f (rne w3 ht (by decide)), up_f (rne w3 ht (by decide))]
    exact (hq3 _ (by omega)).2.1
  have hB35 : v35 (ρ (ρ t 0) 0) = v28 (ρ (ρ t 0) 0) := by
    have w3 := hWt.w3
    rw [eT1, eB1] at w3
    exact hfr35 _ (by rw [w3]; decide)
  have hn28 : v28 (ρ3 t 0) 1 = v (ρ t 0) 1 := hq28.1.trans (congrFun eTr 1)
  have hz := tkC_of (F := (cb (v (ρ t 0) 1) (v (ρ (ρ t 0) 0)))) (n := (v (ρ t 0) 1)) (m := 900) (v := v28) (v' := v35) (ρ := (up ρ3 t 1 nA)) (t := ρ3 t 0) hn28 hq28.2.1 ⟨by rw [eB1, hB28]; exact hcbs, hq28.2.2.2⟩ (by rw [eB1]; exact hB35) (by omega) (by omega) hq35.1 hq35.2.1 hq35.2.2.1 hq35.2.2.2.1 hq35.2.2.2.2.1 hq35.2.2.2.2.2.1 hq35.2.2.2.2.2.2
  rw [hq28.2.2.1] at hz
  have hI1 : RcI v3 (up ρ3 t 1 nA) nA 0 0 rd0 := hI3.rho (up_f (rne hT3 ht (by decide))) (up_f (rne (hH3.rf hT3 (by decide) (show rfO 5 5 = some 12 from rfl)) ht (by decide)))
  have e1A : (up ρ3 t 1 nA) t 1 = nA := up_s _ _ _ _
  have hNb1 : NbI (up ρ3 t 1 nA) ((up ρ3 t 1 nA) t 1) nA := by
    have r1 : (up ρ3 t 1 nA) nA = ρ3 nA := up_f (rne hT3 ht (by decide))
    have r2 : (up ρ3 t 1 nA) (ρ3 nA 5) = ρ3 (ρ3 nA 5) := up_f (rne (hH3.rf hT3 (by decide) (show rfO 5 5 = some 12 from rfl)) ht (by decide))
    rw [e1A]
    unfold NbI at hNb3 ⊢
    rw [r1, r2]
    exact hNb3
  have h4t : v35 t = (up (up v3 t 2 0) t 3 0) t := (hfr35 t (by rw [ht]; decide)).trans (hfr28 t (by rw [ht]; decide))
  have hRC0 : RdC (cb (v (ρ t 0) 1) (v (ρ (ρ t 0) 0))) (v (ρ t 0) 1) 900 v35 (up ρ3 t 1 nA) t 0 0 rd0 := by
    refine ⟨by rw [eT1]; exact hz, ?_, ?_, ?_⟩
    · rw [e1A]
      have z2 : RcI v3 (up ρ3 t 1 nA) ((up ρ3 t 1 nA) t 1) 0 0 rd0 := by rw [e1A]; exact hI1
      have z := z2.fr (v' := v35) hWt (fun r hr => by rw [hfr35.keep (by decide) r hr, hfr28.keep (by decide) r hr, up_inW ht rfl r hr, up_inW ht rfl r hr])
      rw [e1A] at z
      exact z
    · rw [h4t]
      exact (up_k (by decide)).trans (up_s _ _ _ _)
    · rw [h4t]
      exact up_s _ _ _ _
  refine r_iconst (pc := 38) hX 18 rfl ?_
  refine r_istore_n (ls' := [(2, t), (0, 0), (3, 0)]) (pc := 39) hX 19 rfl (by decide) rfl ?_
  have L40 : ∀ (n40 : Nat) (i : Int) (v40 : Mv) , (FrB Z.2.2 ω [2, 4, 5, 6, 7, 8, 9, 10, 11, 13, 14] v v40) → (HT ω3 v40 (up ρ3 t 1 nA) Z3) → (0 ≤ i ∧ i ≤ 900) → (RoC (cb (v (ρ t 0) 1) (v (ρ (ρ t 0) 0))) (v (ρ t 0) 1) 900 v40 (up ρ3 t 1 nA) t i) → (FrK ω3 nA v3 v40) → (900 - i).toNat < n40 → wp g X F_X5_read 12 59 40 [(2, t), (0, i), (3, 0)] [] v40 (up ρ3 t 1 nA) Z3 := by
    intro n40
    induction n40 with
    | zero => intro i v40 hfr40 hH40 ii iq ik hme40; exact absurd hme40 (Nat.not_lt_zero _)
    | succ n40 ih40 =>
      intro i v40 hfr40 hH40 ii iq ik hme40
      obtain ⟨kf, sg, hRg, heq, hpk, hi0, hi2⟩ := iq
      have hT4 := hRg.tk.k4
      have hT7 := hRg.tk.k7
      have hT5 := hRg.tk.k5
      have hpn := hRg.tk.2.1
      rw [eT1] at hT4 hT7 hT5
      refine r_iload_n (pc := 40) hX 20 rfl rfl ?_
      refine r_sipush (pc := 41) hX 21 rfl (by decide) ?_
      first | refine r_icmp_ge (pc := 44) hX 22 (tgt := 192) rfl (by decide) (⟨by omega, by omega⟩) (⟨by omega, by omega⟩) (fun h44 => ?_) (fun h44 => ?_) | refine r_icmp_ge_any (pc := 44) hX 22 (tgt := 192) rfl (by decide) ?_ ?_
      · exact absurd h44 (by omega)
      · refine t_getR (q := (ρ3 t 0)) (pc := 47) hX 23 rfl rfl rfl fl_X5_9 rfl (hH40.kd ht (by decide)) ((up_k (by decide)).trans (rfl)) ?_
        refine r_callV (as := []) (st := []) (K := 8) (pc := 51) hX 25 rfl mo_X8_isEnd ml_X5_38 im_X8_isEnd se_X8_isEnd (c_X8_isEndF g ω3 v40 (up ρ3 t 1 nA) Z3 hH40 (ρ3 t 0) hw21_ ) rfl rfl rfl (hH40.kd hw21_ (by decide)) (by rw [hRm]; exact ⟨by decide, by decide⟩) (by rw [hRm]; exact ⟨by decide, by decide⟩) (Nat.le_of_ble_eq_true rfl) (fun o51 v51 ρv51 Zv51 hq51 _ => ?_)
        obtain ⟨rfl, rfl, rfl, r51, rfl, hq51⟩ := hq51
        show wp g X F_X5_read 12 59 54 [(2, t), (0, i), (3, 0)] [(0, r51)] v40 (up ρ3 t 1 nA) Z3
        first | refine r_if_ne (pc := 54) hX 26 (tgt := 192) rfl (by decide) (⟨by omega, by omega⟩) (fun h54 => ?_) (fun h54 => ?_) | refine r_if_ne_any (pc := 54) hX 26 (tgt := 192) rfl (by decide) ?_ ?_
        · obtain ⟨hrd, hra⟩ := RoI.done heq hpk hpn (by omega)
          refine t_getR (q := nA) (pc := 192) hX 73 rfl rfl rfl fl_X5_18 rfl (hH40.kd ht (by decide)) (up_s _ _ _ _) ?_
          exact r_aret (pc := 196) hX 75 hQ rfl rfl (Nat.le_of_ble_eq_true rfl) (Nat.le_of_ble_eq_true rfl) ⟨ω3, hom3, hzz3, hfr40, (hfr3).up (r := t) hom3 ht (by decide), hH40, nA, rfl, (Or.inr hT3), (by
        have z := hRg.rc
        rw [e1A] at z
        refine Or.inl ⟨by omega, ?_⟩
        rw [hrd]
        exact ⟨rfl, z⟩), (eT1.trans e30), (fun r hr hw9 => (ik r (by rw [(hq3 r (by omega)).1]; exact hw9) (by omega)).trans (hq3 r (by omega)).2.1), (Or.inr (by omega)), (by rw [hrd]; exact hRg.tk.2.2.2.2.1.2)⟩
        · refine t_getR (q := (ρ3 t 0)) (pc := 57) hX 27 rfl rfl rfl fl_X5_9 rfl (hH40.kd ht (by decide)) ((up_k (by decide)).trans (rfl)) ?_
          refine e_getI (y := (v40 (ρ3 t 0) 7)) (pc := 61) hX 29 rfl fl_X5_42 rfl (hH40.kd hw21_ (by decide)) (rfl) ?_
          have hb61 : (-1) ≤ (v40 (ρ3 t 0) 7) ∧ (v40 (ρ3 t 0) 7) ≤ 21 := hH40.rg hw21_ (by decide) rfl
          have L173 : ∀ (gd : Int) (v173 : Mv) , (FrB Z.2.2 ω [2, 4, 5, 6, 7, 8, 9, 10, 11, 13, 14] v v173) → (HT ω3 v173 (up ρ3 t 1 nA) Z3) → (0 ≤ gd ∧ gd ≤ 1) → (PoC (cb (v (ρ t 0) 1) (v (ρ (ρ t 0) 0))) (v (ρ t 0) 1) 900 v173 (up ρ3 t 1 nA) t i gd (rLine (cb (v (ρ t 0) 1) (v (ρ (ρ t 0) 0))) (v (ρ t 0) 1) 900 sg)) → (FrK ω3 nA v3 v173) → wp g X F_X5_read 12 59 173 [(2, t), (0, i), (0, gd)] [] v173 (up ρ3 t 1 nA) Z3 := by
            intro gd v173 hfr173 hH173 ig iP ik3
            refine r_iload_n (pc := 173) hX 64 rfl rfl ?_
            have L184 : ∀ (v184 : Mv) , (FrB Z.2.2 ω [2, 4, 5, 6, 7, 8, 9, 10, 11, 13, 14] v v184) → (HT ω3 v184 (up ρ3 t 1 nA) Z3) → (RbC (cb (v (ρ t 0) 1) (v (ρ (ρ t 0) 0))) (v (ρ t 0) 1) 900 v184 (up ρ3 t 1 nA) t) → (FrK ω3 nA v3 v184) → wp g X F_X5_read 12 59 184 [(2, t), (0, i), (3, 0)] [] v184 (up ρ3 t 1 nA) Z3 := by
              intro v184 hfr184 hH184 iB ik4
              refine r_null (pc := 184) hX 69 rfl (by have := hH184.lt ht (by decide); have := hH184.g4 ht (by decide); omega) ?_
              exact r_aret (pc := 185) hX 70 hQ rfl rfl (Nat.le_of_ble_eq_true rfl) (Nat.le_of_ble_eq_true rfl) ⟨ω3, hom3, hzz3, hfr184, (hfr3).up (r := t) hom3 ht (by decide), hH184, (-1), rfl, (Or.inl (by decide)), (Or.inr ⟨by decide, iB⟩), (eT1.trans e30), (fun r hr hw9 => (ik4 r (by rw [(hq3 r (by omega)).1]; exact hw9) (by omega)).trans (hq3 r (by omega)).2.1), (Or.inl (by decide)), (iB.2.1)⟩
            first | refine r_if_eq (pc := 174) hX 65 (tgt := 184) rfl (by decide) (⟨by omega, by omega⟩) (fun h174 => ?_) (fun h174 => ?_) | refine r_if_eq_any (pc := 174) hX 65 (tgt := 184) rfl (by decide) ?_ ?_
            · refine r_wk (ls' := [(2, t), (0, i), (3, 0)]) ⟨Or.inr rfl, Or.inr rfl, Or.inl rfl, trivial⟩ ?_
              exact (L184  v173 (hfr173) (hH173) (by first | exact RbC.line heq hpk hpn (by omega) iP (by omega) | (rcases Hd.o hq178.2 with ⟨a, _⟩ | ⟨_, a, b, c⟩; exact absurd a (by omega); exact RbC.cls heq hpk hpn (by omega) hl.1 a b c)) (by first | exact ik3 | exact ik3.tr hfk178) )
            · have hl : (rLine (cb (v (ρ t 0) 1) (v (ρ (ρ t 0) 0))) (v (ρ t 0) 1) 900 sg).1 = 0 ∧ RdC (cb (v (ρ t 0) 1) (v (ρ (ρ t 0) 0))) (v (ρ t 0) 1) 900 v173 (up ρ3 t 1 nA) t i ((rLine (cb (v (ρ t 0) 1) (v (ρ (ρ t 0) 0))) (v (ρ t 0) 1) 900 sg).2.H 1) (rLine (cb (v (ρ t 0) 1) (v (ρ (ρ t 0) 0))) (v (ρ t 0) 1) 900 sg).2 := by
                rcases iP with ⟨_, a, b⟩ | ⟨a, _⟩
                · exact ⟨a, b⟩
                · exact absurd a (by omega)
              refine r_aload_n (pc := 177) hX 66 rfl rfl ?_
              refine r_callV (as := []) (st := []) (K := 5) (pc := 178) hX 67 rfl mo_X5_readClosing ml_X5_71 im_X5_readClosing se_X5_readClosing (c_X5_readClosingF g ω3 v173 (up ρ3 t 1 nA) Z3 hH173 t ht (hl.2) (hNb1)) rfl rfl rfl (hH173.kd ht (by decide)) (by rw [hRm]; exact ⟨by decide, by decide⟩) (by rw [hRm]; exact ⟨by decide, by decide⟩) (Nat.le_of_ble_eq_true rfl) (fun o178 v178 ρv178 Zv178 hq178 _ => ?_)
              obtain ⟨rfl, rfl, hfr178, hH178, r178, rfl, hq178⟩ := hq178
              have hfk178 := hq178.2.2
              replace hq178 := And.intro hq178.1 (hq178.2.1)
              show wp g X F_X5_read 12 59 181 [(2, t), (0, i), (0, gd)] [(0, r178)] v178 (up ρ3 t 1 nA) Z3
              first | refine r_if_ne (pc := 181) hX 68 (tgt := 186) rfl (by decide) (⟨by omega, by omega⟩) (fun h181 => ?_) (fun h181 => ?_) | refine r_if_ne_any (pc := 181) hX 68 (tgt := 186) rfl (by decide) ?_ ?_
              · refine r_iinc (ls' := [(2, t), (0, (i + 1)), (0, gd)]) (pc := 186) hX 71 rfl rfl (by decide) rfl ?_
                refine r_goto (pc := 189) hX 72 (tgt := 40) rfl (by decide) ?_
                refine r_wk (ls' := [(2, t), (0, (i + 1)), (3, 0)]) ⟨Or.inr rfl, Or.inr rfl, Or.inl rfl, trivial⟩ ?_
                exact (ih40 (i + 1) v178 ((hfr173).tr hom3 hfr178 (by decide)) (hH178) (by omega) (RoC.next heq hpk hpn (by omega) hl.1 ((Hd.o hq178.2).resolve_right (fun z => absurd z.1 (by omega))).2.1 ((Hd.o hq178.2).resolve_right (fun z => absurd z.1 (by omega))).2.2 hl.2.tk.2.1 hi0 hi2) (ik3.tr hfk178) (by omega))
              · refine r_wk (ls' := [(2, t), (0, i), (3, 0)]) ⟨Or.inr rfl, Or.inr rfl, Or.inl rfl, trivial⟩ ?_
                exact (L184  v178 ((hfr173).tr hom3 hfr178 (by decide)) (hH178) (by first | exact RbC.line heq hpk hpn (by omega) iP (by omega) | (rcases Hd.o hq178.2 with ⟨a, _⟩ | ⟨_, a, b, c⟩; exact absurd a (by omega); exact RbC.cls heq hpk hpn (by omega) hl.1 a b c)) (by first | exact ik3 | exact ik3.tr hfk178) )
          have hsw64 : (v40 (ρ3 t 0) 7) < 0 ∨ 6 < (v40 (ρ3 t 0) 7) ∨ (v40 (ρ3 t 0) 7) = 0 ∨ (v40 (ρ3 t 0) 7) = 1 ∨ (v40 (ρ3 t 0) 7) = 2 ∨ (v40 (ρ3 t 0) 7) = 3 ∨ (v40 (ρ3 t 0) 7) = 4 ∨ (v40 (ρ3 t 0) 7) = 5 ∨ (v40 (ρ3 t 0) 7) = 6 := by omega
          rcases hsw64 with hsw64 | hsw64 | hsw64 | hsw64 | hsw64 | hsw64 | hsw64 | hsw64 | hsw64
          · refine r_tsOut (pc := 64) hX 30 (tgt := 164) rfl ⟨by omega, by omega⟩ (by omega) (by decide) ?_
            refine t_getR (q := (ρ3 t 0)) (pc := 164) hX 59 rfl rfl rfl fl_X5_9 rfl (hH40.kd ht (by decide)) ((up_k (by decide)).trans (rfl)) ?_
            refine r_iconst (pc := 168) hX 61 rfl ?_
            refine r_callV (as := [(0, 1)]) (st := []) (K := 8) (pc := 169) hX 62 rfl mo_X8_refuse ml_X5_67 im_X8_refuse se_X8_refuse (c_X8_refuseF g ω3 v40 (up ρ3 t 1 nA) Z3 hH40 (ρ3 t 0) hw21_ (1) (by omega)) rfl rfl rfl (hH40.kd hw21_ (by decide)) (by rw [hRm]; exact ⟨by decide, by decide⟩) (by rw [hRm]; exact ⟨by decide, by decide⟩) (Nat.le_of_ble_eq_true rfl) (fun o169 v169 ρv169 Zv169 hq169 _ => ?_)
            obtain ⟨rfl, rfl, hfr169, hH169, r169, rfl, hq169⟩ := hq169
            show wp g X F_X5_read 12 59 172 [(2, t), (0, i), (3, 0)] [(0, r169)] v169 (up ρ3 t 1 nA) Z3
            have hRX := hq169
            have hfX := hfr169
            refine r_istore_n (ls' := [(2, t), (0, i), (0, r169)]) (pc := 172) hX 63 rfl (by decide) rfl ?_
            exact (L173 r169 v169 ((hfr40).tr hom3 hfr169 (by decide)) (hH169) (by omega) (by first | (rw [rLine_0 (by omega)]; exact hq109.2) | (rw [rLine_1 (by omega)]; exact hq117.2) | (rw [rLine_2 (by omega)]; exact hq125.2) | (rw [rLine_3 (by omega)]; exact hq133.2) | (rw [rLine_4 (by omega)]; exact hq141.2) | (rw [rLine_5 (by omega)]; exact hq149.2) | (rw [rLine_6 (by omega)]; exact hq157.2) | (rw [hRX.1]; exact PoC.bad (rLine_7 (by omega)) (by decide) (by rw [eT1]; exact hRX.2.1.1) (by rw [eT1]; exact hRX.2.1.2.trans hT5))) (by first | exact ik.tr hfk109 | exact ik.tr hfk117 | exact ik.tr hfk125 | exact ik.tr hfk133 | exact ik.tr hfk141 | exact ik.tr hfk149 | exact ik.tr hfk157 | exact ik.tw hfX (by decide)) )
          · refine r_tsOut (pc := 64) hX 30 (tgt := 164) rfl ⟨by omega, by omega⟩ (by omega) (by decide) ?_
            refine t_getR (q := (ρ3 t 0)) (pc := 164) hX 59 rfl rfl rfl fl_X5_9 rfl (hH40.kd ht (by decide)) ((up_k (by decide)).trans (rfl)) ?_
            refine r_iconst (pc := 168) hX 61 rfl ?_
            refine r_callV (as := [(0, 1)]) (st := []) (K := 8) (pc := 169) hX 62 rfl mo_X8_refuse ml_X5_67 im_X8_refuse se_X8_refuse (c_X8_refuseF g ω3 v40 (up ρ3 t 1 nA) Z3 hH40 (ρ3 t 0) hw21_ (1) (by omega)) rfl rfl rfl (hH40.kd hw21_ (by decide)) (by rw [hRm]; exact ⟨by decide, by decide⟩) (by rw [hRm]; exact ⟨by decide, by decide⟩) (Nat.le_of_ble_eq_true rfl) (fun o169 vf1_ ρvf1_ Zvf1_ hqf3_ _ => ?_)
            obtain ⟨rfl, rfl, hfrf1_, hHf1_, rf2_, rfl, hqf3_⟩ := hqf3_
            show wp g X F_X5_read 12 59 172 [(2, t), (0, i), (3, 0)] [(0, rf2_)] vf1_ (up ρ3 t 1 nA) Z3
            have hRX := hqf3_
            have hfX := hfrf1_
            refine r_istore_n (ls' := [(2, t), (0, i), (0, rf2_)]) (pc := 172) hX 63 rfl (by decide) rfl ?_
            exact (L173 rf2_ vf1_ ((hfr40).tr hom3 hfrf1_ (by decide)) (hHf1_) (by omega) (by first | (rw [rLine_0 (by omega)]; exact hq109.2) | (rw [rLine_1 (by omega)]; exact hq117.2) | (rw [rLine_2 (by omega)]; exact hq125.2) | (rw [rLine_3 (by omega)]; exact hq133.2) | (rw [rLine_4 (by omega)]; exact hq141.2) | (rw [rLine_5 (by omega)]; exact hq149.2) | (rw [rLine_6 (by omega)]; exact hq157.2) | (rw [hRX.1]; exact PoC.bad (rLine_7 (by omega)) (by decide) (by rw [eT1]; exact hRX.2.1.1) (by rw [eT1]; exact hRX.2.1.2.trans hT5))) (by first | exact ik.tr hfk109 | exact ik.tr hfk117 | exact ik.tr hfk125 | exact ik.tr hfk133 | exact ik.tr hfk141 | exact ik.tr hfk149 | exact ik.tr hfk157 | exact ik.tw hfX (by decide)) )
          · refine r_tsIn (x := (v40 (ρ3 t 0) 7)) (pc := 64) hX 30 (tgt := 108) rfl ⟨by omega, by omega⟩ (by omega) (by omega) (by rw [hsw64]; rfl) (by decide) ?_
            refine r_aload_n (pc := 108) hX 31 rfl rfl ?_
            refine r_callV (as := []) (st := []) (K := 5) (pc := 109) hX 32 rfl mo_X5_readColour ml_X5_46 im_X5_readColour se_X5_readColour (c_X5_readColourF g ω3 v40 (up ρ3 t 1 nA) Z3 hH40 t ht (hRg) (hNb1)) rfl rfl rfl (hH40.kd ht (by decide)) (by rw [hRm]; exact ⟨by decide, by decide⟩) (by rw [hRm]; exact ⟨by decide, by decide⟩) (Nat.le_of_ble_eq_true rfl) (fun o109 v109 ρv109 Zv109 hq109 _ => ?_)
            obtain ⟨rfl, rfl, hfr109, hH109, r109, rfl, hq109⟩ := hq109
            have hfk109 := hq109.2.2
            replace hq109 := And.intro hq109.1 (hq109.2.1)
            show wp g X F_X5_read 12 59 112 [(2, t), (0, i), (3, 0)] [(0, r109)] v109 (up ρ3 t 1 nA) Z3
            refine r_istore_n (ls' := [(2, t), (0, i), (0, r109)]) (pc := 112) hX 33 rfl (by decide) rfl ?_
            refine r_goto (pc := 113) hX 34 (tgt := 173) rfl (by decide) ?_
            exact (L173 r109 v109 ((hfr40).tr hom3 hfr109 (by decide)) (hH109) (by omega) (by first | (rw [rLine_0 (by omega)]; exact hq109.2) | (rw [rLine_1 (by omega)]; exact hq117.2) | (rw [rLine_2 (by omega)]; exact hq125.2) | (rw [rLine_3 (by omega)]; exact hq133.2) | (rw [rLine_4 (by omega)]; exact hq141.2) | (rw [rLine_5 (by omega)]; exact hq149.2) | (rw [rLine_6 (by omega)]; exact hq157.2) | (rw [hRX.1]; exact PoC.bad (rLine_7 (by omega)) (by decide) (by rw [eT1]; exact hRX.2.1.1) (by rw [eT1]; exact hRX.2.1.2.trans hT5))) (by first | exact ik.tr hfk109 | exact ik.tr hfk117 | exact ik.tr hfk125 | exact ik.tr hfk133 | exact ik.tr hfk141 | exact ik.tr hfk149 | exact ik.tr hfk157 | exact ik.tw hfX (by decide)) )
          · refine r_tsIn (x := (v40 (ρ3 t 0) 7)) (pc := 64) hX 30 (tgt := 116) rfl ⟨by omega, by omega⟩ (by omega) (by omega) (by rw [hsw64]; rfl) (by decide) ?_
            refine r_aload_n (pc := 116) hX 35 rfl rfl ?_
            refine r_callV (as := []) (st := []) (K := 5) (pc := 117) hX 36 rfl mo_X5_readEnds ml_X5_49 im_X5_readEnds se_X5_readEnds (c_X5_readEndsF g ω3 v40 (up ρ3 t 1 nA) Z3 hH40 t ht (hRg) (hNb1)) rfl rfl rfl (hH40.kd ht (by decide)) (by rw [hRm]; exact ⟨by decide, by decide⟩) (by rw [hRm]; exact ⟨by decide, by decide⟩) (Nat.le_of_ble_eq_true rfl) (fun o117 v117 ρv117 Zv117 hq117 _ => ?_)
            obtain ⟨rfl, rfl, hfr117, hH117, r117, rfl, hq117⟩ := hq117
            have hfk117 := hq117.2.2
            replace hq117 := And.intro hq117.1 (hq117.2.1)
            show wp g X F_X5_read 12 59 120 [(2, t), (0, i), (3, 0)] [(0, r117)] v117 (up ρ3 t 1 nA) Z3
            refine r_istore_n (ls' := [(2, t), (0, i), (0, r117)]) (pc := 120) hX 37 rfl (by decide) rfl ?_
            refine r_goto (pc := 121) hX 38 (tgt := 173) rfl (by decide) ?_
            exact (L173 r117 v117 ((hfr40).tr hom3 hfr117 (by decide)) (hH117) (by omega) (by first | (rw [rLine_0 (by omega)]; exact hq109.2) | (rw [rLine_1 (by omega)]; exact hq117.2) | (rw [rLine_2 (by omega)]; exact hq125.2) | (rw [rLine_3 (by omega)]; exact hq133.2) | (rw [rLine_4 (by omega)]; exact hq141.2) | (rw [rLine_5 (by omega)]; exact hq149.2) | (rw [rLine_6 (by omega)]; exact hq157.2) | (rw [hRX.1]; exact PoC.bad (rLine_7 (by omega)) (by decide) (by rw [eT1]; exact hRX.2.1.1) (by rw [eT1]; exact hRX.2.1.2.trans hT5))) (by first | exact ik.tr hfk109 | exact ik.tr hfk117 | exact ik.tr hfk125 | exact ik.tr hfk133 | exact ik.tr hfk141 | exact ik.tr hfk149 | exact ik.tr hfk157 | exact ik.tw hfX (by decide)) )
          · refine r_tsIn (x := (v40 (ρ3 t 0) 7)) (pc := 64) hX 30 (tgt := 124) rfl ⟨by omega, by omega⟩ (by omega) (by omega) (by rw [hsw64]; rfl) (by decide) ?_
            refine r_aload_n (pc := 124) hX 39 rfl rfl ?_
            refine r_callV (as := []) (st := []) (K := 5) (pc := 125) hX 40 rfl mo_X5_readLand ml_X5_52 im_X5_readLand se_X5_readLand (c_X5_readLandF g ω3 v40 (up ρ3 t 1 nA) Z3 hH40 t ht (hRg) (hNb1)) rfl rfl rfl (hH40.kd ht (by decide)) (by rw [hRm]; exact ⟨by decide, by decide⟩) (by rw [hRm]; exact ⟨by decide, by decide⟩) (Nat.le_of_ble_eq_true rfl) (fun o125 v125 ρv125 Zv125 hq125 _ => ?_)
            obtain ⟨rfl, rfl, hfr125, hH125, r125, rfl, hq125⟩ := hq125
            have hfk125 := hq125.2.2
            replace hq125 := And.intro hq125.1 (hq125.2.1)
            show wp g X F_X5_read 12 59 128 [(2, t), (0, i), (3, 0)] [(0, r125)] v125 (up ρ3 t 1 nA) Z3
            refine r_istore_n (ls' := [(2, t), (0, i), (0, r125)]) (pc := 128) hX 41 rfl (by decide) rfl ?_
            refine r_goto (pc := 129) hX 42 (tgt := 173) rfl (by decide) ?_
            exact (L173 r125 v125 ((hfr40).tr hom3 hfr125 (by decide)) (hH125) (by omega) (by first | (rw [rLine_0 (by omega)]; exact hq109.2) | (rw [rLine_1 (by omega)]; exact hq117.2) | (rw [rLine_2 (by omega)]; exact hq125.2) | (rw [rLine_3 (by omega)]; exact hq133.2) | (rw [rLine_4 (by omega)]; exact hq141.2) | (rw [rLine_5 (by omega)]; exact hq149.2) | (rw [rLine_6 (by omega)]; exact hq157.2) | (rw [hRX.1]; exact PoC.bad (rLine_7 (by omega)) (by decide) (by rw [eT1]; exact hRX.2.1.1) (by rw [eT1]; exact hRX.2.1.2.trans hT5))) (by first | exact ik.tr hfk109 | exact ik.tr hfk117 | exact ik.tr hfk125 | exact ik.tr hfk133 | exact ik.tr hfk141 | exact ik.tr hfk149 | exact ik.tr hfk157 | exact ik.tw hfX (by decide)) )
          · refine r_tsIn (x := (v40 (ρ3 t 0) 7)) (pc := 64) hX 30 (tgt := 132) rfl ⟨by omega, by omega⟩ (by omega) (by omega) (by rw [hsw64]; rfl) (by decide) ?_
            refine r_aload_n (pc := 132) hX 43 rfl rfl ?_
            refine r_callV (as := []) (st := []) (K := 5) (pc := 133) hX 44 rfl mo_X5_readPlayer ml_X5_55 im_X5_readPlayer se_X5_readPlayer (c_X5_readPlayerF g ω3 v40 (up ρ3 t 1 nA) Z3 hH40 t ht (hRg) (hNb1)) rfl rfl rfl (hH40.kd ht (by decide)) (by rw [hRm]; exact ⟨by decide, by decide⟩) (by rw [hRm]; exact ⟨by decide, by decide⟩) (Nat.le_of_ble_eq_true rfl) (fun o133 v133 ρv133 Zv133 hq133 _ => ?_)
            obtain ⟨rfl, rfl, hfr133, hH133, r133, rfl, hq133⟩ := hq133
            have hfk133 := hq133.2.2
            replace hq133 := And.intro hq133.1 (hq133.2.1)
            show wp g X F_X5_read 12 59 136 [(2, t), (0, i), (3, 0)] [(0, r133)] v133 (up ρ3 t 1 nA) Z3
            refine r_istore_n (ls' := [(2, t), (0, i), (0, r133)]) (pc := 136) hX 45 rfl (by decide) rfl ?_
            refine r_goto (pc := 137) hX 46 (tgt := 173) rfl (by decide) ?_
            exact (L173 r133 v133 ((hfr40).tr hom3 hfr133 (by decide)) (hH133) (by omega) (by first | (rw [rLine_0 (by omega)]; exact hq109.2) | (rw [rLine_1 (by omega)]; exact hq117.2) | (rw [rLine_2 (by omega)]; exact hq125.2) | (rw [rLine_3 (by omega)]; exact hq133.2) | (rw [rLine_4 (by omega)]; exact hq141.2) | (rw [rLine_5 (by omega)]; exact hq149.2) | (rw [rLine_6 (by omega)]; exact hq157.2) | (rw [hRX.1]; exact PoC.bad (rLine_7 (by omega)) (by decide) (by rw [eT1]; exact hRX.2.1.1) (by rw [eT1]; exact hRX.2.1.2.trans hT5))) (by first | exact ik.tr hfk109 | exact ik.tr hfk117 | exact ik.tr hfk125 | exact ik.tr hfk133 | exact ik.tr hfk141 | exact ik.tr hfk149 | exact ik.tr hfk157 | exact ik.tw hfX (by decide)) )
          · refine r_tsIn (x := (v40 (ρ3 t 0) 7)) (pc := 64) hX 30 (tgt := 140) rfl ⟨by omega, by omega⟩ (by omega) (by omega) (by rw [hsw64]; rfl) (by decide) ?_
            refine r_aload_n (pc := 140) hX 47 rfl rfl ?_
            refine r_callV (as := []) (st := []) (K := 5) (pc := 141) hX 48 rfl mo_X5_readGoal ml_X5_58 im_X5_readGoal se_X5_readGoal (c_X5_readGoalF g ω3 v40 (up ρ3 t 1 nA) Z3 hH40 t ht (hRg) (hNb1)) rfl rfl rfl (hH40.kd ht (by decide)) (by rw [hRm]; exact ⟨by decide, by decide⟩) (by rw [hRm]; exact ⟨by decide, by decide⟩) (Nat.le_of_ble_eq_true rfl) (fun o141 v141 ρv141 Zv141 hq141 _ => ?_)
            obtain ⟨rfl, rfl, hfr141, hH141, r141, rfl, hq141⟩ := hq141
            have hfk141 := hq141.2.2
            replace hq141 := And.intro hq141.1 (hq141.2.1)
            show wp g X F_X5_read 12 59 144 [(2, t), (0, i), (3, 0)] [(0, r141)] v141 (up ρ3 t 1 nA) Z3
            refine r_istore_n (ls' := [(2, t), (0, i), (0, r141)]) (pc := 144) hX 49 rfl (by decide) rfl ?_
            refine r_goto (pc := 145) hX 50 (tgt := 173) rfl (by decide) ?_
            exact (L173 r141 v141 ((hfr40).tr hom3 hfr141 (by decide)) (hH141) (by omega) (by first | (rw [rLine_0 (by omega)]; exact hq109.2) | (rw [rLine_1 (by omega)]; exact hq117.2) | (rw [rLine_2 (by omega)]; exact hq125.2) | (rw [rLine_3 (by omega)]; exact hq133.2) | (rw [rLine_4 (by omega)]; exact hq141.2) | (rw [rLine_5 (by omega)]; exact hq149.2) | (rw [rLine_6 (by omega)]; exact hq157.2) | (rw [hRX.1]; exact PoC.bad (rLine_7 (by omega)) (by decide) (by rw [eT1]; exact hRX.2.1.1) (by rw [eT1]; exact hRX.2.1.2.trans hT5))) (by first | exact ik.tr hfk109 | exact ik.tr hfk117 | exact ik.tr hfk125 | exact ik.tr hfk133 | exact ik.tr hfk141 | exact ik.tr hfk149 | exact ik.tr hfk157 | exact ik.tw hfX (by decide)) )
          · refine r_tsIn (x := (v40 (ρ3 t 0) 7)) (pc := 64) hX 30 (tgt := 148) rfl ⟨by omega, by omega⟩ (by omega) (by omega) (by rw [hsw64]; rfl) (by decide) ?_
            refine r_aload_n (pc := 148) hX 51 rfl rfl ?_
            refine r_callV (as := []) (st := []) (K := 5) (pc := 149) hX 52 rfl mo_X5_readCars ml_X5_61 im_X5_readCars se_X5_readCars (c_X5_readCarsF g ω3 v40 (up ρ3 t 1 nA) Z3 hH40 t ht (hRg) (hNb1)) rfl rfl rfl (hH40.kd ht (by decide)) (by rw [hRm]; exact ⟨by decide, by decide⟩) (by rw [hRm]; exact ⟨by decide, by decide⟩) (Nat.le_of_ble_eq_true rfl) (fun o149 v149 ρv149 Zv149 hq149 _ => ?_)
            obtain ⟨rfl, rfl, hfr149, hH149, r149, rfl, hq149⟩ := hq149
            have hfk149 := hq149.2.2
            replace hq149 := And.intro hq149.1 (hq149.2.1)
            show wp g X F_X5_read 12 59 152 [(2, t), (0, i), (3, 0)] [(0, r149)] v149 (up ρ3 t 1 nA) Z3
            refine r_istore_n (ls' := [(2, t), (0, i), (0, r149)]) (pc := 152) hX 53 rfl (by decide) rfl ?_
            refine r_goto (pc := 153) hX 54 (tgt := 173) rfl (by decide) ?_
            exact (L173 r149 v149 ((hfr40).tr hom3 hfr149 (by decide)) (hH149) (by omega) (by first | (rw [rLine_0 (by omega)]; exact hq109.2) | (rw [rLine_1 (by omega)]; exact hq117.2) | (rw [rLine_2 (by omega)]; exact hq125.2) | (rw [rLine_3 (by omega)]; exact hq133.2) | (rw [rLine_4 (by omega)]; exact hq141.2) | (rw [rLine_5 (by omega)]; exact hq149.2) | (rw [rLine_6 (by omega)]; exact hq157.2) | (rw [hRX.1]; exact PoC.bad (rLine_7 (by omega)) (by decide) (by rw [eT1]; exact hRX.2.1.1) (by rw [eT1]; exact hRX.2.1.2.trans hT5))) (by first | exact ik.tr hfk109 | exact ik.tr hfk117 | exact ik.tr hfk125 | exact ik.tr hfk133 | exact ik.tr hfk141 | exact ik.tr hfk149 | exact ik.tr hfk157 | exact ik.tw hfX (by decide)) )
          · refine r_tsIn (x := (v40 (ρ3 t 0) 7)) (pc := 64) hX 30 (tgt := 156) rfl ⟨by omega, by omega⟩ (by omega) (by omega) (by rw [hsw64]; rfl) (by decide) ?_
            refine r_aload_n (pc := 156) hX 55 rfl rfl ?_
            refine r_callV (as := []) (st := []) (K := 5) (pc := 157) hX 56 rfl mo_X5_readChange ml_X5_64 im_X5_readChange se_X5_readChange (c_X5_readChangeF g ω3 v40 (up ρ3 t 1 nA) Z3 hH40 t ht (hRg) (hNb1)) rfl rfl rfl (hH40.kd ht (by decide)) (by rw [hRm]; exact ⟨by decide, by decide⟩) (by rw [hRm]; exact ⟨by decide, by decide⟩) (Nat.le_of_ble_eq_true rfl) (fun o157 v157 ρv157 Zv157 hq157 _ => ?_)
            obtain ⟨rfl, rfl, hfr157, hH157, r157, rfl, hq157⟩ := hq157
            have hfk157 := hq157.2.2
            replace hq157 := And.intro hq157.1 (hq157.2.1)
            show wp g X F_X5_read 12 59 160 [(2, t), (0, i), (3, 0)] [(0, r157)] v157 (up ρ3 t 1 nA) Z3
            refine r_istore_n (ls' := [(2, t), (0, i), (0, r157)]) (pc := 160) hX 57 rfl (by decide) rfl ?_
            refine r_goto (pc := 161) hX 58 (tgt := 173) rfl (by decide) ?_
            exact (L173 r157 v157 ((hfr40).tr hom3 hfr157 (by decide)) (hH157) (by omega) (by first | (rw [rLine_0 (by omega)]; exact hq109.2) | (rw [rLine_1 (by omega)]; exact hq117.2) | (rw [rLine_2 (by omega)]; exact hq125.2) | (rw [rLine_3 (by omega)]; exact hq133.2) | (rw [rLine_4 (by omega)]; exact hq141.2) | (rw [rLine_5 (by omega)]; exact hq149.2) | (rw [rLine_6 (by omega)]; exact hq157.2) | (rw [hRX.1]; exact PoC.bad (rLine_7 (by omega)) (by decide) (by rw [eT1]; exact hRX.2.1.1) (by rw [eT1]; exact hRX.2.1.2.trans hT5))) (by first | exact ik.tr hfk109 | exact ik.tr hfk117 | exact ik.tr hfk125 | exact ik.tr hfk133 | exact ik.tr hfk141 | exact ik.tr hfk149 | exact ik.tr hfk157 | exact ik.tw hfX (by decide)) )
  exact (L40 _ 0 v35 (((((hfv3).up (r := t) hom3 ht (by decide)).up (r := t) hom3 ht (by decide)).tr hom3 hfr28 (by decide)).tr hom3 hfr35 (by decide)) (hH35) (by omega) (⟨941, rd0, hRC0, rfl, by show _ - 0 < ((941 : Nat) : Int); omega, by decide, by show (2 * 0 : Int) ≤ 0; decide⟩) ((((FrK.rf.ot ht (by decide)).ot ht (by decide)).tw hfr28 (by decide)).tw hfr35 (by decide)) (Nat.lt_succ_self _))
