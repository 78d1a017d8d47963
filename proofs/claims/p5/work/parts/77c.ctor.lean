def PaI (n t o : Int) (ω : Rw) (v ρ : Mv) (Z : Mz) (i : Nat) (ω' : Rw) (v' ρ' : Mv) (Z' : Mz) : Prop := Z'.2.2 = n + 1 + 5 * i ∧ Old n t ω v ρ Z ω' v' ρ' Z' ∧ HT ω' v' ρ' Z' ∧ Z'.1 t = 3 ∧ Z'.2.1 t = 0 ∧ ω' t = 0 ∧ (∀ k, v' t k = 0) ∧ ρ' t 0 = n ∧ ω' n = 0 ∧ Z'.1 n = 17 ∧ Z'.2.1 n = 8 ∧ (∀ j, 0 ≤ j → j < (i : Int) → ω' (ρ' n j) = 66) ∧ ω' o = 5
set_option maxHeartbeats 4000000 in
set_option maxRecDepth 100000 in
theorem c_X3_init (g : Gp) (ω : Rw) (v ρ : Mv) (Z : Mz) (hH : HT ω v ρ Z) (t : Int) (ht : ω t = 0) (htk : Z.1 t = 3) (htl : Z.2.1 t = 0) (ht4 : 4 ≤ t) (n : Int) (hn : Z.2.2 = n) (htn : t < n) (hv0 : ∀ k, v t k = 0) (hr0 : ∀ k, ρ t k = -1) (o : Int) (ho : ω o = 5) : Ok g 4 41 232 F_X3_init [(2, t), (2, o)] v ρ Z (fun o9 v' ρ' Z' => o9 = none ∧ Z'.2.2 = n + 41 ∧ ∃ ω' : Rw, Old n t ω v ρ Z ω' v' ρ' Z' ∧ ω' t = 27 ∧ HT ω' v' ρ' Z') := by
  refine Ok.of mo_X3_init (Nat.le_of_ble_eq_true rfl) ?_
  intro X hX hRm hxn hQ
  show wp g X F_X3_init 0 0 0 [(2, t), (2, o), (3, 0)] [] v ρ Z
  have hlt_o : o < n := by have := hH.lt ho (by decide); omega
  have L : ∀ (m i : Nat) (ω1 : Rw) (v1 ρ1 : Mv) (Z1 : Mz), i + m = 8 → PaI n t o ω v ρ Z i ω1 v1 ρ1 Z1 → wp g X F_X3_init (1 + 5 * i) (8 + 28 * i) 15 [(2, t), (2, o), (0, (i : Int))] [] v1 ρ1 Z1 := by
    intro m
    induction m with
    | zero =>
      intro i ω1 v1 ρ1 Z1 hi hP
      obtain ⟨p1, p2, p3, p4, p5, p6, p7, p8, p9, p10, p11, p12, p13⟩ := hP
      have ei : i = 8 := by omega
      subst ei
      refine r_iload_n (pc := 15) hX 8 rfl rfl ?_
      refine r_bipush (pc := 16) hX 9 rfl (by decide) ?_
      refine r_icmp_ge (pc := 18) hX 10 (tgt := 41) rfl (by decide) (by decide) (by decide) (fun _ => ?_) (fun h => absurd (by decide) h)
      have hA : HT (setR ω1 n 28) v1 ρ1 Z1 := p3.add p9 ⟨by omega, by omega, by rw [p10]; rfl, by rw [p11]; rfl, (fun k a b hh => by cases hh), (fun k e hh => by
        obtain ⟨k0, k1, rfl⟩ := rfA28 hh
        have z := p12 k k0 (by omega)
        rw [setR_ne (fun q => by rw [q, p9] at z; exact absurd z (by decide))]; exact z), (fun k e hh => by cases hh)⟩
      have ht2 : setR ω1 n 28 t = 0 := by rw [setR_ne (by omega)]; exact p6
      have hB : HT (setR (setR ω1 n 28) t 27) v1 ρ1 Z1 := hA.add ht2 ⟨ht4, by omega, by rw [p4]; rfl, by rw [p5]; rfl, (fun k a b hh => by
        obtain ⟨rfl, rfl, rfl⟩ := rgL27 hh
        rw [p7]; decide), (fun k e hh => by
        obtain ⟨rfl, rfl⟩ := rfL27 hh
        rw [p8, setR_ne (by omega)]; exact setR_s), (fun k e hh => by cases hh)⟩
      exact r_vret (pc := 41) hX 21 hQ rfl rfl (Nat.le_of_ble_eq_true rfl) (Nat.le_of_ble_eq_true rfl) ⟨rfl, by omega, _, (p2.setN (r := n) (c := 28) (by omega)).set, setR_s, hB⟩
    | succ m ih =>
      intro i ω1 v1 ρ1 Z1 hi hP
      obtain ⟨p1, p2, p3, p4, p5, p6, p7, p8, p9, p10, p11, p12, p13⟩ := hP
      obtain ⟨w, hw⟩ : ∃ w : Int, w = n + 1 + 5 * i := ⟨_, rfl⟩
      refine r_iload_n (pc := 15) hX 8 rfl rfl ?_
      refine r_bipush (pc := 16) hX 9 rfl (by decide) ?_
      refine r_icmp_ge (pc := 18) hX 10 (tgt := 41) rfl (by decide) ⟨by omega, by omega⟩ (by decide) (fun h => absurd h (by omega)) (fun _ => ?_)
      refine r_aload_n (pc := 21) hX 11 rfl rfl ?_
      refine r_getR (q := n) (pc := 22) hX 12 rfl fl_X3_13 rfl p4 p8 ?_
      refine r_iload_n (pc := 25) hX 13 rfl rfl ?_
      refine r_newX (K := 9) (q := (RX9, TX9, 7)) (n := w) hX 14 (by omega) rfl rfl cl_X3_11 in_X9 iz_X9 (by omega) (by rw [hRm]; show 1 + 5 * i + 1 ≤ 41; omega) (by rw [hRm]; show 8 + 28 * i + 7 ≤ 232; omega) (fun v2 ρ2 Z2 hal => ?_)
      have hn2 : Z2.2.2 = w + 1 := hal.1
      have hH2 : HT ω1 v2 ρ2 Z2 := p3.al (by omega) (by omega) hal
      have hz : ω1 w = 0 := p3.z0 (by omega)
      have hO2 : Old n t ω v ρ Z ω1 v2 ρ2 Z2 := p2.al0 hal (by omega)
      obtain ⟨at1, at2, at3, at4⟩ := hal.2.2.2.2.2 t (by omega)
      obtain ⟨an1, an2, an3, an4⟩ := hal.2.2.2.2.2 n (by omega)
      refine r_dup (pc := 29) hX 15 rfl (show (2 : Nat) ≠ 1 by decide) ?_
      refine r_aload_n (pc := 30) hX 16 rfl rfl ?_
      refine r_callI (as := [(2, o)]) (st := [(2, w), (0, (i : Int)), (2, n)]) (pc := 31) hX 17 rfl mo_X9_init rfl rfl ml_X3_17 im_X9_init (c_X9_initB g ω1 v2 ρ2 Z2 hH2 w hz hal.2.1 hal.2.2.1 (by omega) (w + 1) hn2 (by omega) hal.2.2.2.1 hal.2.2.2.2.1 o p13) rfl (by omega) (by rw [hRm]; exact ⟨Nat.le_of_ble_eq_true rfl, Nat.le_of_ble_eq_true rfl⟩) (by rw [hRm]; exact ⟨by show 1 + 5 * i + 1 + 4 ≤ 41; omega, by show 8 + 28 * i + 7 + 21 ≤ 232; omega⟩) (Nat.le_of_ble_eq_true rfl) (fun o9 v3 ρ3 Z3 hq9 _ => ?_)
      obtain ⟨rfl, hn3, ω3, hct, hT, hH3⟩ := hq9
      obtain ⟨bt0, bt1, bt2, bt3, bt4⟩ := hct t (by omega) (by omega)
      obtain ⟨bn0, bn1, bn2, bn3, bn4⟩ := hct n (by omega) (by omega)
      have hz3 : ω3 n = 0 := bn0.trans p9
      have hO3 : Old n t ω v ρ Z ω3 v3 ρ3 Z3 := hO2.ct hct (by omega) (Or.inr (by omega))
      have hk3 : Z3.1 n = 17 := by rw [bn3, an3]; exact p10
      have hl3 : Z3.2.1 n = 8 := by rw [bn4, an4]; exact p11
      show wp g X F_X3_init (1 + 5 * i + 1 + 4) (8 + 28 * i + 7 + 21) 34 [(2, t), (2, o), (0, (i : Int))] [(2, w), (0, (i : Int)), (2, n)] v3 ρ3 Z3
      refine r_aast (pc := 34) hX 18 17 9 rfl hk3 (by decide) (by decide) rfl rfl (by omega) (by omega) (by rw [hl3]; omega) (Or.inr (hH3.kd hT (by decide))) ?_
      refine r_iinc (ls' := [(2, t), (2, o), (0, (i : Int) + 1)]) (pc := 35) hX 19 rfl rfl (by decide) rfl ?_
      refine r_goto (pc := 38) hX 20 (tgt := 15) rfl (by decide) ?_
      have e1 : 1 + 5 * i + 1 + 4 = 1 + 5 * (i + 1) := by omega
      have e2 : 8 + 28 * i + 7 + 21 = 8 + 28 * (i + 1) := by omega
      have e3 : ((i : Int) + 1) = ((i + 1 : Nat) : Int) := by omega
      rw [e1, e2, e3]
      refine ih (i + 1) ω3 v3 (up ρ3 n (i : Int) w) Z3 (by omega) ⟨by omega, hO3.putr (Or.inr (by omega)), hH3.uzr hz3, by rw [bt3, at3]; exact p4, by rw [bt4, at4]; exact p5, bt0.trans p6, fun k => by rw [bt1, at1]; exact p7 k, by rw [up_r (by omega), bt2, at2]; exact p8, hz3, hk3, hl3, fun j j0 j1 => ?_, ?_⟩
      · by_cases e : j = (i : Int)
        · subst e; rw [up_s]; exact hT
        · rw [up_k e, bn2, an2]
          have z := p12 j j0 (by omega)
          have lt := p3.lt z (by decide)
          rw [(hct (ρ1 n j) (by omega) (by omega)).1]; exact z
      · have lt := p3.lt p13 (by decide)
        rw [(hct o (by omega) (by omega)).1]; exact p13
  refine r_aload_n (pc := 0) hX 0 rfl rfl ?_
  refine r_objInit (pc := 1) hX 1 rfl (by omega) oi_X3 oi_in oi_cd (by rw [hRm]; exact Nat.le_of_ble_eq_true rfl) (by rw [hRm]; exact Nat.le_of_ble_eq_true rfl) rfl ?_
  refine r_aload_n (pc := 4) hX 2 rfl rfl ?_
  refine r_bipush (pc := 5) hX 3 rfl (by decide) ?_
  refine r_anewaX hX 4 17 8 (n := n) hn rfl rfl (by decide) (by decide) cl_X3_11 hX.2.2.2.2.2.2.1.2.2.2.1 (by decide) (by omega) (by rw [hRm]; exact Nat.le_of_ble_eq_true rfl) (by rw [hRm]; exact Nat.le_of_ble_eq_true rfl) (fun v2 ρ2 Z2 hal => ?_)
  have hH2 : HT ω v2 ρ2 Z2 := hH.al hn (by omega) hal
  obtain ⟨at1, at2, at3, at4⟩ := hal.2.2.2.2.2 t (by omega)
  have hO2 : Old n t ω v ρ Z ω v2 ρ2 Z2 := Old.rf.al0 hal (by omega)
  show wp g X F_X3_init 1 8 10 [(2, t), (2, o), (3, 0)] [(2, n), (2, t)] v2 ρ2 Z2
  refine r_putRF (K := 3) (k := 0) (pc := 10) hX 5 rfl rfl (by decide) fw_X3_13 rfl rfl rfl rfl (at3.trans htk) ht4 ?_
  refine r_iconst (pc := 13) hX 6 rfl ?_
  refine r_istore_n (ls' := [(2, t), (2, o), (0, 0)]) (pc := 14) hX 7 rfl (by decide) rfl ?_
  exact L 8 0 ω v2 (up ρ2 t 0 n) Z2 rfl ⟨by have := hal.1; omega, hO2.putr (Or.inl rfl), hH2.uzr ht, at3.trans htk, at4.trans htl, ht, fun k => by rw [at1]; exact hv0 k, up_s _ _ _ _, hH.z0 (by omega), hal.2.1, hal.2.2.1, fun j a b => by omega, ho⟩
