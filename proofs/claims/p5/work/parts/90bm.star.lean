section Starts
variable {ω1 ω' : Rw} {v1 v' ρ1 ρ' : Mv} {Z1 Z' : Mz} {t m o L i : Int} {s : Rd}
theorem inW_0 {c : Nat} (h : inW c = true) : c ≠ 0 := fun e => by rw [e] at h; cases h
theorem RcI.old (h : RcI v1 ρ1 o L i s) (hH : HT ω1 v1 ρ1 Z1) (ho : ω1 o = 5) (hm : Z1.2.2 = m) (ht : ω1 t = 0) (hO : Old m t ω1 v1 ρ1 Z1 ω' v' ρ' Z') : RcI v' ρ' o L i s := by
  have ol : ∀ r c, ω1 r = c → c ≠ 0 → v' r = v1 r ∧ ρ' r = ρ1 r := fun r c a b => by
    have z := hO r (by rw [← hm]; exact hH.lt a b) (fun e => b (by rw [← a, e, ht]))
    exact ⟨z.2.1, z.2.2.1⟩
  exact h.frB hH ho hm (fun r _ hr => (ol r _ rfl (inW_0 hr)).1) (ol o 5 ho (by decide)).2 (ol (ρ1 o 5) 12 (hH.rf ho (by decide) rfl) (by decide)).2
/-- while the object is made: k fields are -/
def StJ (k : Nat) (v1 ρ1 : Mv) (t : Int) : Prop := (5 ≤ k → RcI v1 ρ1 (ρ1 (ρ1 t 4) 0) 0 0 rd0) ∧ (7 ≤ k → v1 (ρ1 t 6) 1 = 0) ∧ (12 ≤ k → TrD ρ1 t) ∧ (3 ≤ k → ρ1 (ρ1 t 2) 0 = ρ1 t 0) ∧ (4 ≤ k → ρ1 (ρ1 t 3) 0 = ρ1 t 0) ∧ (1 ≤ k → v1 (ρ1 t 0) 9 = 0)
theorem StJ.next {k : Nat} (h : StJ k v1 ρ1 t) (hH : HT ω1 v1 ρ1 Z1) (hm : Z1.2.2 = m) (ht : ω1 t = 0) (hro : ∀ j d, 0 ≤ j → j < (k : Int) → rfO 1 j = some d → ω1 (ρ1 t j) = d) (hO : Old m t ω1 v1 ρ1 Z1 ω' v' ρ' Z') (hrow : ∀ j, j < (k : Int) → ρ' t j = ρ1 t j)
    (s4 : k = 4 → RcI v' ρ' (ρ' (ρ' t 4) 0) 0 0 rd0) (s6 : k = 6 → v' (ρ' t 6) 1 = 0) (s11 : k = 11 → TrD ρ' t) (s2 : k = 2 → ρ' (ρ' t 2) 0 = ρ' t 0) (s3 : k = 3 → ρ' (ρ' t 3) 0 = ρ' t 0) (s0 : k = 0 → v' (ρ' t 0) 9 = 0) : StJ (k + 1) v' ρ' t := by
  have ol : ∀ r c, ω1 r = c → c ≠ 0 → v' r = v1 r ∧ ρ' r = ρ1 r := fun r c a b => by
    have z := hO r (by rw [← hm]; exact hH.lt a b) (fun e => b (by rw [← a, e, ht]))
    exact ⟨z.2.1, z.2.2.1⟩
  refine ⟨fun hk => ?_, fun hk => ?_, fun hk => ?_, fun hk => ?_, fun hk => ?_, fun hk => ?_⟩
  · by_cases e : k = 4
    · exact s4 e
    · have w22 : ω1 (ρ1 t 4) = 22 := hro 4 22 (by decide) (by omega) rfl
      have w5 : ω1 (ρ1 (ρ1 t 4) 0) = 5 := hH.rf w22 (by decide) rfl
      rw [hrow 4 (by omega), (ol _ _ w22 (by decide)).2]
      exact (h.1 (by omega)).old hH w5 hm ht hO
  · by_cases e : k = 6
    · exact s6 e
    · have w27 : ω1 (ρ1 t 6) = 27 := hro 6 27 (by decide) (by omega) rfl
      rw [hrow 6 (by omega), (ol _ _ w27 (by decide)).1]
      exact h.2.1 (by omega)
  · by_cases e : k = 11
    · exact s11 e
    · have w27 : ω1 (ρ1 t 6) = 27 := hro 6 27 (by decide) (by omega) rfl
      have w28 : ω1 (ρ1 (ρ1 t 6) 0) = 28 := hH.rf w27 (by decide) rfl
      have w60 : ω1 (ρ1 t 11) = 60 := hro 11 60 (by decide) (by omega) rfl
      have z := h.2.2.1 (by omega)
      unfold TrD at z ⊢
      rw [hrow 6 (by omega), hrow 11 (by omega), hrow 5 (by omega), (ol _ _ w27 (by decide)).2, (ol _ _ w28 (by decide)).2, (ol _ _ w60 (by decide)).2]
      exact z
  · by_cases e : k = 2
    · exact s2 e
    · have w15 : ω1 (ρ1 t 2) = 15 := hro 2 15 (by decide) (by omega) rfl
      rw [hrow 2 (by omega), hrow 0 (by omega), (ol _ _ w15 (by decide)).2]
      exact h.2.2.2.1 (by omega)
  · by_cases e : k = 3
    · exact s3 e
    · have w21 : ω1 (ρ1 t 3) = 21 := hro 3 21 (by decide) (by omega) rfl
      rw [hrow 3 (by omega), hrow 0 (by omega), (ol _ _ w21 (by decide)).2]
      exact h.2.2.2.2.1 (by omega)
  · by_cases e : k = 0
    · exact s0 e
    · have w2 : ω1 (ρ1 t 0) = 2 := hro 0 2 (by decide) (by omega) rfl
      rw [hrow 0 (by omega), (ol _ _ w2 (by decide)).1]
      exact h.2.2.2.2.2 (by omega)
theorem TrD.s11 (hH : HT ω1 v1 ρ1 Z1) (hm : Z1.2.2 = m) (ht : ω1 t = 0) (hro : ∀ j d, 0 ≤ j → j < ((11 : Nat) : Int) → rfO 1 j = some d → ω1 (ρ1 t j) = d) (hO : Old m t ω1 v1 ρ1 Z1 ω' v' ρ' Z') (hrow : ∀ j, j < ((11 : Nat) : Int) → ρ' t j = ρ1 t j) (e11 : ρ' t 11 = m) (e0 : ρ' m 0 = m + 1) (e1 : ρ' m 1 = m + 6) : TrD ρ' t := by
  have ol : ∀ r c, ω1 r = c → c ≠ 0 → r < m ∧ ρ' r = ρ1 r := fun r c a b => by
    have z := hO r (by rw [← hm]; exact hH.lt a b) (fun e => b (by rw [← a, e, ht]))
    exact ⟨by rw [← hm]; exact hH.lt a b, z.2.2.1⟩
  have w27 : ω1 (ρ1 t 6) = 27 := hro 6 27 (by decide) (by decide) rfl
  have w28 : ω1 (ρ1 (ρ1 t 6) 0) = 28 := hH.rf w27 (by decide) rfl
  have w66 : ω1 (ρ1 t 5) = 66 := hro 5 66 (by decide) (by decide) rfl
  have ek : ∀ k, 0 ≤ k → k < 2 → m < ρ' m k := fun k a b => by
    have hk : k = 0 ∨ k = 1 := by omega
    rcases hk with rfl | rfl
    · rw [e0]; omega
    · rw [e1]; omega
  unfold TrD
  rw [hrow 6 (by decide), e11, hrow 5 (by decide), (ol _ _ w27 (by decide)).2, (ol _ _ w28 (by decide)).2]
  refine ⟨fun j k a b c d e => ?_, fun k a b e => ?_, ?_⟩
  · have z := (ol _ 66 (hH.rf w28 (by decide) (rf28 ⟨a, b⟩)) (by decide)).1
    have y := ek k c d
    omega
  · have z := (ol _ _ w66 (by decide)).1
    have y := ek k a b
    omega
  · rw [e0, e1]; omega
end Starts
set_option maxHeartbeats 4000000 in
set_option maxRecDepth 100000 in
theorem c_X9_initF (g : Gp) (ω : Rw) (v ρ : Mv) (Z : Mz) (hH : HT ω v ρ Z) (t : Int) (ht : ω t = 0) (htk : Z.1 t = 9) (htl : Z.2.1 t = 0) (ht4 : 4 ≤ t) (n : Int) (hn : Z.2.2 = n) (htn : t < n) (hv0 : ∀ k, v t k = 0) (hr0 : ∀ k, ρ t k = -1) (o : Int) (ho : ω o = 5) : Ok g 2 4 21 F_X9_init [(2, t), (2, o)] v ρ Z (fun o9 v' ρ' Z' => o9 = none ∧ Z'.2.2 = n + 4 ∧ ∃ ω' : Rw, Old n t ω v ρ Z ω' v' ρ' Z' ∧ ω' t = 22 ∧ HT ω' v' ρ' Z' ∧ ρ' t 0 = o) := by
  refine Ok.of mo_X9_init (Nat.le_of_ble_eq_true rfl) ?_
  intro X hX hRm hxn hQ
  show wp g X F_X9_init 0 0 0 [(2, t), (2, o)] [] v ρ Z
  have hold0 : Old n t ω v ρ Z ω v ρ Z := Old.rf
  have hlt_o : o < n := by have := hH.lt ho (by decide); omega
  refine r_aload_n (pc := 0) hX 0 rfl rfl ?_
  refine r_objInit (pc := 1) hX 1 rfl (by omega) oi_X9 oi_in oi_cd (by rw [hRm]; exact Nat.le_of_ble_eq_true rfl) (by rw [hRm]; exact Nat.le_of_ble_eq_true rfl) rfl ?_
  refine r_aload_n (pc := 4) hX 2 rfl rfl ?_
  refine r_bipush (pc := 5) hX 3 rfl (by decide) ?_
  refine r_newaX hX 4 13 12 (n := n) hn rfl rfl (by decide) (by decide) ac_int (by decide) (by omega) (by rw [hRm]; exact Nat.le_of_ble_eq_true rfl) (by rw [hRm]; exact Nat.le_of_ble_eq_true rfl) (fun v_2 ρ_3 Z_4 hal_1 => ?_)
  have hn_5 : Z_4.2.2 = (n + 1) := by have := hal_1.1; omega
  obtain ⟨ω_6, ho_7, hw_8, hH_9⟩ := hH.alR hn (by omega) 23 hal_1 rfl rfl (fun k a b h => by cases h; decide) (fun _ => rfl)
  replace ho : ω_6 o = 5 := (ho_7 o (by have := hH.lt ho (by decide); omega)).trans ho
  replace ht : ω_6 t = 0 := (ho_7 t (by omega)).trans ht
  replace htk : Z_4.1 t = 9 := ((hal_1.2.2.2.2.2 t (by omega)).2.2.1).trans htk
  replace htl : Z_4.2.1 t = 0 := ((hal_1.2.2.2.2.2 t (by omega)).2.2.2).trans htl
  have hold_10 : Old n t ω v ρ Z ω_6 v_2 ρ_3 Z_4 := hold0.al ho_7 hal_1 (by omega)
  show wp g X F_X9_init 1 12 9 [(2, t), (2, o)] [(2, n), (2, t)] v_2 ρ_3 Z_4
  refine r_putRF (K := 9) (k := 3) (pc := 9) hX 5 rfl rfl (by decide) fw_X9_9 rfl rfl rfl rfl htk ht4 ?_
  have hH_11 : HT ω_6 v_2 (up ρ_3 t 3 n) Z_4 := hH_9.uzr ht
  have hold_12 : Old n t ω v ρ Z ω_6 v_2 (up ρ_3 t 3 n) Z_4 := hold_10.putr (Or.inl rfl)
  show wp g X F_X9_init 1 12 12 [(2, t), (2, o)] [] v_2 (up ρ_3 t 3 n) Z_4
  refine r_aload_n (pc := 12) hX 6 rfl rfl ?_
  refine r_iconst (pc := 13) hX 7 rfl ?_
  refine r_newaX hX 8 13 3 (n := (n + 1)) hn_5 rfl rfl (by decide) (by decide) ac_int (by decide) (by omega) (by rw [hRm]; exact Nat.le_of_ble_eq_true rfl) (by rw [hRm]; exact Nat.le_of_ble_eq_true rfl) (fun v_14 ρ_15 Z_16 hal_13 => ?_)
  have hn_17 : Z_16.2.2 = (n + 2) := by have := hal_13.1; omega
  obtain ⟨ω_18, ho_19, hw_20, hH_21⟩ := hH_11.alR hn_5 (by omega) 24 hal_13 rfl rfl (fun k a b h => by cases h; decide) (fun _ => rfl)
  replace ho : ω_18 o = 5 := (ho_19 o (by have := hH_11.lt ho (by decide); omega)).trans ho
  replace hw_8 : ω_18 n = 23 := (ho_19 n (by have := hH_11.lt hw_8 (by decide); omega)).trans hw_8
  replace ht : ω_18 t = 0 := (ho_19 t (by omega)).trans ht
  replace htk : Z_16.1 t = 9 := ((hal_13.2.2.2.2.2 t (by omega)).2.2.1).trans htk
  replace htl : Z_16.2.1 t = 0 := ((hal_13.2.2.2.2.2 t (by omega)).2.2.2).trans htl
  have hold_22 : Old n t ω v ρ Z ω_18 v_14 ρ_15 Z_16 := hold_12.al ho_19 hal_13 (by omega)
  clear hn_5
  show wp g X F_X9_init 2 15 16 [(2, t), (2, o)] [(2, (n + 1)), (2, t)] v_14 ρ_15 Z_16
  refine r_dup (pc := 16) hX 9 rfl (show (2 : Nat) ≠ 1 by decide) ?_
  refine r_iconst (pc := 17) hX 10 rfl ?_
  refine r_iconst (pc := 18) hX 11 rfl ?_
  refine e_iast (n := 3) (pc := 19) hX 12 rfl (hH_21.kd hw_20 (by decide)) (hH_21.ln hw_20 (by decide)) (by omega) (by decide) (by decide) ?_
  have hH_23 : HT ω_18 (up v_14 (n + 1) 0 (-1)) ρ_15 Z_16 := hH_21.upR hw_20 (by decide) rfl (by decide) (by decide)
  have hold_24 : Old n t ω v ρ Z ω_18 (up v_14 (n + 1) 0 (-1)) ρ_15 Z_16 := hold_22.put (Or.inr (by omega))
  refine r_dup (pc := 20) hX 13 rfl (show (2 : Nat) ≠ 1 by decide) ?_
  refine r_iconst (pc := 21) hX 14 rfl ?_
  refine r_iconst (pc := 22) hX 15 rfl ?_
  refine e_iast (n := 3) (pc := 23) hX 16 rfl (hH_23.kd hw_20 (by decide)) (hH_23.ln hw_20 (by decide)) (by omega) (by decide) (by decide) ?_
  have hH_25 : HT ω_18 (up (up v_14 (n + 1) 0 (-1)) (n + 1) 1 (-1)) ρ_15 Z_16 := hH_23.upR hw_20 (by decide) rfl (by decide) (by decide)
  have hold_26 : Old n t ω v ρ Z ω_18 (up (up v_14 (n + 1) 0 (-1)) (n + 1) 1 (-1)) ρ_15 Z_16 := hold_24.put (Or.inr (by omega))
  refine r_dup (pc := 24) hX 17 rfl (show (2 : Nat) ≠ 1 by decide) ?_
  refine r_iconst (pc := 25) hX 18 rfl ?_
  refine r_iconst (pc := 26) hX 19 rfl ?_
  refine e_iast (n := 3) (pc := 27) hX 20 rfl (hH_25.kd hw_20 (by decide)) (hH_25.ln hw_20 (by decide)) (by omega) (by decide) (by decide) ?_
  have hH_27 : HT ω_18 (up (up (up v_14 (n + 1) 0 (-1)) (n + 1) 1 (-1)) (n + 1) 2 (-1)) ρ_15 Z_16 := hH_25.upR hw_20 (by decide) rfl (by decide) (by decide)
  have hold_28 : Old n t ω v ρ Z ω_18 (up (up (up v_14 (n + 1) 0 (-1)) (n + 1) 1 (-1)) (n + 1) 2 (-1)) ρ_15 Z_16 := hold_26.put (Or.inr (by omega))
  refine r_putRF (K := 9) (k := 4) (pc := 28) hX 21 rfl rfl (by decide) fw_X9_15 rfl rfl rfl rfl htk ht4 ?_
  have hH_29 : HT ω_18 (up (up (up v_14 (n + 1) 0 (-1)) (n + 1) 1 (-1)) (n + 1) 2 (-1)) (up ρ_15 t 4 (n + 1)) Z_16 := hH_27.uzr ht
  have hold_30 : Old n t ω v ρ Z ω_18 (up (up (up v_14 (n + 1) 0 (-1)) (n + 1) 1 (-1)) (n + 1) 2 (-1)) (up ρ_15 t 4 (n + 1)) Z_16 := hold_28.putr (Or.inl rfl)
  show wp g X F_X9_init 2 15 31 [(2, t), (2, o)] [] (up (up (up v_14 (n + 1) 0 (-1)) (n + 1) 1 (-1)) (n + 1) 2 (-1)) (up ρ_15 t 4 (n + 1)) Z_16
  refine r_aload_n (pc := 31) hX 22 rfl rfl ?_
  refine r_iconst (pc := 32) hX 23 rfl ?_
  refine r_newaX hX 24 16 3 (n := (n + 2)) hn_17 rfl rfl (by decide) (by decide) ac_boolean (by decide) (by omega) (by rw [hRm]; exact Nat.le_of_ble_eq_true rfl) (by rw [hRm]; exact Nat.le_of_ble_eq_true rfl) (fun v_32 ρ_33 Z_34 hal_31 => ?_)
  have hn_35 : Z_34.2.2 = (n + 3) := by have := hal_31.1; omega
  obtain ⟨ω_36, ho_37, hw_38, hH_39⟩ := hH_29.alR hn_17 (by omega) 25 hal_31 rfl rfl (fun k a b h => by cases h) (fun _ => rfl)
  replace ho : ω_36 o = 5 := (ho_37 o (by have := hH_29.lt ho (by decide); omega)).trans ho
  replace hw_8 : ω_36 n = 23 := (ho_37 n (by have := hH_29.lt hw_8 (by decide); omega)).trans hw_8
  replace hw_20 : ω_36 (n + 1) = 24 := (ho_37 (n + 1) (by have := hH_29.lt hw_20 (by decide); omega)).trans hw_20
  replace ht : ω_36 t = 0 := (ho_37 t (by omega)).trans ht
  replace htk : Z_34.1 t = 9 := ((hal_31.2.2.2.2.2 t (by omega)).2.2.1).trans htk
  replace htl : Z_34.2.1 t = 0 := ((hal_31.2.2.2.2.2 t (by omega)).2.2.2).trans htl
  have hold_40 : Old n t ω v ρ Z ω_36 v_32 ρ_33 Z_34 := hold_30.al ho_37 hal_31 (by omega)
  clear hn_17
  show wp g X F_X9_init 3 18 35 [(2, t), (2, o)] [(2, (n + 2)), (2, t)] v_32 ρ_33 Z_34
  refine r_putRF (K := 9) (k := 5) (pc := 35) hX 25 rfl rfl (by decide) fw_X9_18 rfl rfl rfl rfl htk ht4 ?_
  have hH_41 : HT ω_36 v_32 (up ρ_33 t 5 (n + 2)) Z_34 := hH_39.uzr ht
  have hold_42 : Old n t ω v ρ Z ω_36 v_32 (up ρ_33 t 5 (n + 2)) Z_34 := hold_40.putr (Or.inl rfl)
  show wp g X F_X9_init 3 18 38 [(2, t), (2, o)] [] v_32 (up ρ_33 t 5 (n + 2)) Z_34
  refine r_aload_n (pc := 38) hX 26 rfl rfl ?_
  refine r_iconst (pc := 39) hX 27 rfl ?_
  refine r_newaX hX 28 13 3 (n := (n + 3)) hn_35 rfl rfl (by decide) (by decide) ac_int (by decide) (by omega) (by rw [hRm]; exact Nat.le_of_ble_eq_true rfl) (by rw [hRm]; exact Nat.le_of_ble_eq_true rfl) (fun v_44 ρ_45 Z_46 hal_43 => ?_)
  have hn_47 : Z_46.2.2 = (n + 4) := by have := hal_43.1; omega
  obtain ⟨ω_48, ho_49, hw_50, hH_51⟩ := hH_41.alR hn_35 (by omega) 26 hal_43 rfl rfl (fun k a b h => by cases h; decide) (fun _ => rfl)
  replace ho : ω_48 o = 5 := (ho_49 o (by have := hH_41.lt ho (by decide); omega)).trans ho
  replace hw_8 : ω_48 n = 23 := (ho_49 n (by have := hH_41.lt hw_8 (by decide); omega)).trans hw_8
  replace hw_20 : ω_48 (n + 1) = 24 := (ho_49 (n + 1) (by have := hH_41.lt hw_20 (by decide); omega)).trans hw_20
  replace hw_38 : ω_48 (n + 2) = 25 := (ho_49 (n + 2) (by have := hH_41.lt hw_38 (by decide); omega)).trans hw_38
  replace ht : ω_48 t = 0 := (ho_49 t (by omega)).trans ht
  replace htk : Z_46.1 t = 9 := ((hal_43.2.2.2.2.2 t (by omega)).2.2.1).trans htk
  replace htl : Z_46.2.1 t = 0 := ((hal_43.2.2.2.2.2 t (by omega)).2.2.2).trans htl
  have hold_52 : Old n t ω v ρ Z ω_48 v_44 ρ_45 Z_46 := hold_42.al ho_49 hal_43 (by omega)
  clear hn_35
  show wp g X F_X9_init 4 21 42 [(2, t), (2, o)] [(2, (n + 3)), (2, t)] v_44 ρ_45 Z_46
  refine r_putRF (K := 9) (k := 6) (pc := 42) hX 29 rfl rfl (by decide) fw_X9_22 rfl rfl rfl rfl htk ht4 ?_
  have hH_53 : HT ω_48 v_44 (up ρ_45 t 6 (n + 3)) Z_46 := hH_51.uzr ht
  have hold_54 : Old n t ω v ρ Z ω_48 v_44 (up ρ_45 t 6 (n + 3)) Z_46 := hold_52.putr (Or.inl rfl)
  show wp g X F_X9_init 4 21 45 [(2, t), (2, o)] [] v_44 (up ρ_45 t 6 (n + 3)) Z_46
  refine r_aload_n (pc := 45) hX 30 rfl rfl ?_
  refine r_aload_n (pc := 46) hX 31 rfl rfl ?_
  refine r_putR (pc := 47) hX 32 rfl fl_X9_25 rfl (fun _ h => by cases h; rfl) htk ht4 ?_
  have hH_55 : HT ω_48 v_44 (up (up ρ_45 t 6 (n + 3)) t 0 o) Z_46 := hH_53.uzr ht
  have hold_56 : Old n t ω v ρ Z ω_48 v_44 (up (up ρ_45 t 6 (n + 3)) t 0 o) Z_46 := hold_54.putr (Or.inl rfl)
  show wp g X F_X9_init 4 21 50 [(2, t), (2, o)] [] v_44 (up (up ρ_45 t 6 (n + 3)) t 0 o) Z_46
  have hrg : ∀ k a b, rgO 22 k = some (a, b) → a ≤ v_44 t k ∧ v_44 t k ≤ b := fun k a b hh => by
    rcases rgL22 hh with ⟨rfl, rfl, rfl⟩
    · rw [show v_44 t 2 = 0 from (congrFun (hal_43.2.2.2.2.2 t (by omega)).1 2).trans ((congrFun (hal_31.2.2.2.2.2 t (by omega)).1 2).trans ((up_r (by omega)).trans ((up_k (by decide)).trans ((up_k (by decide)).trans ((congrFun (hal_13.2.2.2.2.2 t (by omega)).1 2).trans ((congrFun (hal_1.2.2.2.2.2 t (by omega)).1 2).trans (hv0 2)))))))]; decide
  have hrf : ∀ k e, rfO 22 k = some e → setR ω_48 t 22 ((up (up ρ_45 t 6 (n + 3)) t 0 o) t k) = e := fun k e hh => by
    rcases rfL22 hh with ⟨rfl, rfl⟩ | ⟨rfl, rfl⟩ | ⟨rfl, rfl⟩ | ⟨rfl, rfl⟩ | ⟨rfl, rfl⟩
    · rw [show (up (up ρ_45 t 6 (n + 3)) t 0 o) t 0 = o from up_s _ _ _ _, setR_ne (by first | omega | exact fun q => by have z := ho; rw [q, ht] at z; exact absurd z (by decide))]; exact ho
    · rw [show (up (up ρ_45 t 6 (n + 3)) t 0 o) t 3 = n from (up_k (by decide)).trans ((up_k (by decide)).trans ((congrFun (hal_43.2.2.2.2.2 t (by omega)).2.1 3).trans ((up_k (by decide)).trans ((congrFun (hal_31.2.2.2.2.2 t (by omega)).2.1 3).trans ((up_k (by decide)).trans ((congrFun (hal_13.2.2.2.2.2 t (by omega)).2.1 3).trans (up_s _ _ _ _))))))), setR_ne (by first | omega | exact fun q => by have z := hw_8; rw [q, ht] at z; exact absurd z (by decide))]; exact hw_8
    · rw [show (up (up ρ_45 t 6 (n + 3)) t 0 o) t 4 = (n + 1) from (up_k (by decide)).trans ((up_k (by decide)).trans ((congrFun (hal_43.2.2.2.2.2 t (by omega)).2.1 4).trans ((up_k (by decide)).trans ((congrFun (hal_31.2.2.2.2.2 t (by omega)).2.1 4).trans (up_s _ _ _ _))))), setR_ne (by first | omega | exact fun q => by have z := hw_20; rw [q, ht] at z; exact absurd z (by decide))]; exact hw_20
    · rw [show (up (up ρ_45 t 6 (n + 3)) t 0 o) t 5 = (n + 2) from (up_k (by decide)).trans ((up_k (by decide)).trans ((congrFun (hal_43.2.2.2.2.2 t (by omega)).2.1 5).trans (up_s _ _ _ _))), setR_ne (by first | omega | exact fun q => by have z := hw_38; rw [q, ht] at z; exact absurd z (by decide))]; exact hw_38
    · rw [show (up (up ρ_45 t 6 (n + 3)) t 0 o) t 6 = (n + 3) from (up_k (by decide)).trans (up_s _ _ _ _), setR_ne (by first | omega | exact fun q => by have z := hw_50; rw [q, ht] at z; exact absurd z (by decide))]; exact hw_50
  have hrn : ∀ k e, rnO 22 k = some e → (up (up ρ_45 t 6 (n + 3)) t 0 o) t k < 0 ∨ setR ω_48 t 22 ((up (up ρ_45 t 6 (n + 3)) t 0 o) t k) = e := fun k e hh => by cases hh
  exact r_vret (pc := 50) hX 33 hQ rfl rfl (Nat.le_of_ble_eq_true rfl) (Nat.le_of_ble_eq_true rfl) ⟨rfl, by omega, setR ω_48 t 22, hold_56.set, setR_s, hH_55.add ht ⟨ht4, by omega, by rw [htk]; rfl, by rw [htl]; rfl, hrg, hrf, hrn⟩, (show (up (up ρ_45 t 6 (n + 3)) t 0 o) t 0 = o from up_s _ _ _ _)⟩
set_option maxHeartbeats 4000000 in
set_option maxRecDepth 100000 in
theorem c_X3_initF (g : Gp) (ω : Rw) (v ρ : Mv) (Z : Mz) (hH : HT ω v ρ Z) (t : Int) (ht : ω t = 0) (htk : Z.1 t = 3) (htl : Z.2.1 t = 0) (ht4 : 4 ≤ t) (n : Int) (hn : Z.2.2 = n) (htn : t < n) (hv0 : ∀ k, v t k = 0) (hr0 : ∀ k, ρ t k = -1) (o : Int) (ho : ω o = 5) : Ok g 4 41 232 F_X3_init [(2, t), (2, o)] v ρ Z (fun o9 v' ρ' Z' => o9 = none ∧ Z'.2.2 = n + 41 ∧ ∃ ω' : Rw, Old n t ω v ρ Z ω' v' ρ' Z' ∧ ω' t = 27 ∧ HT ω' v' ρ' Z' ∧ v' t 1 = 0) := by
  refine Ok.of mo_X3_init (Nat.le_of_ble_eq_true rfl) ?_
  intro X hX hRm hxn hQ
  show wp g X F_X3_init 0 0 0 [(2, t), (2, o), (3, 0)] [] v ρ Z
  have hlt_o : o < n := by have := hH.lt ho (by decide); omega
  have L : ∀ (m i : Nat) (ω1 : Rw) (v1 ρ1 : Mv) (Z1 : Mz), i + m = 8 → PaI n t o ω v ρ Z i ω1 v1 ρ1 Z1 → wp g X F_X3_init (1 + 5 * i) (8 + 28 * i) 15 [(2, t), (2, o), (0, (i : Int))] [] v1 ρ1 Z1 := by
    intro m
    induction m with
    | zero =>
      intro i ω1 v1 ρ1 Z1 hi hP
      obtain ⟨p1, p2, p3, p4, p5, p6, p7, p8, p9, p10, p11, p12, p13⟩ := hP
      have ei : i = 8 := by omega
      subst ei
      refine r_iload_n (pc := 15) hX 8 rfl rfl ?_
      refine r_bipush (pc := 16) hX 9 rfl (by decide) ?_
      refine r_icmp_ge (pc := 18) hX 10 (tgt := 41) rfl (by decide) (by decide) (by decide) (fun _ => ?_) (fun h => absurd (by decide) h)
      have hA : HT (setR ω1 n 28) v1 ρ1 Z1 := p3.add p9 ⟨by omega, by omega, by rw [p10]; rfl, by rw [p11]; rfl, (fun k a b hh => by cases hh), (fun k e hh => by
        obtain ⟨k0, k1, rfl⟩ := rfA28 hh
        have z := p12 k k0 (by omega)
        rw [setR_ne (fun q => by rw [q, p9] at z; exact absurd z (by decide))]; exact z), (fun k e hh => by cases hh)⟩
      have ht2 : setR ω1 n 28 t = 0 := by rw [setR_ne (by omega)]; exact p6
      have hB : HT (setR (setR ω1 n 28) t 27) v1 ρ1 Z1 := hA.add ht2 ⟨ht4, by omega, by rw [p4]; rfl, by rw [p5]; rfl, (fun k a b hh => by
        obtain ⟨rfl, rfl, rfl⟩ := rgL27 hh
        rw [p7]; decide), (fun k e hh => by
        obtain ⟨rfl, rfl⟩ := rfL27 hh
        rw [p8, setR_ne (by omega)]; exact setR_s), (fun k e hh => by cases hh)⟩
      exact r_vret (pc := 41) hX 21 hQ rfl rfl (Nat.le_of_ble_eq_true rfl) (Nat.le_of_ble_eq_true rfl) ⟨rfl, by omega, _, (p2.setN (r := n) (c := 28) (by omega)).set, setR_s, hB, p7 1⟩
    | succ m ih =>
      intro i ω1 v1 ρ1 Z1 hi hP
      obtain ⟨p1, p2, p3, p4, p5, p6, p7, p8, p9, p10, p11, p12, p13⟩ := hP
      obtain ⟨w, hw⟩ : ∃ w : Int, w = n + 1 + 5 * i := ⟨_, rfl⟩
      refine r_iload_n (pc := 15) hX 8 rfl rfl ?_
      refine r_bipush (pc := 16) hX 9 rfl (by decide) ?_
      refine r_icmp_ge (pc := 18) hX 10 (tgt := 41) rfl (by decide) ⟨by omega, by omega⟩ (by decide) (fun h => absurd h (by omega)) (fun _ => ?_)
      refine r_aload_n (pc := 21) hX 11 rfl rfl ?_
      refine r_getR (q := n) (pc := 22) hX 12 rfl fl_X3_13 rfl p4 p8 ?_
      refine r_iload_n (pc := 25) hX 13 rfl rfl ?_
      refine r_newX (K := 9) (q := (RX9, TX9, 7)) (n := w) hX 14 (by omega) rfl rfl cl_X3_11 in_X9 iz_X9 (by omega) (by rw [hRm]; show 1 + 5 * i + 1 ≤ 41; omega) (by rw [hRm]; show 8 + 28 * i + 7 ≤ 232; omega) (fun v2 ρ2 Z2 hal => ?_)
      have hn2 : Z2.2.2 = w + 1 := hal.1
      have hH2 : HT ω1 v2 ρ2 Z2 := p3.al (by omega) (by omega) hal
      have hz : ω1 w = 0 := p3.z0 (by omega)
      have hO2 : Old n t ω v ρ Z ω1 v2 ρ2 Z2 := p2.al0 hal (by omega)
      obtain ⟨at1, at2, at3, at4⟩ := hal.2.2.2.2.2 t (by omega)
      obtain ⟨an1, an2, an3, an4⟩ := hal.2.2.2.2.2 n (by omega)
      refine r_dup (pc := 29) hX 15 rfl (show (2 : Nat) ≠ 1 by decide) ?_
      refine r_aload_n (pc := 30) hX 16 rfl rfl ?_
      refine r_callI (as := [(2, o)]) (st := [(2, w), (0, (i : Int)), (2, n)]) (pc := 31) hX 17 rfl mo_X9_init rfl rfl ml_X3_17 im_X9_init (c_X9_initB g ω1 v2 ρ2 Z2 hH2 w hz hal.2.1 hal.2.2.1 (by omega) (w + 1) hn2 (by omega) hal.2.2.2.1 hal.2.2.2.2.1 o p13) rfl (by omega) (by rw [hRm]; exact ⟨Nat.le_of_ble_eq_true rfl, Nat.le_of_ble_eq_true rfl⟩) (by rw [hRm]; exact ⟨by show 1 + 5 * i + 1 + 4 ≤ 41; omega, by show 8 + 28 * i + 7 + 21 ≤ 232; omega⟩) (Nat.le_of_ble_eq_true rfl) (fun o9 v3 ρ3 Z3 hq9 _ => ?_)
      obtain ⟨rfl, hn3, ω3, hct, hT, hH3⟩ := hq9
      obtain ⟨bt0, bt1, bt2, bt3, bt4⟩ := hct t (by omega) (by omega)
      obtain ⟨bn0, bn1, bn2, bn3, bn4⟩ := hct n (by omega) (by omega)
      have hz3 : ω3 n = 0 := bn0.trans p9
      have hO3 : Old n t ω v ρ Z ω3 v3 ρ3 Z3 := hO2.ct hct (by omega) (Or.inr (by omega))
      have hk3 : Z3.1 n = 17 := by rw [bn3, an3]; exact p10
      have hl3 : Z3.2.1 n = 8 := by rw [bn4, an4]; exact p11
      show wp g X F_X3_init (1 + 5 * i + 1 + 4) (8 + 28 * i + 7 + 21) 34 [(2, t), (2, o), (0, (i : Int))] [(2, w), (0, (i : Int)), (2, n)] v3 ρ3 Z3
      refine r_aast (pc := 34) hX 18 17 9 rfl hk3 (by decide) (by decide) rfl rfl (by omega) (by omega) (by rw [hl3]; omega) (Or.inr (hH3.kd hT (by decide))) ?_
      refine r_iinc (ls' := [(2, t), (2, o), (0, (i : Int) + 1)]) (pc := 35) hX 19 rfl rfl (by decide) rfl ?_
      refine r_goto (pc := 38) hX 20 (tgt := 15) rfl (by decide) ?_
      have e1 : 1 + 5 * i + 1 + 4 = 1 + 5 * (i + 1) := by omega
      have e2 : 8 + 28 * i + 7 + 21 = 8 + 28 * (i + 1) := by omega
      have e3 : ((i : Int) + 1) = ((i + 1 : Nat) : Int) := by omega
      rw [e1, e2, e3]
      refine ih (i + 1) ω3 v3 (up ρ3 n (i : Int) w) Z3 (by omega) ⟨by omega, hO3.putr (Or.inr (by omega)), hH3.uzr hz3, by rw [bt3, at3]; exact p4, by rw [bt4, at4]; exact p5, bt0.trans p6, fun k => by rw [bt1, at1]; exact p7 k, by rw [up_r (by omega), bt2, at2]; exact p8, hz3, hk3, hl3, fun j j0 j1 => ?_, ?_⟩
      · by_cases e : j = (i : Int)
        · subst e; rw [up_s]; exact hT
        · rw [up_k e, bn2, an2]
          have z := p12 j j0 (by omega)
          have lt := p3.lt z (by decide)
          rw [(hct (ρ1 n j) (by omega) (by omega)).1]; exact z
      · have lt := p3.lt p13 (by decide)
        rw [(hct o (by omega) (by omega)).1]; exact p13
  refine r_aload_n (pc := 0) hX 0 rfl rfl ?_
  refine r_objInit (pc := 1) hX 1 rfl (by omega) oi_X3 oi_in oi_cd (by rw [hRm]; exact Nat.le_of_ble_eq_true rfl) (by rw [hRm]; exact Nat.le_of_ble_eq_true rfl) rfl ?_
  refine r_aload_n (pc := 4) hX 2 rfl rfl ?_
  refine r_bipush (pc := 5) hX 3 rfl (by decide) ?_
  refine r_anewaX hX 4 17 8 (n := n) hn rfl rfl (by decide) (by decide) cl_X3_11 hX.2.2.2.2.2.2.1.2.2.2.1 (by decide) (by omega) (by rw [hRm]; exact Nat.le_of_ble_eq_true rfl) (by rw [hRm]; exact Nat.le_of_ble_eq_true rfl) (fun v2 ρ2 Z2 hal => ?_)
  have hH2 : HT ω v2 ρ2 Z2 := hH.al hn (by omega) hal
  obtain ⟨at1, at2, at3, at4⟩ := hal.2.2.2.2.2 t (by omega)
  have hO2 : Old n t ω v ρ Z ω v2 ρ2 Z2 := Old.rf.al0 hal (by omega)
  show wp g X F_X3_init 1 8 10 [(2, t), (2, o), (3, 0)] [(2, n), (2, t)] v2 ρ2 Z2
  refine r_putRF (K := 3) (k := 0) (pc := 10) hX 5 rfl rfl (by decide) fw_X3_13 rfl rfl rfl rfl (at3.trans htk) ht4 ?_
  refine r_iconst (pc := 13) hX 6 rfl ?_
  refine r_istore_n (ls' := [(2, t), (2, o), (0, 0)]) (pc := 14) hX 7 rfl (by decide) rfl ?_
  exact L 8 0 ω v2 (up ρ2 t 0 n) Z2 rfl ⟨by have := hal.1; omega, hO2.putr (Or.inl rfl), hH2.uzr ht, at3.trans htk, at4.trans htl, ht, fun k => by rw [at1]; exact hv0 k, up_s _ _ _ _, hH.z0 (by omega), hal.2.1, hal.2.2.1, fun j a b => by omega, ho⟩
set_option maxHeartbeats 4000000 in
set_option maxRecDepth 100000 in
theorem c_X1_initF (g : Gp) (ω : Rw) (v ρ : Mv) (Z : Mz) (hH : HT ω v ρ Z) (t : Int) (ht : ω t = 0) (htk : Z.1 t = 1) (htl : Z.2.1 t = 0) (ht4 : 4 ≤ t) (n : Int) (hn : Z.2.2 = n) (htn : t < n) (hv0 : ∀ k, v t k = 0) (hr0 : ∀ k, ρ t k = -1) (o : Int) (ho : ω o = 2) : Ok g 2 3 120 F_X1_init [(2, t), (2, o)] v ρ Z (fun o9 v' ρ' Z' => o9 = none ∧ Z'.2.2 = n + 3 ∧ ∃ ω' : Rw, Old n t ω v ρ Z ω' v' ρ' Z' ∧ ω' t = 15 ∧ HT ω' v' ρ' Z' ∧ ρ' t 0 = o) := by
  refine Ok.of mo_X1_init (Nat.le_of_ble_eq_true rfl) ?_
  intro X hX hRm hxn hQ
  show wp g X F_X1_init 0 0 0 [(2, t), (2, o)] [] v ρ Z
  have hold0 : Old n t ω v ρ Z ω v ρ Z := Old.rf
  have hlt_o : o < n := by have := hH.lt ho (by decide); omega
  refine r_aload_n (pc := 0) hX 0 rfl rfl ?_
  refine r_objInit (pc := 1) hX 1 rfl (by omega) oi_X1 oi_in oi_cd (by rw [hRm]; exact Nat.le_of_ble_eq_true rfl) (by rw [hRm]; exact Nat.le_of_ble_eq_true rfl) rfl ?_
  refine r_aload_n (pc := 4) hX 2 rfl rfl ?_
  refine r_bipush (pc := 5) hX 3 rfl (by decide) ?_
  refine r_newaX hX 4 13 40 (n := n) hn rfl rfl (by decide) (by decide) ac_int (by decide) (by omega) (by rw [hRm]; exact Nat.le_of_ble_eq_true rfl) (by rw [hRm]; exact Nat.le_of_ble_eq_true rfl) (fun v_2 ρ_3 Z_4 hal_1 => ?_)
  have hn_5 : Z_4.2.2 = (n + 1) := by have := hal_1.1; omega
  obtain ⟨ω_6, ho_7, hw_8, hH_9⟩ := hH.alR hn (by omega) 16 hal_1 rfl rfl (fun k a b h => by cases h; decide) (fun _ => rfl)
  replace ho : ω_6 o = 2 := (ho_7 o (by have := hH.lt ho (by decide); omega)).trans ho
  replace ht : ω_6 t = 0 := (ho_7 t (by omega)).trans ht
  replace htk : Z_4.1 t = 1 := ((hal_1.2.2.2.2.2 t (by omega)).2.2.1).trans htk
  replace htl : Z_4.2.1 t = 0 := ((hal_1.2.2.2.2.2 t (by omega)).2.2.2).trans htl
  have hold_10 : Old n t ω v ρ Z ω_6 v_2 ρ_3 Z_4 := hold0.al ho_7 hal_1 (by omega)
  show wp g X F_X1_init 1 40 9 [(2, t), (2, o)] [(2, n), (2, t)] v_2 ρ_3 Z_4
  refine r_putRF (K := 1) (k := 1) (pc := 9) hX 5 rfl rfl (by decide) fw_X1_11 rfl rfl rfl rfl htk ht4 ?_
  have hH_11 : HT ω_6 v_2 (up ρ_3 t 1 n) Z_4 := hH_9.uzr ht
  have hold_12 : Old n t ω v ρ Z ω_6 v_2 (up ρ_3 t 1 n) Z_4 := hold_10.putr (Or.inl rfl)
  show wp g X F_X1_init 1 40 12 [(2, t), (2, o)] [] v_2 (up ρ_3 t 1 n) Z_4
  refine r_aload_n (pc := 12) hX 6 rfl rfl ?_
  refine r_bipush (pc := 13) hX 7 rfl (by decide) ?_
  refine r_newaX hX 8 13 40 (n := (n + 1)) hn_5 rfl rfl (by decide) (by decide) ac_int (by decide) (by omega) (by rw [hRm]; exact Nat.le_of_ble_eq_true rfl) (by rw [hRm]; exact Nat.le_of_ble_eq_true rfl) (fun v_14 ρ_15 Z_16 hal_13 => ?_)
  have hn_17 : Z_16.2.2 = (n + 2) := by have := hal_13.1; omega
  obtain ⟨ω_18, ho_19, hw_20, hH_21⟩ := hH_11.alR hn_5 (by omega) 17 hal_13 rfl rfl (fun k a b h => by cases h; decide) (fun _ => rfl)
  replace ho : ω_18 o = 2 := (ho_19 o (by have := hH_11.lt ho (by decide); omega)).trans ho
  replace hw_8 : ω_18 n = 16 := (ho_19 n (by have := hH_11.lt hw_8 (by decide); omega)).trans hw_8
  replace ht : ω_18 t = 0 := (ho_19 t (by omega)).trans ht
  replace htk : Z_16.1 t = 1 := ((hal_13.2.2.2.2.2 t (by omega)).2.2.1).trans htk
  replace htl : Z_16.2.1 t = 0 := ((hal_13.2.2.2.2.2 t (by omega)).2.2.2).trans htl
  have hold_22 : Old n t ω v ρ Z ω_18 v_14 ρ_15 Z_16 := hold_12.al ho_19 hal_13 (by omega)
  clear hn_5
  show wp g X F_X1_init 2 80 17 [(2, t), (2, o)] [(2, (n + 1)), (2, t)] v_14 ρ_15 Z_16
  refine r_putRF (K := 1) (k := 2) (pc := 17) hX 9 rfl rfl (by decide) fw_X1_15 rfl rfl rfl rfl htk ht4 ?_
  have hH_23 : HT ω_18 v_14 (up ρ_15 t 2 (n + 1)) Z_16 := hH_21.uzr ht
  have hold_24 : Old n t ω v ρ Z ω_18 v_14 (up ρ_15 t 2 (n + 1)) Z_16 := hold_22.putr (Or.inl rfl)
  show wp g X F_X1_init 2 80 20 [(2, t), (2, o)] [] v_14 (up ρ_15 t 2 (n + 1)) Z_16
  refine r_aload_n (pc := 20) hX 10 rfl rfl ?_
  refine r_bipush (pc := 21) hX 11 rfl (by decide) ?_
  refine r_newaX hX 12 13 40 (n := (n + 2)) hn_17 rfl rfl (by decide) (by decide) ac_int (by decide) (by omega) (by rw [hRm]; exact Nat.le_of_ble_eq_true rfl) (by rw [hRm]; exact Nat.le_of_ble_eq_true rfl) (fun v_26 ρ_27 Z_28 hal_25 => ?_)
  have hn_29 : Z_28.2.2 = (n + 3) := by have := hal_25.1; omega
  obtain ⟨ω_30, ho_31, hw_32, hH_33⟩ := hH_23.alR hn_17 (by omega) 18 hal_25 rfl rfl (fun k a b h => by cases h; decide) (fun _ => rfl)
  replace ho : ω_30 o = 2 := (ho_31 o (by have := hH_23.lt ho (by decide); omega)).trans ho
  replace hw_8 : ω_30 n = 16 := (ho_31 n (by have := hH_23.lt hw_8 (by decide); omega)).trans hw_8
  replace hw_20 : ω_30 (n + 1) = 17 := (ho_31 (n + 1) (by have := hH_23.lt hw_20 (by decide); omega)).trans hw_20
  replace ht : ω_30 t = 0 := (ho_31 t (by omega)).trans ht
  replace htk : Z_28.1 t = 1 := ((hal_25.2.2.2.2.2 t (by omega)).2.2.1).trans htk
  replace htl : Z_28.2.1 t = 0 := ((hal_25.2.2.2.2.2 t (by omega)).2.2.2).trans htl
  have hold_34 : Old n t ω v ρ Z ω_30 v_26 ρ_27 Z_28 := hold_24.al ho_31 hal_25 (by omega)
  clear hn_17
  show wp g X F_X1_init 3 120 25 [(2, t), (2, o)] [(2, (n + 2)), (2, t)] v_26 ρ_27 Z_28
  refine r_putRF (K := 1) (k := 3) (pc := 25) hX 13 rfl rfl (by decide) fw_X1_18 rfl rfl rfl rfl htk ht4 ?_
  have hH_35 : HT ω_30 v_26 (up ρ_27 t 3 (n + 2)) Z_28 := hH_33.uzr ht
  have hold_36 : Old n t ω v ρ Z ω_30 v_26 (up ρ_27 t 3 (n + 2)) Z_28 := hold_34.putr (Or.inl rfl)
  show wp g X F_X1_init 3 120 28 [(2, t), (2, o)] [] v_26 (up ρ_27 t 3 (n + 2)) Z_28
  refine r_aload_n (pc := 28) hX 14 rfl rfl ?_
  refine r_aload_n (pc := 29) hX 15 rfl rfl ?_
  refine r_putRF (K := 1) (k := 0) (pc := 30) hX 16 rfl rfl (by decide) fw_X1_21 rfl rfl rfl rfl htk ht4 ?_
  have hH_37 : HT ω_30 v_26 (up (up ρ_27 t 3 (n + 2)) t 0 o) Z_28 := hH_35.uzr ht
  have hold_38 : Old n t ω v ρ Z ω_30 v_26 (up (up ρ_27 t 3 (n + 2)) t 0 o) Z_28 := hold_36.putr (Or.inl rfl)
  show wp g X F_X1_init 3 120 33 [(2, t), (2, o)] [] v_26 (up (up ρ_27 t 3 (n + 2)) t 0 o) Z_28
  have hrg : ∀ k a b, rgO 15 k = some (a, b) → a ≤ v_26 t k ∧ v_26 t k ≤ b := fun k a b hh => by
    rcases rgL15 hh with ⟨rfl, rfl, rfl⟩
    · rw [show v_26 t 4 = 0 from (congrFun (hal_25.2.2.2.2.2 t (by omega)).1 4).trans ((congrFun (hal_13.2.2.2.2.2 t (by omega)).1 4).trans ((congrFun (hal_1.2.2.2.2.2 t (by omega)).1 4).trans (hv0 4)))]; decide
  have hrf : ∀ k e, rfO 15 k = some e → setR ω_30 t 15 ((up (up ρ_27 t 3 (n + 2)) t 0 o) t k) = e := fun k e hh => by
    rcases rfL15 hh with ⟨rfl, rfl⟩ | ⟨rfl, rfl⟩ | ⟨rfl, rfl⟩ | ⟨rfl, rfl⟩
    · rw [show (up (up ρ_27 t 3 (n + 2)) t 0 o) t 0 = o from up_s _ _ _ _, setR_ne (by first | omega | exact fun q => by have z := ho; rw [q, ht] at z; exact absurd z (by decide))]; exact ho
    · rw [show (up (up ρ_27 t 3 (n + 2)) t 0 o) t 1 = n from (up_k (by decide)).trans ((up_k (by decide)).trans ((congrFun (hal_25.2.2.2.2.2 t (by omega)).2.1 1).trans ((up_k (by decide)).trans ((congrFun (hal_13.2.2.2.2.2 t (by omega)).2.1 1).trans (up_s _ _ _ _))))), setR_ne (by first | omega | exact fun q => by have z := hw_8; rw [q, ht] at z; exact absurd z (by decide))]; exact hw_8
    · rw [show (up (up ρ_27 t 3 (n + 2)) t 0 o) t 2 = (n + 1) from (up_k (by decide)).trans ((up_k (by decide)).trans ((congrFun (hal_25.2.2.2.2.2 t (by omega)).2.1 2).trans (up_s _ _ _ _))), setR_ne (by first | omega | exact fun q => by have z := hw_20; rw [q, ht] at z; exact absurd z (by decide))]; exact hw_20
    · rw [show (up (up ρ_27 t 3 (n + 2)) t 0 o) t 3 = (n + 2) from (up_k (by decide)).trans (up_s _ _ _ _), setR_ne (by first | omega | exact fun q => by have z := hw_32; rw [q, ht] at z; exact absurd z (by decide))]; exact hw_32
  have hrn : ∀ k e, rnO 15 k = some e → (up (up ρ_27 t 3 (n + 2)) t 0 o) t k < 0 ∨ setR ω_30 t 15 ((up (up ρ_27 t 3 (n + 2)) t 0 o) t k) = e := fun k e hh => by cases hh
  exact r_vret (pc := 33) hX 17 hQ rfl rfl (Nat.le_of_ble_eq_true rfl) (Nat.le_of_ble_eq_true rfl) ⟨rfl, by omega, setR ω_30 t 15, hold_38.set, setR_s, hH_37.add ht ⟨ht4, by omega, by rw [htk]; rfl, by rw [htl]; rfl, hrg, hrf, hrn⟩, (show (up (up ρ_27 t 3 (n + 2)) t 0 o) t 0 = o from up_s _ _ _ _)⟩
set_option maxHeartbeats 4000000 in
set_option maxRecDepth 100000 in
theorem c_X7_initF (g : Gp) (ω : Rw) (v ρ : Mv) (Z : Mz) (hH : HT ω v ρ Z) (t : Int) (ht : ω t = 0) (htk : Z.1 t = 7) (htl : Z.2.1 t = 0) (ht4 : 4 ≤ t) (n : Int) (hn : Z.2.2 = n) (htn : t < n) (hv0 : ∀ k, v t k = 0) (hr0 : ∀ k, ρ t k = -1) (o : Int) (ho : ω o = 2) : Ok g 4 4 125 F_X7_init [(2, t), (2, o)] v ρ Z (fun o9 v' ρ' Z' => o9 = none ∧ Z'.2.2 = n + 4 ∧ ∃ ω' : Rw, Old n t ω v ρ Z ω' v' ρ' Z' ∧ ω' t = 21 ∧ HT ω' v' ρ' Z' ∧ ρ' t 0 = o) := by
  refine Ok.of mo_X7_init (Nat.le_of_ble_eq_true rfl) ?_
  intro X hX hRm hxn hQ
  show wp g X F_X7_init 0 0 0 [(2, t), (2, o)] [] v ρ Z
  have hold0 : Old n t ω v ρ Z ω v ρ Z := Old.rf
  have hlt_o : o < n := by have := hH.lt ho (by decide); omega
  refine r_aload_n (pc := 0) hX 0 rfl rfl ?_
  refine r_objInit (pc := 1) hX 1 rfl (by omega) oi_X7 oi_in oi_cd (by rw [hRm]; exact Nat.le_of_ble_eq_true rfl) (by rw [hRm]; exact Nat.le_of_ble_eq_true rfl) rfl ?_
  refine r_aload_n (pc := 4) hX 2 rfl rfl ?_
  refine r_newX (K := 6) (q := (RX6, TX6, 5)) (n := n) hX 3 hn rfl rfl cl_X7_9 in_X6 iz_X6 (by omega) (by rw [hRm]; exact Nat.le_of_ble_eq_true rfl) (by rw [hRm]; exact Nat.le_of_ble_eq_true rfl) (fun v_2 ρ_3 Z_4 hal_1 => ?_)
  have hn_5 : Z_4.2.2 = (n + 1) := by have := hal_1.1; omega
  have hH_6 : HT ω v_2 ρ_3 Z_4 := hH.al hn (by omega) hal_1
  replace htk : Z_4.1 t = 7 := (hal_1.2.2.2.2.2 t (by omega)).2.2.1.trans htk
  replace htl : Z_4.2.1 t = 0 := (hal_1.2.2.2.2.2 t (by omega)).2.2.2.trans htl
  have hz_7 : ω n = 0 := hH.z0 (by omega)
  have hk_8 : Z_4.1 n = 6 := hal_1.2.1
  have hl_9 : Z_4.2.1 n = 0 := hal_1.2.2.1
  have hold_10 : Old n t ω v ρ Z ω v_2 ρ_3 Z_4 := hold0.al0 hal_1 (by omega)
  show wp g X F_X7_init 1 5 8 [(2, t), (2, o)] [(2, n), (2, t)] v_2 ρ_3 Z_4
  refine r_dup (pc := 8) hX 4 rfl (show (2 : Nat) ≠ 1 by decide) ?_
  refine r_callIN (as := []) (st := [(2, n), (2, t)]) (pc := 9) hX 5 rfl mo_X6_init rfl rfl mn_X7_11 pn_X6_init im_X6_init (c_X6_init g ω v_2 ρ_3 Z_4 hH_6 n hz_7 hk_8 hl_9 (by omega) (n + 1) hn_5 (by omega) (fun k => hal_1.2.2.2.1 k) (fun k => hal_1.2.2.2.2.1 k) ) rfl (by omega) (by rw [hRm]; exact ⟨Nat.le_of_ble_eq_true rfl, Nat.le_of_ble_eq_true rfl⟩) (by rw [hRm]; exact ⟨Nat.le_of_ble_eq_true rfl, Nat.le_of_ble_eq_true rfl⟩) (Nat.le_of_ble_eq_true rfl) (fun o9 v_12 ρ_13 Z_14 hq9 _ => ?_)
  obtain ⟨rfl, hn_18, ω_11, hct_15, hT_16, hHc_17⟩ := hq9
  have hn_19 : Z_14.2.2 = (n + 4) := by omega
  clear hn_18
  replace ho : ω_11 o = 2 := ((hct_15 o (by have := hH_6.lt ho (by decide); omega) (fun q => by have z := ho; rw [q, hz_7] at z; exact absurd z (by decide))).1).trans ho
  replace ht : ω_11 t = 0 := ((hct_15 t (by omega) (by omega)).1).trans ht
  replace htk : Z_14.1 t = 7 := ((hct_15 t (by omega) (by omega)).2.2.2.1).trans htk
  replace htl : Z_14.2.1 t = 0 := ((hct_15 t (by omega) (by omega)).2.2.2.2).trans htl
  have hold_20 : Old n t ω v ρ Z ω_11 v_12 ρ_13 Z_14 := hold_10.ct hct_15 (by omega) (Or.inr (by omega))
  clear hz_7 hk_8 hl_9
  show wp g X F_X7_init 4 125 12 [(2, t), (2, o)] [(2, n), (2, t)] v_12 ρ_13 Z_14
  refine r_putR (pc := 12) hX 6 rfl fl_X7_12 rfl (fun _ h => by cases h; rfl) htk ht4 ?_
  have hH_21 : HT ω_11 v_12 (up ρ_13 t 1 n) Z_14 := hHc_17.uzr ht
  have hold_22 : Old n t ω v ρ Z ω_11 v_12 (up ρ_13 t 1 n) Z_14 := hold_20.putr (Or.inl rfl)
  show wp g X F_X7_init 4 125 15 [(2, t), (2, o)] [] v_12 (up ρ_13 t 1 n) Z_14
  refine r_aload_n (pc := 15) hX 7 rfl rfl ?_
  refine r_aload_n (pc := 16) hX 8 rfl rfl ?_
  refine r_putRF (K := 7) (k := 0) (pc := 17) hX 9 rfl rfl (by decide) fw_X7_18 rfl rfl rfl rfl htk ht4 ?_
  have hH_23 : HT ω_11 v_12 (up (up ρ_13 t 1 n) t 0 o) Z_14 := hH_21.uzr ht
  have hold_24 : Old n t ω v ρ Z ω_11 v_12 (up (up ρ_13 t 1 n) t 0 o) Z_14 := hold_22.putr (Or.inl rfl)
  show wp g X F_X7_init 4 125 20 [(2, t), (2, o)] [] v_12 (up (up ρ_13 t 1 n) t 0 o) Z_14
  have hrg : ∀ k a b, rgO 21 k = some (a, b) → a ≤ v_12 t k ∧ v_12 t k ≤ b := fun k a b hh => by cases hh
  have hrf : ∀ k e, rfO 21 k = some e → setR ω_11 t 21 ((up (up ρ_13 t 1 n) t 0 o) t k) = e := fun k e hh => by
    rcases rfL21 hh with ⟨rfl, rfl⟩ | ⟨rfl, rfl⟩
    · rw [show (up (up ρ_13 t 1 n) t 0 o) t 0 = o from up_s _ _ _ _, setR_ne (by first | omega | exact fun q => by have z := ho; rw [q, ht] at z; exact absurd z (by decide))]; exact ho
    · rw [show (up (up ρ_13 t 1 n) t 0 o) t 1 = n from (up_k (by decide)).trans (up_s _ _ _ _), setR_ne (by first | omega | exact fun q => by have z := hT_16; rw [q, ht] at z; exact absurd z (by decide))]; exact hT_16
  have hrn : ∀ k e, rnO 21 k = some e → (up (up ρ_13 t 1 n) t 0 o) t k < 0 ∨ setR ω_11 t 21 ((up (up ρ_13 t 1 n) t 0 o) t k) = e := fun k e hh => by cases hh
  exact r_vret (pc := 20) hX 10 hQ rfl rfl (Nat.le_of_ble_eq_true rfl) (Nat.le_of_ble_eq_true rfl) ⟨rfl, by omega, setR ω_11 t 21, hold_24.set, setR_s, hH_23.add ht ⟨ht4, by omega, by rw [htk]; rfl, by rw [htl]; rfl, hrg, hrf, hrn⟩, (show (up (up ρ_13 t 1 n) t 0 o) t 0 = o from up_s _ _ _ _)⟩
set_option maxHeartbeats 4000000 in
set_option maxRecDepth 100000 in
theorem c_X8_initF (g : Gp) (ω : Rw) (v ρ : Mv) (Z : Mz) (hH : HT ω v ρ Z) (t : Int) (ht : ω t = 0) (htk : Z.1 t = 8) (htl : Z.2.1 t = 0) (ht4 : 4 ≤ t) (n : Int) (hn : Z.2.2 = n) (htn : t < n) (hv0 : ∀ k, v t k = 0) (hr0 : ∀ k, ρ t k = -1) : Ok g 2 1 940 F_X8_init [(2, t)] v ρ Z (fun o9 v' ρ' Z' => o9 = none ∧ Z'.2.2 = n + 1 ∧ ∃ ω' : Rw, Old n t ω v ρ Z ω' v' ρ' Z' ∧ ω' t = 2 ∧ HT ω' v' ρ' Z' ∧ v' t 1 = 0 ∧ v' t 9 = 0) := by
  refine Ok.of mo_X8_init (Nat.le_of_ble_eq_true rfl) ?_
  intro X hX hRm hxn hQ
  show wp g X F_X8_init 0 0 0 [(2, t)] [] v ρ Z
  have hold0 : Old n t ω v ρ Z ω v ρ Z := Old.rf
  refine r_aload_n (pc := 0) hX 0 rfl rfl ?_
  refine r_objInit (pc := 1) hX 1 rfl (by omega) oi_X8 oi_in oi_cd (by rw [hRm]; exact Nat.le_of_ble_eq_true rfl) (by rw [hRm]; exact Nat.le_of_ble_eq_true rfl) rfl ?_
  refine r_aload_n (pc := 4) hX 2 rfl rfl ?_
  refine r_sipush (pc := 5) hX 3 rfl (by decide) ?_
  refine r_newaX hX 4 15 940 (n := n) hn rfl rfl (by decide) (by decide) ac_byte (by decide) (by omega) (by rw [hRm]; exact Nat.le_of_ble_eq_true rfl) (by rw [hRm]; exact Nat.le_of_ble_eq_true rfl) (fun v_2 ρ_3 Z_4 hal_1 => ?_)
  have hn_5 : Z_4.2.2 = (n + 1) := by have := hal_1.1; omega
  obtain ⟨ω_6, ho_7, hw_8, hH_9⟩ := hH.alR hn (by omega) 3 hal_1 rfl rfl (fun k a b h => by cases h) (fun _ => rfl)
  replace ht : ω_6 t = 0 := (ho_7 t (by omega)).trans ht
  replace htk : Z_4.1 t = 8 := ((hal_1.2.2.2.2.2 t (by omega)).2.2.1).trans htk
  replace htl : Z_4.2.1 t = 0 := ((hal_1.2.2.2.2.2 t (by omega)).2.2.2).trans htl
  have hold_10 : Old n t ω v ρ Z ω_6 v_2 ρ_3 Z_4 := hold0.al ho_7 hal_1 (by omega)
  show wp g X F_X8_init 1 940 10 [(2, t)] [(2, n), (2, t)] v_2 ρ_3 Z_4
  refine r_putRF (K := 8) (k := 0) (pc := 10) hX 5 rfl rfl (by decide) fw_X8_11 rfl rfl rfl rfl htk ht4 ?_
  have hH_11 : HT ω_6 v_2 (up ρ_3 t 0 n) Z_4 := hH_9.uzr ht
  have hold_12 : Old n t ω v ρ Z ω_6 v_2 (up ρ_3 t 0 n) Z_4 := hold_10.putr (Or.inl rfl)
  show wp g X F_X8_init 1 940 13 [(2, t)] [] v_2 (up ρ_3 t 0 n) Z_4
  have hrg : ∀ k a b, rgO 2 k = some (a, b) → a ≤ v_2 t k ∧ v_2 t k ≤ b := fun k a b hh => by
    rcases rgL2 hh with ⟨rfl, rfl, rfl⟩ | ⟨rfl, rfl, rfl⟩ | ⟨rfl, rfl, rfl⟩ | ⟨rfl, rfl, rfl⟩ | ⟨rfl, rfl, rfl⟩ | ⟨rfl, rfl, rfl⟩ | ⟨rfl, rfl, rfl⟩ | ⟨rfl, rfl, rfl⟩ | ⟨rfl, rfl, rfl⟩
    · rw [show v_2 t 1 = 0 from (congrFun (hal_1.2.2.2.2.2 t (by omega)).1 1).trans (hv0 1)]; decide
    · rw [show v_2 t 2 = 0 from (congrFun (hal_1.2.2.2.2.2 t (by omega)).1 2).trans (hv0 2)]; decide
    · rw [show v_2 t 3 = 0 from (congrFun (hal_1.2.2.2.2.2 t (by omega)).1 3).trans (hv0 3)]; decide
    · rw [show v_2 t 4 = 0 from (congrFun (hal_1.2.2.2.2.2 t (by omega)).1 4).trans (hv0 4)]; decide
    · rw [show v_2 t 5 = 0 from (congrFun (hal_1.2.2.2.2.2 t (by omega)).1 5).trans (hv0 5)]; decide
    · rw [show v_2 t 6 = 0 from (congrFun (hal_1.2.2.2.2.2 t (by omega)).1 6).trans (hv0 6)]; decide
    · rw [show v_2 t 7 = 0 from (congrFun (hal_1.2.2.2.2.2 t (by omega)).1 7).trans (hv0 7)]; decide
    · rw [show v_2 t 9 = 0 from (congrFun (hal_1.2.2.2.2.2 t (by omega)).1 9).trans (hv0 9)]; decide
    · rw [show v_2 t 10 = 0 from (congrFun (hal_1.2.2.2.2.2 t (by omega)).1 10).trans (hv0 10)]; decide
  have hrf : ∀ k e, rfO 2 k = some e → setR ω_6 t 2 ((up ρ_3 t 0 n) t k) = e := fun k e hh => by
    rcases rfL2 hh with ⟨rfl, rfl⟩
    · rw [show (up ρ_3 t 0 n) t 0 = n from up_s _ _ _ _, setR_ne (by first | omega | exact fun q => by have z := hw_8; rw [q, ht] at z; exact absurd z (by decide))]; exact hw_8
  have hrn : ∀ k e, rnO 2 k = some e → (up ρ_3 t 0 n) t k < 0 ∨ setR ω_6 t 2 ((up ρ_3 t 0 n) t k) = e := fun k e hh => by cases hh
  exact r_vret (pc := 13) hX 6 hQ rfl rfl (Nat.le_of_ble_eq_true rfl) (Nat.le_of_ble_eq_true rfl) ⟨rfl, by omega, setR ω_6 t 2, hold_12.set, setR_s, hH_11.add ht ⟨ht4, by omega, by rw [htk]; rfl, by rw [htl]; rfl, hrg, hrf, hrn⟩, (congrFun (hal_1.2.2.2.2.2 t (by omega)).1 1).trans (hv0 1), (congrFun (hal_1.2.2.2.2.2 t (by omega)).1 9).trans (hv0 9)⟩
