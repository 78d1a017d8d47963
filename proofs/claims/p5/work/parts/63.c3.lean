set_option maxHeartbeats 4000000 in
set_option maxRecDepth 100000 in
theorem c_J7_fill33 (g : Gp) (ω : Rw) (v ρ : Mv) (Z : Mz) (hH : HT ω v ρ Z) (a : Int) (ha : ω a = 33) (x : Int)  : Ok g 1 0 0 F_J7_fill_d0a16 [(2, a), (1, x)] v ρ Z (fun o9 v' ρ' Z' => ρ = ρ' ∧ Z = Z' ∧ FrW ω [33] v v' ∧ HT ω v' ρ Z ∧ o9 = none ∧ True) := by
  refine Ok.of mo_J7_fill_d0a16 (Nat.le_of_ble_eq_true rfl) ?_
  intro X hX hRm hxn hQ
  show wp g X F_J7_fill_d0a16 0 0 0 [(2, a), (1, x), (3, 0), (3, 0), (3, 0)] [] v ρ Z
  refine r_iconst (pc := 0) hX 0 rfl ?_
  refine r_istore_n (ls' := [(2, a), (1, x), (3, 0), (0, 0), (3, 0)]) (pc := 1) hX 1 rfl (by decide) rfl ?_
  refine r_aload_n (pc := 2) hX 2 rfl rfl ?_
  refine r_alen (pc := 3) hX 3 14 rfl (hH.kd ha (by decide)) (by decide) (by decide) (fun _ _ => ?_)
  rw [show Z.2.1 a = 3 from (hH.ln ha (by decide))]
  refine r_istore (ls' := [(2, a), (1, x), (3, 0), (0, 0), (0, 3)]) (pc := 4) hX 4 rfl (by decide) rfl ?_
  have L6 : ∀ (n6 : Nat) (i : Int) (v6 : Mv) , (FrW ω [33] v v6) → (HT ω v6 ρ Z) → (0 ≤ i ∧ i ≤ 3) → (3 - i).toNat < n6 → wp g X F_J7_fill_d0a16 0 0 6 [(2, a), (1, x), (3, 0), (0, i), (0, 3)] [] v6 ρ Z := by
    intro n6
    induction n6 with
    | zero => intro i v6 hfr6 hH6 ii hme6; exact absurd hme6 (Nat.not_lt_zero _)
    | succ n6 ih6 =>
      intro i v6 hfr6 hH6 ii hme6
      refine r_iload_n (pc := 6) hX 5 rfl rfl ?_
      refine r_iload (pc := 7) hX 6 rfl rfl ?_
      first | refine r_icmp_ge (pc := 9) hX 7 (tgt := 22) rfl (by decide) (⟨by omega, by omega⟩) (⟨by omega, by omega⟩) (fun h9 => ?_) (fun h9 => ?_) | refine r_icmp_ge_any (pc := 9) hX 7 (tgt := 22) rfl (by decide) ?_ ?_
      · exact r_vret (pc := 22) hX 14 hQ rfl rfl (Nat.le_refl 0) (Nat.le_refl 0) ⟨rfl, rfl, hfr6, hH6, rfl, trivial⟩
      · refine r_aload_n (pc := 12) hX 8 rfl rfl ?_
        refine r_iload_n (pc := 13) hX 9 rfl rfl ?_
        refine r_lload_n (pc := 14) hX 10 rfl rfl ?_
        refine e_last (n := 3) (pc := 15) hX 11 rfl (hH6.kd ha (by decide)) (hH6.ln ha (by decide)) (hH6.g4 ha (by decide)) (by omega) (by omega) ?_
        have hH_15 : HT ω (up v6 a i x) ρ Z := hH6.up0 ha (by decide) rfl
        refine r_iinc (ls' := [(2, a), (1, x), (3, 0), (0, (i + 1)), (0, 3)]) (pc := 16) hX 12 rfl rfl (by decide) rfl ?_
        refine r_goto (pc := 19) hX 13 (tgt := 6) rfl (by decide) ?_
        exact (ih6 (i + 1) (up v6 a i x) ((hfr6).up (r := a) ha (by decide)) (hH_15) (by omega) (by omega))
  exact (L6 _ 0 v (FrW.rf) (hH) (by omega) (Nat.lt_succ_self _))
set_option maxHeartbeats 4000000 in
set_option maxRecDepth 100000 in
theorem c_J7_fill34 (g : Gp) (ω : Rw) (v ρ : Mv) (Z : Mz) (hH : HT ω v ρ Z) (a : Int) (ha : ω a = 34) (x : Int)  : Ok g 1 0 0 F_J7_fill_d0a16 [(2, a), (1, x)] v ρ Z (fun o9 v' ρ' Z' => ρ = ρ' ∧ Z = Z' ∧ FrW ω [34] v v' ∧ HT ω v' ρ Z ∧ o9 = none ∧ True) := by
  refine Ok.of mo_J7_fill_d0a16 (Nat.le_of_ble_eq_true rfl) ?_
  intro X hX hRm hxn hQ
  show wp g X F_J7_fill_d0a16 0 0 0 [(2, a), (1, x), (3, 0), (3, 0), (3, 0)] [] v ρ Z
  refine r_iconst (pc := 0) hX 0 rfl ?_
  refine r_istore_n (ls' := [(2, a), (1, x), (3, 0), (0, 0), (3, 0)]) (pc := 1) hX 1 rfl (by decide) rfl ?_
  refine r_aload_n (pc := 2) hX 2 rfl rfl ?_
  refine r_alen (pc := 3) hX 3 14 rfl (hH.kd ha (by decide)) (by decide) (by decide) (fun _ _ => ?_)
  rw [show Z.2.1 a = 13 from (hH.ln ha (by decide))]
  refine r_istore (ls' := [(2, a), (1, x), (3, 0), (0, 0), (0, 13)]) (pc := 4) hX 4 rfl (by decide) rfl ?_
  have L6 : ∀ (n6 : Nat) (i : Int) (v6 : Mv) , (FrW ω [34] v v6) → (HT ω v6 ρ Z) → (0 ≤ i ∧ i ≤ 13) → (13 - i).toNat < n6 → wp g X F_J7_fill_d0a16 0 0 6 [(2, a), (1, x), (3, 0), (0, i), (0, 13)] [] v6 ρ Z := by
    intro n6
    induction n6 with
    | zero => intro i v6 hfr6 hH6 ii hme6; exact absurd hme6 (Nat.not_lt_zero _)
    | succ n6 ih6 =>
      intro i v6 hfr6 hH6 ii hme6
      refine r_iload_n (pc := 6) hX 5 rfl rfl ?_
      refine r_iload (pc := 7) hX 6 rfl rfl ?_
      first | refine r_icmp_ge (pc := 9) hX 7 (tgt := 22) rfl (by decide) (⟨by omega, by omega⟩) (⟨by omega, by omega⟩) (fun h9 => ?_) (fun h9 => ?_) | refine r_icmp_ge_any (pc := 9) hX 7 (tgt := 22) rfl (by decide) ?_ ?_
      · exact r_vret (pc := 22) hX 14 hQ rfl rfl (Nat.le_refl 0) (Nat.le_refl 0) ⟨rfl, rfl, hfr6, hH6, rfl, trivial⟩
      · refine r_aload_n (pc := 12) hX 8 rfl rfl ?_
        refine r_iload_n (pc := 13) hX 9 rfl rfl ?_
        refine r_lload_n (pc := 14) hX 10 rfl rfl ?_
        refine e_last (n := 13) (pc := 15) hX 11 rfl (hH6.kd ha (by decide)) (hH6.ln ha (by decide)) (hH6.g4 ha (by decide)) (by omega) (by omega) ?_
        have hH_15 : HT ω (up v6 a i x) ρ Z := hH6.up0 ha (by decide) rfl
        refine r_iinc (ls' := [(2, a), (1, x), (3, 0), (0, (i + 1)), (0, 13)]) (pc := 16) hX 12 rfl rfl (by decide) rfl ?_
        refine r_goto (pc := 19) hX 13 (tgt := 6) rfl (by decide) ?_
        exact (ih6 (i + 1) (up v6 a i x) ((hfr6).up (r := a) ha (by decide)) (hH_15) (by omega) (by omega))
  exact (L6 _ 0 v (FrW.rf) (hH) (by omega) (Nat.lt_succ_self _))
set_option maxHeartbeats 4000000 in
set_option maxRecDepth 100000 in
theorem c_J7_fill35 (g : Gp) (ω : Rw) (v ρ : Mv) (Z : Mz) (hH : HT ω v ρ Z) (a : Int) (ha : ω a = 35) (x : Int)  : Ok g 1 0 0 F_J7_fill_d0a16 [(2, a), (1, x)] v ρ Z (fun o9 v' ρ' Z' => ρ = ρ' ∧ Z = Z' ∧ FrW ω [35] v v' ∧ HT ω v' ρ Z ∧ o9 = none ∧ True) := by
  refine Ok.of mo_J7_fill_d0a16 (Nat.le_of_ble_eq_true rfl) ?_
  intro X hX hRm hxn hQ
  show wp g X F_J7_fill_d0a16 0 0 0 [(2, a), (1, x), (3, 0), (3, 0), (3, 0)] [] v ρ Z
  refine r_iconst (pc := 0) hX 0 rfl ?_
  refine r_istore_n (ls' := [(2, a), (1, x), (3, 0), (0, 0), (3, 0)]) (pc := 1) hX 1 rfl (by decide) rfl ?_
  refine r_aload_n (pc := 2) hX 2 rfl rfl ?_
  refine r_alen (pc := 3) hX 3 14 rfl (hH.kd ha (by decide)) (by decide) (by decide) (fun _ _ => ?_)
  rw [show Z.2.1 a = 729 from (hH.ln ha (by decide))]
  refine r_istore (ls' := [(2, a), (1, x), (3, 0), (0, 0), (0, 729)]) (pc := 4) hX 4 rfl (by decide) rfl ?_
  have L6 : ∀ (n6 : Nat) (i : Int) (v6 : Mv) , (FrW ω [35] v v6) → (HT ω v6 ρ Z) → (0 ≤ i ∧ i ≤ 729) → (729 - i).toNat < n6 → wp g X F_J7_fill_d0a16 0 0 6 [(2, a), (1, x), (3, 0), (0, i), (0, 729)] [] v6 ρ Z := by
    intro n6
    induction n6 with
    | zero => intro i v6 hfr6 hH6 ii hme6; exact absurd hme6 (Nat.not_lt_zero _)
    | succ n6 ih6 =>
      intro i v6 hfr6 hH6 ii hme6
      refine r_iload_n (pc := 6) hX 5 rfl rfl ?_
      refine r_iload (pc := 7) hX 6 rfl rfl ?_
      first | refine r_icmp_ge (pc := 9) hX 7 (tgt := 22) rfl (by decide) (⟨by omega, by omega⟩) (⟨by omega, by omega⟩) (fun h9 => ?_) (fun h9 => ?_) | refine r_icmp_ge_any (pc := 9) hX 7 (tgt := 22) rfl (by decide) ?_ ?_
      · exact r_vret (pc := 22) hX 14 hQ rfl rfl (Nat.le_refl 0) (Nat.le_refl 0) ⟨rfl, rfl, hfr6, hH6, rfl, trivial⟩
      · refine r_aload_n (pc := 12) hX 8 rfl rfl ?_
        refine r_iload_n (pc := 13) hX 9 rfl rfl ?_
        refine r_lload_n (pc := 14) hX 10 rfl rfl ?_
        refine e_last (n := 729) (pc := 15) hX 11 rfl (hH6.kd ha (by decide)) (hH6.ln ha (by decide)) (hH6.g4 ha (by decide)) (by omega) (by omega) ?_
        have hH_15 : HT ω (up v6 a i x) ρ Z := hH6.up0 ha (by decide) rfl
        refine r_iinc (ls' := [(2, a), (1, x), (3, 0), (0, (i + 1)), (0, 729)]) (pc := 16) hX 12 rfl rfl (by decide) rfl ?_
        refine r_goto (pc := 19) hX 13 (tgt := 6) rfl (by decide) ?_
        exact (ih6 (i + 1) (up v6 a i x) ((hfr6).up (r := a) ha (by decide)) (hH_15) (by omega) (by omega))
  exact (L6 _ 0 v (FrW.rf) (hH) (by omega) (Nat.lt_succ_self _))
set_option maxHeartbeats 4000000 in
set_option maxRecDepth 100000 in
theorem c_X3_forget (g : Gp) (ω : Rw) (v ρ : Mv) (Z : Mz) (hH : HT ω v ρ Z) (t : Int) (ht : ω t = 27)  : Ok g 1 0 0 F_X3_forget [(2, t)] v ρ Z (fun o9 v' ρ' Z' => ρ = ρ' ∧ Z = Z' ∧ FrW ω [27] v v' ∧ HT ω v' ρ Z ∧ o9 = none ∧ True) := by
  refine Ok.of mo_X3_forget (Nat.le_of_ble_eq_true rfl) ?_
  intro X hX hRm hxn hQ
  show wp g X F_X3_forget 0 0 0 [(2, t)] [] v ρ Z
  refine r_aload_n (pc := 0) hX 0 rfl rfl ?_
  refine r_iconst (pc := 1) hX 1 rfl ?_
  refine r_putI (pc := 2) hX 2 rfl fl_X3_20 rfl (fun _ h => by cases h; rfl) (hH.kd ht (by decide)) (hH.g4 ht (by decide)) ?_
  have hH_2 : HT ω (up v t 1 0) ρ Z := hH.upR ht (by decide) rfl (by omega) (by omega)
  show wp g X F_X3_forget 0 0 5 [(2, t)] [] (up v t 1 0) ρ Z
  exact r_vret (pc := 5) hX 3 hQ rfl rfl (Nat.le_refl 0) (Nat.le_refl 0) ⟨rfl, rfl, (FrW.rf).up (r := t) ht (by decide), hH_2, rfl, trivial⟩
set_option maxHeartbeats 4000000 in
set_option maxRecDepth 100000 in
theorem c_X3_keep (g : Gp) (ω : Rw) (v ρ : Mv) (Z : Mz) (hH : HT ω v ρ Z) (t : Int) (ht : ω t = 27) (o : Int) (ho : ω o = 22)  : Ok g 3 0 0 F_X3_keep [(2, t), (2, o)] v ρ Z (fun o9 v' ρ' Z' => Z = Z' ∧ FrW ω [27, 66, 67, 68, 69, 70] v v' ∧ FrW ω [28, 66] ρ ρ' ∧ HT ω v' ρ' Z ∧ o9 = none ∧ True) := by
  refine Ok.of mo_X3_keep (Nat.le_of_ble_eq_true rfl) ?_
  intro X hX hRm hxn hQ
  show wp g X F_X3_keep 0 0 0 [(2, t), (2, o), (3, 0), (3, 0)] [] v ρ Z
  refine t_getI (y := (v t 1)) (pc := 0) hX 0 rfl rfl rfl fl_X3_20 rfl (hH.kd ht (by decide)) (rfl) ?_
  have hb0 : 0 ≤ (v t 1) ∧ (v t 1) ≤ 8 := hH.rg ht (by decide) rfl
  refine r_bipush (pc := 4) hX 2 rfl (by decide) ?_
  have L58 : ∀ (v58 : Mv) (ρ58 : Mv) , (FrW ω [27, 66, 67, 68, 69, 70] v v58) → (FrW ω [28, 66] ρ ρ58) → (HT ω v58 ρ58 Z) → (0 ≤ v58 t 1 ∧ v58 t 1 ≤ 7) → wp g X F_X3_keep 0 0 58 [(2, t), (2, o), (3, 0), (3, 0)] [] v58 ρ58 Z := by
    intro v58 ρ58 hfr58 hfrR58 hH58 ia
    refine t_getR (q := (ρ t 0)) (pc := 58) hX 34 rfl rfl rfl fl_X3_13 rfl (hH58.kd ht (by decide)) ((hfrR58.at ht (by decide) 0).trans (rfl)) ?_
    have hw58_ : ω (ρ t 0) = 28 := hH.rf ht (by decide) rfl
    refine t_getI (y := (v58 t 1)) (pc := 62) hX 36 rfl rfl rfl fl_X3_20 rfl (hH58.kd ht (by decide)) (rfl) ?_
    have hb62 : 0 ≤ (v58 t 1) ∧ (v58 t 1) ≤ 8 := hH58.rg ht (by decide) rfl
    refine r_aald (q := (ρ58 (ρ t 0) (v58 t 1))) (pc := 66) hX 38 17 rfl (hH58.kd hw58_ (by decide)) (by decide) (by decide) rfl rfl (by omega) (by rw [show Z.2.1 (ρ t 0) = 8 from (hH58.ln hw58_ (by decide))]; omega) (rfl) ?_
    have hw66_ : ω (ρ58 (ρ t 0) (v58 t 1)) = 66 := hH58.rf hw58_ (by decide) (rf28 ⟨by omega, by omega⟩)
    refine r_aload_n (pc := 67) hX 39 rfl rfl ?_
    refine r_callV (as := [(2, o)]) (st := []) (K := 9) (pc := 68) hX 40 rfl mo_X9_copyFrom ml_X3_24 im_X9_copyFrom se_X9_copyFrom (c_X9_copyFromB g ω v58 ρ58 Z hH58 (ρ58 (ρ t 0) (v58 t 1)) hw66_ o ho ) rfl rfl rfl (hH58.kd hw66_ (by decide)) (by rw [hRm]; exact ⟨by decide, by decide⟩) (by rw [hRm]; exact ⟨by decide, by decide⟩) (Nat.le_of_ble_eq_true rfl) (fun o68 v68 ρv68 Zv68 hq68 _ => ?_)
    obtain ⟨rfl, hfr68, hfrR68, hH68, rfl, hq68⟩ := hq68
    show wp g X F_X3_keep 0 0 71 [(2, t), (2, o), (3, 0), (3, 0)] [] v68 ρv68 Z
    refine r_aload_n (pc := 71) hX 41 rfl rfl ?_
    refine r_dup (pc := 72) hX 42 rfl (show (2 : Nat) ≠ 1 by decide) ?_
    refine e_getI (y := (v58 t 1)) (pc := 73) hX 43 rfl fl_X3_20 rfl (hH68.kd ht (by decide)) ((hfr68.at ht (by decide) 1).trans (rfl)) ?_
    refine r_iconst (pc := 76) hX 44 rfl ?_
    refine r_iadd (pc := 77) hX 45 rfl ?_
    refine r_putI (pc := 78) hX 46 rfl fl_X3_20 rfl (fun _ h => by cases h; rfl) (hH68.kd ht (by decide)) (hH68.g4 ht (by decide)) ?_
    have hH_78 : HT ω (up v68 t 1 ((v58 t 1) + 1)) ρv68 Z := hH68.upR ht (by decide) rfl (by omega) (by omega)
    show wp g X F_X3_keep 0 0 81 [(2, t), (2, o), (3, 0), (3, 0)] [] (up v68 t 1 ((v58 t 1) + 1)) ρv68 Z
    exact r_vret (pc := 81) hX 47 hQ rfl rfl (Nat.le_refl 0) (Nat.le_refl 0) ⟨rfl, ((hfr58).tr hfr68 (by decide)).up (r := t) ht (by decide), (hfrR58).tr hfrR68 (by decide), hH_78, rfl, trivial⟩
  first | refine r_icmp_lt (pc := 6) hX 3 (tgt := 58) rfl (by decide) (⟨by omega, by omega⟩) (⟨by omega, by omega⟩) (fun h6 => ?_) (fun h6 => ?_) | refine r_icmp_lt_any (pc := 6) hX 3 (tgt := 58) rfl (by decide) ?_ ?_
  · exact (L58  v ρ (FrW.rf) (FrW.rf) (hH) (by first | omega | (rw [up_s]; omega)) )
  · refine t_getR (q := (ρ t 0)) (pc := 9) hX 4 rfl rfl rfl fl_X3_13 rfl (hH.kd ht (by decide)) (rfl) ?_
    have hw9_ : ω (ρ t 0) = 28 := hH.rf ht (by decide) rfl
    refine r_iconst (pc := 13) hX 6 rfl ?_
    refine r_aald (q := (ρ (ρ t 0) 0)) (pc := 14) hX 7 17 rfl (hH.kd hw9_ (by decide)) (by decide) (by decide) rfl rfl (by omega) (by rw [show Z.2.1 (ρ t 0) = 8 from (hH.ln hw9_ (by decide))]; omega) (rfl) ?_
    have hw14_ : ω (ρ (ρ t 0) 0) = 66 := hH.rf hw9_ (by decide) (rf28 ⟨by omega, by omega⟩)
    refine r_astore_n (ls' := [(2, t), (2, o), (2, (ρ (ρ t 0) 0)), (3, 0)]) (pc := 15) hX 8 rfl (by decide) rfl ?_
    refine r_iconst (pc := 16) hX 9 rfl ?_
    refine r_istore_n (ls' := [(2, t), (2, o), (2, (ρ (ρ t 0) 0)), (0, 1)]) (pc := 17) hX 10 rfl (by decide) rfl ?_
    have L18 : ∀ (n18 : Nat) (i : Int) (v18 : Mv) (ρ18 : Mv) , (FrW ω [27, 66, 67, 68, 69, 70] v v18) → (FrW ω [28, 66] ρ ρ18) → (HT ω v18 ρ18 Z) → (1 ≤ i ∧ i ≤ 8) → (8 - i).toNat < n18 → wp g X F_X3_keep 0 0 18 [(2, t), (2, o), (2, (ρ (ρ t 0) 0)), (0, i)] [] v18 ρ18 Z := by
      intro n18
      induction n18 with
      | zero => intro i v18 ρ18 hfr18 hfrR18 hH18 ii hme18; exact absurd hme18 (Nat.not_lt_zero _)
      | succ n18 ih18 =>
        intro i v18 ρ18 hfr18 hfrR18 hH18 ii hme18
        refine r_iload_n (pc := 18) hX 11 rfl rfl ?_
        refine r_bipush (pc := 19) hX 12 rfl (by decide) ?_
        first | refine r_icmp_ge (pc := 21) hX 13 (tgt := 44) rfl (by decide) (⟨by omega, by omega⟩) (⟨by omega, by omega⟩) (fun h21 => ?_) (fun h21 => ?_) | refine r_icmp_ge_any (pc := 21) hX 13 (tgt := 44) rfl (by decide) ?_ ?_
        · refine t_getR (q := (ρ t 0)) (pc := 44) hX 26 rfl rfl rfl fl_X3_13 rfl (hH18.kd ht (by decide)) ((hfrR18.at ht (by decide) 0).trans (rfl)) ?_
          refine r_bipush (pc := 48) hX 28 rfl (by decide) ?_
          refine r_aload_n (pc := 50) hX 29 rfl rfl ?_
          refine r_aast (pc := 51) hX 30 17 9 rfl (hH18.kd hw9_ (by decide)) (by decide) (by decide) rfl rfl (hH18.g4 hw9_ (by decide)) (by omega) (by rw [show Z.2.1 (ρ t 0) = 8 from (hH18.ln hw9_ (by decide))]; omega) (Or.inr (hH18.kd hw14_ (by decide))) ?_
          have hH_51 : HT ω v18 (up ρ18 (ρ t 0) 7 (ρ (ρ t 0) 0)) Z := hH18.uf hw9_ (rf28 ⟨by omega, by omega⟩) hw14_ rfl
          refine r_aload_n (pc := 52) hX 31 rfl rfl ?_
          refine r_bipush (pc := 53) hX 32 rfl (by decide) ?_
          refine r_putI (pc := 55) hX 33 rfl fl_X3_20 rfl (fun _ h => by cases h; rfl) (hH_51.kd ht (by decide)) (hH_51.g4 ht (by decide)) ?_
          have hH_55 : HT ω (up v18 t 1 7) (up ρ18 (ρ t 0) 7 (ρ (ρ t 0) 0)) Z := hH_51.upR ht (by decide) rfl (by omega) (by omega)
          show wp g X F_X3_keep 0 0 58 [(2, t), (2, o), (2, (ρ (ρ t 0) 0)), (0, i)] [] (up v18 t 1 7) (up ρ18 (ρ t 0) 7 (ρ (ρ t 0) 0)) Z
          refine r_wk (ls' := [(2, t), (2, o), (3, 0), (3, 0)]) ⟨Or.inr rfl, Or.inr rfl, Or.inl rfl, Or.inl rfl, trivial⟩ ?_
          exact (L58  (up v18 t 1 7) (up ρ18 (ρ t 0) 7 (ρ (ρ t 0) 0)) ((hfr18).up (r := t) ht (by decide)) ((hfrR18).up (r := (ρ t 0)) hw9_ (by decide)) (hH_55) (by first | omega | (rw [up_s]; omega)) )
        · refine t_getR (q := (ρ t 0)) (pc := 24) hX 14 rfl rfl rfl fl_X3_13 rfl (hH18.kd ht (by decide)) ((hfrR18.at ht (by decide) 0).trans (rfl)) ?_
          refine r_iload_n (pc := 28) hX 16 rfl rfl ?_
          refine r_iconst (pc := 29) hX 17 rfl ?_
          refine r_isub (pc := 30) hX 18 rfl ?_
          refine t_getR (q := (ρ t 0)) (pc := 31) hX 19 rfl rfl rfl fl_X3_13 rfl (hH18.kd ht (by decide)) ((hfrR18.at ht (by decide) 0).trans (rfl)) ?_
          refine r_iload_n (pc := 35) hX 21 rfl rfl ?_
          refine r_aald (q := (ρ18 (ρ t 0) i)) (pc := 36) hX 22 17 rfl (hH18.kd hw9_ (by decide)) (by decide) (by decide) rfl rfl (by omega) (by rw [show Z.2.1 (ρ t 0) = 8 from (hH18.ln hw9_ (by decide))]; omega) (rfl) ?_
          have hw36_ : ω (ρ18 (ρ t 0) i) = 66 := hH18.rf hw9_ (by decide) (rf28 ⟨by omega, by omega⟩)
          refine r_aast (pc := 37) hX 23 17 9 rfl (hH18.kd hw9_ (by decide)) (by decide) (by decide) rfl rfl (hH18.g4 hw9_ (by decide)) (by omega) (by rw [show Z.2.1 (ρ t 0) = 8 from (hH18.ln hw9_ (by decide))]; omega) (Or.inr (hH18.kd hw36_ (by decide))) ?_
          have hH_37 : HT ω v18 (up ρ18 (ρ t 0) (i - 1) (ρ18 (ρ t 0) i)) Z := hH18.uf hw9_ (rf28 ⟨by omega, by omega⟩) hw36_ rfl
          refine r_iinc (ls' := [(2, t), (2, o), (2, (ρ (ρ t 0) 0)), (0, (i + 1))]) (pc := 38) hX 24 rfl rfl (by decide) rfl ?_
          refine r_goto (pc := 41) hX 25 (tgt := 18) rfl (by decide) ?_
          exact (ih18 (i + 1) v18 (up ρ18 (ρ t 0) (i - 1) (ρ18 (ρ t 0) i)) (hfr18) ((hfrR18).up (r := (ρ t 0)) hw9_ (by decide)) (hH_37) (by omega) (by omega))
    exact (L18 _ 1 v ρ (FrW.rf) (FrW.rf) (hH) (by omega) (Nat.lt_succ_self _))
set_option maxHeartbeats 4000000 in
set_option maxRecDepth 100000 in
theorem c_X3_recall (g : Gp) (ω : Rw) (v ρ : Mv) (Z : Mz) (hH : HT ω v ρ Z) (t : Int) (ht : ω t = 27) (o : Int) (ho : ω o = 22)  : Ok g 3 0 0 F_X3_recall [(2, t), (2, o)] v ρ Z (fun o9 v' ρ' Z' => Z = Z' ∧ FrW ω [22, 23, 24, 25, 26, 27] v v' ∧ FrW ω [22] ρ ρ' ∧ HT ω v' ρ' Z ∧ ∃ r : Int, o9 = some (0, r) ∧ (-1 ≤ r ∧ r ≤ 7)) := by
  refine Ok.of mo_X3_recall (Nat.le_of_ble_eq_true rfl) ?_
  intro X hX hRm hxn hQ
  show wp g X F_X3_recall 0 0 0 [(2, t), (2, o)] [] v ρ Z
  refine t_getI (y := (v t 1)) (pc := 0) hX 0 rfl rfl rfl fl_X3_20 rfl (hH.kd ht (by decide)) (rfl) ?_
  have hb0 : 0 ≤ (v t 1) ∧ (v t 1) ≤ 8 := hH.rg ht (by decide) rfl
  first | refine r_if_gt (pc := 4) hX 2 (tgt := 9) rfl (by decide) (⟨by omega, by omega⟩) (fun h4 => ?_) (fun h4 => ?_) | refine r_if_gt_any (pc := 4) hX 2 (tgt := 9) rfl (by decide) ?_ ?_
  · refine r_aload_n (pc := 9) hX 5 rfl rfl ?_
    refine r_dup (pc := 10) hX 6 rfl (show (2 : Nat) ≠ 1 by decide) ?_
    refine e_getI (y := (v t 1)) (pc := 11) hX 7 rfl fl_X3_20 rfl (hH.kd ht (by decide)) (rfl) ?_
    refine r_iconst (pc := 14) hX 8 rfl ?_
    refine r_isub (pc := 15) hX 9 rfl ?_
    refine r_putI (pc := 16) hX 10 rfl fl_X3_20 rfl (fun _ h => by cases h; rfl) (hH.kd ht (by decide)) (hH.g4 ht (by decide)) ?_
    have hH_16 : HT ω (up v t 1 ((v t 1) - 1)) ρ Z := hH.upR ht (by decide) rfl (by omega) (by omega)
    show wp g X F_X3_recall 0 0 19 [(2, t), (2, o)] [] (up v t 1 ((v t 1) - 1)) ρ Z
    refine r_aload_n (pc := 19) hX 11 rfl rfl ?_
    refine t_getR (q := (ρ t 0)) (pc := 20) hX 12 rfl rfl rfl fl_X3_13 rfl (hH_16.kd ht (by decide)) (rfl) ?_
    have hw20_ : ω (ρ t 0) = 28 := hH.rf ht (by decide) rfl
    refine t_getI (y := ((v t 1) - 1)) (pc := 24) hX 14 rfl rfl rfl fl_X3_20 rfl (hH_16.kd ht (by decide)) (up_s _ _ _ _) ?_
    refine r_aald (q := (ρ (ρ t 0) ((v t 1) - 1))) (pc := 28) hX 16 17 rfl (hH_16.kd hw20_ (by decide)) (by decide) (by decide) rfl rfl (by omega) (by rw [show Z.2.1 (ρ t 0) = 8 from (hH_16.ln hw20_ (by decide))]; omega) (rfl) ?_
    have hw28_ : ω (ρ (ρ t 0) ((v t 1) - 1)) = 66 := hH.rf hw20_ (by decide) (rf28 ⟨by omega, by omega⟩)
    refine r_callV (as := [(2, (ρ (ρ t 0) ((v t 1) - 1)))]) (st := []) (K := 9) (pc := 29) hX 17 rfl mo_X9_copyFrom ml_X3_24 im_X9_copyFrom se_X9_copyFrom (c_X9_copyFrom g ω (up v t 1 ((v t 1) - 1)) ρ Z hH_16 o ho (ρ (ρ t 0) ((v t 1) - 1)) hw28_ ) rfl rfl rfl (hH_16.kd ho (by decide)) (by rw [hRm]; exact ⟨by decide, by decide⟩) (by rw [hRm]; exact ⟨by decide, by decide⟩) (Nat.le_of_ble_eq_true rfl) (fun o29 v29 ρv29 Zv29 hq29 _ => ?_)
    obtain ⟨rfl, hfr29, hfrR29, hH29, rfl, hq29⟩ := hq29
    show wp g X F_X3_recall 0 0 32 [(2, t), (2, o)] [] v29 ρv29 Z
    refine t_getI (y := ((v t 1) - 1)) (pc := 32) hX 18 rfl rfl rfl fl_X3_20 rfl (hH29.kd ht (by decide)) ((hfr29.at ht (by decide) 1).trans (up_s _ _ _ _)) ?_
    exact r_iret (pc := 36) hX 20 hQ rfl rfl (Nat.le_refl 0) (Nat.le_refl 0) ⟨rfl, ((FrW.rf).up (r := t) ht (by decide)).tr hfr29 (by decide), (FrW.rf).tr hfrR29 (by decide), hH29, ((v t 1) - 1), rfl, (by omega)⟩
  · refine r_iconst (pc := 7) hX 3 rfl ?_
    exact r_iret (pc := 8) hX 4 hQ rfl rfl (Nat.le_refl 0) (Nat.le_refl 0) ⟨rfl, FrW.rf, FrW.rf, hH, (-1), rfl, (by omega)⟩
set_option maxHeartbeats 4000000 in
set_option maxRecDepth 100000 in
theorem c_X2_setPlayers (g : Gp) (ω : Rw) (v ρ : Mv) (Z : Mz) (hH : HT ω v ρ Z) (t : Int) (ht : ω t = 29) (o : Int) (ho : ω o = 22)  : Ok g 2 0 0 F_X2_setPlayers [(2, t), (2, o)] v ρ Z (fun o9 v' ρ' Z' => Z = Z' ∧ FrW ω [29, 30] v v' ∧ FrW ω [29] ρ ρ' ∧ HT ω v' ρ' Z ∧ o9 = none ∧ (ρ' t 0 = ρ o 0)) := by
  refine Ok.of mo_X2_setPlayers (Nat.le_of_ble_eq_true rfl) ?_
  intro X hX hRm hxn hQ
  show wp g X F_X2_setPlayers 0 0 0 [(2, t), (2, o), (3, 0)] [] v ρ Z
  refine r_aload_n (pc := 0) hX 0 rfl rfl ?_
  refine r_aload_n (pc := 1) hX 1 rfl rfl ?_
  refine r_getR (q := (ρ o 0)) (pc := 2) hX 2 rfl fl_X2_97 rfl (hH.kd ho (by decide)) (rfl) ?_
  have hw2_ : ω (ρ o 0) = 5 := hH.rf ho (by decide) rfl
  refine r_putR (pc := 5) hX 3 rfl fl_X2_44 rfl (fun _ h => by cases h; rfl) (hH.kd ht (by decide)) (hH.g4 ht (by decide)) ?_
  have hH_5 : HT ω v (up ρ t 0 (ρ o 0)) Z := hH.uf ht rfl hw2_ rfl
  show wp g X F_X2_setPlayers 0 0 8 [(2, t), (2, o), (3, 0)] [] v (up ρ t 0 (ρ o 0)) Z
  refine r_aload_n (pc := 8) hX 4 rfl rfl ?_
  refine r_iconst (pc := 9) hX 5 rfl ?_
  refine r_putI (pc := 10) hX 6 rfl fl_X2_9 rfl (fun _ h => by cases h; rfl) (hH_5.kd ht (by decide)) (hH_5.g4 ht (by decide)) ?_
  have hH_10 : HT ω (up v t 1 (-1)) (up ρ t 0 (ρ o 0)) Z := hH_5.up0 ht (by decide) rfl
  show wp g X F_X2_setPlayers 0 0 13 [(2, t), (2, o), (3, 0)] [] (up v t 1 (-1)) (up ρ t 0 (ρ o 0)) Z
  refine r_aload_n (pc := 13) hX 7 rfl rfl ?_
  refine t_getR (q := (ρ o 0)) (pc := 14) hX 8 rfl rfl rfl fl_X2_44 rfl (hH_10.kd ht (by decide)) (up_s _ _ _ _) ?_
  refine e_getI (y := (v (ρ o 0) 11)) (pc := 18) hX 10 rfl fl_X2_98 rfl (hH_10.kd hw2_ (by decide)) ((up_k (by decide)).trans (rfl)) ?_
  have hb18 : 1 ≤ (v (ρ o 0) 11) ∧ (v (ρ o 0) 11) ≤ 9 := hH.rg hw2_ (by decide) rfl
  refine r_putI (pc := 21) hX 11 rfl fl_X2_101 rfl (fun _ h => by cases h; rfl) (hH_10.kd ht (by decide)) (hH_10.g4 ht (by decide)) ?_
  have hH_21 : HT ω (up (up v t 1 (-1)) t 5 (v (ρ o 0) 11)) (up ρ t 0 (ρ o 0)) Z := hH_10.upR ht (by decide) rfl (by omega) (by omega)
  show wp g X F_X2_setPlayers 0 0 24 [(2, t), (2, o), (3, 0)] [] (up (up v t 1 (-1)) t 5 (v (ρ o 0) 11)) (up ρ t 0 (ρ o 0)) Z
  refine r_iconst (pc := 24) hX 12 rfl ?_
  refine r_istore_n (ls' := [(2, t), (2, o), (0, 0)]) (pc := 25) hX 13 rfl (by decide) rfl ?_
  have L26 : ∀ (n26 : Nat) (c : Int) (v26 : Mv) (ρ26 : Mv) , (FrW ω [29, 30] v v26) → (FrW ω [29] ρ ρ26) → (HT ω v26 ρ26 Z) → (0 ≤ c ∧ c ≤ 5) → (ρ26 t 0 = ρ o 0) → (5 - c).toNat < n26 → wp g X F_X2_setPlayers 0 0 26 [(2, t), (2, o), (0, c)] [] v26 ρ26 Z := by
    intro n26
    induction n26 with
    | zero => intro c v26 ρ26 hfr26 hfrR26 hH26 ic ir hme26; exact absurd hme26 (Nat.not_lt_zero _)
    | succ n26 ih26 =>
      intro c v26 ρ26 hfr26 hfrR26 hH26 ic ir hme26
      refine r_iload_n (pc := 26) hX 14 rfl rfl ?_
      refine r_iconst (pc := 27) hX 15 rfl ?_
      first | refine r_icmp_ge (pc := 28) hX 16 (tgt := 63) rfl (by decide) (⟨by omega, by omega⟩) (⟨by omega, by omega⟩) (fun h28 => ?_) (fun h28 => ?_) | refine r_icmp_ge_any (pc := 28) hX 16 (tgt := 63) rfl (by decide) ?_ ?_
      · exact r_vret (pc := 63) hX 33 hQ rfl rfl (Nat.le_refl 0) (Nat.le_refl 0) ⟨rfl, hfr26, hfrR26, hH26, rfl, (by omega)⟩
      · refine t_getR (q := (ρ26 t 2)) (pc := 31) hX 17 rfl rfl rfl fl_X2_15 rfl (hH26.kd ht (by decide)) (rfl) ?_
        have hw31_ : ω (ρ26 t 2) = 30 := hH26.rf ht (by decide) rfl
        refine r_iload_n (pc := 35) hX 19 rfl rfl ?_
        refine t_getR (q := (ρ26 t 0)) (pc := 36) hX 20 rfl rfl rfl fl_X2_44 rfl (hH26.kd ht (by decide)) (rfl) ?_
        have hw36_ : ω (ρ26 t 0) = 5 := hH26.rf ht (by decide) rfl
        refine r_iload_n (pc := 40) hX 22 rfl rfl ?_
        refine r_callV (as := [(0, c)]) (st := [(0, c), (2, (ρ26 t 2))]) (K := 4) (pc := 41) hX 23 rfl mo_X4_hasColour ml_X2_102 im_X4_hasColour se_X4_hasColour (c_X4_hasColour g ω v26 ρ26 Z hH26 (ρ26 t 0) hw36_ (c) (by omega)) rfl rfl rfl (hH26.kd hw36_ (by decide)) (by rw [hRm]; exact ⟨by decide, by decide⟩) (by rw [hRm]; exact ⟨by decide, by decide⟩) (Nat.le_of_ble_eq_true rfl) (fun o41 v41 ρv41 Zv41 hq41 _ => ?_)
        obtain ⟨rfl, rfl, rfl, r41, rfl, hq41⟩ := hq41
        try rw [show (v26 (ρ26 t 0) 8) = (v (ρ26 t 0) 8) from (hfr26.at hw36_ (by decide) 8).trans (rfl)] at hq41
        show wp g X F_X2_setPlayers 0 0 44 [(2, t), (2, o), (0, c)] [(0, r41), (0, c), (2, (ρ26 t 2))] v26 ρ26 Z
        have L56 : ∀ (x : Int) , (-1 ≤ x ∧ x ≤ 2) → wp g X F_X2_setPlayers 0 0 56 [(2, t), (2, o), (0, c)] [(0, x), (0, c), (2, (ρ26 t 2))] v26 ρ26 Z := by
          intro x ix
          refine e_iast (n := 5) (pc := 56) hX 30 rfl (hH26.kd hw31_ (by decide)) (hH26.ln hw31_ (by decide)) (hH26.g4 hw31_ (by decide)) (by omega) (by omega) ?_
          have hH_56 : HT ω (up v26 (ρ26 t 2) c x) ρ26 Z := hH26.upR hw31_ (by decide) rfl (by omega) (by omega)
          refine r_iinc (ls' := [(2, t), (2, o), (0, (c + 1))]) (pc := 57) hX 31 rfl rfl (by decide) rfl ?_
          refine r_goto (pc := 60) hX 32 (tgt := 26) rfl (by decide) ?_
          exact (ih26 (c + 1) (up v26 (ρ26 t 2) c x) ρ26 ((hfr26).up (r := (ρ26 t 2)) hw31_ (by decide)) (hfrR26) (hH_56) (by omega) (by omega) (by omega))
        first | refine r_if_eq (pc := 44) hX 24 (tgt := 55) rfl (by decide) (⟨by omega, by omega⟩) (fun h44 => ?_) (fun h44 => ?_) | refine r_if_eq_any (pc := 44) hX 24 (tgt := 55) rfl (by decide) ?_ ?_
        · refine r_iconst (pc := 55) hX 29 rfl ?_
          exact (L56 (-1) (by omega) )
        · refine r_aload_n (pc := 47) hX 25 rfl rfl ?_
          refine r_iload_n (pc := 48) hX 26 rfl rfl ?_
          refine r_callV (as := [(0, c)]) (st := [(0, c), (2, (ρ26 t 2))]) (K := 9) (pc := 49) hX 27 rfl mo_X9_holderOf ml_X2_106 im_X9_holderOf se_X9_holderOf (c_X9_holderOf g ω v26 ρ26 Z hH26 o ho (c) (by omega)) rfl rfl rfl (hH26.kd ho (by decide)) (by rw [hRm]; exact ⟨by decide, by decide⟩) (by rw [hRm]; exact ⟨by decide, by decide⟩) (Nat.le_of_ble_eq_true rfl) (fun o49 v49 ρv49 Zv49 hq49 _ => ?_)
          obtain ⟨rfl, rfl, rfl, r49, rfl, hq49⟩ := hq49
          have hw49_ : ω (ρ o 4) = 24 := hH.rf ho (by decide) rfl
          try rw [show (ρ26 o 0) = (ρ o 0) from (hfrR26.at ho (by decide) 0).trans (rfl)] at hq49
          try rw [show (v26 (ρ o 0) 10) = (v (ρ o 0) 10) from (hfr26.at hw2_ (by decide) 10).trans (rfl)] at hq49
          try rw [show (ρ26 o 4) = (ρ o 4) from (hfrR26.at ho (by decide) 4).trans (rfl)] at hq49
          try rw [show (v26 (ρ o 4)) = (v (ρ o 4)) from (hfr26.rw hw49_ (by decide)).trans (rfl)] at hq49
          show wp g X F_X2_setPlayers 0 0 52 [(2, t), (2, o), (0, c)] [(0, r49), (0, c), (2, (ρ26 t 2))] v26 ρ26 Z
          refine r_goto (pc := 52) hX 28 (tgt := 56) rfl (by decide) ?_
          exact (L56 r49 (by omega) )
  exact (L26 _ 0 (up (up v t 1 (-1)) t 5 (v (ρ o 0) 11)) (up ρ t 0 (ρ o 0)) (((FrW.rf).up (r := t) ht (by decide)).up (r := t) ht (by decide)) ((FrW.rf).up (r := t) ht (by decide)) (hH_21) (by omega) (up_s _ _ _ _) (Nat.lt_succ_self _))
set_option maxHeartbeats 4000000 in
set_option maxRecDepth 100000 in
theorem c_X2_setTo (g : Gp) (ω : Rw) (v ρ : Mv) (Z : Mz) (hH : HT ω v ρ Z) (t : Int) (ht : ω t = 29) (o : Int) (ho : ω o = 22)  : Ok g 3 0 0 F_X2_setTo [(2, t), (2, o)] v ρ Z (fun o9 v' ρ' Z' => Z = Z' ∧ FrW ω [29, 30, 31, 32] v v' ∧ FrW ω [29] ρ ρ' ∧ HT ω v' ρ' Z ∧ o9 = none ∧ True) := by
  refine Ok.of mo_X2_setTo (Nat.le_of_ble_eq_true rfl) ?_
  intro X hX hRm hxn hQ
  show wp g X F_X2_setTo 0 0 0 [(2, t), (2, o), (3, 0)] [] v ρ Z
  refine r_aload_n (pc := 0) hX 0 rfl rfl ?_
  refine r_aload_n (pc := 1) hX 1 rfl rfl ?_
  refine r_callV (as := [(2, o)]) (st := []) (K := 2) (pc := 2) hX 2 rfl mo_X2_setPlayers ml_X2_58 im_X2_setPlayers se_X2_setPlayers (c_X2_setPlayers g ω v ρ Z hH t ht o ho ) rfl rfl rfl (hH.kd ht (by decide)) (by rw [hRm]; exact ⟨by decide, by decide⟩) (by rw [hRm]; exact ⟨by decide, by decide⟩) (Nat.le_of_ble_eq_true rfl) (fun o2 v2 ρv2 Zv2 hq2 _ => ?_)
  obtain ⟨rfl, hfr2, hfrR2, hH2, rfl, hq2⟩ := hq2
  show wp g X F_X2_setTo 0 0 5 [(2, t), (2, o), (3, 0)] [] v2 ρv2 Z
  have e2 : v (ρv2 t 0) 12 = v (ρ o 0) 12 := by rw [hq2]
  refine r_aload_n (pc := 5) hX 3 rfl rfl ?_
  refine r_aload_n (pc := 6) hX 4 rfl rfl ?_
  refine r_callV (as := []) (st := [(2, t)]) (K := 9) (pc := 7) hX 5 rfl mo_X9_isOver ml_X2_61 im_X9_isOver se_X9_isOver (c_X9_isOver g ω v2 ρv2 Z hH2 o ho ) rfl rfl rfl (hH2.kd ho (by decide)) (by rw [hRm]; exact ⟨by decide, by decide⟩) (by rw [hRm]; exact ⟨by decide, by decide⟩) (Nat.le_of_ble_eq_true rfl) (fun o7 v7 ρv7 Zv7 hq7 _ => ?_)
  obtain ⟨rfl, rfl, rfl, r7, rfl, hq7⟩ := hq7
  have hw7_ : ω (ρ o 0) = 5 := hH.rf ho (by decide) rfl
  have hwf1_ : ω (ρ o 6) = 26 := hH.rf ho (by decide) rfl
  try rw [show (v2 o 2) = (v o 2) from (hfr2.at ho (by decide) 2).trans (rfl)] at hq7
  try rw [show (ρv2 o 0) = (ρ o 0) from (hfrR2.at ho (by decide) 0).trans (rfl)] at hq7
  try rw [show (v2 (ρ o 0) 10) = (v (ρ o 0) 10) from (hfr2.at hw7_ (by decide) 10).trans (rfl)] at hq7
  try rw [show (v2 (ρ o 0) 11) = (v (ρ o 0) 11) from (hfr2.at hw7_ (by decide) 11).trans (rfl)] at hq7
  try rw [show (v2 (ρ o 0) 12) = (v (ρ o 0) 12) from (hfr2.at hw7_ (by decide) 12).trans (rfl)] at hq7
  try rw [show (ρv2 o 6) = (ρ o 6) from (hfrR2.at ho (by decide) 6).trans (rfl)] at hq7
  try rw [show (v2 (ρ o 6)) = (v (ρ o 6)) from (hfr2.rw hwf1_ (by decide)).trans (rfl)] at hq7
  show wp g X F_X2_setTo 0 0 10 [(2, t), (2, o), (3, 0)] [(0, r7), (2, t)] v2 ρv2 Z
  have L29 : ∀ (x : Int) , (0 ≤ x ∧ x ≤ 12) → wp g X F_X2_setTo 0 0 29 [(2, t), (2, o), (3, 0)] [(0, x), (2, t)] v2 ρv2 Z := by
    intro x ix
    refine r_putI (pc := 29) hX 15 rfl fl_X2_73 rfl (fun _ h => by cases h; rfl) (hH2.kd ht (by decide)) (hH2.g4 ht (by decide)) ?_
    have hH_29 : HT ω (up v2 t 6 x) ρv2 Z := hH2.upR ht (by decide) rfl (by omega) (by omega)
    show wp g X F_X2_setTo 0 0 32 [(2, t), (2, o), (3, 0)] [] (up v2 t 6 x) ρv2 Z
    refine r_aload_n (pc := 32) hX 16 rfl rfl ?_
    refine r_getR (q := (ρ o 6)) (pc := 33) hX 17 rfl fl_X2_76 rfl (hH_29.kd ho (by decide)) ((hfrR2.at ho (by decide) 6).trans (rfl)) ?_
    refine r_iconst (pc := 36) hX 18 rfl ?_
    refine t_getR (q := (ρv2 t 3)) (pc := 37) hX 19 rfl rfl rfl fl_X2_19 rfl (hH_29.kd ht (by decide)) (rfl) ?_
    have hw37_ : ω (ρv2 t 3) = 31 := hH2.rf ht (by decide) rfl
    refine r_iconst (pc := 41) hX 21 rfl ?_
    refine r_iconst (pc := 42) hX 22 rfl ?_
    refine r_copy (na := 3) (nd := 3) (pc := 43) hX 23 13 3 rfl ml_X2_77 (by decide) (hH_29.kd hwf1_ (by decide)) (hH_29.kd hw37_ (by decide)) (hH_29.g4 hwf1_ (by decide)) (hH_29.g4 hw37_ (by decide)) (by decide) (hH_29.ln hwf1_ (by decide)) (hH_29.ln hw37_ (by decide)) (by decide) (by decide) (by rw [hRm]; exact ⟨by decide, by decide, by decide, by decide⟩) (Nat.le_of_ble_eq_true rfl) ?_
    have hH_43 : HT ω (cpM (up v2 t 6 x) (ρv2 t 3) (ρ o 6) 3) ρv2 Z := hH_29.cp hw37_ (by decide) (lo := 0) (hi := 11) (fun _ => Or.inl rfl) (fun k _ _ => by have z := hH_29.rg (k := k) hwf1_ (by decide) rfl; omega)
    show wp g X F_X2_setTo 0 0 46 [(2, t), (2, o), (3, 0)] [] (cpM (up v2 t 6 x) (ρv2 t 3) (ρ o 6) 3) ρv2 Z
    refine r_iconst (pc := 46) hX 24 rfl ?_
    refine r_istore_n (ls' := [(2, t), (2, o), (0, 0)]) (pc := 47) hX 25 rfl (by decide) rfl ?_
    have L48 : ∀ (n48 : Nat) (l : Int) (v48 : Mv) (ρ48 : Mv) , (FrW ω [29, 30, 31, 32] v v48) → (FrW ω [29] ρ ρ48) → (HT ω v48 ρ48 Z) → (0 ≤ l ∧ l ≤ 3) → (3 - l).toNat < n48 → wp g X F_X2_setTo 0 0 48 [(2, t), (2, o), (0, l)] [] v48 ρ48 Z := by
      intro n48
      induction n48 with
      | zero => intro l v48 ρ48 hfr48 hfrR48 hH48 il hme48; exact absurd hme48 (Nat.not_lt_zero _)
      | succ n48 ih48 =>
        intro l v48 ρ48 hfr48 hfrR48 hH48 il hme48
        refine r_iload_n (pc := 48) hX 26 rfl rfl ?_
        refine r_iconst (pc := 49) hX 27 rfl ?_
        first | refine r_icmp_ge (pc := 50) hX 28 (tgt := 85) rfl (by decide) (⟨by omega, by omega⟩) (⟨by omega, by omega⟩) (fun h50 => ?_) (fun h50 => ?_) | refine r_icmp_ge_any (pc := 50) hX 28 (tgt := 85) rfl (by decide) ?_ ?_
        · exact r_vret (pc := 85) hX 45 hQ rfl rfl (Nat.le_refl 0) (Nat.le_refl 0) ⟨rfl, hfr48, hfrR48, hH48, rfl, trivial⟩
        · refine t_getR (q := (ρ48 t 4)) (pc := 53) hX 29 rfl rfl rfl fl_X2_22 rfl (hH48.kd ht (by decide)) (rfl) ?_
          have hw53_ : ω (ρ48 t 4) = 32 := hH48.rf ht (by decide) rfl
          refine r_iload_n (pc := 57) hX 31 rfl rfl ?_
          refine r_iload_n (pc := 58) hX 32 rfl rfl ?_
          refine t_getR (q := (ρ48 t 0)) (pc := 59) hX 33 rfl rfl rfl fl_X2_44 rfl (hH48.kd ht (by decide)) (rfl) ?_
          have hw59_ : ω (ρ48 t 0) = 5 := hH48.rf ht (by decide) rfl
          refine r_callV (as := []) (st := [(0, l), (0, l), (2, (ρ48 t 4))]) (K := 4) (pc := 63) hX 35 rfl mo_X4_rows ml_X2_83 im_X4_rows se_X4_rows (c_X4_rows g ω v48 ρ48 Z hH48 (ρ48 t 0) hw59_ ) rfl rfl rfl (hH48.kd hw59_ (by decide)) (by rw [hRm]; exact ⟨by decide, by decide⟩) (by rw [hRm]; exact ⟨by decide, by decide⟩) (Nat.le_of_ble_eq_true rfl) (fun o63 v63 ρv63 Zv63 hq63 _ => ?_)
          obtain ⟨rfl, rfl, rfl, r63, rfl, hq63⟩ := hq63
          try rw [show (v48 (ρ48 t 0) 9) = (v (ρ48 t 0) 9) from (hfr48.at hw59_ (by decide) 9).trans (rfl)] at hq63
          show wp g X F_X2_setTo 0 0 66 [(2, t), (2, o), (0, l)] [(0, r63), (0, l), (0, l), (2, (ρ48 t 4))] v48 ρ48 Z
          have L78 : ∀ (x : Int) , wp g X F_X2_setTo 0 0 78 [(2, t), (2, o), (0, l)] [(1, x), (0, l), (2, (ρ48 t 4))] v48 ρ48 Z := by
            intro x
            refine e_last (n := 3) (pc := 78) hX 42 rfl (hH48.kd hw53_ (by decide)) (hH48.ln hw53_ (by decide)) (hH48.g4 hw53_ (by decide)) (by omega) (by omega) ?_
            have hH_78 : HT ω (up v48 (ρ48 t 4) l x) ρ48 Z := hH48.up0 hw53_ (by decide) rfl
            refine r_iinc (ls' := [(2, t), (2, o), (0, (l + 1))]) (pc := 79) hX 43 rfl rfl (by decide) rfl ?_
            refine r_goto (pc := 82) hX 44 (tgt := 48) rfl (by decide) ?_
            exact (ih48 (l + 1) (up v48 (ρ48 t 4) l x) ρ48 ((hfr48).up (r := (ρ48 t 4)) hw53_ (by decide)) (hfrR48) (hH_78) (by omega) (by omega))
          first | refine r_icmp_ge (pc := 66) hX 36 (tgt := 77) rfl (by decide) (⟨by omega, by omega⟩) (⟨by omega, by omega⟩) (fun h66 => ?_) (fun h66 => ?_) | refine r_icmp_ge_any (pc := 66) hX 36 (tgt := 77) rfl (by decide) ?_ ?_
          · refine r_lconst (pc := 77) hX 41 rfl ?_
            show wp g X F_X2_setTo 0 0 78 [(2, t), (2, o), (0, l)] [(1, 0), (0, l), (2, (ρ48 t 4))] v48 ρ48 Z
            exact (L78 0  )
          · refine r_aload_n (pc := 69) hX 37 rfl rfl ?_
            refine r_iload_n (pc := 70) hX 38 rfl rfl ?_
            refine r_callV (as := [(0, l)]) (st := [(0, l), (2, (ρ48 t 4))]) (K := 9) (pc := 71) hX 39 rfl mo_X9_weightOf ml_X2_87 im_X9_weightOf se_X9_weightOf (c_X9_weightOf g ω v48 ρ48 Z hH48 o ho (l) (by omega)) rfl rfl rfl (hH48.kd ho (by decide)) (by rw [hRm]; exact ⟨by decide, by decide⟩) (by rw [hRm]; exact ⟨by decide, by decide⟩) (Nat.le_of_ble_eq_true rfl) (fun o71 v71 ρv71 Zv71 hq71 _ => ?_)
            obtain ⟨rfl, rfl, rfl, r71, rfl, hq71⟩ := hq71
            show wp g X F_X2_setTo 0 0 74 [(2, t), (2, o), (0, l)] [(1, r71), (0, l), (2, (ρ48 t 4))] v48 ρ48 Z
            refine r_goto (pc := 74) hX 40 (tgt := 78) rfl (by decide) ?_
            exact (L78 r71  )
    exact (L48 _ 0 (cpM (up v2 t 6 x) (ρv2 t 3) (ρ o 6) 3) ρv2 ((((FrW.rf).tr hfr2 (by decide)).up (r := t) ht (by decide)).cp (d := (ρv2 t 3)) hw37_ (by decide)) ((FrW.rf).tr hfrR2 (by decide)) (hH_43) (by omega) (Nat.lt_succ_self _))
  first | refine r_if_eq (pc := 10) hX 6 (tgt := 17) rfl (by decide) (⟨by omega, by omega⟩) (fun h10 => ?_) (fun h10 => ?_) | refine r_if_eq_any (pc := 10) hX 6 (tgt := 17) rfl (by decide) ?_ ?_
  · refine t_getR (q := (ρv2 t 0)) (pc := 17) hX 9 rfl rfl rfl fl_X2_44 rfl (hH2.kd ht (by decide)) (rfl) ?_
    have hw17_ : ω (ρv2 t 0) = 5 := hH2.rf ht (by decide) rfl
    refine e_getI (y := (v (ρv2 t 0) 12)) (pc := 21) hX 11 rfl fl_X2_65 rfl (hH2.kd hw17_ (by decide)) ((hfr2.at hw17_ (by decide) 12).trans (rfl)) ?_
    have hb21 : 1 ≤ (v (ρv2 t 0) 12) ∧ (v (ρv2 t 0) 12) ≤ 12 := hH.rg hw17_ (by decide) rfl
    refine r_aload_n (pc := 24) hX 12 rfl rfl ?_
    refine e_getI (y := (v o 2)) (pc := 25) hX 13 rfl fl_X2_70 rfl (hH2.kd ho (by decide)) ((hfr2.at ho (by decide) 2).trans (rfl)) ?_
    have hb25 : 0 ≤ (v o 2) ∧ (v o 2) ≤ 12 := hH.rg ho (by decide) rfl
    refine r_isub (pc := 28) hX 14 rfl ?_
    exact (L29 ((v (ρv2 t 0) 12) - (v o 2)) (by omega) )
  · refine r_iconst (pc := 13) hX 7 rfl ?_
    refine r_goto (pc := 14) hX 8 (tgt := 29) rfl (by decide) ?_
    exact (L29 0 (by omega) )
set_option maxHeartbeats 4000000 in
set_option maxRecDepth 100000 in
theorem c_X2_setToBeginning (g : Gp) (ω : Rw) (v ρ : Mv) (Z : Mz) (hH : HT ω v ρ Z) (t : Int) (ht : ω t = 29) (o : Int) (ho : ω o = 22)  : Ok g 3 0 0 F_X2_setToBeginning [(2, t), (2, o)] v ρ Z (fun o9 v' ρ' Z' => Z = Z' ∧ FrW ω [29, 30, 31, 32] v v' ∧ FrW ω [29] ρ ρ' ∧ HT ω v' ρ' Z ∧ o9 = none ∧ True) := by
  refine Ok.of mo_X2_setToBeginning (Nat.le_of_ble_eq_true rfl) ?_
  intro X hX hRm hxn hQ
  show wp g X F_X2_setToBeginning 0 0 0 [(2, t), (2, o), (3, 0)] [] v ρ Z
  refine r_aload_n (pc := 0) hX 0 rfl rfl ?_
  refine r_aload_n (pc := 1) hX 1 rfl rfl ?_
  refine r_callV (as := [(2, o)]) (st := []) (K := 2) (pc := 2) hX 2 rfl mo_X2_setPlayers ml_X2_58 im_X2_setPlayers se_X2_setPlayers (c_X2_setPlayers g ω v ρ Z hH t ht o ho ) rfl rfl rfl (hH.kd ht (by decide)) (by rw [hRm]; exact ⟨by decide, by decide⟩) (by rw [hRm]; exact ⟨by decide, by decide⟩) (Nat.le_of_ble_eq_true rfl) (fun o2 v2 ρv2 Zv2 hq2 _ => ?_)
  obtain ⟨rfl, hfr2, hfrR2, hH2, rfl, hq2⟩ := hq2
  show wp g X F_X2_setToBeginning 0 0 5 [(2, t), (2, o), (3, 0)] [] v2 ρv2 Z
  refine r_aload_n (pc := 5) hX 3 rfl rfl ?_
  refine t_getR (q := (ρv2 t 0)) (pc := 6) hX 4 rfl rfl rfl fl_X2_44 rfl (hH2.kd ht (by decide)) (rfl) ?_
  have hw6_ : ω (ρv2 t 0) = 5 := hH2.rf ht (by decide) rfl
  refine e_getI (y := (v (ρv2 t 0) 12)) (pc := 10) hX 6 rfl fl_X2_65 rfl (hH2.kd hw6_ (by decide)) ((hfr2.at hw6_ (by decide) 12).trans (rfl)) ?_
  have hb10 : 1 ≤ (v (ρv2 t 0) 12) ∧ (v (ρv2 t 0) 12) ≤ 12 := hH.rg hw6_ (by decide) rfl
  refine r_putI (pc := 13) hX 7 rfl fl_X2_73 rfl (fun _ h => by cases h; rfl) (hH2.kd ht (by decide)) (hH2.g4 ht (by decide)) ?_
  have hH_13 : HT ω (up v2 t 6 (v (ρv2 t 0) 12)) ρv2 Z := hH2.upR ht (by decide) rfl (by omega) (by omega)
  show wp g X F_X2_setToBeginning 0 0 16 [(2, t), (2, o), (3, 0)] [] (up v2 t 6 (v (ρv2 t 0) 12)) ρv2 Z
  refine t_getR (q := (ρv2 t 0)) (pc := 16) hX 8 rfl rfl rfl fl_X2_44 rfl (hH_13.kd ht (by decide)) (rfl) ?_
  refine r_getR (q := (ρ (ρv2 t 0) 7)) (pc := 20) hX 10 rfl fl_X2_91 rfl (hH_13.kd hw6_ (by decide)) ((hfrR2.at hw6_ (by decide) 7).trans (rfl)) ?_
  have hw20_ : ω (ρ (ρv2 t 0) 7) = 14 := hH.rf hw6_ (by decide) rfl
  refine r_iconst (pc := 23) hX 11 rfl ?_
  refine t_getR (q := (ρv2 t 3)) (pc := 24) hX 12 rfl rfl rfl fl_X2_19 rfl (hH_13.kd ht (by decide)) (rfl) ?_
  have hw24_ : ω (ρv2 t 3) = 31 := hH2.rf ht (by decide) rfl
  refine r_iconst (pc := 28) hX 14 rfl ?_
  refine r_iconst (pc := 29) hX 15 rfl ?_
  refine r_copy (na := 3) (nd := 3) (pc := 30) hX 16 13 3 rfl ml_X2_77 (by decide) (hH_13.kd hw20_ (by decide)) (hH_13.kd hw24_ (by decide)) (hH_13.g4 hw20_ (by decide)) (hH_13.g4 hw24_ (by decide)) (by decide) (hH_13.ln hw20_ (by decide)) (hH_13.ln hw24_ (by decide)) (by decide) (by decide) (by rw [hRm]; exact ⟨by decide, by decide, by decide, by decide⟩) (Nat.le_of_ble_eq_true rfl) ?_
  have hH_30 : HT ω (cpM (up v2 t 6 (v (ρv2 t 0) 12)) (ρv2 t 3) (ρ (ρv2 t 0) 7) 3) ρv2 Z := hH_13.cp hw24_ (by decide) (lo := 0) (hi := 11) (fun _ => Or.inl rfl) (fun k _ _ => by have z := hH_13.rg (k := k) hw20_ (by decide) rfl; omega)
  show wp g X F_X2_setToBeginning 0 0 33 [(2, t), (2, o), (3, 0)] [] (cpM (up v2 t 6 (v (ρv2 t 0) 12)) (ρv2 t 3) (ρ (ρv2 t 0) 7) 3) ρv2 Z
  refine r_iconst (pc := 33) hX 17 rfl ?_
  refine r_istore_n (ls' := [(2, t), (2, o), (0, 0)]) (pc := 34) hX 18 rfl (by decide) rfl ?_
  have L35 : ∀ (n35 : Nat) (l : Int) (v35 : Mv) (ρ35 : Mv) , (FrW ω [29, 30, 31, 32] v v35) → (FrW ω [29] ρ ρ35) → (HT ω v35 ρ35 Z) → (0 ≤ l ∧ l ≤ 3) → (3 - l).toNat < n35 → wp g X F_X2_setToBeginning 0 0 35 [(2, t), (2, o), (0, l)] [] v35 ρ35 Z := by
    intro n35
    induction n35 with
    | zero => intro l v35 ρ35 hfr35 hfrR35 hH35 il hme35; exact absurd hme35 (Nat.not_lt_zero _)
    | succ n35 ih35 =>
      intro l v35 ρ35 hfr35 hfrR35 hH35 il hme35
      refine r_iload_n (pc := 35) hX 19 rfl rfl ?_
      refine r_iconst (pc := 36) hX 20 rfl ?_
      first | refine r_icmp_ge (pc := 37) hX 21 (tgt := 77) rfl (by decide) (⟨by omega, by omega⟩) (⟨by omega, by omega⟩) (fun h37 => ?_) (fun h37 => ?_) | refine r_icmp_ge_any (pc := 37) hX 21 (tgt := 77) rfl (by decide) ?_ ?_
      · exact r_vret (pc := 77) hX 41 hQ rfl rfl (Nat.le_refl 0) (Nat.le_refl 0) ⟨rfl, hfr35, hfrR35, hH35, rfl, trivial⟩
      · refine t_getR (q := (ρ35 t 4)) (pc := 40) hX 22 rfl rfl rfl fl_X2_22 rfl (hH35.kd ht (by decide)) (rfl) ?_
        have hw40_ : ω (ρ35 t 4) = 32 := hH35.rf ht (by decide) rfl
        refine r_iload_n (pc := 44) hX 24 rfl rfl ?_
        refine r_iload_n (pc := 45) hX 25 rfl rfl ?_
        refine t_getR (q := (ρ35 t 0)) (pc := 46) hX 26 rfl rfl rfl fl_X2_44 rfl (hH35.kd ht (by decide)) (rfl) ?_
        have hw46_ : ω (ρ35 t 0) = 5 := hH35.rf ht (by decide) rfl
        refine r_callV (as := []) (st := [(0, l), (0, l), (2, (ρ35 t 4))]) (K := 4) (pc := 50) hX 28 rfl mo_X4_rows ml_X2_83 im_X4_rows se_X4_rows (c_X4_rows g ω v35 ρ35 Z hH35 (ρ35 t 0) hw46_ ) rfl rfl rfl (hH35.kd hw46_ (by decide)) (by rw [hRm]; exact ⟨by decide, by decide⟩) (by rw [hRm]; exact ⟨by decide, by decide⟩) (Nat.le_of_ble_eq_true rfl) (fun o50 v50 ρv50 Zv50 hq50 _ => ?_)
        obtain ⟨rfl, rfl, rfl, r50, rfl, hq50⟩ := hq50
        try rw [show (v35 (ρ35 t 0) 9) = (v (ρ35 t 0) 9) from (hfr35.at hw46_ (by decide) 9).trans (rfl)] at hq50
        show wp g X F_X2_setToBeginning 0 0 53 [(2, t), (2, o), (0, l)] [(0, r50), (0, l), (0, l), (2, (ρ35 t 4))] v35 ρ35 Z
        have L70 : ∀ (x : Int) , wp g X F_X2_setToBeginning 0 0 70 [(2, t), (2, o), (0, l)] [(1, x), (0, l), (2, (ρ35 t 4))] v35 ρ35 Z := by
          intro x
          refine e_last (n := 3) (pc := 70) hX 38 rfl (hH35.kd hw40_ (by decide)) (hH35.ln hw40_ (by decide)) (hH35.g4 hw40_ (by decide)) (by omega) (by omega) ?_
          have hH_70 : HT ω (up v35 (ρ35 t 4) l x) ρ35 Z := hH35.up0 hw40_ (by decide) rfl
          refine r_iinc (ls' := [(2, t), (2, o), (0, (l + 1))]) (pc := 71) hX 39 rfl rfl (by decide) rfl ?_
          refine r_goto (pc := 74) hX 40 (tgt := 35) rfl (by decide) ?_
          exact (ih35 (l + 1) (up v35 (ρ35 t 4) l x) ρ35 ((hfr35).up (r := (ρ35 t 4)) hw40_ (by decide)) (hfrR35) (hH_70) (by omega) (by omega))
        first | refine r_icmp_ge (pc := 53) hX 29 (tgt := 69) rfl (by decide) (⟨by omega, by omega⟩) (⟨by omega, by omega⟩) (fun h53 => ?_) (fun h53 => ?_) | refine r_icmp_ge_any (pc := 53) hX 29 (tgt := 69) rfl (by decide) ?_ ?_
        · refine r_lconst (pc := 69) hX 37 rfl ?_
          show wp g X F_X2_setToBeginning 0 0 70 [(2, t), (2, o), (0, l)] [(1, 0), (0, l), (2, (ρ35 t 4))] v35 ρ35 Z
          exact (L70 0  )
        · refine t_getR (q := (ρ35 t 0)) (pc := 56) hX 30 rfl rfl rfl fl_X2_44 rfl (hH35.kd ht (by decide)) (rfl) ?_
          refine r_getR (q := (ρ (ρ35 t 0) 4)) (pc := 60) hX 32 rfl fl_X2_94 rfl (hH35.kd hw46_ (by decide)) ((hfrR35.at hw46_ (by decide) 4).trans (rfl)) ?_
          have hw60_ : ω (ρ (ρ35 t 0) 4) = 11 := hH.rf hw46_ (by decide) rfl
          refine r_iload_n (pc := 63) hX 33 rfl rfl ?_
          refine e_iald (y := (v (ρ (ρ35 t 0) 4) l)) (n := 3) (pc := 64) hX 34 rfl (hH35.kd hw60_ (by decide)) (hH35.ln hw60_ (by decide)) (by omega) (by omega) ((hfr35.at hw60_ (by decide) l).trans (rfl)) ?_
          have hb64 : 0 ≤ (v (ρ (ρ35 t 0) 4) l) ∧ (v (ρ (ρ35 t 0) 4) l) ≤ 9 := hH.rg hw60_ (by decide) rfl
          refine r_i2l (pc := 65) hX 35 rfl ⟨by omega, by omega⟩ ?_
          refine r_goto (pc := 66) hX 36 (tgt := 70) rfl (by decide) ?_
          exact (L70 (v (ρ (ρ35 t 0) 4) l)  )
  exact (L35 _ 0 (cpM (up v2 t 6 (v (ρv2 t 0) 12)) (ρv2 t 3) (ρ (ρv2 t 0) 7) 3) ρv2 ((((FrW.rf).tr hfr2 (by decide)).up (r := t) ht (by decide)).cp (d := (ρv2 t 3)) hw24_ (by decide)) ((FrW.rf).tr hfrR2 (by decide)) (hH_30) (by omega) (Nat.lt_succ_self _))
set_option maxHeartbeats 4000000 in
set_option maxRecDepth 100000 in
theorem c_X2_dropAll (g : Gp) (ω : Rw) (v ρ : Mv) (Z : Mz) (hH : HT ω v ρ Z) (t : Int) (ht : ω t = 29) (p : Int)  : Ok g 1 0 0 F_X2_dropAll [(2, t), (0, p)] v ρ Z (fun o9 v' ρ' Z' => ρ = ρ' ∧ Z = Z' ∧ FrW ω [30] v v' ∧ HT ω v' ρ Z ∧ o9 = none ∧ True) := by
  refine Ok.of mo_X2_dropAll (Nat.le_of_ble_eq_true rfl) ?_
  intro X hX hRm hxn hQ
  show wp g X F_X2_dropAll 0 0 0 [(2, t), (0, p), (3, 0)] [] v ρ Z
  refine r_iconst (pc := 0) hX 0 rfl ?_
  refine r_istore_n (ls' := [(2, t), (0, p), (0, 0)]) (pc := 1) hX 1 rfl (by decide) rfl ?_
  have L2 : ∀ (n2 : Nat) (c : Int) (v2 : Mv) , (FrW ω [30] v v2) → (HT ω v2 ρ Z) → (0 ≤ c ∧ c ≤ 5) → (5 - c).toNat < n2 → wp g X F_X2_dropAll 0 0 2 [(2, t), (0, p), (0, c)] [] v2 ρ Z := by
    intro n2
    induction n2 with
    | zero => intro c v2 hfr2 hH2 ic hme2; exact absurd hme2 (Nat.not_lt_zero _)
    | succ n2 ih2 =>
      intro c v2 hfr2 hH2 ic hme2
      refine r_iload_n (pc := 2) hX 2 rfl rfl ?_
      refine r_iconst (pc := 3) hX 3 rfl ?_
      first | refine r_icmp_ge (pc := 4) hX 4 (tgt := 30) rfl (by decide) (⟨by omega, by omega⟩) (⟨by omega, by omega⟩) (fun h4 => ?_) (fun h4 => ?_) | refine r_icmp_ge_any (pc := 4) hX 4 (tgt := 30) rfl (by decide) ?_ ?_
      · exact r_vret (pc := 30) hX 18 hQ rfl rfl (Nat.le_refl 0) (Nat.le_refl 0) ⟨rfl, rfl, hfr2, hH2, rfl, trivial⟩
      · refine t_getR (q := (ρ t 2)) (pc := 7) hX 5 rfl rfl rfl fl_X2_15 rfl (hH2.kd ht (by decide)) (rfl) ?_
        have hw7_ : ω (ρ t 2) = 30 := hH.rf ht (by decide) rfl
        refine r_iload_n (pc := 11) hX 7 rfl rfl ?_
        refine e_iald (y := (v2 (ρ t 2) c)) (n := 5) (pc := 12) hX 8 rfl (hH2.kd hw7_ (by decide)) (hH2.ln hw7_ (by decide)) (by omega) (by omega) (rfl) ?_
        have hb12 : (-1) ≤ (v2 (ρ t 2) c) ∧ (v2 (ρ t 2) c) ≤ 2 := hH2.rg hw7_ (by decide) rfl
        refine r_iload_n (pc := 13) hX 9 rfl rfl ?_
        have L24 : ∀ (v24 : Mv) , (FrW ω [30] v v24) → (HT ω v24 ρ Z) → wp g X F_X2_dropAll 0 0 24 [(2, t), (0, p), (0, c)] [] v24 ρ Z := by
          intro v24 hfr24 hH24
          refine r_iinc (ls' := [(2, t), (0, p), (0, (c + 1))]) (pc := 24) hX 16 rfl rfl (by decide) rfl ?_
          refine r_goto (pc := 27) hX 17 (tgt := 2) rfl (by decide) ?_
          exact (ih2 (c + 1) v24 (hfr24) (hH24) (by omega) (by omega))
        first | refine r_icmp_ne (pc := 14) hX 10 (tgt := 24) rfl (by decide) (⟨by omega, by omega⟩) (⟨by omega, by omega⟩) (fun h14 => ?_) (fun h14 => ?_) | refine r_icmp_ne_any (pc := 14) hX 10 (tgt := 24) rfl (by decide) ?_ ?_
        · exact (L24  v2 (hfr2) (hH2) )
        · refine t_getR (q := (ρ t 2)) (pc := 17) hX 11 rfl rfl rfl fl_X2_15 rfl (hH2.kd ht (by decide)) (rfl) ?_
          refine r_iload_n (pc := 21) hX 13 rfl rfl ?_
          refine r_iconst (pc := 22) hX 14 rfl ?_
          refine e_iast (n := 5) (pc := 23) hX 15 rfl (hH2.kd hw7_ (by decide)) (hH2.ln hw7_ (by decide)) (hH2.g4 hw7_ (by decide)) (by omega) (by omega) ?_
          have hH_23 : HT ω (up v2 (ρ t 2) c (-1)) ρ Z := hH2.upR hw7_ (by decide) rfl (by omega) (by omega)
          exact (L24  (up v2 (ρ t 2) c (-1)) ((hfr2).up (r := (ρ t 2)) hw7_ (by decide)) (hH_23) )
  exact (L2 _ 0 v (FrW.rf) (hH) (by omega) (Nat.lt_succ_self _))
set_option maxHeartbeats 4000000 in
set_option maxRecDepth 100000 in
theorem c_X2_clearResults (g : Gp) (ω : Rw) (v ρ : Mv) (Z : Mz) (hH : HT ω v ρ Z) (t : Int) (ht : ω t = 29)  : Ok g 2 0 0 F_X2_clearResults [(2, t)] v ρ Z (fun o9 v' ρ' Z' => ρ = ρ' ∧ Z = Z' ∧ FrW ω [29, 33, 34] v v' ∧ HT ω v' ρ Z ∧ o9 = none ∧ True) := by
  refine Ok.of mo_X2_clearResults (Nat.le_of_ble_eq_true rfl) ?_
  intro X hX hRm hxn hQ
  show wp g X F_X2_clearResults 0 0 0 [(2, t)] [] v ρ Z
  refine r_aload_n (pc := 0) hX 0 rfl rfl ?_
  refine r_lconst (pc := 1) hX 1 rfl ?_
  show wp g X F_X2_clearResults 0 0 2 [(2, t)] [(1, 0), (2, t)] v ρ Z
  refine r_putL (pc := 2) hX 2 rfl fl_X2_116 rfl (fun _ h => by cases h; rfl) (hH.kd ht (by decide)) (hH.g4 ht (by decide)) ?_
  have hH_2 : HT ω (up v t 7 0) ρ Z := hH.up0 ht (by decide) rfl
  show wp g X F_X2_clearResults 0 0 5 [(2, t)] [] (up v t 7 0) ρ Z
  refine r_aload_n (pc := 5) hX 3 rfl rfl ?_
  refine r_lconst (pc := 6) hX 4 rfl ?_
  show wp g X F_X2_clearResults 0 0 7 [(2, t)] [(1, 0), (2, t)] (up v t 7 0) ρ Z
  refine r_putL (pc := 7) hX 5 rfl fl_X2_147 rfl (fun _ h => by cases h; rfl) (hH_2.kd ht (by decide)) (hH_2.g4 ht (by decide)) ?_
  have hH_7 : HT ω (up (up v t 7 0) t 8 0) ρ Z := hH_2.up0 ht (by decide) rfl
  show wp g X F_X2_clearResults 0 0 10 [(2, t)] [] (up (up v t 7 0) t 8 0) ρ Z
  refine t_getR (q := (ρ t 9)) (pc := 10) hX 6 rfl rfl rfl fl_X2_26 rfl (hH_7.kd ht (by decide)) (rfl) ?_
  have hw10_ : ω (ρ t 9) = 33 := hH.rf ht (by decide) rfl
  refine r_lconst (pc := 14) hX 8 rfl ?_
  show wp g X F_X2_clearResults 0 0 15 [(2, t)] [(1, 0), (2, (ρ t 9))] (up (up v t 7 0) t 8 0) ρ Z
  refine r_callS (as := [(2, (ρ t 9)), (1, 0)]) (st := []) (pc := 15) hX 9 rfl mo_J7_fill_d0a16 ml_X2_137 stt_J7_fill_d0a16 (c_J7_fill33 g ω (up (up v t 7 0) t 8 0) ρ Z hH_7 (ρ t 9) hw10_ (0) ) rfl (by rw [hRm]; exact ⟨by decide, by decide⟩) (by rw [hRm]; exact ⟨by decide, by decide⟩) (Nat.le_of_ble_eq_true rfl) (fun o15 v15 ρv15 Zv15 hq15 _ => ?_)
  obtain ⟨rfl, rfl, hfr15, hH15, rfl, hq15⟩ := hq15
  show wp g X F_X2_clearResults 0 0 18 [(2, t)] [] v15 ρ Z
  refine t_getR (q := (ρ t 10)) (pc := 18) hX 10 rfl rfl rfl fl_X2_29 rfl (hH15.kd ht (by decide)) (rfl) ?_
  have hw18_ : ω (ρ t 10) = 34 := hH.rf ht (by decide) rfl
  refine r_lconst (pc := 22) hX 12 rfl ?_
  show wp g X F_X2_clearResults 0 0 23 [(2, t)] [(1, 0), (2, (ρ t 10))] v15 ρ Z
  refine r_callS (as := [(2, (ρ t 10)), (1, 0)]) (st := []) (pc := 23) hX 13 rfl mo_J7_fill_d0a16 ml_X2_137 stt_J7_fill_d0a16 (c_J7_fill34 g ω v15 ρ Z hH15 (ρ t 10) hw18_ (0) ) rfl (by rw [hRm]; exact ⟨by decide, by decide⟩) (by rw [hRm]; exact ⟨by decide, by decide⟩) (Nat.le_of_ble_eq_true rfl) (fun o23 v23 ρv23 Zv23 hq23 _ => ?_)
  obtain ⟨rfl, rfl, hfr23, hH23, rfl, hq23⟩ := hq23
  show wp g X F_X2_clearResults 0 0 26 [(2, t)] [] v23 ρ Z
  exact r_vret (pc := 26) hX 14 hQ rfl rfl (Nat.le_refl 0) (Nat.le_refl 0) ⟨rfl, rfl, ((((FrW.rf).up (r := t) ht (by decide)).up (r := t) ht (by decide)).tr hfr15 (by decide)).tr hfr23 (by decide), hH23, rfl, trivial⟩
set_option maxHeartbeats 4000000 in
set_option maxRecDepth 100000 in
theorem c_X2_firstAtGoal (g : Gp) (ω : Rw) (v ρ : Mv) (Z : Mz) (hH : HT ω v ρ Z) (t : Int) (ht : ω t = 29)  : Ok g 1 0 0 F_X2_firstAtGoal [(2, t)] v ρ Z (fun o9 v' ρ' Z' => ρ = ρ' ∧ Z = Z' ∧ v = v' ∧ ∃ r : Int, o9 = some (0, r) ∧ (-1 ≤ r ∧ r ≤ 2)) := by
  refine Ok.of mo_X2_firstAtGoal (Nat.le_of_ble_eq_true rfl) ?_
  intro X hX hRm hxn hQ
  show wp g X F_X2_firstAtGoal 0 0 0 [(2, t), (3, 0)] [] v ρ Z
  refine r_iconst (pc := 0) hX 0 rfl ?_
  refine r_istore_n (ls' := [(2, t), (0, 0)]) (pc := 1) hX 1 rfl (by decide) rfl ?_
  have L2 : ∀ (n2 : Nat) (i : Int) , (0 ≤ i ∧ i ≤ 3) → (3 - i).toNat < n2 → wp g X F_X2_firstAtGoal 0 0 2 [(2, t), (0, i)] [] v ρ Z := by
    intro n2
    induction n2 with
    | zero => intro i ii hme2; exact absurd hme2 (Nat.not_lt_zero _)
    | succ n2 ih2 =>
      intro i ii hme2
      refine r_iload_n (pc := 2) hX 2 rfl rfl ?_
      refine t_getR (q := (ρ t 0)) (pc := 3) hX 3 rfl rfl rfl fl_X2_44 rfl (hH.kd ht (by decide)) (rfl) ?_
      have hw3_ : ω (ρ t 0) = 5 := hH.rf ht (by decide) rfl
      refine e_getI (y := (v (ρ t 0) 10)) (pc := 7) hX 5 rfl fl_X2_123 rfl (hH.kd hw3_ (by decide)) (rfl) ?_
      have hb7 : 0 ≤ (v (ρ t 0) 10) ∧ (v (ρ t 0) 10) ≤ 3 := hH.rg hw3_ (by decide) rfl
      first | refine r_icmp_ge (pc := 10) hX 6 (tgt := 34) rfl (by decide) (⟨by omega, by omega⟩) (⟨by omega, by omega⟩) (fun h10 => ?_) (fun h10 => ?_) | refine r_icmp_ge_any (pc := 10) hX 6 (tgt := 34) rfl (by decide) ?_ ?_
      · refine r_iconst (pc := 34) hX 18 rfl ?_
        exact r_iret (pc := 35) hX 19 hQ rfl rfl (Nat.le_refl 0) (Nat.le_refl 0) ⟨rfl, rfl, rfl, (-1), rfl, (by omega)⟩
      · refine t_getR (q := (ρ t 3)) (pc := 13) hX 7 rfl rfl rfl fl_X2_19 rfl (hH.kd ht (by decide)) (rfl) ?_
        have hw13_ : ω (ρ t 3) = 31 := hH.rf ht (by decide) rfl
        refine r_iload_n (pc := 17) hX 9 rfl rfl ?_
        refine e_iald (y := (v (ρ t 3) i)) (n := 3) (pc := 18) hX 10 rfl (hH.kd hw13_ (by decide)) (hH.ln hw13_ (by decide)) (by omega) (by omega) (rfl) ?_
        have hb18 : 0 ≤ (v (ρ t 3) i) ∧ (v (ρ t 3) i) ≤ 11 := hH.rg hw13_ (by decide) rfl
        refine t_getI (y := (v t 5)) (pc := 19) hX 11 rfl rfl rfl fl_X2_101 rfl (hH.kd ht (by decide)) (rfl) ?_
        have hb19 : 0 ≤ (v t 5) ∧ (v t 5) ≤ 9 := hH.rg ht (by decide) rfl
        first | refine r_icmp_lt (pc := 23) hX 13 (tgt := 28) rfl (by decide) (⟨by omega, by omega⟩) (⟨by omega, by omega⟩) (fun h23 => ?_) (fun h23 => ?_) | refine r_icmp_lt_any (pc := 23) hX 13 (tgt := 28) rfl (by decide) ?_ ?_
        · refine r_iinc (ls' := [(2, t), (0, (i + 1))]) (pc := 28) hX 16 rfl rfl (by decide) rfl ?_
          refine r_goto (pc := 31) hX 17 (tgt := 2) rfl (by decide) ?_
          exact (ih2 (i + 1) (by omega) (by omega))
        · refine r_iload_n (pc := 26) hX 14 rfl rfl ?_
          exact r_iret (pc := 27) hX 15 hQ rfl rfl (Nat.le_refl 0) (Nat.le_refl 0) ⟨rfl, rfl, rfl, i, rfl, (by omega)⟩
  exact (L2 _ 0 (by omega) (Nat.lt_succ_self _))
set_option maxHeartbeats 4000000 in
set_option maxRecDepth 100000 in
theorem c_X2_setRanges (g : Gp) (ω : Rw) (v ρ : Mv) (Z : Mz) (hH : HT ω v ρ Z) (t : Int) (ht : ω t = 29)  : Ok g 2 0 0 F_X2_setRanges [(2, t)] v ρ Z (fun o9 v' ρ' Z' => ρ = ρ' ∧ Z = Z' ∧ FrW ω [36, 37] v v' ∧ HT ω v' ρ Z ∧ o9 = none ∧ True) := by
  refine Ok.of mo_X2_setRanges (Nat.le_of_ble_eq_true rfl) ?_
  intro X hX hRm hxn hQ
  show wp g X F_X2_setRanges 0 0 0 [(2, t), (3, 0), (3, 0)] [] v ρ Z
  refine r_iconst (pc := 0) hX 0 rfl ?_
  refine r_istore_n (ls' := [(2, t), (0, 0), (3, 0)]) (pc := 1) hX 1 rfl (by decide) rfl ?_
  have L2 : ∀ (n2 : Nat) (i : Int) (v2 : Mv) , (FrW ω [36, 37] v v2) → (HT ω v2 ρ Z) → (0 ≤ i ∧ i ≤ 3) → (3 - i).toNat < n2 → wp g X F_X2_setRanges 0 0 2 [(2, t), (0, i), (3, 0)] [] v2 ρ Z := by
    intro n2
    induction n2 with
    | zero => intro i v2 hfr2 hH2 ii hme2; exact absurd hme2 (Nat.not_lt_zero _)
    | succ n2 ih2 =>
      intro i v2 hfr2 hH2 ii hme2
      refine r_iload_n (pc := 2) hX 2 rfl rfl ?_
      refine r_iconst (pc := 3) hX 3 rfl ?_
      first | refine r_icmp_ge (pc := 4) hX 4 (tgt := 27) rfl (by decide) (⟨by omega, by omega⟩) (⟨by omega, by omega⟩) (fun h4 => ?_) (fun h4 => ?_) | refine r_icmp_ge_any (pc := 4) hX 4 (tgt := 27) rfl (by decide) ?_ ?_
      · refine r_iconst (pc := 27) hX 17 rfl ?_
        refine r_istore_n (ls' := [(2, t), (0, 0), (3, 0)]) (pc := 28) hX 18 rfl (by decide) rfl ?_
        have L29 : ∀ (n29 : Nat) (c : Int) (v29 : Mv) , (FrW ω [36, 37] v v29) → (HT ω v29 ρ Z) → (0 ≤ c ∧ c ≤ 4) → (4 - c).toNat < n29 → wp g X F_X2_setRanges 0 0 29 [(2, t), (0, c), (3, 0)] [] v29 ρ Z := by
          intro n29
          induction n29 with
          | zero => intro c v29 hfr29 hH29 ic hme29; exact absurd hme29 (Nat.not_lt_zero _)
          | succ n29 ih29 =>
            intro c v29 hfr29 hH29 ic hme29
            refine r_iload_n (pc := 29) hX 19 rfl rfl ?_
            refine r_iconst (pc := 30) hX 20 rfl ?_
            first | refine r_icmp_ge (pc := 31) hX 21 (tgt := 80) rfl (by decide) (⟨by omega, by omega⟩) (⟨by omega, by omega⟩) (fun h31 => ?_) (fun h31 => ?_) | refine r_icmp_ge_any (pc := 31) hX 21 (tgt := 80) rfl (by decide) ?_ ?_
            · exact r_vret (pc := 80) hX 47 hQ rfl rfl (Nat.le_refl 0) (Nat.le_refl 0) ⟨rfl, rfl, hfr29, hH29, rfl, trivial⟩
            · refine t_getR (q := (ρ t 2)) (pc := 34) hX 22 rfl rfl rfl fl_X2_15 rfl (hH29.kd ht (by decide)) (rfl) ?_
              have hw34_ : ω (ρ t 2) = 30 := hH.rf ht (by decide) rfl
              refine r_iload_n (pc := 38) hX 24 rfl rfl ?_
              refine e_iald (y := (v (ρ t 2) c)) (n := 5) (pc := 39) hX 25 rfl (hH29.kd hw34_ (by decide)) (hH29.ln hw34_ (by decide)) (by omega) (by omega) ((hfr29.at hw34_ (by decide) c).trans (rfl)) ?_
              have hb39 : (-1) ≤ (v (ρ t 2) c) ∧ (v (ρ t 2) c) ≤ 2 := hH.rg hw34_ (by decide) rfl
              refine r_istore_n (ls' := [(2, t), (0, c), (0, (v (ρ t 2) c))]) (pc := 40) hX 26 rfl (by decide) rfl ?_
              refine t_getR (q := (ρ t 0)) (pc := 41) hX 27 rfl rfl rfl fl_X2_44 rfl (hH29.kd ht (by decide)) (rfl) ?_
              have hw41_ : ω (ρ t 0) = 5 := hH.rf ht (by decide) rfl
              refine r_iload_n (pc := 45) hX 29 rfl rfl ?_
              refine r_callV (as := [(0, (v (ρ t 2) c))]) (st := []) (K := 4) (pc := 46) hX 30 rfl mo_X4_hasPlayer ml_X2_150 im_X4_hasPlayer se_X4_hasPlayer (c_X4_hasPlayer g ω v29 ρ Z hH29 (ρ t 0) hw41_ ((v (ρ t 2) c)) (by omega)) rfl rfl rfl (hH29.kd hw41_ (by decide)) (by rw [hRm]; exact ⟨by decide, by decide⟩) (by rw [hRm]; exact ⟨by decide, by decide⟩) (Nat.le_of_ble_eq_true rfl) (fun o46 v46 ρv46 Zv46 hq46 _ => ?_)
              obtain ⟨rfl, rfl, rfl, r46, rfl, hq46⟩ := hq46
              try rw [show (v29 (ρ t 0) 10) = (v (ρ t 0) 10) from (hfr29.at hw41_ (by decide) 10).trans (rfl)] at hq46
              show wp g X F_X2_setRanges 0 0 49 [(2, t), (0, c), (0, (v (ρ t 2) c))] [(0, r46)] v29 ρ Z
              have L74 : ∀ (v74 : Mv) , (FrW ω [36, 37] v v74) → (HT ω v74 ρ Z) → wp g X F_X2_setRanges 0 0 74 [(2, t), (0, c), (3, 0)] [] v74 ρ Z := by
                intro v74 hfr74 hH74
                refine r_iinc (ls' := [(2, t), (0, (c + 1)), (3, 0)]) (pc := 74) hX 45 rfl rfl (by decide) rfl ?_
                refine r_goto (pc := 77) hX 46 (tgt := 29) rfl (by decide) ?_
                exact (ih29 (c + 1) v74 (hfr74) (hH74) (by omega) (by omega))
              first | refine r_if_eq (pc := 49) hX 31 (tgt := 74) rfl (by decide) (⟨by omega, by omega⟩) (fun h49 => ?_) (fun h49 => ?_) | refine r_if_eq_any (pc := 49) hX 31 (tgt := 74) rfl (by decide) ?_ ?_
              · refine r_wk (ls' := [(2, t), (0, c), (3, 0)]) ⟨Or.inr rfl, Or.inr rfl, Or.inl rfl, trivial⟩ ?_
                exact (L74  v29 (hfr29) (hH29) )
              · refine t_getR (q := (ρ t 12)) (pc := 52) hX 32 rfl rfl rfl fl_X2_35 rfl (hH29.kd ht (by decide)) (rfl) ?_
                have hw52_ : ω (ρ t 12) = 36 := hH.rf ht (by decide) rfl
                refine r_iload_n (pc := 56) hX 34 rfl rfl ?_
                refine r_bipush (pc := 57) hX 35 rfl (by decide) ?_
                refine t_getI (y := (v t 5)) (pc := 59) hX 36 rfl rfl rfl fl_X2_101 rfl (hH29.kd ht (by decide)) ((hfr29.at ht (by decide) 5).trans (rfl)) ?_
                have hb59 : 0 ≤ (v t 5) ∧ (v t 5) ≤ 9 := hH.rg ht (by decide) rfl
                refine t_getR (q := (ρ t 3)) (pc := 63) hX 38 rfl rfl rfl fl_X2_19 rfl (hH29.kd ht (by decide)) (rfl) ?_
                have hw63_ : ω (ρ t 3) = 31 := hH.rf ht (by decide) rfl
                refine r_iload_n (pc := 67) hX 40 rfl rfl ?_
                refine e_iald (y := (v (ρ t 3) (v (ρ t 2) c))) (n := 3) (pc := 68) hX 41 rfl (hH29.kd hw63_ (by decide)) (hH29.ln hw63_ (by decide)) (by omega) (by omega) ((hfr29.at hw63_ (by decide) (v (ρ t 2) c)).trans (rfl)) ?_
                have hb68 : 0 ≤ (v (ρ t 3) (v (ρ t 2) c)) ∧ (v (ρ t 3) (v (ρ t 2) c)) ≤ 11 := hH.rg hw63_ (by decide) rfl
                refine r_isub (pc := 69) hX 42 rfl ?_
                refine r_mmin (pc := 70) hX 43 rfl ml_X2_153 ⟨by omega, by omega⟩ ⟨by omega, by omega⟩ (by rw [hRm]; exact ⟨by decide, by decide, by decide, by decide⟩) (Nat.le_of_ble_eq_true rfl) (fun z70 hz70 => ?_)
                refine e_iast (n := 3) (pc := 73) hX 44 rfl (hH29.kd hw52_ (by decide)) (hH29.ln hw52_ (by decide)) (hH29.g4 hw52_ (by decide)) (by omega) (by omega) ?_
                have hH_73 : HT ω (up v29 (ρ t 12) (v (ρ t 2) c) z70) ρ Z := hH29.upR hw52_ (by decide) rfl (by omega) (by omega)
                refine r_wk (ls' := [(2, t), (0, c), (3, 0)]) ⟨Or.inr rfl, Or.inr rfl, Or.inl rfl, trivial⟩ ?_
                exact (L74  (up v29 (ρ t 12) (v (ρ t 2) c) z70) ((hfr29).up (r := (ρ t 12)) hw52_ (by decide)) (hH_73) )
        exact (L29 _ 0 v2 (hfr2) (hH2) (by omega) (Nat.lt_succ_self _))
      · refine t_getR (q := (ρ t 12)) (pc := 7) hX 5 rfl rfl rfl fl_X2_35 rfl (hH2.kd ht (by decide)) (rfl) ?_
        have hw7_ : ω (ρ t 12) = 36 := hH.rf ht (by decide) rfl
        refine r_iload_n (pc := 11) hX 7 rfl rfl ?_
        refine r_iconst (pc := 12) hX 8 rfl ?_
        refine e_iast (n := 3) (pc := 13) hX 9 rfl (hH2.kd hw7_ (by decide)) (hH2.ln hw7_ (by decide)) (hH2.g4 hw7_ (by decide)) (by omega) (by omega) ?_
        have hH_13 : HT ω (up v2 (ρ t 12) i 1) ρ Z := hH2.upR hw7_ (by decide) rfl (by omega) (by omega)
        refine t_getR (q := (ρ t 13)) (pc := 14) hX 10 rfl rfl rfl fl_X2_38 rfl (hH_13.kd ht (by decide)) (rfl) ?_
        have hw14_ : ω (ρ t 13) = 37 := hH.rf ht (by decide) rfl
        refine r_iload_n (pc := 18) hX 12 rfl rfl ?_
        refine r_iconst (pc := 19) hX 13 rfl ?_
        refine e_iast (n := 3) (pc := 20) hX 14 rfl (hH_13.kd hw14_ (by decide)) (hH_13.ln hw14_ (by decide)) (hH_13.g4 hw14_ (by decide)) (by omega) (by omega) ?_
        have hH_20 : HT ω (up (up v2 (ρ t 12) i 1) (ρ t 13) i 0) ρ Z := hH_13.upR hw14_ (by decide) rfl (by omega) (by omega)
        refine r_iinc (ls' := [(2, t), (0, (i + 1)), (3, 0)]) (pc := 21) hX 15 rfl rfl (by decide) rfl ?_
        refine r_goto (pc := 24) hX 16 (tgt := 2) rfl (by decide) ?_
        exact (ih2 (i + 1) (up (up v2 (ρ t 12) i 1) (ρ t 13) i 0) (((hfr2).up (r := (ρ t 12)) hw7_ (by decide)).up (r := (ρ t 13)) hw14_ (by decide)) (hH_20) (by omega) (by omega))
  exact (L2 _ 0 v (FrW.rf) (hH) (by omega) (Nat.lt_succ_self _))
set_option maxHeartbeats 4000000 in
set_option maxRecDepth 100000 in
theorem c_X2_credit (g : Gp) (ω : Rw) (v ρ : Mv) (Z : Mz) (hH : HT ω v ρ Z) (t : Int) (ht : ω t = 29) (w : Int) (x : Int) (n : Int) (hw : -1 ≤ w ∧ w ≤ 2) (hn : 0 ≤ n ∧ n ≤ v t 6) : Ok g 1 0 0 F_X2_credit [(2, t), (0, w), (1, x), (0, n)] v ρ Z (fun o9 v' ρ' Z' => ρ = ρ' ∧ Z = Z' ∧ FrW ω [29, 33, 34] v v' ∧ HT ω v' ρ Z ∧ o9 = none ∧ (v' t 6 = v t 6)) := by
  refine Ok.of mo_X2_credit (Nat.le_of_ble_eq_true rfl) ?_
  intro X hX hRm hxn hQ
  show wp g X F_X2_credit 0 0 0 [(2, t), (0, w), (1, x), (3, 0), (0, n), (3, 0), (3, 0)] [] v ρ Z
  have hg6 : 0 ≤ v t 6 ∧ v t 6 ≤ 12 := hH.rg ht (by decide) rfl
  refine r_lload_n (pc := 0) hX 0 rfl rfl ?_
  refine r_getsTN (pc := 1) hX 1 rfl gs_X2_113 (by rw [hH.2.2.2.2.2.2.1]; decide) ?_
  refine t_getI (y := (v t 6)) (pc := 4) hX 2 rfl rfl rfl fl_X2_73 rfl (hH.kd ht (by decide)) (rfl) ?_
  have hb4 : 0 ≤ (v t 6) ∧ (v t 6) ≤ 12 := hH.rg ht (by decide) rfl
  refine r_iload (pc := 8) hX 4 rfl rfl ?_
  refine r_isub (pc := 10) hX 5 rfl ?_
  refine e_lald (y := (v 1 ((v t 6) - n))) (n := 13) (pc := 11) hX 6 rfl hH.2.2.2.2.2.2.1 hH.2.2.2.2.2.2.2.1 (by omega) (by omega) (rfl) ?_
  have hb11 := hH.tw ((v t 6) - n) (by omega) (by omega)
  refine r_lmul (pc := 12) hX 7 rfl ?_
  refine r_lstore (ls' := [(2, t), (0, w), (1, x), (3, 0), (0, n), (1, (x * (v 1 ((v t 6) - n)))), (3, 0)]) (pc := 13) hX 8 rfl (by decide) rfl ?_
  refine r_iload_n (pc := 15) hX 9 rfl rfl ?_
  refine r_iconst (pc := 16) hX 10 rfl ?_
  have L45 : ∀ (v45 : Mv) , (FrW ω [29, 33, 34] v v45) → (HT ω v45 ρ Z) → (v45 t 6 = v t 6) → wp g X F_X2_credit 0 0 45 [(2, t), (0, w), (1, x), (3, 0), (0, n), (1, (x * (v 1 ((v t 6) - n)))), (3, 0)] [] v45 ρ Z := by
    intro v45 hfr45 hH45 e6
    refine t_getR (q := (ρ t 10)) (pc := 45) hX 27 rfl rfl rfl fl_X2_29 rfl (hH45.kd ht (by decide)) (rfl) ?_
    have hw45_ : ω (ρ t 10) = 34 := hH.rf ht (by decide) rfl
    refine r_iload (pc := 49) hX 29 rfl rfl ?_
    refine r_dup2i (pc := 51) hX 30 rfl (show (0 : Nat) ≠ 1 by decide) (show (2 : Nat) ≠ 1 by decide) ?_
    refine e_lald (y := (v45 (ρ t 10) n)) (n := 13) (pc := 52) hX 31 rfl (hH45.kd hw45_ (by decide)) (hH45.ln hw45_ (by decide)) (by omega) (by omega) (rfl) ?_
    refine r_lload (pc := 53) hX 32 rfl rfl ?_
    refine r_ladd (pc := 55) hX 33 rfl ?_
    refine e_last (n := 13) (pc := 56) hX 34 rfl (hH45.kd hw45_ (by decide)) (hH45.ln hw45_ (by decide)) (hH45.g4 hw45_ (by decide)) (by omega) (by omega) ?_
    have hH_56 : HT ω (up v45 (ρ t 10) n ((v45 (ρ t 10) n) + (x * (v 1 ((v t 6) - n))))) ρ Z := hH45.up0 hw45_ (by decide) rfl
    exact r_vret (pc := 57) hX 35 hQ rfl rfl (Nat.le_refl 0) (Nat.le_refl 0) ⟨rfl, rfl, (hfr45).up (r := (ρ t 10)) hw45_ (by decide), hH_56, rfl, (((up_r (rne ht hw45_ (by decide))).trans (rfl)).trans (by omega))⟩
  first | refine r_icmp_ne (pc := 17) hX 11 (tgt := 34) rfl (by decide) (⟨by omega, by omega⟩) (⟨by omega, by omega⟩) (fun h17 => ?_) (fun h17 => ?_) | refine r_icmp_ne_any (pc := 17) hX 11 (tgt := 34) rfl (by decide) ?_ ?_
  · refine t_getR (q := (ρ t 9)) (pc := 34) hX 19 rfl rfl rfl fl_X2_26 rfl (hH.kd ht (by decide)) (rfl) ?_
    have hw34_ : ω (ρ t 9) = 33 := hH.rf ht (by decide) rfl
    refine r_iload_n (pc := 38) hX 21 rfl rfl ?_
    refine r_dup2i (pc := 39) hX 22 rfl (show (0 : Nat) ≠ 1 by decide) (show (2 : Nat) ≠ 1 by decide) ?_
    refine e_lald (y := (v (ρ t 9) w)) (n := 3) (pc := 40) hX 23 rfl (hH.kd hw34_ (by decide)) (hH.ln hw34_ (by decide)) (by omega) (by omega) (rfl) ?_
    refine r_lload (pc := 41) hX 24 rfl rfl ?_
    refine r_ladd (pc := 43) hX 25 rfl ?_
    refine e_last (n := 3) (pc := 44) hX 26 rfl (hH.kd hw34_ (by decide)) (hH.ln hw34_ (by decide)) (hH.g4 hw34_ (by decide)) (by omega) (by omega) ?_
    have hH_44 : HT ω (up v (ρ t 9) w ((v (ρ t 9) w) + (x * (v 1 ((v t 6) - n))))) ρ Z := hH.up0 hw34_ (by decide) rfl
    exact (L45  (up v (ρ t 9) w ((v (ρ t 9) w) + (x * (v 1 ((v t 6) - n))))) ((FrW.rf).up (r := (ρ t 9)) hw34_ (by decide)) (hH_44) (((up_r (rne ht hw34_ (by decide))).trans (rfl)).trans (by omega)) )
  · refine r_aload_n (pc := 20) hX 12 rfl rfl ?_
    refine r_dup (pc := 21) hX 13 rfl (show (2 : Nat) ≠ 1 by decide) ?_
    refine e_getL (y := (v t 8)) (pc := 22) hX 14 rfl fl_X2_147 rfl (hH.kd ht (by decide)) (rfl) ?_
    refine r_lload (pc := 25) hX 15 rfl rfl ?_
    refine r_ladd (pc := 27) hX 16 rfl ?_
    refine r_putL (pc := 28) hX 17 rfl fl_X2_147 rfl (fun _ h => by cases h; rfl) (hH.kd ht (by decide)) (hH.g4 ht (by decide)) ?_
    have hH_28 : HT ω (up v t 8 ((v t 8) + (x * (v 1 ((v t 6) - n))))) ρ Z := hH.up0 ht (by decide) rfl
    show wp g X F_X2_credit 0 0 31 [(2, t), (0, w), (1, x), (3, 0), (0, n), (1, (x * (v 1 ((v t 6) - n)))), (3, 0)] [] (up v t 8 ((v t 8) + (x * (v 1 ((v t 6) - n))))) ρ Z
    refine r_goto (pc := 31) hX 18 (tgt := 45) rfl (by decide) ?_
    exact (L45  (up v t 8 ((v t 8) + (x * (v 1 ((v t 6) - n))))) ((FrW.rf).up (r := t) ht (by decide)) (hH_28) (((up_k (by decide)).trans (rfl)).trans (by omega)) )
set_option maxHeartbeats 4000000 in
set_option maxRecDepth 100000 in
theorem c_X2_passCar (g : Gp) (ω : Rw) (v ρ : Mv) (Z : Mz) (hH : HT ω v ρ Z) (t : Int) (ht : ω t = 29) (q : Int) (c : Int) (x : Int) (n : Int) (hc : 0 ≤ c ∧ c ≤ 4) (hn : 1 ≤ n ∧ n ≤ v t 6) (hat : q = (v (ρ t 13) 0 * 9 + v (ρ t 13) 1) * 9 + v (ρ t 13) 2) : Ok g 2 0 0 F_X2_passCar [(2, t), (0, q), (0, c), (1, x), (0, n)] v ρ Z (fun o9 v' ρ' Z' => ρ = ρ' ∧ Z = Z' ∧ FrW ω [29, 33, 34, 35, 38] v v' ∧ HT ω v' ρ Z ∧ o9 = none ∧ (v' t 6 = v t 6)) := by
  refine Ok.of mo_X2_passCar (Nat.le_of_ble_eq_true rfl) ?_
  intro X hX hRm hxn hQ
  show wp g X F_X2_passCar 0 0 0 [(2, t), (0, q), (0, c), (1, x), (3, 0), (0, n), (3, 0), (3, 0), (3, 0)] [] v ρ Z
  have hw13 : ω (ρ t 13) = 37 := hH.rf ht (by decide) rfl
  have hg13 : ∀ k, 0 ≤ v (ρ t 13) k ∧ v (ρ t 13) k ≤ 8 := fun k => hH.rg hw13 (by decide) rfl
  have hg0 := hg13 0
  have hg1 := hg13 1
  have hg2 := hg13 2
  have hg5 : 0 ≤ v t 5 ∧ v t 5 ≤ 9 := hH.rg ht (by decide) rfl
  refine t_getR (q := (ρ t 2)) (pc := 0) hX 0 rfl rfl rfl fl_X2_15 rfl (hH.kd ht (by decide)) (rfl) ?_
  have hw0_ : ω (ρ t 2) = 30 := hH.rf ht (by decide) rfl
  refine r_iload_n (pc := 4) hX 2 rfl rfl ?_
  refine e_iald (y := (v (ρ t 2) c)) (n := 5) (pc := 5) hX 3 rfl (hH.kd hw0_ (by decide)) (hH.ln hw0_ (by decide)) (by omega) (by omega) (rfl) ?_
  have hb5 : (-1) ≤ (v (ρ t 2) c) ∧ (v (ρ t 2) c) ≤ 2 := hH.rg hw0_ (by decide) rfl
  obtain ⟨p, hp_e⟩ : ∃ z : Int, z = (v (ρ t 2) c) := ⟨_, rfl⟩
  rw [← hp_e]
  refine r_istore (ls' := [(2, t), (0, q), (0, c), (1, x), (3, 0), (0, n), (0, p), (3, 0), (3, 0)]) (pc := 6) hX 4 rfl (by decide) rfl ?_
  refine r_iload (pc := 8) hX 5 rfl rfl ?_
  refine r_iconst (pc := 10) hX 6 rfl ?_
  have L27 : ∀ (mo : Int) , (0 ≤ mo ∧ mo ≤ 3) → wp g X F_X2_passCar 0 0 27 [(2, t), (0, q), (0, c), (1, x), (3, 0), (0, n), (0, p), (3, 0), (3, 0)] [(0, mo)] v ρ Z := by
    intro mo im
    refine r_istore (ls' := [(2, t), (0, q), (0, c), (1, x), (3, 0), (0, n), (0, p), (0, mo), (3, 0)]) (pc := 27) hX 15 rfl (by decide) rfl ?_
    refine r_iload (pc := 29) hX 16 rfl rfl ?_
    refine r_iconst (pc := 31) hX 17 rfl ?_
    have L198 : ∀ (v198 : Mv) , (FrW ω [29, 33, 34, 35, 38] v v198) → (HT ω v198 ρ Z) → (v198 t 6 = v t 6) → wp g X F_X2_passCar 0 0 198 [(2, t), (0, q), (0, c), (1, x), (3, 0), (0, n), (0, p), (0, mo), (3, 0)] [] v198 ρ Z := by
      intro v198 hfr198 hH198 e6
      exact r_vret (pc := 198) hX 106 hQ rfl rfl (Nat.le_refl 0) (Nat.le_refl 0) ⟨rfl, rfl, hfr198, hH198, rfl, ((rfl).trans (by omega))⟩
    have L72 : (p = -1 ∨ 0 ≤ p ∧ p ≤ 2 ∧ v (ρ t 13) p + mo ≤ 8) → wp g X F_X2_passCar 0 0 72 [(2, t), (0, q), (0, c), (1, x), (3, 0), (0, n), (0, p), (0, mo), (3, 0)] [] v ρ Z := by
      intro i72
      refine r_iload (pc := 72) hX 39 rfl rfl ?_
      refine t_getI (y := (v t 6)) (pc := 74) hX 40 rfl rfl rfl fl_X2_73 rfl (hH.kd ht (by decide)) (rfl) ?_
      have hb74 : 0 ≤ (v t 6) ∧ (v t 6) ≤ 12 := hH.rg ht (by decide) rfl
      have L93 : wp g X F_X2_passCar 0 0 93 [(2, t), (0, q), (0, c), (1, x), (3, 0), (0, n), (0, p), (0, mo), (3, 0)] [] v ρ Z := by
        refine r_iconst (pc := 93) hX 49 rfl ?_
        refine r_istore (ls' := [(2, t), (0, q), (0, c), (1, x), (3, 0), (0, n), (0, p), (0, mo), (0, 0)]) (pc := 94) hX 50 rfl (by decide) rfl ?_
        have L96 : ∀ (n96 : Nat) (i : Int) (v96 : Mv) , (FrW ω [29, 33, 34, 35, 38] v v96) → (HT ω v96 ρ Z) → (0 ≤ i ∧ i ≤ 3) → (v96 t 6 = v t 6) → (3 - i).toNat < n96 → wp g X F_X2_passCar 0 0 96 [(2, t), (0, q), (0, c), (1, x), (3, 0), (0, n), (0, p), (0, mo), (0, i)] [] v96 ρ Z := by
          intro n96
          induction n96 with
          | zero => intro i v96 hfr96 hH96 ii e6 hme96; exact absurd hme96 (Nat.not_lt_zero _)
          | succ n96 ih96 =>
            intro i v96 hfr96 hH96 ii e6 hme96
            refine r_iload (pc := 96) hX 51 rfl rfl ?_
            refine r_iconst (pc := 98) hX 52 rfl ?_
            first | refine r_icmp_ge (pc := 99) hX 53 (tgt := 144) rfl (by decide) (⟨by omega, by omega⟩) (⟨by omega, by omega⟩) (fun h99 => ?_) (fun h99 => ?_) | refine r_icmp_ge_any (pc := 99) hX 53 (tgt := 144) rfl (by decide) ?_ ?_
            · refine r_aload_n (pc := 144) hX 76 rfl rfl ?_
              refine t_getR (q := (ρ t 14)) (pc := 145) hX 77 rfl rfl rfl fl_X2_41 rfl (hH96.kd ht (by decide)) (rfl) ?_
              have hw145_ : ω (ρ t 14) = 38 := hH.rf ht (by decide) rfl
              refine t_getR (q := (ρ t 0)) (pc := 149) hX 79 rfl rfl rfl fl_X2_44 rfl (hH96.kd ht (by decide)) (rfl) ?_
              have hw149_ : ω (ρ t 0) = 5 := hH.rf ht (by decide) rfl
              refine e_getI (y := (v (ρ t 0) 10)) (pc := 153) hX 81 rfl fl_X2_123 rfl (hH96.kd hw149_ (by decide)) ((hfr96.at hw149_ (by decide) 10).trans (rfl)) ?_
              have hb153 : 0 ≤ (v (ρ t 0) 10) ∧ (v (ρ t 0) 10) ≤ 3 := hH.rg hw149_ (by decide) rfl
              refine r_callSN (as := [(2, (ρ t 14)), (0, (v (ρ t 0) 10))]) (st := [(2, t)]) (pc := 156) hX 82 rfl mo_X11_soleLeader mn_X2_126 pn_X11_soleLeader stt_X11_soleLeader (c_X11_soleLeader g ω v96 ρ Z hH96 (ρ t 14) (hH96.kd hw145_ (by decide)) ((v (ρ t 0) 10)) (by omega)) rfl (by rw [hRm]; exact ⟨by decide, by decide⟩) (by rw [hRm]; exact ⟨by decide, by decide⟩) (Nat.le_of_ble_eq_true rfl) (fun o156 v156 ρv156 Zv156 hq156 _ => ?_)
              obtain ⟨rfl, rfl, rfl, r156, rfl, hq156⟩ := hq156
              show wp g X F_X2_passCar 0 0 159 [(2, t), (0, q), (0, c), (1, x), (3, 0), (0, n), (0, p), (0, mo), (0, i)] [(0, r156), (2, t)] v96 ρ Z
              refine r_lload_n (pc := 159) hX 83 rfl rfl ?_
              refine r_iload (pc := 160) hX 84 rfl rfl ?_
              refine r_callV (as := [(0, r156), (1, x), (0, n)]) (st := []) (K := 2) (pc := 162) hX 85 rfl mo_X2_credit ml_X2_130 im_X2_credit se_X2_credit (c_X2_credit g ω v96 ρ Z hH96 t ht (r156) (x) (n) (by omega) (by omega)) rfl rfl rfl (hH96.kd ht (by decide)) (by rw [hRm]; exact ⟨by decide, by decide⟩) (by rw [hRm]; exact ⟨by decide, by decide⟩) (Nat.le_of_ble_eq_true rfl) (fun o162 v162 ρv162 Zv162 hq162 _ => ?_)
              obtain ⟨rfl, rfl, hfr162, hH162, rfl, hq162⟩ := hq162
              show wp g X F_X2_passCar 0 0 165 [(2, t), (0, q), (0, c), (1, x), (3, 0), (0, n), (0, p), (0, mo), (0, i)] [] v162 ρ Z
              refine r_goto (pc := 165) hX 86 (tgt := 198) rfl (by decide) ?_
              refine r_wk (ls' := [(2, t), (0, q), (0, c), (1, x), (3, 0), (0, n), (0, p), (0, mo), (3, 0)]) ⟨Or.inr rfl, Or.inr rfl, Or.inr rfl, Or.inr rfl, Or.inr rfl, Or.inr rfl, Or.inr rfl, Or.inr rfl, Or.inl rfl, trivial⟩ ?_
              exact (L198  v162 ((hfr96).tr hfr162 (by decide)) (hH162) ((rfl).trans (by omega)) )
            · refine t_getR (q := (ρ t 14)) (pc := 102) hX 54 rfl rfl rfl fl_X2_41 rfl (hH96.kd ht (by decide)) (rfl) ?_
              have hw102_ : ω (ρ t 14) = 38 := hH.rf ht (by decide) rfl
              refine r_iload (pc := 106) hX 56 rfl rfl ?_
              refine t_getR (q := (ρ t 3)) (pc := 108) hX 57 rfl rfl rfl fl_X2_19 rfl (hH96.kd ht (by decide)) (rfl) ?_
              have hw108_ : ω (ρ t 3) = 31 := hH.rf ht (by decide) rfl
              refine r_iload (pc := 112) hX 59 rfl rfl ?_
              refine e_iald (y := (v (ρ t 3) i)) (n := 3) (pc := 114) hX 60 rfl (hH96.kd hw108_ (by decide)) (hH96.ln hw108_ (by decide)) (by omega) (by omega) ((hfr96.at hw108_ (by decide) i).trans (rfl)) ?_
              have hb114 : 0 ≤ (v (ρ t 3) i) ∧ (v (ρ t 3) i) ≤ 11 := hH.rg hw108_ (by decide) rfl
              refine t_getR (q := (ρ t 13)) (pc := 115) hX 61 rfl rfl rfl fl_X2_38 rfl (hH96.kd ht (by decide)) (rfl) ?_
              have hw115_ : ω (ρ t 13) = 37 := hH.rf ht (by decide) rfl
              refine r_iload (pc := 119) hX 63 rfl rfl ?_
              refine e_iald (y := (v (ρ t 13) i)) (n := 3) (pc := 121) hX 64 rfl (hH96.kd hw115_ (by decide)) (hH96.ln hw115_ (by decide)) (by omega) (by omega) ((hfr96.at hw115_ (by decide) i).trans (rfl)) ?_
              have hb121 : 0 ≤ (v (ρ t 13) i) ∧ (v (ρ t 13) i) ≤ 8 := hH.rg hw115_ (by decide) rfl
              refine r_iadd (pc := 122) hX 65 rfl ?_
              refine r_iload (pc := 123) hX 66 rfl rfl ?_
              refine r_iload (pc := 125) hX 67 rfl rfl ?_
              have L136 : ∀ (m2 : Int) , (0 ≤ m2 ∧ m2 ≤ 3) → wp g X F_X2_passCar 0 0 136 [(2, t), (0, q), (0, c), (1, x), (3, 0), (0, n), (0, p), (0, mo), (0, i)] [(0, m2), (0, ((v (ρ t 3) i) + (v (ρ t 13) i))), (0, i), (2, (ρ t 14))] v96 ρ Z := by
                intro m2 im2
                refine r_iadd (pc := 136) hX 72 rfl ?_
                refine e_iast (n := 3) (pc := 137) hX 73 rfl (hH96.kd hw102_ (by decide)) (hH96.ln hw102_ (by decide)) (hH96.g4 hw102_ (by decide)) (by omega) (by omega) ?_
                have hH_137 : HT ω (up v96 (ρ t 14) i (((v (ρ t 3) i) + (v (ρ t 13) i)) + m2)) ρ Z := hH96.upR hw102_ (by decide) rfl (by omega) (by omega)
                refine r_iinc (ls' := [(2, t), (0, q), (0, c), (1, x), (3, 0), (0, n), (0, p), (0, mo), (0, (i + 1))]) (pc := 138) hX 74 rfl rfl (by decide) rfl ?_
                refine r_goto (pc := 141) hX 75 (tgt := 96) rfl (by decide) ?_
                exact (ih96 (i + 1) (up v96 (ρ t 14) i (((v (ρ t 3) i) + (v (ρ t 13) i)) + m2)) ((hfr96).up (r := (ρ t 14)) hw102_ (by decide)) (hH_137) (by omega) (((up_r (rne ht hw102_ (by decide))).trans (rfl)).trans (by omega)) (by omega))
              first | refine r_icmp_ne (pc := 127) hX 68 (tgt := 135) rfl (by decide) (⟨by omega, by omega⟩) (⟨by omega, by omega⟩) (fun h127 => ?_) (fun h127 => ?_) | refine r_icmp_ne_any (pc := 127) hX 68 (tgt := 135) rfl (by decide) ?_ ?_
              · refine r_iconst (pc := 135) hX 71 rfl ?_
                exact (L136 0 (by omega) )
              · refine r_iload (pc := 130) hX 69 rfl rfl ?_
                refine r_goto (pc := 132) hX 70 (tgt := 136) rfl (by decide) ?_
                exact (L136 mo (by omega) )
        exact (L96 _ 0 v (FrW.rf) (hH) (by omega) ((rfl).trans (by omega)) (Nat.lt_succ_self _))
      first | refine r_icmp_eq (pc := 78) hX 42 (tgt := 93) rfl (by decide) (⟨by omega, by omega⟩) (⟨by omega, by omega⟩) (fun h78 => ?_) (fun h78 => ?_) | refine r_icmp_eq_any (pc := 78) hX 42 (tgt := 93) rfl (by decide) ?_ ?_
      · exact (L93   )
      · refine t_getR (q := (ρ t 0)) (pc := 81) hX 43 rfl rfl rfl fl_X2_44 rfl (hH.kd ht (by decide)) (rfl) ?_
        have hw81_ : ω (ρ t 0) = 5 := hH.rf ht (by decide) rfl
        refine r_getR (q := (ρ (ρ t 0) 2)) (pc := 85) hX 45 rfl fl_X2_170 rfl (hH.kd hw81_ (by decide)) (rfl) ?_
        have hw85_ : ω (ρ (ρ t 0) 2) = 10 := hH.rf hw81_ (by decide) rfl
        refine r_iload_n (pc := 88) hX 46 rfl rfl ?_
        refine e_zald (y := (v (ρ (ρ t 0) 2) c)) (n := 5) (pc := 89) hX 47 rfl (hH.kd hw85_ (by decide)) (hH.ln hw85_ (by decide)) (by omega) (by omega) (rfl) (fun hb89a hb89b => ?_)
        first | refine r_if_eq (pc := 90) hX 48 (tgt := 168) rfl (by decide) (⟨by omega, by omega⟩) (fun h90 => ?_) (fun h90 => ?_) | refine r_if_eq_any (pc := 90) hX 48 (tgt := 168) rfl (by decide) ?_ ?_
        · refine t_getR (q := (ρ t 11)) (pc := 168) hX 87 rfl rfl rfl fl_X2_32 rfl (hH.kd ht (by decide)) (rfl) ?_
          have hw168_ : ω (ρ t 11) = 35 := hH.rf ht (by decide) rfl
          refine r_iload (pc := 172) hX 89 rfl rfl ?_
          refine r_iconst (pc := 174) hX 90 rfl ?_
          have L193 : ∀ (ix : Int) , (0 ≤ ix ∧ ix < 729) → wp g X F_X2_passCar 0 0 193 [(2, t), (0, q), (0, c), (1, x), (3, 0), (0, n), (0, p), (0, mo), (3, 0)] [(0, ix), (2, (ρ t 11))] v ρ Z := by
            intro ix iix
            refine r_dup2i (pc := 193) hX 101 rfl (show (0 : Nat) ≠ 1 by decide) (show (2 : Nat) ≠ 1 by decide) ?_
            refine e_lald (y := (v (ρ t 11) ix)) (n := 729) (pc := 194) hX 102 rfl (hH.kd hw168_ (by decide)) (hH.ln hw168_ (by decide)) (by omega) (by omega) (rfl) ?_
            refine r_lload_n (pc := 195) hX 103 rfl rfl ?_
            refine r_ladd (pc := 196) hX 104 rfl ?_
            refine e_last (n := 729) (pc := 197) hX 105 rfl (hH.kd hw168_ (by decide)) (hH.ln hw168_ (by decide)) (hH.g4 hw168_ (by decide)) (by omega) (by omega) ?_
            have hH_197 : HT ω (up v (ρ t 11) ix ((v (ρ t 11) ix) + x)) ρ Z := hH.up0 hw168_ (by decide) rfl
            exact (L198  (up v (ρ t 11) ix ((v (ρ t 11) ix) + x)) ((FrW.rf).up (r := (ρ t 11)) hw168_ (by decide)) (hH_197) (((up_r (rne ht hw168_ (by decide))).trans (rfl)).trans (by omega)) )
          first | refine r_icmp_ne (pc := 175) hX 91 (tgt := 182) rfl (by decide) (⟨by omega, by omega⟩) (⟨by omega, by omega⟩) (fun h175 => ?_) (fun h175 => ?_) | refine r_icmp_ne_any (pc := 175) hX 91 (tgt := 182) rfl (by decide) ?_ ?_
          · refine r_iload_n (pc := 182) hX 94 rfl rfl ?_
            refine r_iload (pc := 183) hX 95 rfl rfl ?_
            refine r_getsS (pc := 185) hX 96 rfl gs_X2_174 (by rw [hH.2.1]; decide) ?_
            refine r_iload (pc := 188) hX 97 rfl rfl ?_
            refine e_iald (y := (v 0 p)) (n := 3) (pc := 190) hX 98 rfl hH.2.1 hH.2.2.1 (by omega) (by omega) (rfl) ?_
            have hb190 := hH.steps p (by omega) (by omega)
            refine r_imul (pc := 191) hX 99 rfl ?_
            refine r_iadd (pc := 192) hX 100 rfl ?_
            exact (L193 (q + (mo * (v 0 p))) (by first | omega | exact ix_ok hat hg13 hb190 (by omega) (by omega)) )
          · refine r_iload_n (pc := 178) hX 92 rfl rfl ?_
            refine r_goto (pc := 179) hX 93 (tgt := 193) rfl (by decide) ?_
            exact (L193 q (by first | omega | exact ix_ok hat hg13 hb190 (by omega) (by omega)) )
        · exact (L93   )
    first | refine r_icmp_eq (pc := 32) hX 18 (tgt := 72) rfl (by decide) (⟨by omega, by omega⟩) (⟨by omega, by omega⟩) (fun h32 => ?_) (fun h32 => ?_) | refine r_icmp_eq_any (pc := 32) hX 18 (tgt := 72) rfl (by decide) ?_ ?_
    · exact (L72  (by omega) )
    · refine t_getR (q := (ρ t 3)) (pc := 35) hX 19 rfl rfl rfl fl_X2_19 rfl (hH.kd ht (by decide)) (rfl) ?_
      have hw35_ : ω (ρ t 3) = 31 := hH.rf ht (by decide) rfl
      refine r_iload (pc := 39) hX 21 rfl rfl ?_
      refine e_iald (y := (v (ρ t 3) p)) (n := 3) (pc := 41) hX 22 rfl (hH.kd hw35_ (by decide)) (hH.ln hw35_ (by decide)) (by omega) (by omega) (rfl) ?_
      have hb41 : 0 ≤ (v (ρ t 3) p) ∧ (v (ρ t 3) p) ≤ 11 := hH.rg hw35_ (by decide) rfl
      refine t_getR (q := (ρ t 13)) (pc := 42) hX 23 rfl rfl rfl fl_X2_38 rfl (hH.kd ht (by decide)) (rfl) ?_
      have hw42_ : ω (ρ t 13) = 37 := hH.rf ht (by decide) rfl
      refine r_iload (pc := 46) hX 25 rfl rfl ?_
      refine e_iald (y := (v (ρ t 13) p)) (n := 3) (pc := 48) hX 26 rfl (hH.kd hw42_ (by decide)) (hH.ln hw42_ (by decide)) (by omega) (by omega) (rfl) ?_
      have hb48 : 0 ≤ (v (ρ t 13) p) ∧ (v (ρ t 13) p) ≤ 8 := hH.rg hw42_ (by decide) rfl
      refine r_iadd (pc := 49) hX 27 rfl ?_
      refine r_iload (pc := 50) hX 28 rfl rfl ?_
      refine r_iadd (pc := 52) hX 29 rfl ?_
      refine t_getI (y := (v t 5)) (pc := 53) hX 30 rfl rfl rfl fl_X2_101 rfl (hH.kd ht (by decide)) (rfl) ?_
      have hb53 : 0 ≤ (v t 5) ∧ (v t 5) ≤ 9 := hH.rg ht (by decide) rfl
      first | refine r_icmp_lt (pc := 57) hX 32 (tgt := 72) rfl (by decide) (⟨by omega, by omega⟩) (⟨by omega, by omega⟩) (fun h57 => ?_) (fun h57 => ?_) | refine r_icmp_lt_any (pc := 57) hX 32 (tgt := 72) rfl (by decide) ?_ ?_
      · exact (L72  (by omega) )
      · refine r_aload_n (pc := 60) hX 33 rfl rfl ?_
        refine r_iload (pc := 61) hX 34 rfl rfl ?_
        refine r_lload_n (pc := 63) hX 35 rfl rfl ?_
        refine r_iload (pc := 64) hX 36 rfl rfl ?_
        refine r_callV (as := [(0, p), (1, x), (0, n)]) (st := []) (K := 2) (pc := 66) hX 37 rfl mo_X2_credit ml_X2_130 im_X2_credit se_X2_credit (c_X2_credit g ω v ρ Z hH t ht (p) (x) (n) (by omega) (by omega)) rfl rfl rfl (hH.kd ht (by decide)) (by rw [hRm]; exact ⟨by decide, by decide⟩) (by rw [hRm]; exact ⟨by decide, by decide⟩) (Nat.le_of_ble_eq_true rfl) (fun o66 v66 ρv66 Zv66 hq66 _ => ?_)
        obtain ⟨rfl, rfl, hfr66, hH66, rfl, hq66⟩ := hq66
        show wp g X F_X2_passCar 0 0 69 [(2, t), (0, q), (0, c), (1, x), (3, 0), (0, n), (0, p), (0, mo), (3, 0)] [] v66 ρ Z
        refine r_goto (pc := 69) hX 38 (tgt := 198) rfl (by decide) ?_
        exact (L198  v66 ((FrW.rf).tr hfr66 (by decide)) (hH66) ((rfl).trans (by omega)) )
  first | refine r_icmp_ne (pc := 11) hX 7 (tgt := 18) rfl (by decide) (⟨by omega, by omega⟩) (⟨by omega, by omega⟩) (fun h11 => ?_) (fun h11 => ?_) | refine r_icmp_ne_any (pc := 11) hX 7 (tgt := 18) rfl (by decide) ?_ ?_
  · refine t_getR (q := (ρ t 0)) (pc := 18) hX 10 rfl rfl rfl fl_X2_44 rfl (hH.kd ht (by decide)) (rfl) ?_
    have hw18_ : ω (ρ t 0) = 5 := hH.rf ht (by decide) rfl
    refine r_getR (q := (ρ (ρ t 0) 1)) (pc := 22) hX 12 rfl fl_X2_167 rfl (hH.kd hw18_ (by decide)) (rfl) ?_
    have hw22_ : ω (ρ (ρ t 0) 1) = 9 := hH.rf hw18_ (by decide) rfl
    refine r_iload_n (pc := 25) hX 13 rfl rfl ?_
    refine e_iald (y := (v (ρ (ρ t 0) 1) c)) (n := 5) (pc := 26) hX 14 rfl (hH.kd hw22_ (by decide)) (hH.ln hw22_ (by decide)) (by omega) (by omega) (rfl) ?_
    have hb26 : 0 ≤ (v (ρ (ρ t 0) 1) c) ∧ (v (ρ (ρ t 0) 1) c) ≤ 3 := hH.rg hw22_ (by decide) rfl
    exact (L27 (v (ρ (ρ t 0) 1) c) (by omega) )
  · refine r_iconst (pc := 14) hX 8 rfl ?_
    refine r_goto (pc := 15) hX 9 (tgt := 27) rfl (by decide) ?_
    exact (L27 0 (by omega) )
set_option maxHeartbeats 4000000 in
set_option maxRecDepth 100000 in
theorem c_X2_passCars (g : Gp) (ω : Rw) (v ρ : Mv) (Z : Mz) (hH : HT ω v ρ Z) (t : Int) (ht : ω t = 29) (l : Int) (n : Int) (hl : 0 ≤ l ∧ l ≤ 2) (hn : 1 ≤ n ∧ n ≤ v t 6) : Ok g 3 0 0 F_X2_passCars [(2, t), (0, l), (0, n)] v ρ Z (fun o9 v' ρ' Z' => ρ = ρ' ∧ Z = Z' ∧ FrW ω [29, 33, 34, 35, 37, 38] v v' ∧ HT ω v' ρ Z ∧ o9 = none ∧ (v' t 6 = v t 6)) := by
  refine Ok.of mo_X2_passCars (Nat.le_of_ble_eq_true rfl) ?_
  intro X hX hRm hxn hQ
  show wp g X F_X2_passCars 0 0 0 [(2, t), (0, l), (0, n), (3, 0), (3, 0), (3, 0), (3, 0), (3, 0), (3, 0), (3, 0), (3, 0)] [] v ρ Z
  have hg6 : 0 ≤ v t 6 ∧ v t 6 ≤ 12 := hH.rg ht (by decide) rfl
  have hw13 : ω (ρ t 13) = 37 := hH.rf ht (by decide) rfl
  refine r_iload_n (pc := 0) hX 0 rfl rfl ?_
  refine r_iconst (pc := 1) hX 1 rfl ?_
  refine r_isub (pc := 2) hX 2 rfl ?_
  refine r_iconst (pc := 3) hX 3 rfl ?_
  refine r_imul (pc := 4) hX 4 rfl ?_
  refine r_iconst (pc := 5) hX 5 rfl ?_
  refine r_iadd (pc := 6) hX 6 rfl ?_
  refine r_istore_n (ls' := [(2, t), (0, l), (0, n), (0, (((n - 1) * 3) + 1)), (3, 0), (3, 0), (3, 0), (3, 0), (3, 0), (3, 0), (3, 0)]) (pc := 7) hX 7 rfl (by decide) rfl ?_
  refine t_getR (q := (ρ t 12)) (pc := 8) hX 8 rfl rfl rfl fl_X2_35 rfl (hH.kd ht (by decide)) (rfl) ?_
  have hw8_ : ω (ρ t 12) = 36 := hH.rf ht (by decide) rfl
  refine r_iconst (pc := 12) hX 10 rfl ?_
  refine e_iald (y := (v (ρ t 12) 0)) (n := 3) (pc := 13) hX 11 rfl (hH.kd hw8_ (by decide)) (hH.ln hw8_ (by decide)) (by omega) (by omega) (rfl) ?_
  have hb13 : (-11) ≤ (v (ρ t 12) 0) ∧ (v (ρ t 12) 0) ≤ 9 := hH.rg hw8_ (by decide) rfl
  refine r_iload_n (pc := 14) hX 12 rfl rfl ?_
  refine r_mmin (pc := 15) hX 13 rfl ml_X2_153 ⟨by omega, by omega⟩ ⟨by omega, by omega⟩ (by rw [hRm]; exact ⟨by decide, by decide, by decide, by decide⟩) (Nat.le_of_ble_eq_true rfl) (fun z15 hz15 => ?_)
  refine r_iconst (pc := 18) hX 14 rfl ?_
  refine r_isub (pc := 19) hX 15 rfl ?_
  refine r_istore (ls' := [(2, t), (0, l), (0, n), (0, (((n - 1) * 3) + 1)), (0, (z15 - 1)), (3, 0), (3, 0), (3, 0), (3, 0), (3, 0), (3, 0)]) (pc := 20) hX 16 rfl (by decide) rfl ?_
  have L22 : ∀ (n22 : Nat) (a : Int) (v22 : Mv) , (FrW ω [29, 33, 34, 35, 37, 38] v v22) → (HT ω v22 ρ Z) → (-12 ≤ a ∧ a ≤ 8) → (v22 t 6 = v t 6) → (a + 1).toNat < n22 → wp g X F_X2_passCars 0 0 22 [(2, t), (0, l), (0, n), (0, (((n - 1) * 3) + 1)), (0, a), (3, 0), (3, 0), (3, 0), (3, 0), (3, 0), (3, 0)] [] v22 ρ Z := by
    intro n22
    induction n22 with
    | zero => intro a v22 hfr22 hH22 ia e6 hme22; exact absurd hme22 (Nat.not_lt_zero _)
    | succ n22 ih22 =>
      intro a v22 hfr22 hH22 ia e6 hme22
      refine r_iload (pc := 22) hX 17 rfl rfl ?_
      first | refine r_if_lt (pc := 24) hX 18 (tgt := 202) rfl (by decide) (⟨by omega, by omega⟩) (fun h24 => ?_) (fun h24 => ?_) | refine r_if_lt_any (pc := 24) hX 18 (tgt := 202) rfl (by decide) ?_ ?_
      · exact r_vret (pc := 202) hX 116 hQ rfl rfl (Nat.le_refl 0) (Nat.le_refl 0) ⟨rfl, rfl, hfr22, hH22, rfl, ((rfl).trans (by omega))⟩
      · refine t_getR (q := (ρ t 13)) (pc := 27) hX 19 rfl rfl rfl fl_X2_38 rfl (hH22.kd ht (by decide)) (rfl) ?_
        have hw27_ : ω (ρ t 13) = 37 := hH.rf ht (by decide) rfl
        refine r_iconst (pc := 31) hX 21 rfl ?_
        refine r_iload (pc := 32) hX 22 rfl rfl ?_
        refine e_iast (n := 3) (pc := 34) hX 23 rfl (hH22.kd hw27_ (by decide)) (hH22.ln hw27_ (by decide)) (hH22.g4 hw27_ (by decide)) (by omega) (by omega) ?_
        have hH_34 : HT ω (up v22 (ρ t 13) 0 a) ρ Z := hH22.upR hw27_ (by decide) rfl (by omega) (by omega)
        refine t_getR (q := (ρ t 12)) (pc := 35) hX 24 rfl rfl rfl fl_X2_35 rfl (hH_34.kd ht (by decide)) (rfl) ?_
        refine r_iconst (pc := 39) hX 26 rfl ?_
        refine e_iald (y := (v (ρ t 12) 1)) (n := 3) (pc := 40) hX 27 rfl (hH_34.kd hw8_ (by decide)) (hH_34.ln hw8_ (by decide)) (by omega) (by omega) ((up_k (by decide)).trans ((hfr22.at hw8_ (by decide) 1).trans (rfl))) ?_
        have hb40 : (-11) ≤ (v (ρ t 12) 1) ∧ (v (ρ t 12) 1) ≤ 9 := hH.rg hw8_ (by decide) rfl
        refine r_iload_n (pc := 41) hX 28 rfl rfl ?_
        refine r_mmin (pc := 42) hX 29 rfl ml_X2_153 ⟨by omega, by omega⟩ ⟨by omega, by omega⟩ (by rw [hRm]; exact ⟨by decide, by decide, by decide, by decide⟩) (Nat.le_of_ble_eq_true rfl) (fun z42 hz42 => ?_)
        refine r_iconst (pc := 45) hX 30 rfl ?_
        refine r_isub (pc := 46) hX 31 rfl ?_
        refine r_istore (ls' := [(2, t), (0, l), (0, n), (0, (((n - 1) * 3) + 1)), (0, a), (0, (z42 - 1)), (3, 0), (3, 0), (3, 0), (3, 0), (3, 0)]) (pc := 47) hX 32 rfl (by decide) rfl ?_
        have L49 : ∀ (n49 : Nat) (b : Int) (v49 : Mv) , (FrW ω [29, 33, 34, 35, 37, 38] v v49) → (HT ω v49 ρ Z) → (-12 ≤ b ∧ b ≤ 8) → (v49 t 6 = v t 6) → (v49 (ρ t 13) 0 = a) → (b + 1).toNat < n49 → wp g X F_X2_passCars 0 0 49 [(2, t), (0, l), (0, n), (0, (((n - 1) * 3) + 1)), (0, a), (0, b), (3, 0), (3, 0), (3, 0), (3, 0), (3, 0)] [] v49 ρ Z := by
          intro n49
          induction n49 with
          | zero => intro b v49 hfr49 hH49 ib e6 g0 hme49; exact absurd hme49 (Nat.not_lt_zero _)
          | succ n49 ih49 =>
            intro b v49 hfr49 hH49 ib e6 g0 hme49
            refine r_iload (pc := 49) hX 33 rfl rfl ?_
            first | refine r_if_lt (pc := 51) hX 34 (tgt := 196) rfl (by decide) (⟨by omega, by omega⟩) (fun h51 => ?_) (fun h51 => ?_) | refine r_if_lt_any (pc := 51) hX 34 (tgt := 196) rfl (by decide) ?_ ?_
            · refine r_iinc (ls' := [(2, t), (0, l), (0, n), (0, (((n - 1) * 3) + 1)), (0, (a + (-1))), (0, b), (3, 0), (3, 0), (3, 0), (3, 0), (3, 0)]) (pc := 196) hX 114 rfl rfl (by decide) rfl ?_
              refine r_goto (pc := 199) hX 115 (tgt := 22) rfl (by decide) ?_
              refine r_wk (ls' := [(2, t), (0, l), (0, n), (0, (((n - 1) * 3) + 1)), (0, (a + (-1))), (3, 0), (3, 0), (3, 0), (3, 0), (3, 0), (3, 0)]) ⟨Or.inr rfl, Or.inr rfl, Or.inr rfl, Or.inr rfl, Or.inr rfl, Or.inl rfl, Or.inr rfl, Or.inr rfl, Or.inr rfl, Or.inr rfl, Or.inr rfl, trivial⟩ ?_
              exact (ih22 (a + (-1)) v49 (hfr49) (hH49) (by omega) ((rfl).trans (by omega)) (by omega))
            · refine t_getR (q := (ρ t 13)) (pc := 54) hX 35 rfl rfl rfl fl_X2_38 rfl (hH49.kd ht (by decide)) (rfl) ?_
              refine r_iconst (pc := 58) hX 37 rfl ?_
              refine r_iload (pc := 59) hX 38 rfl rfl ?_
              refine e_iast (n := 3) (pc := 61) hX 39 rfl (hH49.kd hw27_ (by decide)) (hH49.ln hw27_ (by decide)) (hH49.g4 hw27_ (by decide)) (by omega) (by omega) ?_
              have hH_61 : HT ω (up v49 (ρ t 13) 1 b) ρ Z := hH49.upR hw27_ (by decide) rfl (by omega) (by omega)
              refine t_getR (q := (ρ t 12)) (pc := 62) hX 40 rfl rfl rfl fl_X2_35 rfl (hH_61.kd ht (by decide)) (rfl) ?_
              refine r_iconst (pc := 66) hX 42 rfl ?_
              refine e_iald (y := (v (ρ t 12) 2)) (n := 3) (pc := 67) hX 43 rfl (hH_61.kd hw8_ (by decide)) (hH_61.ln hw8_ (by decide)) (by omega) (by omega) ((up_k (by decide)).trans ((hfr49.at hw8_ (by decide) 2).trans (rfl))) ?_
              have hb67 : (-11) ≤ (v (ρ t 12) 2) ∧ (v (ρ t 12) 2) ≤ 9 := hH.rg hw8_ (by decide) rfl
              refine r_iload_n (pc := 68) hX 44 rfl rfl ?_
              refine r_mmin (pc := 69) hX 45 rfl ml_X2_153 ⟨by omega, by omega⟩ ⟨by omega, by omega⟩ (by rw [hRm]; exact ⟨by decide, by decide, by decide, by decide⟩) (Nat.le_of_ble_eq_true rfl) (fun z69 hz69 => ?_)
              refine r_iconst (pc := 72) hX 46 rfl ?_
              refine r_isub (pc := 73) hX 47 rfl ?_
              refine r_istore (ls' := [(2, t), (0, l), (0, n), (0, (((n - 1) * 3) + 1)), (0, a), (0, b), (0, (z69 - 1)), (3, 0), (3, 0), (3, 0), (3, 0)]) (pc := 74) hX 48 rfl (by decide) rfl ?_
              have L76 : ∀ (n76 : Nat) (d : Int) (v76 : Mv) , (FrW ω [29, 33, 34, 35, 37, 38] v v76) → (HT ω v76 ρ Z) → (-12 ≤ d ∧ d ≤ 8) → (v76 t 6 = v t 6) → (v76 (ρ t 13) 0 = a) → (v76 (ρ t 13) 1 = b) → (d + 1).toNat < n76 → wp g X F_X2_passCars 0 0 76 [(2, t), (0, l), (0, n), (0, (((n - 1) * 3) + 1)), (0, a), (0, b), (0, d), (3, 0), (3, 0), (3, 0), (3, 0)] [] v76 ρ Z := by
                intro n76
                induction n76 with
                | zero => intro d v76 hfr76 hH76 id e6 g0 g1 hme76; exact absurd hme76 (Nat.not_lt_zero _)
                | succ n76 ih76 =>
                  intro d v76 hfr76 hH76 id e6 g0 g1 hme76
                  refine r_iload (pc := 76) hX 49 rfl rfl ?_
                  first | refine r_if_lt (pc := 78) hX 50 (tgt := 190) rfl (by decide) (⟨by omega, by omega⟩) (fun h78 => ?_) (fun h78 => ?_) | refine r_if_lt_any (pc := 78) hX 50 (tgt := 190) rfl (by decide) ?_ ?_
                  · refine r_iinc (ls' := [(2, t), (0, l), (0, n), (0, (((n - 1) * 3) + 1)), (0, a), (0, (b + (-1))), (0, d), (3, 0), (3, 0), (3, 0), (3, 0)]) (pc := 190) hX 112 rfl rfl (by decide) rfl ?_
                    refine r_goto (pc := 193) hX 113 (tgt := 49) rfl (by decide) ?_
                    refine r_wk (ls' := [(2, t), (0, l), (0, n), (0, (((n - 1) * 3) + 1)), (0, a), (0, (b + (-1))), (3, 0), (3, 0), (3, 0), (3, 0), (3, 0)]) ⟨Or.inr rfl, Or.inr rfl, Or.inr rfl, Or.inr rfl, Or.inr rfl, Or.inr rfl, Or.inl rfl, Or.inr rfl, Or.inr rfl, Or.inr rfl, Or.inr rfl, trivial⟩ ?_
                    exact (ih49 (b + (-1)) v76 (hfr76) (hH76) (by omega) ((rfl).trans (by omega)) ((rfl).trans (by omega)) (by omega))
                  · refine t_getR (q := (ρ t 13)) (pc := 81) hX 51 rfl rfl rfl fl_X2_38 rfl (hH76.kd ht (by decide)) (rfl) ?_
                    refine r_iconst (pc := 85) hX 53 rfl ?_
                    refine r_iload (pc := 86) hX 54 rfl rfl ?_
                    refine e_iast (n := 3) (pc := 88) hX 55 rfl (hH76.kd hw27_ (by decide)) (hH76.ln hw27_ (by decide)) (hH76.g4 hw27_ (by decide)) (by omega) (by omega) ?_
                    have hH_88 : HT ω (up v76 (ρ t 13) 2 d) ρ Z := hH76.upR hw27_ (by decide) rfl (by omega) (by omega)
                    refine r_iload (pc := 89) hX 56 rfl rfl ?_
                    refine r_bipush (pc := 91) hX 57 rfl (by decide) ?_
                    refine r_imul (pc := 93) hX 58 rfl ?_
                    refine r_iload (pc := 94) hX 59 rfl rfl ?_
                    refine r_iadd (pc := 96) hX 60 rfl ?_
                    refine r_bipush (pc := 97) hX 61 rfl (by decide) ?_
                    refine r_imul (pc := 99) hX 62 rfl ?_
                    refine r_iload (pc := 100) hX 63 rfl rfl ?_
                    refine r_iadd (pc := 102) hX 64 rfl ?_
                    refine r_istore (ls' := [(2, t), (0, l), (0, n), (0, (((n - 1) * 3) + 1)), (0, a), (0, b), (0, d), (0, ((((a * 9) + b) * 9) + d)), (3, 0), (3, 0), (3, 0)]) (pc := 103) hX 65 rfl (by decide) rfl ?_
                    refine t_getR (q := (ρ t 11)) (pc := 105) hX 66 rfl rfl rfl fl_X2_32 rfl (hH_88.kd ht (by decide)) (rfl) ?_
                    have hw105_ : ω (ρ t 11) = 35 := hH.rf ht (by decide) rfl
                    refine r_iload (pc := 109) hX 68 rfl rfl ?_
                    refine e_lald (y := (v76 (ρ t 11) ((((a * 9) + b) * 9) + d))) (n := 729) (pc := 111) hX 69 rfl (hH_88.kd hw105_ (by decide)) (hH_88.ln hw105_ (by decide)) (by omega) (by omega) ((up_r (rne hw105_ hw27_ (by decide))).trans (rfl)) ?_
                    refine r_lstore (ls' := [(2, t), (0, l), (0, n), (0, (((n - 1) * 3) + 1)), (0, a), (0, b), (0, d), (0, ((((a * 9) + b) * 9) + d)), (1, (v76 (ρ t 11) ((((a * 9) + b) * 9) + d))), (3, 0), (3, 0)]) (pc := 112) hX 70 rfl (by decide) rfl ?_
                    refine t_getR (q := (ρ t 11)) (pc := 114) hX 71 rfl rfl rfl fl_X2_32 rfl (hH_88.kd ht (by decide)) (rfl) ?_
                    refine r_iload (pc := 118) hX 73 rfl rfl ?_
                    refine r_lconst (pc := 120) hX 74 rfl ?_
                    show wp g X F_X2_passCars 0 0 121 [(2, t), (0, l), (0, n), (0, (((n - 1) * 3) + 1)), (0, a), (0, b), (0, d), (0, ((((a * 9) + b) * 9) + d)), (1, (v76 (ρ t 11) ((((a * 9) + b) * 9) + d))), (3, 0), (3, 0)] [(1, 0), (0, ((((a * 9) + b) * 9) + d)), (2, (ρ t 11))] (up v76 (ρ t 13) 2 d) ρ Z
                    refine e_last (n := 729) (pc := 121) hX 75 rfl (hH_88.kd hw105_ (by decide)) (hH_88.ln hw105_ (by decide)) (hH_88.g4 hw105_ (by decide)) (by omega) (by omega) ?_
                    have hH_121 : HT ω (up (up v76 (ρ t 13) 2 d) (ρ t 11) ((((a * 9) + b) * 9) + d) 0) ρ Z := hH_88.up0 hw105_ (by decide) rfl
                    refine r_iconst (pc := 122) hX 76 rfl ?_
                    refine r_istore (ls' := [(2, t), (0, l), (0, n), (0, (((n - 1) * 3) + 1)), (0, a), (0, b), (0, d), (0, ((((a * 9) + b) * 9) + d)), (1, (v76 (ρ t 11) ((((a * 9) + b) * 9) + d))), (3, 0), (0, 0)]) (pc := 123) hX 77 rfl (by decide) rfl ?_
                    have L125 : ∀ (n125 : Nat) (c : Int) (v125 : Mv) , (FrW ω [29, 33, 34, 35, 37, 38] v v125) → (HT ω v125 ρ Z) → (0 ≤ c ∧ c ≤ 5) → (v125 t 6 = v t 6) → (v125 (ρ t 13) 0 = a) → (v125 (ρ t 13) 1 = b) → (v125 (ρ t 13) 2 = d) → (5 - c).toNat < n125 → wp g X F_X2_passCars 0 0 125 [(2, t), (0, l), (0, n), (0, (((n - 1) * 3) + 1)), (0, a), (0, b), (0, d), (0, ((((a * 9) + b) * 9) + d)), (1, (v76 (ρ t 11) ((((a * 9) + b) * 9) + d))), (3, 0), (0, c)] [] v125 ρ Z := by
                      intro n125
                      induction n125 with
                      | zero => intro c v125 hfr125 hH125 ic e6 g0 g1 g2 hme125; exact absurd hme125 (Nat.not_lt_zero _)
                      | succ n125 ih125 =>
                        intro c v125 hfr125 hH125 ic e6 g0 g1 g2 hme125
                        refine r_iload (pc := 125) hX 78 rfl rfl ?_
                        refine r_iconst (pc := 127) hX 79 rfl ?_
                        have L184 : wp g X F_X2_passCars 0 0 184 [(2, t), (0, l), (0, n), (0, (((n - 1) * 3) + 1)), (0, a), (0, b), (0, d), (3, 0), (3, 0), (3, 0), (3, 0)] [] v125 ρ Z := by
                          refine r_iinc (ls' := [(2, t), (0, l), (0, n), (0, (((n - 1) * 3) + 1)), (0, a), (0, b), (0, (d + (-1))), (3, 0), (3, 0), (3, 0), (3, 0)]) (pc := 184) hX 110 rfl rfl (by decide) rfl ?_
                          refine r_goto (pc := 187) hX 111 (tgt := 76) rfl (by decide) ?_
                          exact (ih76 (d + (-1)) v125 (hfr125) (hH125) (by omega) ((rfl).trans (by omega)) ((rfl).trans (by omega)) ((rfl).trans (by omega)) (by omega))
                        first | refine r_icmp_ge (pc := 128) hX 80 (tgt := 184) rfl (by decide) (⟨by omega, by omega⟩) (⟨by omega, by omega⟩) (fun h128 => ?_) (fun h128 => ?_) | refine r_icmp_ge_any (pc := 128) hX 80 (tgt := 184) rfl (by decide) ?_ ?_
                        · refine r_wk (ls' := [(2, t), (0, l), (0, n), (0, (((n - 1) * 3) + 1)), (0, a), (0, b), (0, d), (3, 0), (3, 0), (3, 0), (3, 0)]) ⟨Or.inr rfl, Or.inr rfl, Or.inr rfl, Or.inr rfl, Or.inr rfl, Or.inr rfl, Or.inr rfl, Or.inl rfl, Or.inl rfl, Or.inr rfl, Or.inl rfl, trivial⟩ ?_
                          exact (L184   )
                        · refine r_lload (pc := 131) hX 81 rfl rfl ?_
                          refine r_lconst (pc := 133) hX 82 rfl ?_
                          show wp g X F_X2_passCars 0 0 134 [(2, t), (0, l), (0, n), (0, (((n - 1) * 3) + 1)), (0, a), (0, b), (0, d), (0, ((((a * 9) + b) * 9) + d)), (1, (v76 (ρ t 11) ((((a * 9) + b) * 9) + d))), (3, 0), (0, c)] [(1, 0), (1, (v76 (ρ t 11) ((((a * 9) + b) * 9) + d)))] v125 ρ Z
                          refine r_lcmp_any (pc := 134) hX 83 rfl (fun z134 hz134a hz134b => ?_)
                          first | refine r_if_eq (pc := 135) hX 84 (tgt := 184) rfl (by decide) (⟨by omega, by omega⟩) (fun h135 => ?_) (fun h135 => ?_) | refine r_if_eq_any (pc := 135) hX 84 (tgt := 184) rfl (by decide) ?_ ?_
                          · refine r_wk (ls' := [(2, t), (0, l), (0, n), (0, (((n - 1) * 3) + 1)), (0, a), (0, b), (0, d), (3, 0), (3, 0), (3, 0), (3, 0)]) ⟨Or.inr rfl, Or.inr rfl, Or.inr rfl, Or.inr rfl, Or.inr rfl, Or.inr rfl, Or.inr rfl, Or.inl rfl, Or.inl rfl, Or.inr rfl, Or.inl rfl, trivial⟩ ?_
                            exact (L184   )
                          · refine t_getR (q := (ρ t 0)) (pc := 138) hX 85 rfl rfl rfl fl_X2_44 rfl (hH125.kd ht (by decide)) (rfl) ?_
                            have hw138_ : ω (ρ t 0) = 5 := hH.rf ht (by decide) rfl
                            refine r_getR (q := (ρ (ρ t 0) 5)) (pc := 142) hX 87 rfl fl_X2_159 rfl (hH125.kd hw138_ (by decide)) (rfl) ?_
                            have hw142_ : ω (ρ (ρ t 0) 5) = 12 := hH.rf hw138_ (by decide) rfl
                            refine r_iload_n (pc := 145) hX 88 rfl rfl ?_
                            refine r_aald (q := (ρ (ρ (ρ t 0) 5) l)) (pc := 146) hX 89 19 rfl (hH125.kd hw142_ (by decide)) (by decide) (by decide) rfl rfl (by omega) (by rw [show Z.2.1 (ρ (ρ t 0) 5) = 3 from (hH125.ln hw142_ (by decide))]; omega) (rfl) ?_
                            have hw146_ : ω (ρ (ρ (ρ t 0) 5) l) = 13 := hH.rf hw142_ (by decide) (rf12 ⟨by omega, by omega⟩)
                            refine r_iload (pc := 147) hX 90 rfl rfl ?_
                            refine e_iald (y := (v (ρ (ρ (ρ t 0) 5) l) c)) (n := 5) (pc := 149) hX 91 rfl (hH125.kd hw146_ (by decide)) (hH125.ln hw146_ (by decide)) (by omega) (by omega) ((hfr125.at hw146_ (by decide) c).trans (rfl)) ?_
                            have hb149 : 0 ≤ (v (ρ (ρ (ρ t 0) 5) l) c) ∧ (v (ρ (ρ (ρ t 0) 5) l) c) ≤ 12 := hH.rg hw146_ (by decide) rfl
                            have L178 : ∀ (v178 : Mv) , (FrW ω [29, 33, 34, 35, 37, 38] v v178) → (HT ω v178 ρ Z) → (v178 t 6 = v t 6) → (v178 (ρ t 13) 0 = a) → (v178 (ρ t 13) 1 = b) → (v178 (ρ t 13) 2 = d) → wp g X F_X2_passCars 0 0 178 [(2, t), (0, l), (0, n), (0, (((n - 1) * 3) + 1)), (0, a), (0, b), (0, d), (0, ((((a * 9) + b) * 9) + d)), (1, (v76 (ρ t 11) ((((a * 9) + b) * 9) + d))), (3, 0), (0, c)] [] v178 ρ Z := by
                              intro v178 hfr178 hH178 e6 g0 g1 g2
                              refine r_iinc (ls' := [(2, t), (0, l), (0, n), (0, (((n - 1) * 3) + 1)), (0, a), (0, b), (0, d), (0, ((((a * 9) + b) * 9) + d)), (1, (v76 (ρ t 11) ((((a * 9) + b) * 9) + d))), (3, 0), (0, (c + 1))]) (pc := 178) hX 108 rfl rfl (by decide) rfl ?_
                              refine r_goto (pc := 181) hX 109 (tgt := 125) rfl (by decide) ?_
                              exact (ih125 (c + 1) v178 (hfr178) (hH178) (by omega) ((rfl).trans (by omega)) ((rfl).trans (by omega)) ((rfl).trans (by omega)) ((rfl).trans (by omega)) (by omega))
                            first | refine r_if_le (pc := 150) hX 92 (tgt := 178) rfl (by decide) (⟨by omega, by omega⟩) (fun h150 => ?_) (fun h150 => ?_) | refine r_if_le_any (pc := 150) hX 92 (tgt := 178) rfl (by decide) ?_ ?_
                            · exact (L178  v125 (hfr125) (hH125) ((rfl).trans (by omega)) ((rfl).trans (by omega)) ((rfl).trans (by omega)) ((rfl).trans (by omega)) )
                            · refine r_aload_n (pc := 153) hX 93 rfl rfl ?_
                              refine r_iload (pc := 154) hX 94 rfl rfl ?_
                              refine r_iload (pc := 156) hX 95 rfl rfl ?_
                              refine r_lload (pc := 158) hX 96 rfl rfl ?_
                              refine t_getR (q := (ρ t 0)) (pc := 160) hX 97 rfl rfl rfl fl_X2_44 rfl (hH125.kd ht (by decide)) (rfl) ?_
                              refine r_getR (q := (ρ (ρ t 0) 5)) (pc := 164) hX 99 rfl fl_X2_159 rfl (hH125.kd hw138_ (by decide)) (rfl) ?_
                              refine r_iload_n (pc := 167) hX 100 rfl rfl ?_
                              refine r_aald (q := (ρ (ρ (ρ t 0) 5) l)) (pc := 168) hX 101 19 rfl (hH125.kd hw142_ (by decide)) (by decide) (by decide) rfl rfl (by omega) (by rw [show Z.2.1 (ρ (ρ t 0) 5) = 3 from (hH125.ln hw142_ (by decide))]; omega) (rfl) ?_
                              refine r_iload (pc := 169) hX 102 rfl rfl ?_
                              refine e_iald (y := (v (ρ (ρ (ρ t 0) 5) l) c)) (n := 5) (pc := 171) hX 103 rfl (hH125.kd hw146_ (by decide)) (hH125.ln hw146_ (by decide)) (by omega) (by omega) ((hfr125.at hw146_ (by decide) c).trans (rfl)) ?_
                              refine r_i2l (pc := 172) hX 104 rfl ⟨by omega, by omega⟩ ?_
                              refine r_lmul (pc := 173) hX 105 rfl ?_
                              refine r_iload_n (pc := 174) hX 106 rfl rfl ?_
                              refine r_callV (as := [(0, ((((a * 9) + b) * 9) + d)), (0, c), (1, ((v76 (ρ t 11) ((((a * 9) + b) * 9) + d)) * (v (ρ (ρ (ρ t 0) 5) l) c))), (0, n)]) (st := []) (K := 2) (pc := 175) hX 107 rfl mo_X2_passCar ml_X2_163 im_X2_passCar se_X2_passCar (c_X2_passCar g ω v125 ρ Z hH125 t ht (((((a * 9) + b) * 9) + d)) (c) (((v76 (ρ t 11) ((((a * 9) + b) * 9) + d)) * (v (ρ (ρ (ρ t 0) 5) l) c))) (n) (by omega) (by omega) (by omega)) rfl rfl rfl (hH125.kd ht (by decide)) (by rw [hRm]; exact ⟨by decide, by decide⟩) (by rw [hRm]; exact ⟨by decide, by decide⟩) (Nat.le_of_ble_eq_true rfl) (fun o175 v175 ρv175 Zv175 hq175 _ => ?_)
                              obtain ⟨rfl, rfl, hfr175, hH175, rfl, hq175⟩ := hq175
                              show wp g X F_X2_passCars 0 0 178 [(2, t), (0, l), (0, n), (0, (((n - 1) * 3) + 1)), (0, a), (0, b), (0, d), (0, ((((a * 9) + b) * 9) + d)), (1, (v76 (ρ t 11) ((((a * 9) + b) * 9) + d))), (3, 0), (0, c)] [] v175 ρ Z
                              exact (L178  v175 ((hfr125).tr hfr175 (by decide)) (hH175) ((rfl).trans (by omega)) (((hfr175.at hw27_ (by decide) 0).trans (rfl)).trans (by omega)) (((hfr175.at hw27_ (by decide) 1).trans (rfl)).trans (by omega)) (((hfr175.at hw27_ (by decide) 2).trans (rfl)).trans (by omega)) )
                    exact (L125 _ 0 (up (up v76 (ρ t 13) 2 d) (ρ t 11) ((((a * 9) + b) * 9) + d) 0) (((hfr76).up (r := (ρ t 13)) hw27_ (by decide)).up (r := (ρ t 11)) hw105_ (by decide)) (hH_121) (by omega) (((up_r (rne ht hw105_ (by decide))).trans ((up_k (by decide)).trans (rfl))).trans (by omega)) (((up_r (rne hw27_ hw105_ (by decide))).trans ((up_k (by decide)).trans (rfl))).trans (by omega)) (((up_r (rne hw27_ hw105_ (by decide))).trans ((up_k (by decide)).trans (rfl))).trans (by omega)) (((up_r (rne hw27_ hw105_ (by decide))).trans (up_s _ _ _ _)).trans (by omega)) (Nat.lt_succ_self _))
              exact (L76 _ (z69 - 1) (up v49 (ρ t 13) 1 b) ((hfr49).up (r := (ρ t 13)) hw27_ (by decide)) (hH_61) (by omega) (((up_k (by decide)).trans (rfl)).trans (by omega)) (((up_k (by decide)).trans (rfl)).trans (by omega)) ((up_s _ _ _ _).trans (by omega)) (Nat.lt_succ_self _))
        exact (L49 _ (z42 - 1) (up v22 (ρ t 13) 0 a) ((hfr22).up (r := (ρ t 13)) hw27_ (by decide)) (hH_34) (by omega) (((up_k (by decide)).trans (rfl)).trans (by omega)) ((up_s _ _ _ _).trans (by omega)) (Nat.lt_succ_self _))
  exact (L22 _ (z15 - 1) v (FrW.rf) (hH) (by omega) ((rfl).trans (by omega)) (Nat.lt_succ_self _))
set_option maxHeartbeats 4000000 in
set_option maxRecDepth 100000 in
theorem c_X2_reckon (g : Gp) (ω : Rw) (v ρ : Mv) (Z : Mz) (hH : HT ω v ρ Z) (t : Int) (ht : ω t = 29)  : Ok g 4 0 0 F_X2_reckon [(2, t)] v ρ Z (fun o9 v' ρ' Z' => ρ = ρ' ∧ Z = Z' ∧ FrW ω [29, 33, 34, 35, 36, 37, 38] v v' ∧ HT ω v' ρ Z ∧ o9 = none ∧ True) := by
  refine Ok.of mo_X2_reckon (Nat.le_of_ble_eq_true rfl) ?_
  intro X hX hRm hxn hQ
  show wp g X F_X2_reckon 0 0 0 [(2, t), (3, 0), (3, 0), (3, 0), (3, 0), (3, 0)] [] v ρ Z
  refine r_aload_n (pc := 0) hX 0 rfl rfl ?_
  refine r_callV (as := []) (st := []) (K := 2) (pc := 1) hX 1 rfl mo_X2_clearResults ml_X2_110 im_X2_clearResults se_X2_clearResults (c_X2_clearResults g ω v ρ Z hH t ht ) rfl rfl rfl (hH.kd ht (by decide)) (by rw [hRm]; exact ⟨by decide, by decide⟩) (by rw [hRm]; exact ⟨by decide, by decide⟩) (Nat.le_of_ble_eq_true rfl) (fun o1 v1 ρv1 Zv1 hq1 _ => ?_)
  obtain ⟨rfl, rfl, hfr1, hH1, rfl, hq1⟩ := hq1
  show wp g X F_X2_reckon 0 0 4 [(2, t), (3, 0), (3, 0), (3, 0), (3, 0), (3, 0)] [] v1 ρ Z
  refine r_lconst (pc := 4) hX 2 rfl ?_
  show wp g X F_X2_reckon 0 0 5 [(2, t), (3, 0), (3, 0), (3, 0), (3, 0), (3, 0)] [(1, 0)] v1 ρ Z
  refine r_lstore_n (ls' := [(2, t), (1, 0), (3, 0), (3, 0), (3, 0), (3, 0)]) (pc := 5) hX 3 rfl (by decide) rfl ?_
  refine r_iconst (pc := 6) hX 4 rfl ?_
  refine r_istore_n (ls' := [(2, t), (1, 0), (3, 0), (0, 0), (3, 0), (3, 0)]) (pc := 7) hX 5 rfl (by decide) rfl ?_
  have L8 : ∀ (n8 : Nat) (w l : Int) , (0 ≤ l ∧ l ≤ 3) → (3 - l).toNat < n8 → wp g X F_X2_reckon 0 0 8 [(2, t), (1, w), (3, 0), (0, l), (3, 0), (3, 0)] [] v1 ρ Z := by
    intro n8
    induction n8 with
    | zero => intro w l il hme8; exact absurd hme8 (Nat.not_lt_zero _)
    | succ n8 ih8 =>
      intro w l il hme8
      refine r_iload_n (pc := 8) hX 6 rfl rfl ?_
      refine t_getR (q := (ρ t 0)) (pc := 9) hX 7 rfl rfl rfl fl_X2_44 rfl (hH1.kd ht (by decide)) (rfl) ?_
      have hw9_ : ω (ρ t 0) = 5 := hH.rf ht (by decide) rfl
      refine r_callV (as := []) (st := [(0, l)]) (K := 4) (pc := 13) hX 9 rfl mo_X4_rows ml_X2_83 im_X4_rows se_X4_rows (c_X4_rows g ω v1 ρ Z hH1 (ρ t 0) hw9_ ) rfl rfl rfl (hH1.kd hw9_ (by decide)) (by rw [hRm]; exact ⟨by decide, by decide⟩) (by rw [hRm]; exact ⟨by decide, by decide⟩) (Nat.le_of_ble_eq_true rfl) (fun o13 v13 ρv13 Zv13 hq13 _ => ?_)
      obtain ⟨rfl, rfl, rfl, r13, rfl, hq13⟩ := hq13
      try rw [show (v1 (ρ t 0) 9) = (v (ρ t 0) 9) from (hfr1.at hw9_ (by decide) 9).trans (rfl)] at hq13
      show wp g X F_X2_reckon 0 0 16 [(2, t), (1, w), (3, 0), (0, l), (3, 0), (3, 0)] [(0, r13), (0, l)] v1 ρ Z
      first | refine r_icmp_ge (pc := 16) hX 10 (tgt := 34) rfl (by decide) (⟨by omega, by omega⟩) (⟨by omega, by omega⟩) (fun h16 => ?_) (fun h16 => ?_) | refine r_icmp_ge_any (pc := 16) hX 10 (tgt := 34) rfl (by decide) ?_ ?_
      · refine r_aload_n (pc := 34) hX 20 rfl rfl ?_
        refine r_lload_n (pc := 35) hX 21 rfl rfl ?_
        refine r_getsTN (pc := 36) hX 22 rfl gs_X2_113 (by rw [hH1.2.2.2.2.2.2.1]; decide) ?_
        refine t_getI (y := (v1 t 6)) (pc := 39) hX 23 rfl rfl rfl fl_X2_73 rfl (hH1.kd ht (by decide)) (rfl) ?_
        have hb39 : 0 ≤ (v1 t 6) ∧ (v1 t 6) ≤ 12 := hH1.rg ht (by decide) rfl
        refine e_lald (y := (v 1 (v1 t 6))) (n := 13) (pc := 43) hX 25 rfl hH1.2.2.2.2.2.2.1 hH1.2.2.2.2.2.2.2.1 (by omega) (by omega) ((hfr1.at hH1.w1 (by decide) (v1 t 6)).trans (rfl)) ?_
        have hb43 := hH.tw (v1 t 6) (by omega) (by omega)
        refine r_lmul (pc := 44) hX 26 rfl ?_
        refine r_putL (pc := 45) hX 27 rfl fl_X2_116 rfl (fun _ h => by cases h; rfl) (hH1.kd ht (by decide)) (hH1.g4 ht (by decide)) ?_
        have hH_45 : HT ω (up v1 t 7 (w * (v 1 (v1 t 6)))) ρ Z := hH1.up0 ht (by decide) rfl
        show wp g X F_X2_reckon 0 0 48 [(2, t), (1, w), (3, 0), (0, l), (3, 0), (3, 0)] [] (up v1 t 7 (w * (v 1 (v1 t 6)))) ρ Z
        refine r_aload_n (pc := 48) hX 28 rfl rfl ?_
        refine r_callV (as := []) (st := []) (K := 2) (pc := 49) hX 29 rfl mo_X2_firstAtGoal ml_X2_120 im_X2_firstAtGoal se_X2_firstAtGoal (c_X2_firstAtGoal g ω (up v1 t 7 (w * (v 1 (v1 t 6)))) ρ Z hH_45 t ht ) rfl rfl rfl (hH_45.kd ht (by decide)) (by rw [hRm]; exact ⟨by decide, by decide⟩) (by rw [hRm]; exact ⟨by decide, by decide⟩) (Nat.le_of_ble_eq_true rfl) (fun o49 v49 ρv49 Zv49 hq49 _ => ?_)
        obtain ⟨rfl, rfl, rfl, r49, rfl, hq49⟩ := hq49
        show wp g X F_X2_reckon 0 0 52 [(2, t), (1, w), (3, 0), (0, l), (3, 0), (3, 0)] [(0, r49)] (up v1 t 7 (w * (v 1 (v1 t 6)))) ρ Z
        refine r_istore_n (ls' := [(2, t), (1, w), (3, 0), (0, r49), (3, 0), (3, 0)]) (pc := 52) hX 30 rfl (by decide) rfl ?_
        refine r_iload_n (pc := 53) hX 31 rfl rfl ?_
        refine r_iconst (pc := 54) hX 32 rfl ?_
        have L65 : wp g X F_X2_reckon 0 0 65 [(2, t), (1, w), (3, 0), (0, r49), (3, 0), (3, 0)] [] (up v1 t 7 (w * (v 1 (v1 t 6)))) ρ Z := by
          refine r_aload_n (pc := 65) hX 37 rfl rfl ?_
          refine r_iload_n (pc := 66) hX 38 rfl rfl ?_
          refine r_iconst (pc := 67) hX 39 rfl ?_
          have L89 : ∀ (wi : Int) , (-1 ≤ wi ∧ wi ≤ 2) → wp g X F_X2_reckon 0 0 89 [(2, t), (1, w), (3, 0), (0, r49), (3, 0), (3, 0)] [(0, wi), (2, t)] (up v1 t 7 (w * (v 1 (v1 t 6)))) ρ Z := by
            intro wi iw
            refine r_lload_n (pc := 89) hX 49 rfl rfl ?_
            refine r_iconst (pc := 90) hX 50 rfl ?_
            refine r_callV (as := [(0, wi), (1, w), (0, 0)]) (st := []) (K := 2) (pc := 91) hX 51 rfl mo_X2_credit ml_X2_130 im_X2_credit se_X2_credit (c_X2_credit g ω (up v1 t 7 (w * (v 1 (v1 t 6)))) ρ Z hH_45 t ht (wi) (w) (0) (by omega) (by rw [show ((up v1 t 7 (w * (v 1 (v1 t 6)))) t 6) = (v1 t 6) from (up_k (by decide)).trans (rfl)]; omega)) rfl rfl rfl (hH_45.kd ht (by decide)) (by rw [hRm]; exact ⟨by decide, by decide⟩) (by rw [hRm]; exact ⟨by decide, by decide⟩) (Nat.le_of_ble_eq_true rfl) (fun o91 v91 ρv91 Zv91 hq91 _ => ?_)
            obtain ⟨rfl, rfl, hfr91, hH91, rfl, hq91⟩ := hq91
            try rw [show ((up v1 t 7 (w * (v 1 (v1 t 6)))) t 6) = (v1 t 6) from (up_k (by decide)).trans (rfl)] at hq91
            show wp g X F_X2_reckon 0 0 94 [(2, t), (1, w), (3, 0), (0, r49), (3, 0), (3, 0)] [] v91 ρ Z
            exact r_vret (pc := 94) hX 52 hQ rfl rfl (Nat.le_refl 0) (Nat.le_refl 0) ⟨rfl, rfl, (((FrW.rf).tr hfr1 (by decide)).up (r := t) ht (by decide)).tr hfr91 (by decide), hH91, rfl, trivial⟩
          first | refine r_icmp_eq (pc := 68) hX 40 (tgt := 75) rfl (by decide) (⟨by omega, by omega⟩) (⟨by omega, by omega⟩) (fun h68 => ?_) (fun h68 => ?_) | refine r_icmp_eq_any (pc := 68) hX 40 (tgt := 75) rfl (by decide) ?_ ?_
          · refine t_getR (q := (ρ t 3)) (pc := 75) hX 43 rfl rfl rfl fl_X2_19 rfl (hH_45.kd ht (by decide)) (rfl) ?_
            have hw75_ : ω (ρ t 3) = 31 := hH.rf ht (by decide) rfl
            refine t_getR (q := (ρ t 0)) (pc := 79) hX 45 rfl rfl rfl fl_X2_44 rfl (hH_45.kd ht (by decide)) (rfl) ?_
            refine e_getI (y := (v (ρ t 0) 10)) (pc := 83) hX 47 rfl fl_X2_123 rfl (hH_45.kd hw9_ (by decide)) ((up_k (by decide)).trans ((hfr1.at hw9_ (by decide) 10).trans (rfl))) ?_
            have hb83 : 0 ≤ (v (ρ t 0) 10) ∧ (v (ρ t 0) 10) ≤ 3 := hH.rg hw9_ (by decide) rfl
            refine r_callSN (as := [(2, (ρ t 3)), (0, (v (ρ t 0) 10))]) (st := [(2, t)]) (pc := 86) hX 48 rfl mo_X11_soleLeader mn_X2_126 pn_X11_soleLeader stt_X11_soleLeader (c_X11_soleLeader g ω (up v1 t 7 (w * (v 1 (v1 t 6)))) ρ Z hH_45 (ρ t 3) (hH_45.kd hw75_ (by decide)) ((v (ρ t 0) 10)) (by omega)) rfl (by rw [hRm]; exact ⟨by decide, by decide⟩) (by rw [hRm]; exact ⟨by decide, by decide⟩) (Nat.le_of_ble_eq_true rfl) (fun o86 v86 ρv86 Zv86 hq86 _ => ?_)
            obtain ⟨rfl, rfl, rfl, r86, rfl, hq86⟩ := hq86
            show wp g X F_X2_reckon 0 0 89 [(2, t), (1, w), (3, 0), (0, r49), (3, 0), (3, 0)] [(0, r86), (2, t)] (up v1 t 7 (w * (v 1 (v1 t 6)))) ρ Z
            exact (L89 r86 (by omega) )
          · refine r_iload_n (pc := 71) hX 41 rfl rfl ?_
            refine r_goto (pc := 72) hX 42 (tgt := 89) rfl (by decide) ?_
            exact (L89 r49 (by omega) )
        first | refine r_icmp_ne (pc := 55) hX 33 (tgt := 65) rfl (by decide) (⟨by omega, by omega⟩) (⟨by omega, by omega⟩) (fun h55 => ?_) (fun h55 => ?_) | refine r_icmp_ne_any (pc := 55) hX 33 (tgt := 65) rfl (by decide) ?_ ?_
        · exact (L65   )
        · refine t_getI (y := (v1 t 6)) (pc := 58) hX 34 rfl rfl rfl fl_X2_73 rfl (hH_45.kd ht (by decide)) ((up_k (by decide)).trans (rfl)) ?_
          first | refine r_if_ne (pc := 62) hX 36 (tgt := 95) rfl (by decide) (⟨by omega, by omega⟩) (fun h62 => ?_) (fun h62 => ?_) | refine r_if_ne_any (pc := 62) hX 36 (tgt := 95) rfl (by decide) ?_ ?_
          · refine r_aload_n (pc := 95) hX 53 rfl rfl ?_
            refine r_callV (as := []) (st := []) (K := 2) (pc := 96) hX 54 rfl mo_X2_setRanges ml_X2_134 im_X2_setRanges se_X2_setRanges (c_X2_setRanges g ω (up v1 t 7 (w * (v 1 (v1 t 6)))) ρ Z hH_45 t ht ) rfl rfl rfl (hH_45.kd ht (by decide)) (by rw [hRm]; exact ⟨by decide, by decide⟩) (by rw [hRm]; exact ⟨by decide, by decide⟩) (Nat.le_of_ble_eq_true rfl) (fun o96 v96 ρv96 Zv96 hq96 _ => ?_)
            obtain ⟨rfl, rfl, hfr96, hH96, rfl, hq96⟩ := hq96
            show wp g X F_X2_reckon 0 0 99 [(2, t), (1, w), (3, 0), (0, r49), (3, 0), (3, 0)] [] v96 ρ Z
            refine r_iconst (pc := 99) hX 55 rfl ?_
            refine r_istore (ls' := [(2, t), (1, w), (3, 0), (0, r49), (0, 0), (3, 0)]) (pc := 100) hX 56 rfl (by decide) rfl ?_
            have L102 : ∀ (n102 : Nat) (l : Int) (v102 : Mv) , (FrW ω [29, 33, 34, 35, 36, 37, 38] v v102) → (HT ω v102 ρ Z) → (0 ≤ l ∧ l ≤ 3) → (3 - l).toNat < n102 → wp g X F_X2_reckon 0 0 102 [(2, t), (1, w), (3, 0), (0, r49), (0, l), (3, 0)] [] v102 ρ Z := by
              intro n102
              induction n102 with
              | zero => intro l v102 hfr102 hH102 il hme102; exact absurd hme102 (Nat.not_lt_zero _)
              | succ n102 ih102 =>
                intro l v102 hfr102 hH102 il hme102
                refine r_iload (pc := 102) hX 57 rfl rfl ?_
                refine t_getR (q := (ρ t 0)) (pc := 104) hX 58 rfl rfl rfl fl_X2_44 rfl (hH102.kd ht (by decide)) (rfl) ?_
                refine r_callV (as := []) (st := [(0, l)]) (K := 4) (pc := 108) hX 60 rfl mo_X4_rows ml_X2_83 im_X4_rows se_X4_rows (c_X4_rows g ω v102 ρ Z hH102 (ρ t 0) hw9_ ) rfl rfl rfl (hH102.kd hw9_ (by decide)) (by rw [hRm]; exact ⟨by decide, by decide⟩) (by rw [hRm]; exact ⟨by decide, by decide⟩) (Nat.le_of_ble_eq_true rfl) (fun o108 v108 ρv108 Zv108 hq108 _ => ?_)
                obtain ⟨rfl, rfl, rfl, r108, rfl, hq108⟩ := hq108
                try rw [show (v102 (ρ t 0) 9) = (v (ρ t 0) 9) from (hfr102.at hw9_ (by decide) 9).trans (rfl)] at hq108
                show wp g X F_X2_reckon 0 0 111 [(2, t), (1, w), (3, 0), (0, r49), (0, l), (3, 0)] [(0, r108), (0, l)] v102 ρ Z
                first | refine r_icmp_ge (pc := 111) hX 61 (tgt := 167) rfl (by decide) (⟨by omega, by omega⟩) (⟨by omega, by omega⟩) (fun h111 => ?_) (fun h111 => ?_) | refine r_icmp_ge_any (pc := 111) hX 61 (tgt := 167) rfl (by decide) ?_ ?_
                · exact r_vret (pc := 167) hX 88 hQ rfl rfl (Nat.le_refl 0) (Nat.le_refl 0) ⟨rfl, rfl, hfr102, hH102, rfl, trivial⟩
                · refine t_getR (q := (ρ t 11)) (pc := 114) hX 62 rfl rfl rfl fl_X2_32 rfl (hH102.kd ht (by decide)) (rfl) ?_
                  have hw114_ : ω (ρ t 11) = 35 := hH.rf ht (by decide) rfl
                  refine r_lconst (pc := 118) hX 64 rfl ?_
                  show wp g X F_X2_reckon 0 0 119 [(2, t), (1, w), (3, 0), (0, r49), (0, l), (3, 0)] [(1, 0), (2, (ρ t 11))] v102 ρ Z
                  refine r_callS (as := [(2, (ρ t 11)), (1, 0)]) (st := []) (pc := 119) hX 65 rfl mo_J7_fill_d0a16 ml_X2_137 stt_J7_fill_d0a16 (c_J7_fill35 g ω v102 ρ Z hH102 (ρ t 11) hw114_ (0) ) rfl (by rw [hRm]; exact ⟨by decide, by decide⟩) (by rw [hRm]; exact ⟨by decide, by decide⟩) (Nat.le_of_ble_eq_true rfl) (fun o119 v119 ρv119 Zv119 hq119 _ => ?_)
                  obtain ⟨rfl, rfl, hfr119, hH119, rfl, hq119⟩ := hq119
                  show wp g X F_X2_reckon 0 0 122 [(2, t), (1, w), (3, 0), (0, r49), (0, l), (3, 0)] [] v119 ρ Z
                  refine t_getR (q := (ρ t 11)) (pc := 122) hX 66 rfl rfl rfl fl_X2_32 rfl (hH119.kd ht (by decide)) (rfl) ?_
                  refine r_iconst (pc := 126) hX 68 rfl ?_
                  refine t_getR (q := (ρ t 4)) (pc := 127) hX 69 rfl rfl rfl fl_X2_22 rfl (hH119.kd ht (by decide)) (rfl) ?_
                  have hw127_ : ω (ρ t 4) = 32 := hH.rf ht (by decide) rfl
                  refine r_iload (pc := 131) hX 71 rfl rfl ?_
                  refine e_lald (y := (v (ρ t 4) l)) (n := 3) (pc := 133) hX 72 rfl (hH119.kd hw127_ (by decide)) (hH119.ln hw127_ (by decide)) (by omega) (by omega) ((hfr119.at hw127_ (by decide) l).trans ((hfr102.at hw127_ (by decide) l).trans (rfl))) ?_
                  refine e_last (n := 729) (pc := 134) hX 73 rfl (hH119.kd hw114_ (by decide)) (hH119.ln hw114_ (by decide)) (hH119.g4 hw114_ (by decide)) (by omega) (by omega) ?_
                  have hH_134 : HT ω (up v119 (ρ t 11) 0 (v (ρ t 4) l)) ρ Z := hH119.up0 hw114_ (by decide) rfl
                  refine r_iconst (pc := 135) hX 74 rfl ?_
                  refine r_istore (ls' := [(2, t), (1, w), (3, 0), (0, r49), (0, l), (0, 1)]) (pc := 136) hX 75 rfl (by decide) rfl ?_
                  have L138 : ∀ (n138 : Nat) (n : Int) (v138 : Mv) , (FrW ω [29, 33, 34, 35, 36, 37, 38] v v138) → (HT ω v138 ρ Z) → (1 ≤ n ∧ n ≤ 13) → (13 - n).toNat < n138 → wp g X F_X2_reckon 0 0 138 [(2, t), (1, w), (3, 0), (0, r49), (0, l), (0, n)] [] v138 ρ Z := by
                    intro n138
                    induction n138 with
                    | zero => intro n v138 hfr138 hH138 in_ hme138; exact absurd hme138 (Nat.not_lt_zero _)
                    | succ n138 ih138 =>
                      intro n v138 hfr138 hH138 in_ hme138
                      refine r_iload (pc := 138) hX 76 rfl rfl ?_
                      refine t_getI (y := (v138 t 6)) (pc := 140) hX 77 rfl rfl rfl fl_X2_73 rfl (hH138.kd ht (by decide)) (rfl) ?_
                      have hb140 : 0 ≤ (v138 t 6) ∧ (v138 t 6) ≤ 12 := hH138.rg ht (by decide) rfl
                      first | refine r_icmp_gt (pc := 144) hX 79 (tgt := 161) rfl (by decide) (⟨by omega, by omega⟩) (⟨by omega, by omega⟩) (fun h144 => ?_) (fun h144 => ?_) | refine r_icmp_gt_any (pc := 144) hX 79 (tgt := 161) rfl (by decide) ?_ ?_
                      · refine r_iinc (ls' := [(2, t), (1, w), (3, 0), (0, r49), (0, (l + 1)), (0, n)]) (pc := 161) hX 86 rfl rfl (by decide) rfl ?_
                        refine r_goto (pc := 164) hX 87 (tgt := 102) rfl (by decide) ?_
                        refine r_wk (ls' := [(2, t), (1, w), (3, 0), (0, r49), (0, (l + 1)), (3, 0)]) ⟨Or.inr rfl, Or.inr rfl, Or.inr rfl, Or.inr rfl, Or.inr rfl, Or.inl rfl, trivial⟩ ?_
                        exact (ih102 (l + 1) v138 (hfr138) (hH138) (by omega) (by omega))
                      · refine r_aload_n (pc := 147) hX 80 rfl rfl ?_
                        refine r_iload (pc := 148) hX 81 rfl rfl ?_
                        refine r_iload (pc := 150) hX 82 rfl rfl ?_
                        refine r_callV (as := [(0, l), (0, n)]) (st := []) (K := 2) (pc := 152) hX 83 rfl mo_X2_passCars ml_X2_143 im_X2_passCars se_X2_passCars (c_X2_passCars g ω v138 ρ Z hH138 t ht (l) (n) (by omega) (by omega)) rfl rfl rfl (hH138.kd ht (by decide)) (by rw [hRm]; exact ⟨by decide, by decide⟩) (by rw [hRm]; exact ⟨by decide, by decide⟩) (Nat.le_of_ble_eq_true rfl) (fun o152 v152 ρv152 Zv152 hq152 _ => ?_)
                        obtain ⟨rfl, rfl, hfr152, hH152, rfl, hq152⟩ := hq152
                        show wp g X F_X2_reckon 0 0 155 [(2, t), (1, w), (3, 0), (0, r49), (0, l), (0, n)] [] v152 ρ Z
                        refine r_iinc (ls' := [(2, t), (1, w), (3, 0), (0, r49), (0, l), (0, (n + 1))]) (pc := 155) hX 84 rfl rfl (by decide) rfl ?_
                        refine r_goto (pc := 158) hX 85 (tgt := 138) rfl (by decide) ?_
                        exact (ih138 (n + 1) v152 ((hfr138).tr hfr152 (by decide)) (hH152) (by omega) (by omega))
                  exact (L138 _ 1 (up v119 (ρ t 11) 0 (v (ρ t 4) l)) (((hfr102).tr hfr119 (by decide)).up (r := (ρ t 11)) hw114_ (by decide)) (hH_134) (by omega) (Nat.lt_succ_self _))
            exact (L102 _ 0 v96 ((((FrW.rf).tr hfr1 (by decide)).up (r := t) ht (by decide)).tr hfr96 (by decide)) (hH96) (by omega) (Nat.lt_succ_self _))
          · exact (L65   )
      · refine r_lload_n (pc := 19) hX 11 rfl rfl ?_
        refine t_getR (q := (ρ t 4)) (pc := 20) hX 12 rfl rfl rfl fl_X2_22 rfl (hH1.kd ht (by decide)) (rfl) ?_
        have hw20_ : ω (ρ t 4) = 32 := hH.rf ht (by decide) rfl
        refine r_iload_n (pc := 24) hX 14 rfl rfl ?_
        refine e_lald (y := (v (ρ t 4) l)) (n := 3) (pc := 25) hX 15 rfl (hH1.kd hw20_ (by decide)) (hH1.ln hw20_ (by decide)) (by omega) (by omega) ((hfr1.at hw20_ (by decide) l).trans (rfl)) ?_
        refine r_ladd (pc := 26) hX 16 rfl ?_
        refine r_lstore_n (ls' := [(2, t), (1, (w + (v (ρ t 4) l))), (3, 0), (0, l), (3, 0), (3, 0)]) (pc := 27) hX 17 rfl (by decide) rfl ?_
        refine r_iinc (ls' := [(2, t), (1, (w + (v (ρ t 4) l))), (3, 0), (0, (l + 1)), (3, 0), (3, 0)]) (pc := 28) hX 18 rfl rfl (by decide) rfl ?_
        refine r_goto (pc := 31) hX 19 (tgt := 8) rfl (by decide) ?_
        exact (ih8 (w + (v (ρ t 4) l)) (l + 1) (by omega) (by omega))
  exact (L8 _ 0 0 (by omega) (Nat.lt_succ_self _))
set_option maxHeartbeats 4000000 in
set_option maxRecDepth 100000 in
theorem c_X2_reckonFor (g : Gp) (ω : Rw) (v ρ : Mv) (Z : Mz) (hH : HT ω v ρ Z) (t : Int) (ht : ω t = 29) (o : Int) (ho : ω o = 22)  : Ok g 5 0 0 F_X2_reckonFor [(2, t), (2, o)] v ρ Z (fun o9 v' ρ' Z' => Z = Z' ∧ FrW ω [29, 30, 31, 32, 33, 34, 35, 36, 37, 38] v v' ∧ FrW ω [29] ρ ρ' ∧ HT ω v' ρ' Z ∧ o9 = none ∧ True) := by
  refine Ok.of mo_X2_reckonFor (Nat.le_of_ble_eq_true rfl) ?_
  intro X hX hRm hxn hQ
  show wp g X F_X2_reckonFor 0 0 0 [(2, t), (2, o)] [] v ρ Z
  refine t_getI (y := (v t 1)) (pc := 0) hX 0 rfl rfl rfl fl_X2_9 rfl (hH.kd ht (by decide)) (rfl) ?_
  refine r_aload_n (pc := 4) hX 2 rfl rfl ?_
  refine e_getI (y := (v o 1)) (pc := 5) hX 3 rfl fl_X2_48 rfl (hH.kd ho (by decide)) (rfl) ?_
  have L28 : ∀ (v28 : Mv) (ρ28 : Mv) , (FrW ω [29, 30, 31, 32, 33, 34, 35, 36, 37, 38] v v28) → (FrW ω [29] ρ ρ28) → (HT ω v28 ρ28 Z) → wp g X F_X2_reckonFor 0 0 28 [(2, t), (2, o)] [] v28 ρ28 Z := by
    intro v28 ρ28 hfr28 hfrR28 hH28
    exact r_vret (pc := 28) hX 14 hQ rfl rfl (Nat.le_refl 0) (Nat.le_refl 0) ⟨rfl, hfr28, hfrR28, hH28, rfl, trivial⟩
  first | refine r_icmp_eq (pc := 8) hX 4 (tgt := 28) rfl (by decide) (⟨by omega, by omega⟩) (⟨by omega, by omega⟩) (fun h8 => ?_) (fun h8 => ?_) | refine r_icmp_eq_any (pc := 8) hX 4 (tgt := 28) rfl (by decide) ?_ ?_
  · exact (L28  v ρ (FrW.rf) (FrW.rf) (hH) )
  · refine r_aload_n (pc := 11) hX 5 rfl rfl ?_
    refine r_aload_n (pc := 12) hX 6 rfl rfl ?_
    refine r_callV (as := [(2, o)]) (st := []) (K := 2) (pc := 13) hX 7 rfl mo_X2_setTo ml_X2_51 im_X2_setTo se_X2_setTo (c_X2_setTo g ω v ρ Z hH t ht o ho ) rfl rfl rfl (hH.kd ht (by decide)) (by rw [hRm]; exact ⟨by decide, by decide⟩) (by rw [hRm]; exact ⟨by decide, by decide⟩) (Nat.le_of_ble_eq_true rfl) (fun o13 v13 ρv13 Zv13 hq13 _ => ?_)
    obtain ⟨rfl, hfr13, hfrR13, hH13, rfl, hq13⟩ := hq13
    show wp g X F_X2_reckonFor 0 0 16 [(2, t), (2, o)] [] v13 ρv13 Z
    refine r_aload_n (pc := 16) hX 8 rfl rfl ?_
    refine r_callV (as := []) (st := []) (K := 2) (pc := 17) hX 9 rfl mo_X2_reckon ml_X2_55 im_X2_reckon se_X2_reckon (c_X2_reckon g ω v13 ρv13 Z hH13 t ht ) rfl rfl rfl (hH13.kd ht (by decide)) (by rw [hRm]; exact ⟨by decide, by decide⟩) (by rw [hRm]; exact ⟨by decide, by decide⟩) (Nat.le_of_ble_eq_true rfl) (fun o17 v17 ρv17 Zv17 hq17 _ => ?_)
    obtain ⟨rfl, rfl, hfr17, hH17, rfl, hq17⟩ := hq17
    show wp g X F_X2_reckonFor 0 0 20 [(2, t), (2, o)] [] v17 ρv13 Z
    refine r_aload_n (pc := 20) hX 10 rfl rfl ?_
    refine r_aload_n (pc := 21) hX 11 rfl rfl ?_
    refine e_getI (y := (v o 1)) (pc := 22) hX 12 rfl fl_X2_48 rfl (hH17.kd ho (by decide)) ((hfr17.at ho (by decide) 1).trans ((hfr13.at ho (by decide) 1).trans (rfl))) ?_
    refine r_putI (pc := 25) hX 13 rfl fl_X2_9 rfl (fun _ h => by cases h; rfl) (hH17.kd ht (by decide)) (hH17.g4 ht (by decide)) ?_
    have hH_25 : HT ω (up v17 t 1 (v o 1)) ρv13 Z := hH17.up0 ht (by decide) rfl
    show wp g X F_X2_reckonFor 0 0 28 [(2, t), (2, o)] [] (up v17 t 1 (v o 1)) ρv13 Z
    exact (L28  (up v17 t 1 (v o 1)) ρv13 ((((FrW.rf).tr hfr13 (by decide)).tr hfr17 (by decide)).up (r := t) ht (by decide)) ((FrW.rf).tr hfrR13 (by decide)) (hH_25) )
set_option maxHeartbeats 4000000 in
set_option maxRecDepth 100000 in
theorem c_X2_carsYet (g : Gp) (ω : Rw) (v ρ : Mv) (Z : Mz) (hH : HT ω v ρ Z) (t : Int) (ht : ω t = 29)  : Ok g 1 0 0 F_X2_carsYet [(2, t)] v ρ Z (fun o9 v' ρ' Z' => ρ = ρ' ∧ Z = Z' ∧ v = v' ∧ ∃ r : Int, o9 = some (1, r) ∧ True) := by
  refine Ok.of mo_X2_carsYet (Nat.le_of_ble_eq_true rfl) ?_
  intro X hX hRm hxn hQ
  show wp g X F_X2_carsYet 0 0 0 [(2, t), (3, 0), (3, 0), (3, 0)] [] v ρ Z
  refine r_lconst (pc := 0) hX 0 rfl ?_
  show wp g X F_X2_carsYet 0 0 1 [(2, t), (3, 0), (3, 0), (3, 0)] [(1, 0)] v ρ Z
  refine r_lstore_n (ls' := [(2, t), (1, 0), (3, 0), (3, 0)]) (pc := 1) hX 1 rfl (by decide) rfl ?_
  refine r_iconst (pc := 2) hX 2 rfl ?_
  refine r_istore_n (ls' := [(2, t), (1, 0), (3, 0), (0, 1)]) (pc := 3) hX 3 rfl (by decide) rfl ?_
  have L4 : ∀ (n4 : Nat) (w i : Int) , (1 ≤ i ∧ i ≤ 13) → (13 - i).toNat < n4 → wp g X F_X2_carsYet 0 0 4 [(2, t), (1, w), (3, 0), (0, i)] [] v ρ Z := by
    intro n4
    induction n4 with
    | zero => intro w i ii hme4; exact absurd hme4 (Nat.not_lt_zero _)
    | succ n4 ih4 =>
      intro w i ii hme4
      refine r_iload_n (pc := 4) hX 4 rfl rfl ?_
      refine r_bipush (pc := 5) hX 5 rfl (by decide) ?_
      first | refine r_icmp_gt (pc := 7) hX 6 (tgt := 28) rfl (by decide) (⟨by omega, by omega⟩) (⟨by omega, by omega⟩) (fun h7 => ?_) (fun h7 => ?_) | refine r_icmp_gt_any (pc := 7) hX 6 (tgt := 28) rfl (by decide) ?_ ?_
      · refine r_lload_n (pc := 28) hX 19 rfl rfl ?_
        exact r_lret (pc := 29) hX 20 hQ rfl rfl (Nat.le_refl 0) (Nat.le_refl 0) ⟨rfl, rfl, rfl, w, rfl, trivial⟩
      · refine r_lload_n (pc := 10) hX 7 rfl rfl ?_
        refine r_iload_n (pc := 11) hX 8 rfl rfl ?_
        refine r_i2l (pc := 12) hX 9 rfl ⟨by omega, by omega⟩ ?_
        refine t_getR (q := (ρ t 10)) (pc := 13) hX 10 rfl rfl rfl fl_X2_29 rfl (hH.kd ht (by decide)) (rfl) ?_
        have hw13_ : ω (ρ t 10) = 34 := hH.rf ht (by decide) rfl
        refine r_iload_n (pc := 17) hX 12 rfl rfl ?_
        refine e_lald (y := (v (ρ t 10) i)) (n := 13) (pc := 18) hX 13 rfl (hH.kd hw13_ (by decide)) (hH.ln hw13_ (by decide)) (by omega) (by omega) (rfl) ?_
        refine r_lmul (pc := 19) hX 14 rfl ?_
        refine r_ladd (pc := 20) hX 15 rfl ?_
        refine r_lstore_n (ls' := [(2, t), (1, (w + (i * (v (ρ t 10) i)))), (3, 0), (0, i)]) (pc := 21) hX 16 rfl (by decide) rfl ?_
        refine r_iinc (ls' := [(2, t), (1, (w + (i * (v (ρ t 10) i)))), (3, 0), (0, (i + 1))]) (pc := 22) hX 17 rfl rfl (by decide) rfl ?_
        refine r_goto (pc := 25) hX 18 (tgt := 4) rfl (by decide) ?_
        exact (ih4 (w + (i * (v (ρ t 10) i))) (i + 1) (by omega) (by omega))
  exact (L4 _ 0 1 (by omega) (Nat.lt_succ_self _))
set_option maxHeartbeats 4000000 in
set_option maxRecDepth 100000 in
theorem c_X2_doneBehind (g : Gp) (ω : Rw) (v ρ : Mv) (Z : Mz) (hH : HT ω v ρ Z) (t : Int) (ht : ω t = 29) (n : Int) (hnr : inR n) : Ok g 1 0 0 F_X2_doneBehind [(2, t), (0, n)] v ρ Z (fun o9 v' ρ' Z' => ρ = ρ' ∧ Z = Z' ∧ v = v' ∧ ∃ r : Int, o9 = some (1, r) ∧ True) := by
  refine Ok.of mo_X2_doneBehind (Nat.le_of_ble_eq_true rfl) ?_
  intro X hX hRm hxn hQ
  show wp g X F_X2_doneBehind 0 0 0 [(2, t), (0, n), (3, 0), (3, 0), (3, 0)] [] v ρ Z
  refine r_lconst (pc := 0) hX 0 rfl ?_
  show wp g X F_X2_doneBehind 0 0 1 [(2, t), (0, n), (3, 0), (3, 0), (3, 0)] [(1, 0)] v ρ Z
  refine r_lstore_n (ls' := [(2, t), (0, n), (1, 0), (3, 0), (3, 0)]) (pc := 1) hX 1 rfl (by decide) rfl ?_
  refine r_iconst (pc := 2) hX 2 rfl ?_
  refine r_istore (ls' := [(2, t), (0, n), (1, 0), (3, 0), (0, 0)]) (pc := 3) hX 3 rfl (by decide) rfl ?_
  have L5 : ∀ (n5 : Nat) (w i : Int) , (0 ≤ i ∧ i ≤ 13) → (13 - i).toNat < n5 → wp g X F_X2_doneBehind 0 0 5 [(2, t), (0, n), (1, w), (3, 0), (0, i)] [] v ρ Z := by
    intro n5
    induction n5 with
    | zero => intro w i ii hme5; exact absurd hme5 (Nat.not_lt_zero _)
    | succ n5 ih5 =>
      intro w i ii hme5
      refine r_iload (pc := 5) hX 4 rfl rfl ?_
      refine r_iload_n (pc := 7) hX 5 rfl rfl ?_
      first | refine r_icmp_gt (pc := 8) hX 6 (tgt := 34) rfl (by decide) (⟨by omega, by omega⟩) (⟨by omega, by omega⟩) (fun h8 => ?_) (fun h8 => ?_) | refine r_icmp_gt_any (pc := 8) hX 6 (tgt := 34) rfl (by decide) ?_ ?_
      · refine r_lload_n (pc := 34) hX 19 rfl rfl ?_
        exact r_lret (pc := 35) hX 20 hQ rfl rfl (Nat.le_refl 0) (Nat.le_refl 0) ⟨rfl, rfl, rfl, w, rfl, trivial⟩
      · refine r_iload (pc := 11) hX 7 rfl rfl ?_
        refine r_bipush (pc := 13) hX 8 rfl (by decide) ?_
        first | refine r_icmp_gt (pc := 15) hX 9 (tgt := 34) rfl (by decide) (⟨by omega, by omega⟩) (⟨by omega, by omega⟩) (fun h15 => ?_) (fun h15 => ?_) | refine r_icmp_gt_any (pc := 15) hX 9 (tgt := 34) rfl (by decide) ?_ ?_
        · refine r_lload_n (pc := 34) hX 19 rfl rfl ?_
          exact r_lret (pc := 35) hX 20 hQ rfl rfl (Nat.le_refl 0) (Nat.le_refl 0) ⟨rfl, rfl, rfl, w, rfl, trivial⟩
        · refine r_lload_n (pc := 18) hX 10 rfl rfl ?_
          refine t_getR (q := (ρ t 10)) (pc := 19) hX 11 rfl rfl rfl fl_X2_29 rfl (hH.kd ht (by decide)) (rfl) ?_
          have hw19_ : ω (ρ t 10) = 34 := hH.rf ht (by decide) rfl
          refine r_iload (pc := 23) hX 13 rfl rfl ?_
          refine e_lald (y := (v (ρ t 10) i)) (n := 13) (pc := 25) hX 14 rfl (hH.kd hw19_ (by decide)) (hH.ln hw19_ (by decide)) (by omega) (by omega) (rfl) ?_
          refine r_ladd (pc := 26) hX 15 rfl ?_
          refine r_lstore_n (ls' := [(2, t), (0, n), (1, (w + (v (ρ t 10) i))), (3, 0), (0, i)]) (pc := 27) hX 16 rfl (by decide) rfl ?_
          refine r_iinc (ls' := [(2, t), (0, n), (1, (w + (v (ρ t 10) i))), (3, 0), (0, (i + 1))]) (pc := 28) hX 17 rfl rfl (by decide) rfl ?_
          refine r_goto (pc := 31) hX 18 (tgt := 5) rfl (by decide) ?_
          exact (ih5 (w + (v (ρ t 10) i)) (i + 1) (by omega) (by omega))
  exact (L5 _ 0 0 (by omega) (Nat.lt_succ_self _))
