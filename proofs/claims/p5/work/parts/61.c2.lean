set_option maxHeartbeats 4000000 in
set_option maxRecDepth 100000 in
theorem c_X11_kindOf (g : Gp) (ω : Rw) (v ρ : Mv) (Z : Mz) (hH : HT ω v ρ Z) (c : Int) (hcr : inR c) : Ok g 1 0 0 F_X11_kindOf [(0, c)] v ρ Z (fun o9 v' ρ' Z' => ρ = ρ' ∧ Z = Z' ∧ v = v' ∧ ∃ r : Int, o9 = some (0, r) ∧ ((c = -1 ∧ r = 4 ∨ c ≠ -1 ∧ r = c))) := by
  refine Ok.of mo_X11_kindOf (Nat.le_of_ble_eq_true rfl) ?_
  intro X hX hRm hxn hQ
  show wp g X F_X11_kindOf 0 0 0 [(0, c)] [] v ρ Z
  refine r_iload_n (pc := 0) hX 0 rfl rfl ?_
  refine r_iconst (pc := 1) hX 1 rfl ?_
  first | refine r_icmp_ne (pc := 2) hX 2 (tgt := 9) rfl (by decide) (⟨by omega, by omega⟩) (⟨by omega, by omega⟩) (fun h2 => ?_) (fun h2 => ?_) | refine r_icmp_ne_any (pc := 2) hX 2 (tgt := 9) rfl (by decide) ?_ ?_
  · refine r_iload_n (pc := 9) hX 5 rfl rfl ?_
    exact r_iret (pc := 10) hX 6 hQ rfl rfl (Nat.le_refl 0) (Nat.le_refl 0) ⟨rfl, rfl, rfl, c, rfl, (by omega)⟩
  · refine r_iconst (pc := 5) hX 3 rfl ?_
    refine r_goto (pc := 6) hX 4 (tgt := 10) rfl (by decide) ?_
    exact r_iret (pc := 10) hX 6 hQ rfl rfl (Nat.le_refl 0) (Nat.le_refl 0) ⟨rfl, rfl, rfl, 4, rfl, (by omega)⟩
set_option maxHeartbeats 4000000 in
set_option maxRecDepth 100000 in
theorem c_X11_soleLeader (g : Gp) (ω : Rw) (v ρ : Mv) (Z : Mz) (hH : HT ω v ρ Z) (a : Int) (hak : Z.1 a = 13) (n : Int) (hnr : inR n) : Ok g 1 0 0 F_X11_soleLeader [(2, a), (0, n)] v ρ Z (fun o9 v' ρ' Z' => ρ = ρ' ∧ Z = Z' ∧ v = v' ∧ ∃ r : Int, o9 = some (0, r) ∧ (-1 ≤ r ∧ (0 ≤ r → r < n))) := by
  refine Ok.of mo_X11_soleLeader (Nat.le_of_ble_eq_true rfl) ?_
  intro X hX hRm hxn hQ
  show wp g X F_X11_soleLeader 0 0 0 [(2, a), (0, n), (3, 0), (3, 0), (3, 0)] [] v ρ Z
  refine r_iconst (pc := 0) hX 0 rfl ?_
  refine r_istore_n (ls' := [(2, a), (0, n), (0, (-1)), (3, 0), (3, 0)]) (pc := 1) hX 1 rfl (by decide) rfl ?_
  refine r_iconst (pc := 2) hX 2 rfl ?_
  refine r_istore_n (ls' := [(2, a), (0, n), (0, (-1)), (0, (-1)), (3, 0)]) (pc := 3) hX 3 rfl (by decide) rfl ?_
  refine r_iconst (pc := 4) hX 4 rfl ?_
  refine r_istore (ls' := [(2, a), (0, n), (0, (-1)), (0, (-1)), (0, 0)]) (pc := 5) hX 5 rfl (by decide) rfl ?_
  have L7 : ∀ (n7 : Nat) (b m i : Int) , (0 ≤ i ∧ (i ≤ n ∨ n < 0 ∧ i = 0) ∧ -1 ≤ b ∧ (0 ≤ b → b < n)) → (n - i).toNat < n7 → wp g X F_X11_soleLeader 0 0 7 [(2, a), (0, n), (0, b), (0, m), (0, i)] [] v ρ Z := by
    intro n7
    induction n7 with
    | zero => intro b m i ii hme7; exact absurd hme7 (Nat.not_lt_zero _)
    | succ n7 ih7 =>
      intro b m i ii hme7
      refine r_iload (pc := 7) hX 6 rfl rfl ?_
      refine r_iload_n (pc := 9) hX 7 rfl rfl ?_
      first | refine r_icmp_ge (pc := 10) hX 8 (tgt := 55) rfl (by decide) (⟨by omega, by omega⟩) (⟨by omega, by omega⟩) (fun h10 => ?_) (fun h10 => ?_) | refine r_icmp_ge_any (pc := 10) hX 8 (tgt := 55) rfl (by decide) ?_ ?_
      · refine r_iload_n (pc := 55) hX 34 rfl rfl ?_
        exact r_iret (pc := 56) hX 35 hQ rfl rfl (Nat.le_refl 0) (Nat.le_refl 0) ⟨rfl, rfl, rfl, b, rfl, (by omega)⟩
      · refine r_iload (pc := 13) hX 9 rfl rfl ?_
        refine r_aload_n (pc := 15) hX 10 rfl rfl ?_
        refine r_alen (pc := 16) hX 11 13 rfl hak (by decide) (by decide) (fun _ _ => ?_)
        have hl16 : 0 ≤ (Z.2.1 a) ∧ (Z.2.1 a) < 2147483648 := ⟨by assumption, by assumption⟩
        first | refine r_icmp_ge (pc := 17) hX 12 (tgt := 55) rfl (by decide) (⟨by omega, by omega⟩) (⟨by omega, by omega⟩) (fun h17 => ?_) (fun h17 => ?_) | refine r_icmp_ge_any (pc := 17) hX 12 (tgt := 55) rfl (by decide) ?_ ?_
        · refine r_iload_n (pc := 55) hX 34 rfl rfl ?_
          exact r_iret (pc := 56) hX 35 hQ rfl rfl (Nat.le_refl 0) (Nat.le_refl 0) ⟨rfl, rfl, rfl, b, rfl, (by omega)⟩
        · refine r_aload_n (pc := 20) hX 13 rfl rfl ?_
          refine r_iload (pc := 21) hX 14 rfl rfl ?_
          refine e_iald (y := (v a i)) (n := (Z.2.1 a)) (pc := 23) hX 15 rfl hak rfl (by omega) (by omega) (rfl) ?_
          refine r_iload_n (pc := 24) hX 16 rfl rfl ?_
          have L49 : ∀ (b2 m2 : Int) , (-1 ≤ b2 ∧ (0 ≤ b2 → b2 < n)) → wp g X F_X11_soleLeader 0 0 49 [(2, a), (0, n), (0, b2), (0, m2), (0, i)] [] v ρ Z := by
            intro b2 m2 i2
            refine r_iinc (ls' := [(2, a), (0, n), (0, b2), (0, m2), (0, (i + 1))]) (pc := 49) hX 32 rfl rfl (by decide) rfl ?_
            refine r_goto (pc := 52) hX 33 (tgt := 7) rfl (by decide) ?_
            exact (ih7 b2 m2 (i + 1) (by omega) (by omega))
          first | refine r_icmp_le (pc := 25) hX 17 (tgt := 39) rfl (by decide) (⟨by omega, by omega⟩) (⟨by omega, by omega⟩) (fun h25 => ?_) (fun h25 => ?_) | refine r_icmp_le_any (pc := 25) hX 17 (tgt := 39) rfl (by decide) ?_ ?_
          · refine r_aload_n (pc := 39) hX 25 rfl rfl ?_
            refine r_iload (pc := 40) hX 26 rfl rfl ?_
            refine e_iald (y := (v a i)) (n := (Z.2.1 a)) (pc := 42) hX 27 rfl hak rfl (by omega) (by omega) (rfl) ?_
            refine r_iload_n (pc := 43) hX 28 rfl rfl ?_
            first | refine r_icmp_ne (pc := 44) hX 29 (tgt := 49) rfl (by decide) (⟨by omega, by omega⟩) (⟨by omega, by omega⟩) (fun h44 => ?_) (fun h44 => ?_) | refine r_icmp_ne_any (pc := 44) hX 29 (tgt := 49) rfl (by decide) ?_ ?_
            · exact (L49 b m (by omega) )
            · refine r_iconst (pc := 47) hX 30 rfl ?_
              refine r_istore_n (ls' := [(2, a), (0, n), (0, (-1)), (0, m), (0, i)]) (pc := 48) hX 31 rfl (by decide) rfl ?_
              exact (L49 (-1) m (by omega) )
          · refine r_aload_n (pc := 28) hX 18 rfl rfl ?_
            refine r_iload (pc := 29) hX 19 rfl rfl ?_
            refine e_iald (y := (v a i)) (n := (Z.2.1 a)) (pc := 31) hX 20 rfl hak rfl (by omega) (by omega) (rfl) ?_
            refine r_istore_n (ls' := [(2, a), (0, n), (0, b), (0, (v a i)), (0, i)]) (pc := 32) hX 21 rfl (by decide) rfl ?_
            refine r_iload (pc := 33) hX 22 rfl rfl ?_
            refine r_istore_n (ls' := [(2, a), (0, n), (0, i), (0, (v a i)), (0, i)]) (pc := 35) hX 23 rfl (by decide) rfl ?_
            refine r_goto (pc := 36) hX 24 (tgt := 49) rfl (by decide) ?_
            exact (L49 i (v a i) (by omega) )
  exact (L7 _ (-1) (-1) 0 (by omega) (Nat.lt_succ_self _))
set_option maxHeartbeats 4000000 in
set_option maxRecDepth 100000 in
theorem c_X9_holderOf (g : Gp) (ω : Rw) (v ρ : Mv) (Z : Mz) (hH : HT ω v ρ Z) (t : Int) (ht : ω t = 22) (c : Int) (hcr : inR c) : Ok g 1 0 0 F_X9_holderOf [(2, t), (0, c)] v ρ Z (fun o9 v' ρ' Z' => ρ = ρ' ∧ Z = Z' ∧ v = v' ∧ ∃ r : Int, o9 = some (0, r) ∧ (-1 ≤ r ∧ r ≤ 2 ∧ (0 ≤ r → r < v (ρ t 0) 10) ∧ (0 ≤ r → v (ρ t 4) r = c))) := by
  refine Ok.of mo_X9_holderOf (Nat.le_of_ble_eq_true rfl) ?_
  intro X hX hRm hxn hQ
  show wp g X F_X9_holderOf 0 0 0 [(2, t), (0, c), (3, 0)] [] v ρ Z
  refine r_iconst (pc := 0) hX 0 rfl ?_
  refine r_istore_n (ls' := [(2, t), (0, c), (0, 0)]) (pc := 1) hX 1 rfl (by decide) rfl ?_
  have L2 : ∀ (n2 : Nat) (i : Int) , (0 ≤ i ∧ i ≤ 3) → (3 - i).toNat < n2 → wp g X F_X9_holderOf 0 0 2 [(2, t), (0, c), (0, i)] [] v ρ Z := by
    intro n2
    induction n2 with
    | zero => intro i ii hme2; exact absurd hme2 (Nat.not_lt_zero _)
    | succ n2 ih2 =>
      intro i ii hme2
      refine r_iload_n (pc := 2) hX 2 rfl rfl ?_
      refine t_getR (q := (ρ t 0)) (pc := 3) hX 3 rfl rfl rfl fl_X9_25 rfl (hH.kd ht (by decide)) (rfl) ?_
      have hw3_ : ω (ρ t 0) = 5 := hH.rf ht (by decide) rfl
      refine e_getI (y := (v (ρ t 0) 10)) (pc := 7) hX 5 rfl fl_X9_47 rfl (hH.kd hw3_ (by decide)) (rfl) ?_
      have hb7 : 0 ≤ (v (ρ t 0) 10) ∧ (v (ρ t 0) 10) ≤ 3 := hH.rg hw3_ (by decide) rfl
      first | refine r_icmp_ge (pc := 10) hX 6 (tgt := 31) rfl (by decide) (⟨by omega, by omega⟩) (⟨by omega, by omega⟩) (fun h10 => ?_) (fun h10 => ?_) | refine r_icmp_ge_any (pc := 10) hX 6 (tgt := 31) rfl (by decide) ?_ ?_
      · refine r_iconst (pc := 31) hX 17 rfl ?_
        exact r_iret (pc := 32) hX 18 hQ rfl rfl (Nat.le_refl 0) (Nat.le_refl 0) ⟨rfl, rfl, rfl, (-1), rfl, (by omega)⟩
      · refine t_getR (q := (ρ t 4)) (pc := 13) hX 7 rfl rfl rfl fl_X9_15 rfl (hH.kd ht (by decide)) (rfl) ?_
        have hw13_ : ω (ρ t 4) = 24 := hH.rf ht (by decide) rfl
        refine r_iload_n (pc := 17) hX 9 rfl rfl ?_
        refine e_iald (y := (v (ρ t 4) i)) (n := 3) (pc := 18) hX 10 rfl (hH.kd hw13_ (by decide)) (hH.ln hw13_ (by decide)) (by omega) (by omega) (rfl) ?_
        have hb18 : (-1) ≤ (v (ρ t 4) i) ∧ (v (ρ t 4) i) ≤ 3 := hH.rg hw13_ (by decide) rfl
        refine r_iload_n (pc := 19) hX 11 rfl rfl ?_
        first | refine r_icmp_ne (pc := 20) hX 12 (tgt := 25) rfl (by decide) (⟨by omega, by omega⟩) (⟨by omega, by omega⟩) (fun h20 => ?_) (fun h20 => ?_) | refine r_icmp_ne_any (pc := 20) hX 12 (tgt := 25) rfl (by decide) ?_ ?_
        · refine r_iinc (ls' := [(2, t), (0, c), (0, (i + 1))]) (pc := 25) hX 15 rfl rfl (by decide) rfl ?_
          refine r_goto (pc := 28) hX 16 (tgt := 2) rfl (by decide) ?_
          exact (ih2 (i + 1) (by omega) (by omega))
        · refine r_iload_n (pc := 23) hX 13 rfl rfl ?_
          exact r_iret (pc := 24) hX 14 hQ rfl rfl (Nat.le_refl 0) (Nat.le_refl 0) ⟨rfl, rfl, rfl, i, rfl, (by omega)⟩
  exact (L2 _ 0 (by omega) (Nat.lt_succ_self _))
set_option maxHeartbeats 4000000 in
set_option maxRecDepth 100000 in
theorem c_X9_timesCame (g : Gp) (ω : Rw) (v ρ : Mv) (Z : Mz) (hH : HT ω v ρ Z) (t : Int) (ht : ω t = 22) (c : Int)  : Ok g 1 0 0 F_X9_timesCame [(2, t), (0, c)] v ρ Z (fun o9 v' ρ' Z' => ρ = ρ' ∧ Z = Z' ∧ v = v' ∧ ∃ r : Int, o9 = some (0, r) ∧ (0 ≤ r ∧ r ≤ 12)) := by
  refine Ok.of mo_X9_timesCame (Nat.le_of_ble_eq_true rfl) ?_
  intro X hX hRm hxn hQ
  show wp g X F_X9_timesCame 0 0 0 [(2, t), (0, c), (3, 0), (3, 0)] [] v ρ Z
  refine r_iconst (pc := 0) hX 0 rfl ?_
  refine r_istore_n (ls' := [(2, t), (0, c), (0, 0), (3, 0)]) (pc := 1) hX 1 rfl (by decide) rfl ?_
  refine r_iconst (pc := 2) hX 2 rfl ?_
  refine r_istore_n (ls' := [(2, t), (0, c), (0, 0), (0, 0)]) (pc := 3) hX 3 rfl (by decide) rfl ?_
  have L4 : ∀ (n4 : Nat) (n i : Int) , (0 ≤ i ∧ i ≤ 12 ∧ 0 ≤ n ∧ n ≤ i) → (12 - i).toNat < n4 → wp g X F_X9_timesCame 0 0 4 [(2, t), (0, c), (0, n), (0, i)] [] v ρ Z := by
    intro n4
    induction n4 with
    | zero => intro n i ii hme4; exact absurd hme4 (Nat.not_lt_zero _)
    | succ n4 ih4 =>
      intro n i ii hme4
      refine r_iload_n (pc := 4) hX 4 rfl rfl ?_
      refine t_getI (y := (v t 2)) (pc := 5) hX 5 rfl rfl rfl fl_X9_33 rfl (hH.kd ht (by decide)) (rfl) ?_
      have hb5 : 0 ≤ (v t 2) ∧ (v t 2) ≤ 12 := hH.rg ht (by decide) rfl
      first | refine r_icmp_ge (pc := 9) hX 7 (tgt := 37) rfl (by decide) (⟨by omega, by omega⟩) (⟨by omega, by omega⟩) (fun h9 => ?_) (fun h9 => ?_) | refine r_icmp_ge_any (pc := 9) hX 7 (tgt := 37) rfl (by decide) ?_ ?_
      · refine r_iload_n (pc := 37) hX 20 rfl rfl ?_
        exact r_iret (pc := 38) hX 21 hQ rfl rfl (Nat.le_refl 0) (Nat.le_refl 0) ⟨rfl, rfl, rfl, n, rfl, (by omega)⟩
      · refine r_iload_n (pc := 12) hX 8 rfl rfl ?_
        refine r_bipush (pc := 13) hX 9 rfl (by decide) ?_
        first | refine r_icmp_ge (pc := 15) hX 10 (tgt := 37) rfl (by decide) (⟨by omega, by omega⟩) (⟨by omega, by omega⟩) (fun h15 => ?_) (fun h15 => ?_) | refine r_icmp_ge_any (pc := 15) hX 10 (tgt := 37) rfl (by decide) ?_ ?_
        · refine r_iload_n (pc := 37) hX 20 rfl rfl ?_
          exact r_iret (pc := 38) hX 21 hQ rfl rfl (Nat.le_refl 0) (Nat.le_refl 0) ⟨rfl, rfl, rfl, n, rfl, (by omega)⟩
        · refine t_getR (q := (ρ t 3)) (pc := 18) hX 11 rfl rfl rfl fl_X9_9 rfl (hH.kd ht (by decide)) (rfl) ?_
          have hw18_ : ω (ρ t 3) = 23 := hH.rf ht (by decide) rfl
          refine r_iload_n (pc := 22) hX 13 rfl rfl ?_
          refine e_iald (y := (v (ρ t 3) i)) (n := 12) (pc := 23) hX 14 rfl (hH.kd hw18_ (by decide)) (hH.ln hw18_ (by decide)) (by omega) (by omega) (rfl) ?_
          have hb23 : (-1) ≤ (v (ρ t 3) i) ∧ (v (ρ t 3) i) ≤ 3 := hH.rg hw18_ (by decide) rfl
          refine r_iload_n (pc := 24) hX 15 rfl rfl ?_
          have L31 : ∀ (n2 : Int) , (0 ≤ n2 ∧ n2 ≤ i + 1) → wp g X F_X9_timesCame 0 0 31 [(2, t), (0, c), (0, n2), (0, i)] [] v ρ Z := by
            intro n2 i2
            refine r_iinc (ls' := [(2, t), (0, c), (0, n2), (0, (i + 1))]) (pc := 31) hX 18 rfl rfl (by decide) rfl ?_
            refine r_goto (pc := 34) hX 19 (tgt := 4) rfl (by decide) ?_
            exact (ih4 n2 (i + 1) (by omega) (by omega))
          first | refine r_icmp_ne (pc := 25) hX 16 (tgt := 31) rfl (by decide) (⟨by omega, by omega⟩) (⟨by omega, by omega⟩) (fun h25 => ?_) (fun h25 => ?_) | refine r_icmp_ne_any (pc := 25) hX 16 (tgt := 31) rfl (by decide) ?_ ?_
          · exact (L31 n (by omega) )
          · refine r_iinc (ls' := [(2, t), (0, c), (0, (n + 1)), (0, i)]) (pc := 28) hX 17 rfl rfl (by decide) rfl ?_
            exact (L31 (n + 1) (by omega) )
  exact (L4 _ 0 0 (by omega) (Nat.lt_succ_self _))
set_option maxHeartbeats 4000000 in
set_option maxRecDepth 100000 in
theorem c_X9_longestRow (g : Gp) (ω : Rw) (v ρ : Mv) (Z : Mz) (hH : HT ω v ρ Z) (t : Int) (ht : ω t = 22)  : Ok g 1 0 0 F_X9_longestRow [(2, t)] v ρ Z (fun o9 v' ρ' Z' => ρ = ρ' ∧ Z = Z' ∧ v = v' ∧ ∃ r : Int, o9 = some (0, r) ∧ (0 ≤ r ∧ r ≤ 12)) := by
  refine Ok.of mo_X9_longestRow (Nat.le_of_ble_eq_true rfl) ?_
  intro X hX hRm hxn hQ
  show wp g X F_X9_longestRow 0 0 0 [(2, t), (3, 0), (3, 0), (3, 0), (3, 0)] [] v ρ Z
  refine r_iconst (pc := 0) hX 0 rfl ?_
  refine r_istore_n (ls' := [(2, t), (0, 0), (3, 0), (3, 0), (3, 0)]) (pc := 1) hX 1 rfl (by decide) rfl ?_
  refine r_iconst (pc := 2) hX 2 rfl ?_
  refine r_istore_n (ls' := [(2, t), (0, 0), (0, 0), (3, 0), (3, 0)]) (pc := 3) hX 3 rfl (by decide) rfl ?_
  refine r_iconst (pc := 4) hX 4 rfl ?_
  refine r_istore_n (ls' := [(2, t), (0, 0), (0, 0), (0, 0), (3, 0)]) (pc := 5) hX 5 rfl (by decide) rfl ?_
  have L6 : ∀ (n6 : Nat) (a b i : Int) , (0 ≤ i ∧ i ≤ 12 ∧ 0 ≤ a ∧ a ≤ 12 ∧ 0 ≤ b ∧ b ≤ i) → (12 - i).toNat < n6 → wp g X F_X9_longestRow 0 0 6 [(2, t), (0, a), (0, b), (0, i), (3, 0)] [] v ρ Z := by
    intro n6
    induction n6 with
    | zero => intro a b i ii hme6; exact absurd hme6 (Nat.not_lt_zero _)
    | succ n6 ih6 =>
      intro a b i ii hme6
      refine r_iload_n (pc := 6) hX 6 rfl rfl ?_
      refine t_getI (y := (v t 2)) (pc := 7) hX 7 rfl rfl rfl fl_X9_33 rfl (hH.kd ht (by decide)) (rfl) ?_
      have hb7 : 0 ≤ (v t 2) ∧ (v t 2) ≤ 12 := hH.rg ht (by decide) rfl
      first | refine r_icmp_ge (pc := 11) hX 9 (tgt := 87) rfl (by decide) (⟨by omega, by omega⟩) (⟨by omega, by omega⟩) (fun h11 => ?_) (fun h11 => ?_) | refine r_icmp_ge_any (pc := 11) hX 9 (tgt := 87) rfl (by decide) ?_ ?_
      · refine r_iload_n (pc := 87) hX 52 rfl rfl ?_
        exact r_iret (pc := 88) hX 53 hQ rfl rfl (Nat.le_refl 0) (Nat.le_refl 0) ⟨rfl, rfl, rfl, a, rfl, (by omega)⟩
      · refine r_iload_n (pc := 14) hX 10 rfl rfl ?_
        refine r_bipush (pc := 15) hX 11 rfl (by decide) ?_
        first | refine r_icmp_ge (pc := 17) hX 12 (tgt := 87) rfl (by decide) (⟨by omega, by omega⟩) (⟨by omega, by omega⟩) (fun h17 => ?_) (fun h17 => ?_) | refine r_icmp_ge_any (pc := 17) hX 12 (tgt := 87) rfl (by decide) ?_ ?_
        · refine r_iload_n (pc := 87) hX 52 rfl rfl ?_
          exact r_iret (pc := 88) hX 53 hQ rfl rfl (Nat.le_refl 0) (Nat.le_refl 0) ⟨rfl, rfl, rfl, a, rfl, (by omega)⟩
        · refine r_iload_n (pc := 20) hX 13 rfl rfl ?_
          have L46 : ∀ (gz : Int) , (0 ≤ gz ∧ gz ≤ 1) → wp g X F_X9_longestRow 0 0 46 [(2, t), (0, a), (0, b), (0, i), (3, 0)] [(0, gz)] v ρ Z := by
            intro gz ig
            refine r_istore (ls' := [(2, t), (0, a), (0, b), (0, i), (0, gz)]) (pc := 46) hX 29 rfl (by decide) rfl ?_
            refine t_getR (q := (ρ t 3)) (pc := 48) hX 30 rfl rfl rfl fl_X9_9 rfl (hH.kd ht (by decide)) (rfl) ?_
            have hw48_ : ω (ρ t 3) = 23 := hH.rf ht (by decide) rfl
            refine r_iload_n (pc := 52) hX 32 rfl rfl ?_
            refine e_iald (y := (v (ρ t 3) i)) (n := 12) (pc := 53) hX 33 rfl (hH.kd hw48_ (by decide)) (hH.ln hw48_ (by decide)) (by omega) (by omega) (rfl) ?_
            have hb53 : (-1) ≤ (v (ρ t 3) i) ∧ (v (ρ t 3) i) ≤ 3 := hH.rg hw48_ (by decide) rfl
            refine r_iconst (pc := 54) hX 34 rfl ?_
            have L74 : ∀ (bz : Int) , (0 ≤ bz ∧ bz ≤ i + 1) → wp g X F_X9_longestRow 0 0 74 [(2, t), (0, a), (0, b), (0, i), (0, gz)] [(0, bz)] v ρ Z := by
              intro bz ib
              refine r_istore_n (ls' := [(2, t), (0, a), (0, bz), (0, i), (0, gz)]) (pc := 74) hX 45 rfl (by decide) rfl ?_
              refine r_iload_n (pc := 75) hX 46 rfl rfl ?_
              refine r_iload_n (pc := 76) hX 47 rfl rfl ?_
              refine r_mmax (pc := 77) hX 48 rfl ml_X9_50 ⟨by omega, by omega⟩ ⟨by omega, by omega⟩ (by rw [hRm]; exact ⟨by decide, by decide, by decide, by decide⟩) (Nat.le_of_ble_eq_true rfl) (fun z77 hz77 => ?_)
              refine r_istore_n (ls' := [(2, t), (0, z77), (0, bz), (0, i), (0, gz)]) (pc := 80) hX 49 rfl (by decide) rfl ?_
              refine r_iinc (ls' := [(2, t), (0, z77), (0, bz), (0, (i + 1)), (0, gz)]) (pc := 81) hX 50 rfl rfl (by decide) rfl ?_
              refine r_goto (pc := 84) hX 51 (tgt := 6) rfl (by decide) ?_
              refine r_wk (ls' := [(2, t), (0, z77), (0, bz), (0, (i + 1)), (3, 0)]) ⟨Or.inr rfl, Or.inr rfl, Or.inr rfl, Or.inr rfl, Or.inl rfl, trivial⟩ ?_
              exact (ih6 z77 bz (i + 1) (by omega) (by omega))
            first | refine r_icmp_ne (pc := 55) hX 35 (tgt := 62) rfl (by decide) (⟨by omega, by omega⟩) (⟨by omega, by omega⟩) (fun h55 => ?_) (fun h55 => ?_) | refine r_icmp_ne_any (pc := 55) hX 35 (tgt := 62) rfl (by decide) ?_ ?_
            · refine r_iload (pc := 62) hX 38 rfl rfl ?_
              first | refine r_if_eq (pc := 64) hX 39 (tgt := 73) rfl (by decide) (⟨by omega, by omega⟩) (fun h64 => ?_) (fun h64 => ?_) | refine r_if_eq_any (pc := 64) hX 39 (tgt := 73) rfl (by decide) ?_ ?_
              · refine r_iconst (pc := 73) hX 44 rfl ?_
                exact (L74 1 (by omega) )
              · refine r_iload_n (pc := 67) hX 40 rfl rfl ?_
                refine r_iconst (pc := 68) hX 41 rfl ?_
                refine r_iadd (pc := 69) hX 42 rfl ?_
                refine r_goto (pc := 70) hX 43 (tgt := 74) rfl (by decide) ?_
                exact (L74 (b + 1) (by omega) )
            · refine r_iconst (pc := 58) hX 36 rfl ?_
              refine r_goto (pc := 59) hX 37 (tgt := 74) rfl (by decide) ?_
              exact (L74 0 (by omega) )
          first | refine r_if_le (pc := 21) hX 14 (tgt := 45) rfl (by decide) (⟨by omega, by omega⟩) (fun h21 => ?_) (fun h21 => ?_) | refine r_if_le_any (pc := 21) hX 14 (tgt := 45) rfl (by decide) ?_ ?_
          · refine r_iconst (pc := 45) hX 28 rfl ?_
            exact (L46 0 (by omega) )
          · refine t_getR (q := (ρ t 3)) (pc := 24) hX 15 rfl rfl rfl fl_X9_9 rfl (hH.kd ht (by decide)) (rfl) ?_
            have hw24_ : ω (ρ t 3) = 23 := hH.rf ht (by decide) rfl
            refine r_iload_n (pc := 28) hX 17 rfl rfl ?_
            refine e_iald (y := (v (ρ t 3) i)) (n := 12) (pc := 29) hX 18 rfl (hH.kd hw24_ (by decide)) (hH.ln hw24_ (by decide)) (by omega) (by omega) (rfl) ?_
            have hb29 : (-1) ≤ (v (ρ t 3) i) ∧ (v (ρ t 3) i) ≤ 3 := hH.rg hw24_ (by decide) rfl
            refine t_getR (q := (ρ t 3)) (pc := 30) hX 19 rfl rfl rfl fl_X9_9 rfl (hH.kd ht (by decide)) (rfl) ?_
            refine r_iload_n (pc := 34) hX 21 rfl rfl ?_
            refine r_iconst (pc := 35) hX 22 rfl ?_
            refine r_isub (pc := 36) hX 23 rfl ?_
            refine e_iald (y := (v (ρ t 3) (i - 1))) (n := 12) (pc := 37) hX 24 rfl (hH.kd hw24_ (by decide)) (hH.ln hw24_ (by decide)) (by omega) (by omega) (rfl) ?_
            have hb37 : (-1) ≤ (v (ρ t 3) (i - 1)) ∧ (v (ρ t 3) (i - 1)) ≤ 3 := hH.rg hw24_ (by decide) rfl
            first | refine r_icmp_ne (pc := 38) hX 25 (tgt := 45) rfl (by decide) (⟨by omega, by omega⟩) (⟨by omega, by omega⟩) (fun h38 => ?_) (fun h38 => ?_) | refine r_icmp_ne_any (pc := 38) hX 25 (tgt := 45) rfl (by decide) ?_ ?_
            · refine r_iconst (pc := 45) hX 28 rfl ?_
              exact (L46 0 (by omega) )
            · refine r_iconst (pc := 41) hX 26 rfl ?_
              refine r_goto (pc := 42) hX 27 (tgt := 46) rfl (by decide) ?_
              exact (L46 1 (by omega) )
  exact (L6 _ 0 0 0 (by omega) (Nat.lt_succ_self _))
set_option maxHeartbeats 4000000 in
set_option maxRecDepth 100000 in
theorem c_X9_weightOf (g : Gp) (ω : Rw) (v ρ : Mv) (Z : Mz) (hH : HT ω v ρ Z) (t : Int) (ht : ω t = 22) (l : Int) (hl : 0 ≤ l ∧ l ≤ 2) : Ok g 2 0 0 F_X9_weightOf [(2, t), (0, l)] v ρ Z (fun o9 v' ρ' Z' => ρ = ρ' ∧ Z = Z' ∧ v = v' ∧ ∃ r : Int, o9 = some (1, r) ∧ True) := by
  refine Ok.of mo_X9_weightOf (Nat.le_of_ble_eq_true rfl) ?_
  intro X hX hRm hxn hQ
  show wp g X F_X9_weightOf 0 0 0 [(2, t), (0, l), (3, 0), (3, 0), (3, 0)] [] v ρ Z
  refine t_getR (q := (ρ t 0)) (pc := 0) hX 0 rfl rfl rfl fl_X9_25 rfl (hH.kd ht (by decide)) (rfl) ?_
  have hw0_ : ω (ρ t 0) = 5 := hH.rf ht (by decide) rfl
  refine r_getR (q := (ρ (ρ t 0) 4)) (pc := 4) hX 2 rfl fl_X9_56 rfl (hH.kd hw0_ (by decide)) (rfl) ?_
  have hw4_ : ω (ρ (ρ t 0) 4) = 11 := hH.rf hw0_ (by decide) rfl
  refine r_iload_n (pc := 7) hX 3 rfl rfl ?_
  refine e_iald (y := (v (ρ (ρ t 0) 4) l)) (n := 3) (pc := 8) hX 4 rfl (hH.kd hw4_ (by decide)) (hH.ln hw4_ (by decide)) (by omega) (by omega) (rfl) ?_
  have hb8 : 0 ≤ (v (ρ (ρ t 0) 4) l) ∧ (v (ρ (ρ t 0) 4) l) ≤ 9 := hH.rg hw4_ (by decide) rfl
  refine r_i2l (pc := 9) hX 5 rfl ⟨by omega, by omega⟩ ?_
  refine r_lstore_n (ls' := [(2, t), (0, l), (1, (v (ρ (ρ t 0) 4) l)), (3, 0), (3, 0)]) (pc := 10) hX 6 rfl (by decide) rfl ?_
  refine r_iconst (pc := 11) hX 7 rfl ?_
  refine r_istore (ls' := [(2, t), (0, l), (1, (v (ρ (ρ t 0) 4) l)), (3, 0), (0, 0)]) (pc := 12) hX 8 rfl (by decide) rfl ?_
  have L14 : ∀ (n14 : Nat) (w i : Int) , (0 ≤ i ∧ i ≤ 12) → (12 - i).toNat < n14 → wp g X F_X9_weightOf 0 0 14 [(2, t), (0, l), (1, w), (3, 0), (0, i)] [] v ρ Z := by
    intro n14
    induction n14 with
    | zero => intro w i ii hme14; exact absurd hme14 (Nat.not_lt_zero _)
    | succ n14 ih14 =>
      intro w i ii hme14
      refine r_iload (pc := 14) hX 9 rfl rfl ?_
      refine t_getI (y := (v t 2)) (pc := 16) hX 10 rfl rfl rfl fl_X9_33 rfl (hH.kd ht (by decide)) (rfl) ?_
      have hb16 : 0 ≤ (v t 2) ∧ (v t 2) ≤ 12 := hH.rg ht (by decide) rfl
      first | refine r_icmp_ge (pc := 20) hX 12 (tgt := 60) rfl (by decide) (⟨by omega, by omega⟩) (⟨by omega, by omega⟩) (fun h20 => ?_) (fun h20 => ?_) | refine r_icmp_ge_any (pc := 20) hX 12 (tgt := 60) rfl (by decide) ?_ ?_
      · refine r_lload_n (pc := 60) hX 33 rfl rfl ?_
        exact r_lret (pc := 61) hX 34 hQ rfl rfl (Nat.le_refl 0) (Nat.le_refl 0) ⟨rfl, rfl, rfl, w, rfl, trivial⟩
      · refine r_iload (pc := 23) hX 13 rfl rfl ?_
        refine r_bipush (pc := 25) hX 14 rfl (by decide) ?_
        first | refine r_icmp_ge (pc := 27) hX 15 (tgt := 60) rfl (by decide) (⟨by omega, by omega⟩) (⟨by omega, by omega⟩) (fun h27 => ?_) (fun h27 => ?_) | refine r_icmp_ge_any (pc := 27) hX 15 (tgt := 60) rfl (by decide) ?_ ?_
        · refine r_lload_n (pc := 60) hX 33 rfl rfl ?_
          exact r_lret (pc := 61) hX 34 hQ rfl rfl (Nat.le_refl 0) (Nat.le_refl 0) ⟨rfl, rfl, rfl, w, rfl, trivial⟩
        · refine r_lload_n (pc := 30) hX 16 rfl rfl ?_
          refine t_getR (q := (ρ t 0)) (pc := 31) hX 17 rfl rfl rfl fl_X9_25 rfl (hH.kd ht (by decide)) (rfl) ?_
          refine r_getR (q := (ρ (ρ t 0) 5)) (pc := 35) hX 19 rfl fl_X9_59 rfl (hH.kd hw0_ (by decide)) (rfl) ?_
          have hw35_ : ω (ρ (ρ t 0) 5) = 12 := hH.rf hw0_ (by decide) rfl
          refine r_iload_n (pc := 38) hX 20 rfl rfl ?_
          refine r_aald (q := (ρ (ρ (ρ t 0) 5) l)) (pc := 39) hX 21 19 rfl (hH.kd hw35_ (by decide)) (by decide) (by decide) rfl rfl (by omega) (by rw [show Z.2.1 (ρ (ρ t 0) 5) = 3 from (hH.ln hw35_ (by decide))]; omega) (rfl) ?_
          have hw39_ : ω (ρ (ρ (ρ t 0) 5) l) = 13 := hH.rf hw35_ (by decide) (rf12 ⟨by omega, by omega⟩)
          refine t_getR (q := (ρ t 3)) (pc := 40) hX 22 rfl rfl rfl fl_X9_9 rfl (hH.kd ht (by decide)) (rfl) ?_
          have hw40_ : ω (ρ t 3) = 23 := hH.rf ht (by decide) rfl
          refine r_iload (pc := 44) hX 24 rfl rfl ?_
          refine e_iald (y := (v (ρ t 3) i)) (n := 12) (pc := 46) hX 25 rfl (hH.kd hw40_ (by decide)) (hH.ln hw40_ (by decide)) (by omega) (by omega) (rfl) ?_
          have hb46 : (-1) ≤ (v (ρ t 3) i) ∧ (v (ρ t 3) i) ≤ 3 := hH.rg hw40_ (by decide) rfl
          refine r_callSN (as := [(0, (v (ρ t 3) i))]) (st := [(2, (ρ (ρ (ρ t 0) 5) l)), (1, w)]) (pc := 47) hX 26 rfl mo_X11_kindOf mn_X9_62 pn_X11_kindOf stt_X11_kindOf (c_X11_kindOf g ω v ρ Z hH ((v (ρ t 3) i)) (by omega)) rfl (by rw [hRm]; exact ⟨by decide, by decide⟩) (by rw [hRm]; exact ⟨by decide, by decide⟩) (Nat.le_of_ble_eq_true rfl) (fun o47 v47 ρv47 Zv47 hq47 _ => ?_)
          obtain ⟨rfl, rfl, rfl, r47, rfl, hq47⟩ := hq47
          show wp g X F_X9_weightOf 0 0 50 [(2, t), (0, l), (1, w), (3, 0), (0, i)] [(0, r47), (2, (ρ (ρ (ρ t 0) 5) l)), (1, w)] v ρ Z
          refine e_iald (y := (v (ρ (ρ (ρ t 0) 5) l) r47)) (n := 5) (pc := 50) hX 27 rfl (hH.kd hw39_ (by decide)) (hH.ln hw39_ (by decide)) (by omega) (by omega) (rfl) ?_
          have hb50 : 0 ≤ (v (ρ (ρ (ρ t 0) 5) l) r47) ∧ (v (ρ (ρ (ρ t 0) 5) l) r47) ≤ 12 := hH.rg hw39_ (by decide) rfl
          refine r_i2l (pc := 51) hX 28 rfl ⟨by omega, by omega⟩ ?_
          refine r_lmul (pc := 52) hX 29 rfl ?_
          refine r_lstore_n (ls' := [(2, t), (0, l), (1, (w * (v (ρ (ρ (ρ t 0) 5) l) r47))), (3, 0), (0, i)]) (pc := 53) hX 30 rfl (by decide) rfl ?_
          refine r_iinc (ls' := [(2, t), (0, l), (1, (w * (v (ρ (ρ (ρ t 0) 5) l) r47))), (3, 0), (0, (i + 1))]) (pc := 54) hX 31 rfl rfl (by decide) rfl ?_
          refine r_goto (pc := 57) hX 32 (tgt := 14) rfl (by decide) ?_
          exact (ih14 (w * (v (ρ (ρ (ρ t 0) 5) l) r47)) (i + 1) (by omega) (by omega))
  exact (L14 _ (v (ρ (ρ t 0) 4) l) 0 (by omega) (Nat.lt_succ_self _))
set_option maxHeartbeats 4000000 in
set_option maxRecDepth 100000 in
theorem c_X9_allWeights (g : Gp) (ω : Rw) (v ρ : Mv) (Z : Mz) (hH : HT ω v ρ Z) (t : Int) (ht : ω t = 22)  : Ok g 3 0 0 F_X9_allWeights [(2, t)] v ρ Z (fun o9 v' ρ' Z' => ρ = ρ' ∧ Z = Z' ∧ v = v' ∧ ∃ r : Int, o9 = some (1, r) ∧ True) := by
  refine Ok.of mo_X9_allWeights (Nat.le_of_ble_eq_true rfl) ?_
  intro X hX hRm hxn hQ
  show wp g X F_X9_allWeights 0 0 0 [(2, t), (3, 0), (3, 0), (3, 0)] [] v ρ Z
  refine r_lconst (pc := 0) hX 0 rfl ?_
  show wp g X F_X9_allWeights 0 0 1 [(2, t), (3, 0), (3, 0), (3, 0)] [(1, 0)] v ρ Z
  refine r_lstore_n (ls' := [(2, t), (1, 0), (3, 0), (3, 0)]) (pc := 1) hX 1 rfl (by decide) rfl ?_
  refine r_iconst (pc := 2) hX 2 rfl ?_
  refine r_istore_n (ls' := [(2, t), (1, 0), (3, 0), (0, 0)]) (pc := 3) hX 3 rfl (by decide) rfl ?_
  have L4 : ∀ (n4 : Nat) (w l : Int) , (0 ≤ l ∧ l ≤ 3) → (3 - l).toNat < n4 → wp g X F_X9_allWeights 0 0 4 [(2, t), (1, w), (3, 0), (0, l)] [] v ρ Z := by
    intro n4
    induction n4 with
    | zero => intro w l il hme4; exact absurd hme4 (Nat.not_lt_zero _)
    | succ n4 ih4 =>
      intro w l il hme4
      refine r_iload_n (pc := 4) hX 4 rfl rfl ?_
      refine t_getR (q := (ρ t 0)) (pc := 5) hX 5 rfl rfl rfl fl_X9_25 rfl (hH.kd ht (by decide)) (rfl) ?_
      have hw5_ : ω (ρ t 0) = 5 := hH.rf ht (by decide) rfl
      refine r_callV (as := []) (st := [(0, l)]) (K := 4) (pc := 9) hX 7 rfl mo_X4_rows ml_X9_66 im_X4_rows se_X4_rows (c_X4_rows g ω v ρ Z hH (ρ t 0) hw5_ ) rfl rfl rfl (hH.kd hw5_ (by decide)) (by rw [hRm]; exact ⟨by decide, by decide⟩) (by rw [hRm]; exact ⟨by decide, by decide⟩) (Nat.le_of_ble_eq_true rfl) (fun o9 v9 ρv9 Zv9 hq9 _ => ?_)
      obtain ⟨rfl, rfl, rfl, r9, rfl, hq9⟩ := hq9
      show wp g X F_X9_allWeights 0 0 12 [(2, t), (1, w), (3, 0), (0, l)] [(0, r9), (0, l)] v ρ Z
      first | refine r_icmp_ge (pc := 12) hX 8 (tgt := 29) rfl (by decide) (⟨by omega, by omega⟩) (⟨by omega, by omega⟩) (fun h12 => ?_) (fun h12 => ?_) | refine r_icmp_ge_any (pc := 12) hX 8 (tgt := 29) rfl (by decide) ?_ ?_
      · refine r_lload_n (pc := 29) hX 17 rfl rfl ?_
        exact r_lret (pc := 30) hX 18 hQ rfl rfl (Nat.le_refl 0) (Nat.le_refl 0) ⟨rfl, rfl, rfl, w, rfl, trivial⟩
      · refine r_lload_n (pc := 15) hX 9 rfl rfl ?_
        refine r_aload_n (pc := 16) hX 10 rfl rfl ?_
        refine r_iload_n (pc := 17) hX 11 rfl rfl ?_
        refine r_callV (as := [(0, l)]) (st := [(1, w)]) (K := 9) (pc := 18) hX 12 rfl mo_X9_weightOf ml_X9_70 im_X9_weightOf se_X9_weightOf (c_X9_weightOf g ω v ρ Z hH t ht (l) (by omega)) rfl rfl rfl (hH.kd ht (by decide)) (by rw [hRm]; exact ⟨by decide, by decide⟩) (by rw [hRm]; exact ⟨by decide, by decide⟩) (Nat.le_of_ble_eq_true rfl) (fun o18 v18 ρv18 Zv18 hq18 _ => ?_)
        obtain ⟨rfl, rfl, rfl, r18, rfl, hq18⟩ := hq18
        show wp g X F_X9_allWeights 0 0 21 [(2, t), (1, w), (3, 0), (0, l)] [(1, r18), (1, w)] v ρ Z
        refine r_ladd (pc := 21) hX 13 rfl ?_
        refine r_lstore_n (ls' := [(2, t), (1, (w + r18)), (3, 0), (0, l)]) (pc := 22) hX 14 rfl (by decide) rfl ?_
        refine r_iinc (ls' := [(2, t), (1, (w + r18)), (3, 0), (0, (l + 1))]) (pc := 23) hX 15 rfl rfl (by decide) rfl ?_
        refine r_goto (pc := 26) hX 16 (tgt := 4) rfl (by decide) ?_
        exact (ih4 (w + r18) (l + 1) (by omega) (by omega))
  exact (L4 _ 0 0 (by omega) (Nat.lt_succ_self _))
set_option maxHeartbeats 4000000 in
set_option maxRecDepth 100000 in
theorem c_X9_weightsWith (g : Gp) (ω : Rw) (v ρ : Mv) (Z : Mz) (hH : HT ω v ρ Z) (t : Int) (ht : ω t = 22) (c : Int) (hc : -1 ≤ c ∧ c ≤ 3) : Ok g 3 0 0 F_X9_weightsWith [(2, t), (0, c)] v ρ Z (fun o9 v' ρ' Z' => ρ = ρ' ∧ Z = Z' ∧ v = v' ∧ ∃ r : Int, o9 = some (1, r) ∧ True) := by
  refine Ok.of mo_X9_weightsWith (Nat.le_of_ble_eq_true rfl) ?_
  intro X hX hRm hxn hQ
  show wp g X F_X9_weightsWith 0 0 0 [(2, t), (0, c), (3, 0), (3, 0), (3, 0)] [] v ρ Z
  refine r_lconst (pc := 0) hX 0 rfl ?_
  show wp g X F_X9_weightsWith 0 0 1 [(2, t), (0, c), (3, 0), (3, 0), (3, 0)] [(1, 0)] v ρ Z
  refine r_lstore_n (ls' := [(2, t), (0, c), (1, 0), (3, 0), (3, 0)]) (pc := 1) hX 1 rfl (by decide) rfl ?_
  refine r_iconst (pc := 2) hX 2 rfl ?_
  refine r_istore (ls' := [(2, t), (0, c), (1, 0), (3, 0), (0, 0)]) (pc := 3) hX 3 rfl (by decide) rfl ?_
  have L5 : ∀ (n5 : Nat) (w l : Int) , (0 ≤ l ∧ l ≤ 3) → (3 - l).toNat < n5 → wp g X F_X9_weightsWith 0 0 5 [(2, t), (0, c), (1, w), (3, 0), (0, l)] [] v ρ Z := by
    intro n5
    induction n5 with
    | zero => intro w l il hme5; exact absurd hme5 (Nat.not_lt_zero _)
    | succ n5 ih5 =>
      intro w l il hme5
      refine r_iload (pc := 5) hX 4 rfl rfl ?_
      refine t_getR (q := (ρ t 0)) (pc := 7) hX 5 rfl rfl rfl fl_X9_25 rfl (hH.kd ht (by decide)) (rfl) ?_
      have hw7_ : ω (ρ t 0) = 5 := hH.rf ht (by decide) rfl
      refine r_callV (as := []) (st := [(0, l)]) (K := 4) (pc := 11) hX 7 rfl mo_X4_rows ml_X9_66 im_X4_rows se_X4_rows (c_X4_rows g ω v ρ Z hH (ρ t 0) hw7_ ) rfl rfl rfl (hH.kd hw7_ (by decide)) (by rw [hRm]; exact ⟨by decide, by decide⟩) (by rw [hRm]; exact ⟨by decide, by decide⟩) (Nat.le_of_ble_eq_true rfl) (fun o11 v11 ρv11 Zv11 hq11 _ => ?_)
      obtain ⟨rfl, rfl, rfl, r11, rfl, hq11⟩ := hq11
      show wp g X F_X9_weightsWith 0 0 14 [(2, t), (0, c), (1, w), (3, 0), (0, l)] [(0, r11), (0, l)] v ρ Z
      first | refine r_icmp_ge (pc := 14) hX 8 (tgt := 49) rfl (by decide) (⟨by omega, by omega⟩) (⟨by omega, by omega⟩) (fun h14 => ?_) (fun h14 => ?_) | refine r_icmp_ge_any (pc := 14) hX 8 (tgt := 49) rfl (by decide) ?_ ?_
      · refine r_lload_n (pc := 49) hX 27 rfl rfl ?_
        exact r_lret (pc := 50) hX 28 hQ rfl rfl (Nat.le_refl 0) (Nat.le_refl 0) ⟨rfl, rfl, rfl, w, rfl, trivial⟩
      · refine r_lload_n (pc := 17) hX 9 rfl rfl ?_
        refine r_aload_n (pc := 18) hX 10 rfl rfl ?_
        refine r_iload (pc := 19) hX 11 rfl rfl ?_
        refine r_callV (as := [(0, l)]) (st := [(1, w)]) (K := 9) (pc := 21) hX 12 rfl mo_X9_weightOf ml_X9_70 im_X9_weightOf se_X9_weightOf (c_X9_weightOf g ω v ρ Z hH t ht (l) (by omega)) rfl rfl rfl (hH.kd ht (by decide)) (by rw [hRm]; exact ⟨by decide, by decide⟩) (by rw [hRm]; exact ⟨by decide, by decide⟩) (Nat.le_of_ble_eq_true rfl) (fun o21 v21 ρv21 Zv21 hq21 _ => ?_)
        obtain ⟨rfl, rfl, rfl, r21, rfl, hq21⟩ := hq21
        show wp g X F_X9_weightsWith 0 0 24 [(2, t), (0, c), (1, w), (3, 0), (0, l)] [(1, r21), (1, w)] v ρ Z
        refine t_getR (q := (ρ t 0)) (pc := 24) hX 13 rfl rfl rfl fl_X9_25 rfl (hH.kd ht (by decide)) (rfl) ?_
        refine r_getR (q := (ρ (ρ t 0) 5)) (pc := 28) hX 15 rfl fl_X9_59 rfl (hH.kd hw7_ (by decide)) (rfl) ?_
        have hw28_ : ω (ρ (ρ t 0) 5) = 12 := hH.rf hw7_ (by decide) rfl
        refine r_iload (pc := 31) hX 16 rfl rfl ?_
        refine r_aald (q := (ρ (ρ (ρ t 0) 5) l)) (pc := 33) hX 17 19 rfl (hH.kd hw28_ (by decide)) (by decide) (by decide) rfl rfl (by omega) (by rw [show Z.2.1 (ρ (ρ t 0) 5) = 3 from (hH.ln hw28_ (by decide))]; omega) (rfl) ?_
        have hw33_ : ω (ρ (ρ (ρ t 0) 5) l) = 13 := hH.rf hw28_ (by decide) (rf12 ⟨by omega, by omega⟩)
        refine r_iload_n (pc := 34) hX 18 rfl rfl ?_
        refine r_callSN (as := [(0, c)]) (st := [(2, (ρ (ρ (ρ t 0) 5) l)), (1, r21), (1, w)]) (pc := 35) hX 19 rfl mo_X11_kindOf mn_X9_62 pn_X11_kindOf stt_X11_kindOf (c_X11_kindOf g ω v ρ Z hH (c) (by omega)) rfl (by rw [hRm]; exact ⟨by decide, by decide⟩) (by rw [hRm]; exact ⟨by decide, by decide⟩) (Nat.le_of_ble_eq_true rfl) (fun o35 v35 ρv35 Zv35 hq35 _ => ?_)
        obtain ⟨rfl, rfl, rfl, r35, rfl, hq35⟩ := hq35
        show wp g X F_X9_weightsWith 0 0 38 [(2, t), (0, c), (1, w), (3, 0), (0, l)] [(0, r35), (2, (ρ (ρ (ρ t 0) 5) l)), (1, r21), (1, w)] v ρ Z
        refine e_iald (y := (v (ρ (ρ (ρ t 0) 5) l) r35)) (n := 5) (pc := 38) hX 20 rfl (hH.kd hw33_ (by decide)) (hH.ln hw33_ (by decide)) (by omega) (by omega) (rfl) ?_
        have hb38 : 0 ≤ (v (ρ (ρ (ρ t 0) 5) l) r35) ∧ (v (ρ (ρ (ρ t 0) 5) l) r35) ≤ 12 := hH.rg hw33_ (by decide) rfl
        refine r_i2l (pc := 39) hX 21 rfl ⟨by omega, by omega⟩ ?_
        refine r_lmul (pc := 40) hX 22 rfl ?_
        refine r_ladd (pc := 41) hX 23 rfl ?_
        refine r_lstore_n (ls' := [(2, t), (0, c), (1, (w + (r21 * (v (ρ (ρ (ρ t 0) 5) l) r35)))), (3, 0), (0, l)]) (pc := 42) hX 24 rfl (by decide) rfl ?_
        refine r_iinc (ls' := [(2, t), (0, c), (1, (w + (r21 * (v (ρ (ρ (ρ t 0) 5) l) r35)))), (3, 0), (0, (l + 1))]) (pc := 43) hX 25 rfl rfl (by decide) rfl ?_
        refine r_goto (pc := 46) hX 26 (tgt := 5) rfl (by decide) ?_
        exact (ih5 (w + (r21 * (v (ρ (ρ (ρ t 0) 5) l) r35))) (l + 1) (by omega) (by omega))
  exact (L5 _ 0 0 (by omega) (Nat.lt_succ_self _))
set_option maxHeartbeats 4000000 in
set_option maxRecDepth 100000 in
theorem c_X9_atGoal (g : Gp) (ω : Rw) (v ρ : Mv) (Z : Mz) (hH : HT ω v ρ Z) (t : Int) (ht : ω t = 22)  : Ok g 1 0 0 F_X9_atGoal [(2, t)] v ρ Z (fun o9 v' ρ' Z' => ρ = ρ' ∧ Z = Z' ∧ v = v' ∧ ∃ r : Int, o9 = some (0, r) ∧ (-1 ≤ r ∧ r ≤ 2 ∧ (0 ≤ r → r < v (ρ t 0) 10)) ∧ ((r = -1 → ∀ j, 0 ≤ j → j < v (ρ t 0) 10 → v (ρ t 6) j < v (ρ t 0) 11))) := by
  refine Ok.of mo_X9_atGoal (Nat.le_of_ble_eq_true rfl) ?_
  intro X hX hRm hxn hQ
  show wp g X F_X9_atGoal 0 0 0 [(2, t), (3, 0)] [] v ρ Z
  have hwr : ω (ρ t 0) = 5 := hH.rf ht (by decide) rfl
  have hg10 : 0 ≤ v (ρ t 0) 10 ∧ v (ρ t 0) 10 ≤ 3 := hH.rg hwr (by decide) rfl
  refine r_iconst (pc := 0) hX 0 rfl ?_
  refine r_istore_n (ls' := [(2, t), (0, 0)]) (pc := 1) hX 1 rfl (by decide) rfl ?_
  have L2 : ∀ (n2 : Nat) (i : Int) , (0 ≤ i ∧ i ≤ 3) → (∀ j, 0 ≤ j → j < i → v (ρ t 6) j < v (ρ t 0) 11) → (3 - i).toNat < n2 → wp g X F_X9_atGoal 0 0 2 [(2, t), (0, i)] [] v ρ Z := by
    intro n2
    induction n2 with
    | zero => intro i ii ij hme2; exact absurd hme2 (Nat.not_lt_zero _)
    | succ n2 ih2 =>
      intro i ii ij hme2
      refine r_iload_n (pc := 2) hX 2 rfl rfl ?_
      refine t_getR (q := (ρ t 0)) (pc := 3) hX 3 rfl rfl rfl fl_X9_25 rfl (hH.kd ht (by decide)) (rfl) ?_
      have hw3_ : ω (ρ t 0) = 5 := hH.rf ht (by decide) rfl
      refine e_getI (y := (v (ρ t 0) 10)) (pc := 7) hX 5 rfl fl_X9_47 rfl (hH.kd hw3_ (by decide)) (rfl) ?_
      have hb7 : 0 ≤ (v (ρ t 0) 10) ∧ (v (ρ t 0) 10) ≤ 3 := hH.rg hw3_ (by decide) rfl
      first | refine r_icmp_ge (pc := 10) hX 6 (tgt := 37) rfl (by decide) (⟨by omega, by omega⟩) (⟨by omega, by omega⟩) (fun h10 => ?_) (fun h10 => ?_) | refine r_icmp_ge_any (pc := 10) hX 6 (tgt := 37) rfl (by decide) ?_ ?_
      · refine r_iconst (pc := 37) hX 19 rfl ?_
        exact r_iret (pc := 38) hX 20 hQ rfl rfl (Nat.le_refl 0) (Nat.le_refl 0) ⟨rfl, rfl, rfl, (-1), rfl, (by omega), (fun _ j a b => ij j a (by omega))⟩
      · refine t_getR (q := (ρ t 6)) (pc := 13) hX 7 rfl rfl rfl fl_X9_22 rfl (hH.kd ht (by decide)) (rfl) ?_
        have hw13_ : ω (ρ t 6) = 26 := hH.rf ht (by decide) rfl
        refine r_iload_n (pc := 17) hX 9 rfl rfl ?_
        refine e_iald (y := (v (ρ t 6) i)) (n := 3) (pc := 18) hX 10 rfl (hH.kd hw13_ (by decide)) (hH.ln hw13_ (by decide)) (by omega) (by omega) (rfl) ?_
        have hb18 : 0 ≤ (v (ρ t 6) i) ∧ (v (ρ t 6) i) ≤ 11 := hH.rg hw13_ (by decide) rfl
        refine t_getR (q := (ρ t 0)) (pc := 19) hX 11 rfl rfl rfl fl_X9_25 rfl (hH.kd ht (by decide)) (rfl) ?_
        refine e_getI (y := (v (ρ t 0) 11)) (pc := 23) hX 13 rfl fl_X9_74 rfl (hH.kd hw3_ (by decide)) (rfl) ?_
        have hb23 : 1 ≤ (v (ρ t 0) 11) ∧ (v (ρ t 0) 11) ≤ 9 := hH.rg hw3_ (by decide) rfl
        first | refine r_icmp_lt (pc := 26) hX 14 (tgt := 31) rfl (by decide) (⟨by omega, by omega⟩) (⟨by omega, by omega⟩) (fun h26 => ?_) (fun h26 => ?_) | refine r_icmp_lt_any (pc := 26) hX 14 (tgt := 31) rfl (by decide) ?_ ?_
        · refine r_iinc (ls' := [(2, t), (0, (i + 1))]) (pc := 31) hX 17 rfl rfl (by decide) rfl ?_
          refine r_goto (pc := 34) hX 18 (tgt := 2) rfl (by decide) ?_
          exact (ih2 (i + 1) (by omega) (fun j a b => by
          by_cases e : j = i
          · subst e; omega
          · exact ij j a (by omega)) (by omega))
        · refine r_iload_n (pc := 29) hX 15 rfl rfl ?_
          exact r_iret (pc := 30) hX 16 hQ rfl rfl (Nat.le_refl 0) (Nat.le_refl 0) ⟨rfl, rfl, rfl, i, rfl, (by omega), (fun e => by omega)⟩
  exact (L2 _ 0 (by omega) (fun j a b => by omega) (Nat.lt_succ_self _))
set_option maxHeartbeats 4000000 in
set_option maxRecDepth 100000 in
theorem c_X9_isOver (g : Gp) (ω : Rw) (v ρ : Mv) (Z : Mz) (hH : HT ω v ρ Z) (t : Int) (ht : ω t = 22)  : Ok g 2 0 0 F_X9_isOver [(2, t)] v ρ Z (fun o9 v' ρ' Z' => ρ = ρ' ∧ Z = Z' ∧ v = v' ∧ ∃ r : Int, o9 = some (0, r) ∧ (0 ≤ r ∧ r ≤ 1 ∧ (r = 0 → v t 2 < v (ρ t 0) 12)) ∧ ((r = 0 → ∀ j, 0 ≤ j → j < v (ρ t 0) 10 → v (ρ t 6) j < v (ρ t 0) 11))) := by
  refine Ok.of mo_X9_isOver (Nat.le_of_ble_eq_true rfl) ?_
  intro X hX hRm hxn hQ
  show wp g X F_X9_isOver 0 0 0 [(2, t)] [] v ρ Z
  refine t_getI (y := (v t 2)) (pc := 0) hX 0 rfl rfl rfl fl_X9_33 rfl (hH.kd ht (by decide)) (rfl) ?_
  have hb0 : 0 ≤ (v t 2) ∧ (v t 2) ≤ 12 := hH.rg ht (by decide) rfl
  refine t_getR (q := (ρ t 0)) (pc := 4) hX 2 rfl rfl rfl fl_X9_25 rfl (hH.kd ht (by decide)) (rfl) ?_
  have hw4_ : ω (ρ t 0) = 5 := hH.rf ht (by decide) rfl
  refine e_getI (y := (v (ρ t 0) 12)) (pc := 8) hX 4 rfl fl_X9_77 rfl (hH.kd hw4_ (by decide)) (rfl) ?_
  have hb8 : 1 ≤ (v (ρ t 0) 12) ∧ (v (ρ t 0) 12) ≤ 12 := hH.rg hw4_ (by decide) rfl
  first | refine r_icmp_ge (pc := 11) hX 5 (tgt := 22) rfl (by decide) (⟨by omega, by omega⟩) (⟨by omega, by omega⟩) (fun h11 => ?_) (fun h11 => ?_) | refine r_icmp_ge_any (pc := 11) hX 5 (tgt := 22) rfl (by decide) ?_ ?_
  · refine r_iconst (pc := 22) hX 10 rfl ?_
    exact r_zret (pc := 23) hX 11 hQ rfl rfl ⟨by omega, by omega⟩ (Nat.le_refl 0) (Nat.le_refl 0) ⟨rfl, rfl, rfl, 1, rfl, (by omega), (fun e => by omega)⟩
  · refine r_aload_n (pc := 14) hX 6 rfl rfl ?_
    refine r_callV (as := []) (st := []) (K := 9) (pc := 15) hX 7 rfl mo_X9_atGoal ml_X9_80 im_X9_atGoal se_X9_atGoal (c_X9_atGoal g ω v ρ Z hH t ht ) rfl rfl rfl (hH.kd ht (by decide)) (by rw [hRm]; exact ⟨by decide, by decide⟩) (by rw [hRm]; exact ⟨by decide, by decide⟩) (Nat.le_of_ble_eq_true rfl) (fun o15 v15 ρv15 Zv15 hq15 _ => ?_)
    obtain ⟨rfl, rfl, rfl, r15, rfl, hq15⟩ := hq15
    have hw15_ : ω (ρ t 6) = 26 := hH.rf ht (by decide) rfl
    show wp g X F_X9_isOver 0 0 18 [(2, t)] [(0, r15)] v ρ Z
    refine r_iconst (pc := 18) hX 8 rfl ?_
    first | refine r_icmp_eq (pc := 19) hX 9 (tgt := 24) rfl (by decide) (⟨by omega, by omega⟩) (⟨by omega, by omega⟩) (fun h19 => ?_) (fun h19 => ?_) | refine r_icmp_eq_any (pc := 19) hX 9 (tgt := 24) rfl (by decide) ?_ ?_
    · refine t_getI (y := (v t 2)) (pc := 24) hX 12 rfl rfl rfl fl_X9_33 rfl (hH.kd ht (by decide)) (rfl) ?_
      first | refine r_if_le (pc := 28) hX 14 (tgt := 69) rfl (by decide) (⟨by omega, by omega⟩) (fun h28 => ?_) (fun h28 => ?_) | refine r_if_le_any (pc := 28) hX 14 (tgt := 69) rfl (by decide) ?_ ?_
      · refine r_iconst (pc := 69) hX 34 rfl ?_
        exact r_zret (pc := 70) hX 35 hQ rfl rfl ⟨by omega, by omega⟩ (Nat.le_refl 0) (Nat.le_refl 0) ⟨rfl, rfl, rfl, 0, rfl, (by omega), (fun e => by first | exact hq15.2 (by omega) | (exfalso; omega))⟩
      · refine t_getI (y := (v t 2)) (pc := 31) hX 15 rfl rfl rfl fl_X9_33 rfl (hH.kd ht (by decide)) (rfl) ?_
        refine r_bipush (pc := 35) hX 17 rfl (by decide) ?_
        first | refine r_icmp_gt (pc := 37) hX 18 (tgt := 69) rfl (by decide) (⟨by omega, by omega⟩) (⟨by omega, by omega⟩) (fun h37 => ?_) (fun h37 => ?_) | refine r_icmp_gt_any (pc := 37) hX 18 (tgt := 69) rfl (by decide) ?_ ?_
        · refine r_iconst (pc := 69) hX 34 rfl ?_
          exact r_zret (pc := 70) hX 35 hQ rfl rfl ⟨by omega, by omega⟩ (Nat.le_refl 0) (Nat.le_refl 0) ⟨rfl, rfl, rfl, 0, rfl, (by omega), (fun e => by first | exact hq15.2 (by omega) | (exfalso; omega))⟩
        · refine t_getR (q := (ρ t 0)) (pc := 40) hX 19 rfl rfl rfl fl_X9_25 rfl (hH.kd ht (by decide)) (rfl) ?_
          refine r_getR (q := (ρ (ρ t 0) 2)) (pc := 44) hX 21 rfl fl_X9_83 rfl (hH.kd hw4_ (by decide)) (rfl) ?_
          have hw44_ : ω (ρ (ρ t 0) 2) = 10 := hH.rf hw4_ (by decide) rfl
          refine t_getR (q := (ρ t 3)) (pc := 47) hX 22 rfl rfl rfl fl_X9_9 rfl (hH.kd ht (by decide)) (rfl) ?_
          have hw47_ : ω (ρ t 3) = 23 := hH.rf ht (by decide) rfl
          refine t_getI (y := (v t 2)) (pc := 51) hX 24 rfl rfl rfl fl_X9_33 rfl (hH.kd ht (by decide)) (rfl) ?_
          refine r_iconst (pc := 55) hX 26 rfl ?_
          refine r_isub (pc := 56) hX 27 rfl ?_
          refine e_iald (y := (v (ρ t 3) ((v t 2) - 1))) (n := 12) (pc := 57) hX 28 rfl (hH.kd hw47_ (by decide)) (hH.ln hw47_ (by decide)) (by omega) (by omega) (rfl) ?_
          have hb57 : (-1) ≤ (v (ρ t 3) ((v t 2) - 1)) ∧ (v (ρ t 3) ((v t 2) - 1)) ≤ 3 := hH.rg hw47_ (by decide) rfl
          refine r_callSN (as := [(0, (v (ρ t 3) ((v t 2) - 1)))]) (st := [(2, (ρ (ρ t 0) 2))]) (pc := 58) hX 29 rfl mo_X11_kindOf mn_X9_62 pn_X11_kindOf stt_X11_kindOf (c_X11_kindOf g ω v ρ Z hH ((v (ρ t 3) ((v t 2) - 1))) (by omega)) rfl (by rw [hRm]; exact ⟨by decide, by decide⟩) (by rw [hRm]; exact ⟨by decide, by decide⟩) (Nat.le_of_ble_eq_true rfl) (fun o58 v58 ρv58 Zv58 hq58 _ => ?_)
          obtain ⟨rfl, rfl, rfl, r58, rfl, hq58⟩ := hq58
          show wp g X F_X9_isOver 0 0 61 [(2, t)] [(0, r58), (2, (ρ (ρ t 0) 2))] v ρ Z
          refine e_zald (y := (v (ρ (ρ t 0) 2) r58)) (n := 5) (pc := 61) hX 30 rfl (hH.kd hw44_ (by decide)) (hH.ln hw44_ (by decide)) (by omega) (by omega) (rfl) (fun hb61a hb61b => ?_)
          first | refine r_if_eq (pc := 62) hX 31 (tgt := 69) rfl (by decide) (⟨by omega, by omega⟩) (fun h62 => ?_) (fun h62 => ?_) | refine r_if_eq_any (pc := 62) hX 31 (tgt := 69) rfl (by decide) ?_ ?_
          · refine r_iconst (pc := 69) hX 34 rfl ?_
            exact r_zret (pc := 70) hX 35 hQ rfl rfl ⟨by omega, by omega⟩ (Nat.le_refl 0) (Nat.le_refl 0) ⟨rfl, rfl, rfl, 0, rfl, (by omega), (fun e => by first | exact hq15.2 (by omega) | (exfalso; omega))⟩
          · refine r_iconst (pc := 65) hX 32 rfl ?_
            refine r_goto (pc := 66) hX 33 (tgt := 70) rfl (by decide) ?_
            exact r_zret (pc := 70) hX 35 hQ rfl rfl ⟨by omega, by omega⟩ (Nat.le_refl 0) (Nat.le_refl 0) ⟨rfl, rfl, rfl, 1, rfl, (by omega), (fun e => by first | exact hq15.2 (by omega) | (exfalso; omega))⟩
    · refine r_iconst (pc := 22) hX 10 rfl ?_
      exact r_zret (pc := 23) hX 11 hQ rfl rfl ⟨by omega, by omega⟩ (Nat.le_refl 0) (Nat.le_refl 0) ⟨rfl, rfl, rfl, 1, rfl, (by omega), (fun e => by omega)⟩
set_option maxHeartbeats 4000000 in
set_option maxRecDepth 100000 in
theorem c_X9_winner (g : Gp) (ω : Rw) (v ρ : Mv) (Z : Mz) (hH : HT ω v ρ Z) (t : Int) (ht : ω t = 22)  : Ok g 3 0 0 F_X9_winner [(2, t)] v ρ Z (fun o9 v' ρ' Z' => ρ = ρ' ∧ Z = Z' ∧ v = v' ∧ ∃ r : Int, o9 = some (0, r) ∧ (-1 ≤ r ∧ r ≤ 2)) := by
  refine Ok.of mo_X9_winner (Nat.le_of_ble_eq_true rfl) ?_
  intro X hX hRm hxn hQ
  show wp g X F_X9_winner 0 0 0 [(2, t), (3, 0)] [] v ρ Z
  refine r_aload_n (pc := 0) hX 0 rfl rfl ?_
  refine r_callV (as := []) (st := []) (K := 9) (pc := 1) hX 1 rfl mo_X9_isOver ml_X9_86 im_X9_isOver se_X9_isOver (c_X9_isOver g ω v ρ Z hH t ht ) rfl rfl rfl (hH.kd ht (by decide)) (by rw [hRm]; exact ⟨by decide, by decide⟩) (by rw [hRm]; exact ⟨by decide, by decide⟩) (Nat.le_of_ble_eq_true rfl) (fun o1 v1 ρv1 Zv1 hq1 _ => ?_)
  obtain ⟨rfl, rfl, rfl, r1, rfl, hq1⟩ := hq1
  have hw1_ : ω (ρ t 0) = 5 := hH.rf ht (by decide) rfl
  have hwf1_ : ω (ρ t 6) = 26 := hH.rf ht (by decide) rfl
  show wp g X F_X9_winner 0 0 4 [(2, t), (3, 0)] [(0, r1)] v ρ Z
  first | refine r_if_ne (pc := 4) hX 2 (tgt := 9) rfl (by decide) (⟨by omega, by omega⟩) (fun h4 => ?_) (fun h4 => ?_) | refine r_if_ne_any (pc := 4) hX 2 (tgt := 9) rfl (by decide) ?_ ?_
  · refine r_aload_n (pc := 9) hX 5 rfl rfl ?_
    refine r_callV (as := []) (st := []) (K := 9) (pc := 10) hX 6 rfl mo_X9_atGoal ml_X9_80 im_X9_atGoal se_X9_atGoal (c_X9_atGoal g ω v ρ Z hH t ht ) rfl rfl rfl (hH.kd ht (by decide)) (by rw [hRm]; exact ⟨by decide, by decide⟩) (by rw [hRm]; exact ⟨by decide, by decide⟩) (Nat.le_of_ble_eq_true rfl) (fun o10 v10 ρv10 Zv10 hq10 _ => ?_)
    obtain ⟨rfl, rfl, rfl, r10, rfl, hq10⟩ := hq10
    show wp g X F_X9_winner 0 0 13 [(2, t), (3, 0)] [(0, r10)] v ρ Z
    refine r_istore_n (ls' := [(2, t), (0, r10)]) (pc := 13) hX 7 rfl (by decide) rfl ?_
    refine r_iload_n (pc := 14) hX 8 rfl rfl ?_
    refine r_iconst (pc := 15) hX 9 rfl ?_
    first | refine r_icmp_eq (pc := 16) hX 10 (tgt := 23) rfl (by decide) (⟨by omega, by omega⟩) (⟨by omega, by omega⟩) (fun h16 => ?_) (fun h16 => ?_) | refine r_icmp_eq_any (pc := 16) hX 10 (tgt := 23) rfl (by decide) ?_ ?_
    · refine t_getR (q := (ρ t 6)) (pc := 23) hX 13 rfl rfl rfl fl_X9_22 rfl (hH.kd ht (by decide)) (rfl) ?_
      refine t_getR (q := (ρ t 0)) (pc := 27) hX 15 rfl rfl rfl fl_X9_25 rfl (hH.kd ht (by decide)) (rfl) ?_
      refine e_getI (y := (v (ρ t 0) 10)) (pc := 31) hX 17 rfl fl_X9_47 rfl (hH.kd hw1_ (by decide)) (rfl) ?_
      have hb31 : 0 ≤ (v (ρ t 0) 10) ∧ (v (ρ t 0) 10) ≤ 3 := hH.rg hw1_ (by decide) rfl
      refine r_callSN (as := [(2, (ρ t 6)), (0, (v (ρ t 0) 10))]) (st := []) (pc := 34) hX 18 rfl mo_X11_soleLeader mn_X9_90 pn_X11_soleLeader stt_X11_soleLeader (c_X11_soleLeader g ω v ρ Z hH (ρ t 6) (hH.kd hwf1_ (by decide)) ((v (ρ t 0) 10)) (by omega)) rfl (by rw [hRm]; exact ⟨by decide, by decide⟩) (by rw [hRm]; exact ⟨by decide, by decide⟩) (Nat.le_of_ble_eq_true rfl) (fun o34 v34 ρv34 Zv34 hq34 _ => ?_)
      obtain ⟨rfl, rfl, rfl, r34, rfl, hq34⟩ := hq34
      show wp g X F_X9_winner 0 0 37 [(2, t), (0, r10)] [(0, r34)] v ρ Z
      exact r_iret (pc := 37) hX 19 hQ rfl rfl (Nat.le_refl 0) (Nat.le_refl 0) ⟨rfl, rfl, rfl, r34, rfl, (by omega)⟩
    · refine r_iload_n (pc := 19) hX 11 rfl rfl ?_
      refine r_goto (pc := 20) hX 12 (tgt := 37) rfl (by decide) ?_
      exact r_iret (pc := 37) hX 19 hQ rfl rfl (Nat.le_refl 0) (Nat.le_refl 0) ⟨rfl, rfl, rfl, r10, rfl, (by omega)⟩
  · refine r_iconst (pc := 7) hX 3 rfl ?_
    exact r_iret (pc := 8) hX 4 hQ rfl rfl (Nat.le_refl 0) (Nat.le_refl 0) ⟨rfl, rfl, rfl, (-1), rfl, (by omega)⟩
set_option maxHeartbeats 4000000 in
set_option maxRecDepth 100000 in
theorem c_X9_leader (g : Gp) (ω : Rw) (v ρ : Mv) (Z : Mz) (hH : HT ω v ρ Z) (t : Int) (ht : ω t = 22)  : Ok g 1 0 0 F_X9_leader [(2, t)] v ρ Z (fun o9 v' ρ' Z' => ρ = ρ' ∧ Z = Z' ∧ v = v' ∧ ∃ r : Int, o9 = some (0, r) ∧ (-1 ≤ r ∧ r ≤ 2)) := by
  refine Ok.of mo_X9_leader (Nat.le_of_ble_eq_true rfl) ?_
  intro X hX hRm hxn hQ
  show wp g X F_X9_leader 0 0 0 [(2, t), (3, 0), (3, 0)] [] v ρ Z
  refine r_iconst (pc := 0) hX 0 rfl ?_
  refine r_istore_n (ls' := [(2, t), (0, (-1)), (3, 0)]) (pc := 1) hX 1 rfl (by decide) rfl ?_
  refine r_iconst (pc := 2) hX 2 rfl ?_
  refine r_istore_n (ls' := [(2, t), (0, (-1)), (0, 0)]) (pc := 3) hX 3 rfl (by decide) rfl ?_
  have L4 : ∀ (n4 : Nat) (b i : Int) , (0 ≤ i ∧ i ≤ 3 ∧ -1 ≤ b ∧ b ≤ 2) → (3 - i).toNat < n4 → wp g X F_X9_leader 0 0 4 [(2, t), (0, b), (0, i)] [] v ρ Z := by
    intro n4
    induction n4 with
    | zero => intro b i ii hme4; exact absurd hme4 (Nat.not_lt_zero _)
    | succ n4 ih4 =>
      intro b i ii hme4
      refine r_iload_n (pc := 4) hX 4 rfl rfl ?_
      refine t_getR (q := (ρ t 0)) (pc := 5) hX 5 rfl rfl rfl fl_X9_25 rfl (hH.kd ht (by decide)) (rfl) ?_
      have hw5_ : ω (ρ t 0) = 5 := hH.rf ht (by decide) rfl
      refine e_getI (y := (v (ρ t 0) 10)) (pc := 9) hX 7 rfl fl_X9_47 rfl (hH.kd hw5_ (by decide)) (rfl) ?_
      have hb9 : 0 ≤ (v (ρ t 0) 10) ∧ (v (ρ t 0) 10) ≤ 3 := hH.rg hw5_ (by decide) rfl
      first | refine r_icmp_ge (pc := 12) hX 8 (tgt := 43) rfl (by decide) (⟨by omega, by omega⟩) (⟨by omega, by omega⟩) (fun h12 => ?_) (fun h12 => ?_) | refine r_icmp_ge_any (pc := 12) hX 8 (tgt := 43) rfl (by decide) ?_ ?_
      · refine r_iload_n (pc := 43) hX 25 rfl rfl ?_
        exact r_iret (pc := 44) hX 26 hQ rfl rfl (Nat.le_refl 0) (Nat.le_refl 0) ⟨rfl, rfl, rfl, b, rfl, (by omega)⟩
      · refine r_iload_n (pc := 15) hX 9 rfl rfl ?_
        refine r_iconst (pc := 16) hX 10 rfl ?_
        have L37 : ∀ (b2 : Int) , (-1 ≤ b2 ∧ b2 ≤ 2) → wp g X F_X9_leader 0 0 37 [(2, t), (0, b2), (0, i)] [] v ρ Z := by
          intro b2 i2
          refine r_iinc (ls' := [(2, t), (0, b2), (0, (i + 1))]) (pc := 37) hX 23 rfl rfl (by decide) rfl ?_
          refine r_goto (pc := 40) hX 24 (tgt := 4) rfl (by decide) ?_
          exact (ih4 b2 (i + 1) (by omega) (by omega))
        have L35 : wp g X F_X9_leader 0 0 35 [(2, t), (0, b), (0, i)] [] v ρ Z := by
          refine r_iload_n (pc := 35) hX 21 rfl rfl ?_
          refine r_istore_n (ls' := [(2, t), (0, i), (0, i)]) (pc := 36) hX 22 rfl (by decide) rfl ?_
          exact (L37 i (by omega) )
        first | refine r_icmp_eq (pc := 17) hX 11 (tgt := 35) rfl (by decide) (⟨by omega, by omega⟩) (⟨by omega, by omega⟩) (fun h17 => ?_) (fun h17 => ?_) | refine r_icmp_eq_any (pc := 17) hX 11 (tgt := 35) rfl (by decide) ?_ ?_
        · exact (L35   )
        · refine t_getR (q := (ρ t 6)) (pc := 20) hX 12 rfl rfl rfl fl_X9_22 rfl (hH.kd ht (by decide)) (rfl) ?_
          have hw20_ : ω (ρ t 6) = 26 := hH.rf ht (by decide) rfl
          refine r_iload_n (pc := 24) hX 14 rfl rfl ?_
          refine e_iald (y := (v (ρ t 6) i)) (n := 3) (pc := 25) hX 15 rfl (hH.kd hw20_ (by decide)) (hH.ln hw20_ (by decide)) (by omega) (by omega) (rfl) ?_
          have hb25 : 0 ≤ (v (ρ t 6) i) ∧ (v (ρ t 6) i) ≤ 11 := hH.rg hw20_ (by decide) rfl
          refine t_getR (q := (ρ t 6)) (pc := 26) hX 16 rfl rfl rfl fl_X9_22 rfl (hH.kd ht (by decide)) (rfl) ?_
          refine r_iload_n (pc := 30) hX 18 rfl rfl ?_
          refine e_iald (y := (v (ρ t 6) b)) (n := 3) (pc := 31) hX 19 rfl (hH.kd hw20_ (by decide)) (hH.ln hw20_ (by decide)) (by omega) (by omega) (rfl) ?_
          have hb31 : 0 ≤ (v (ρ t 6) b) ∧ (v (ρ t 6) b) ≤ 11 := hH.rg hw20_ (by decide) rfl
          first | refine r_icmp_le (pc := 32) hX 20 (tgt := 37) rfl (by decide) (⟨by omega, by omega⟩) (⟨by omega, by omega⟩) (fun h32 => ?_) (fun h32 => ?_) | refine r_icmp_le_any (pc := 32) hX 20 (tgt := 37) rfl (by decide) ?_ ?_
          · exact (L37 b (by omega) )
          · exact (L35   )
  exact (L4 _ (-1) 0 (by omega) (Nat.lt_succ_self _))
set_option maxHeartbeats 4000000 in
set_option maxRecDepth 100000 in
theorem c_X9_isAhead (g : Gp) (ω : Rw) (v ρ : Mv) (Z : Mz) (hH : HT ω v ρ Z) (t : Int) (ht : ω t = 22) (p : Int) (hp : 0 ≤ p ∧ p ≤ 2) : Ok g 1 0 0 F_X9_isAhead [(2, t), (0, p)] v ρ Z (fun o9 v' ρ' Z' => ρ = ρ' ∧ Z = Z' ∧ v = v' ∧ ∃ r : Int, o9 = some (0, r) ∧ (0 ≤ r ∧ r ≤ 1)) := by
  refine Ok.of mo_X9_isAhead (Nat.le_of_ble_eq_true rfl) ?_
  intro X hX hRm hxn hQ
  show wp g X F_X9_isAhead 0 0 0 [(2, t), (0, p), (3, 0)] [] v ρ Z
  refine r_iconst (pc := 0) hX 0 rfl ?_
  refine r_istore_n (ls' := [(2, t), (0, p), (0, 0)]) (pc := 1) hX 1 rfl (by decide) rfl ?_
  have L2 : ∀ (n2 : Nat) (i : Int) , (0 ≤ i ∧ i ≤ 3) → (3 - i).toNat < n2 → wp g X F_X9_isAhead 0 0 2 [(2, t), (0, p), (0, i)] [] v ρ Z := by
    intro n2
    induction n2 with
    | zero => intro i ii hme2; exact absurd hme2 (Nat.not_lt_zero _)
    | succ n2 ih2 =>
      intro i ii hme2
      refine r_iload_n (pc := 2) hX 2 rfl rfl ?_
      refine t_getR (q := (ρ t 0)) (pc := 3) hX 3 rfl rfl rfl fl_X9_25 rfl (hH.kd ht (by decide)) (rfl) ?_
      have hw3_ : ω (ρ t 0) = 5 := hH.rf ht (by decide) rfl
      refine e_getI (y := (v (ρ t 0) 10)) (pc := 7) hX 5 rfl fl_X9_47 rfl (hH.kd hw3_ (by decide)) (rfl) ?_
      have hb7 : 0 ≤ (v (ρ t 0) 10) ∧ (v (ρ t 0) 10) ≤ 3 := hH.rg hw3_ (by decide) rfl
      first | refine r_icmp_ge (pc := 10) hX 6 (tgt := 36) rfl (by decide) (⟨by omega, by omega⟩) (⟨by omega, by omega⟩) (fun h10 => ?_) (fun h10 => ?_) | refine r_icmp_ge_any (pc := 10) hX 6 (tgt := 36) rfl (by decide) ?_ ?_
      · refine r_iconst (pc := 36) hX 20 rfl ?_
        exact r_zret (pc := 37) hX 21 hQ rfl rfl ⟨by omega, by omega⟩ (Nat.le_refl 0) (Nat.le_refl 0) ⟨rfl, rfl, rfl, 1, rfl, (by omega)⟩
      · refine t_getR (q := (ρ t 6)) (pc := 13) hX 7 rfl rfl rfl fl_X9_22 rfl (hH.kd ht (by decide)) (rfl) ?_
        have hw13_ : ω (ρ t 6) = 26 := hH.rf ht (by decide) rfl
        refine r_iload_n (pc := 17) hX 9 rfl rfl ?_
        refine e_iald (y := (v (ρ t 6) i)) (n := 3) (pc := 18) hX 10 rfl (hH.kd hw13_ (by decide)) (hH.ln hw13_ (by decide)) (by omega) (by omega) (rfl) ?_
        have hb18 : 0 ≤ (v (ρ t 6) i) ∧ (v (ρ t 6) i) ≤ 11 := hH.rg hw13_ (by decide) rfl
        refine t_getR (q := (ρ t 6)) (pc := 19) hX 11 rfl rfl rfl fl_X9_22 rfl (hH.kd ht (by decide)) (rfl) ?_
        refine r_iload_n (pc := 23) hX 13 rfl rfl ?_
        refine e_iald (y := (v (ρ t 6) p)) (n := 3) (pc := 24) hX 14 rfl (hH.kd hw13_ (by decide)) (hH.ln hw13_ (by decide)) (by omega) (by omega) (rfl) ?_
        have hb24 : 0 ≤ (v (ρ t 6) p) ∧ (v (ρ t 6) p) ≤ 11 := hH.rg hw13_ (by decide) rfl
        first | refine r_icmp_le (pc := 25) hX 15 (tgt := 30) rfl (by decide) (⟨by omega, by omega⟩) (⟨by omega, by omega⟩) (fun h25 => ?_) (fun h25 => ?_) | refine r_icmp_le_any (pc := 25) hX 15 (tgt := 30) rfl (by decide) ?_ ?_
        · refine r_iinc (ls' := [(2, t), (0, p), (0, (i + 1))]) (pc := 30) hX 18 rfl rfl (by decide) rfl ?_
          refine r_goto (pc := 33) hX 19 (tgt := 2) rfl (by decide) ?_
          exact (ih2 (i + 1) (by omega) (by omega))
        · refine r_iconst (pc := 28) hX 16 rfl ?_
          exact r_zret (pc := 29) hX 17 hQ rfl rfl ⟨by omega, by omega⟩ (Nat.le_refl 0) (Nat.le_refl 0) ⟨rfl, rfl, rfl, 0, rfl, (by omega)⟩
  exact (L2 _ 0 (by omega) (Nat.lt_succ_self _))
set_option maxHeartbeats 4000000 in
set_option maxRecDepth 100000 in
theorem c_X9_whyNotTake (g : Gp) (ω : Rw) (v ρ : Mv) (Z : Mz) (hH : HT ω v ρ Z) (t : Int) (ht : ω t = 22) (p : Int) (c : Int) (hp : 0 ≤ p ∧ p ≤ 2) (hcr : inR c) : Ok g 3 0 0 F_X9_whyNotTake [(2, t), (0, p), (0, c)] v ρ Z (fun o9 v' ρ' Z' => ρ = ρ' ∧ Z = Z' ∧ v = v' ∧ ∃ r : Int, o9 = some (0, r) ∧ (0 ≤ r ∧ r ≤ 3)) := by
  refine Ok.of mo_X9_whyNotTake (Nat.le_of_ble_eq_true rfl) ?_
  intro X hX hRm hxn hQ
  show wp g X F_X9_whyNotTake 0 0 0 [(2, t), (0, p), (0, c)] [] v ρ Z
  refine r_aload_n (pc := 0) hX 0 rfl rfl ?_
  refine r_callV (as := []) (st := []) (K := 9) (pc := 1) hX 1 rfl mo_X9_isOver ml_X9_86 im_X9_isOver se_X9_isOver (c_X9_isOver g ω v ρ Z hH t ht ) rfl rfl rfl (hH.kd ht (by decide)) (by rw [hRm]; exact ⟨by decide, by decide⟩) (by rw [hRm]; exact ⟨by decide, by decide⟩) (Nat.le_of_ble_eq_true rfl) (fun o1 v1 ρv1 Zv1 hq1 _ => ?_)
  obtain ⟨rfl, rfl, rfl, r1, rfl, hq1⟩ := hq1
  have hw1_ : ω (ρ t 0) = 5 := hH.rf ht (by decide) rfl
  have hwf1_ : ω (ρ t 6) = 26 := hH.rf ht (by decide) rfl
  show wp g X F_X9_whyNotTake 0 0 4 [(2, t), (0, p), (0, c)] [(0, r1)] v ρ Z
  first | refine r_if_eq (pc := 4) hX 2 (tgt := 9) rfl (by decide) (⟨by omega, by omega⟩) (fun h4 => ?_) (fun h4 => ?_) | refine r_if_eq_any (pc := 4) hX 2 (tgt := 9) rfl (by decide) ?_ ?_
  · refine t_getR (q := (ρ t 4)) (pc := 9) hX 5 rfl rfl rfl fl_X9_15 rfl (hH.kd ht (by decide)) (rfl) ?_
    have hw9_ : ω (ρ t 4) = 24 := hH.rf ht (by decide) rfl
    refine r_iload_n (pc := 13) hX 7 rfl rfl ?_
    refine e_iald (y := (v (ρ t 4) p)) (n := 3) (pc := 14) hX 8 rfl (hH.kd hw9_ (by decide)) (hH.ln hw9_ (by decide)) (by omega) (by omega) (rfl) ?_
    have hb14 : (-1) ≤ (v (ρ t 4) p) ∧ (v (ρ t 4) p) ≤ 3 := hH.rg hw9_ (by decide) rfl
    refine r_iconst (pc := 15) hX 9 rfl ?_
    first | refine r_icmp_eq (pc := 16) hX 10 (tgt := 21) rfl (by decide) (⟨by omega, by omega⟩) (⟨by omega, by omega⟩) (fun h16 => ?_) (fun h16 => ?_) | refine r_icmp_eq_any (pc := 16) hX 10 (tgt := 21) rfl (by decide) ?_ ?_
    · refine r_aload_n (pc := 21) hX 13 rfl rfl ?_
      refine r_iload_n (pc := 22) hX 14 rfl rfl ?_
      refine r_callV (as := [(0, c)]) (st := []) (K := 9) (pc := 23) hX 15 rfl mo_X9_holderOf ml_X9_94 im_X9_holderOf se_X9_holderOf (c_X9_holderOf g ω v ρ Z hH t ht (c) (by omega)) rfl rfl rfl (hH.kd ht (by decide)) (by rw [hRm]; exact ⟨by decide, by decide⟩) (by rw [hRm]; exact ⟨by decide, by decide⟩) (Nat.le_of_ble_eq_true rfl) (fun o23 v23 ρv23 Zv23 hq23 _ => ?_)
      obtain ⟨rfl, rfl, rfl, r23, rfl, hq23⟩ := hq23
      show wp g X F_X9_whyNotTake 0 0 26 [(2, t), (0, p), (0, c)] [(0, r23)] v ρ Z
      refine r_iconst (pc := 26) hX 16 rfl ?_
      first | refine r_icmp_eq (pc := 27) hX 17 (tgt := 34) rfl (by decide) (⟨by omega, by omega⟩) (⟨by omega, by omega⟩) (fun h27 => ?_) (fun h27 => ?_) | refine r_icmp_eq_any (pc := 27) hX 17 (tgt := 34) rfl (by decide) ?_ ?_
      · refine r_iconst (pc := 34) hX 20 rfl ?_
        exact r_iret (pc := 35) hX 21 hQ rfl rfl (Nat.le_refl 0) (Nat.le_refl 0) ⟨rfl, rfl, rfl, 0, rfl, (by omega)⟩
      · refine r_iconst (pc := 30) hX 18 rfl ?_
        refine r_goto (pc := 31) hX 19 (tgt := 35) rfl (by decide) ?_
        exact r_iret (pc := 35) hX 21 hQ rfl rfl (Nat.le_refl 0) (Nat.le_refl 0) ⟨rfl, rfl, rfl, 3, rfl, (by omega)⟩
    · refine r_iconst (pc := 19) hX 11 rfl ?_
      exact r_iret (pc := 20) hX 12 hQ rfl rfl (Nat.le_refl 0) (Nat.le_refl 0) ⟨rfl, rfl, rfl, 2, rfl, (by omega)⟩
  · refine r_iconst (pc := 7) hX 3 rfl ?_
    exact r_iret (pc := 8) hX 4 hQ rfl rfl (Nat.le_refl 0) (Nat.le_refl 0) ⟨rfl, rfl, rfl, 1, rfl, (by omega)⟩
set_option maxHeartbeats 4000000 in
set_option maxRecDepth 100000 in
theorem c_X9_doTake (g : Gp) (ω : Rw) (v ρ : Mv) (Z : Mz) (hH : HT ω v ρ Z) (t : Int) (ht : ω t = 22) (p : Int) (c : Int) (hp : 0 ≤ p ∧ p ≤ 2) (hc : -1 ≤ c ∧ c ≤ 3) : Ok g 1 0 0 F_X9_doTake [(2, t), (0, p), (0, c)] v ρ Z (fun o9 v' ρ' Z' => ρ = ρ' ∧ Z = Z' ∧ FrW ω [22, 24] v v' ∧ HT ω v' ρ Z ∧ o9 = none ∧ True) := by
  refine Ok.of mo_X9_doTake (Nat.le_of_ble_eq_true rfl) ?_
  intro X hX hRm hxn hQ
  show wp g X F_X9_doTake 0 0 0 [(2, t), (0, p), (0, c)] [] v ρ Z
  refine r_aload_n (pc := 0) hX 0 rfl rfl ?_
  refine r_dup (pc := 1) hX 1 rfl (show (2 : Nat) ≠ 1 by decide) ?_
  refine e_getI (y := (v t 1)) (pc := 2) hX 2 rfl fl_X9_29 rfl (hH.kd ht (by decide)) (rfl) ?_
  refine r_iconst (pc := 5) hX 3 rfl ?_
  refine r_iadd (pc := 6) hX 4 rfl ?_
  refine r_putI (pc := 7) hX 5 rfl fl_X9_29 rfl (fun _ h => by cases h; rfl) (hH.kd ht (by decide)) (hH.g4 ht (by decide)) ?_
  have hH_7 : HT ω (up v t 1 ((v t 1) + 1)) ρ Z := hH.up0 ht (by decide) rfl
  show wp g X F_X9_doTake 0 0 10 [(2, t), (0, p), (0, c)] [] (up v t 1 ((v t 1) + 1)) ρ Z
  refine t_getR (q := (ρ t 4)) (pc := 10) hX 6 rfl rfl rfl fl_X9_15 rfl (hH_7.kd ht (by decide)) (rfl) ?_
  have hw10_ : ω (ρ t 4) = 24 := hH.rf ht (by decide) rfl
  refine r_iload_n (pc := 14) hX 8 rfl rfl ?_
  refine r_iload_n (pc := 15) hX 9 rfl rfl ?_
  refine e_iast (n := 3) (pc := 16) hX 10 rfl (hH_7.kd hw10_ (by decide)) (hH_7.ln hw10_ (by decide)) (hH_7.g4 hw10_ (by decide)) (by omega) (by omega) ?_
  have hH_16 : HT ω (up (up v t 1 ((v t 1) + 1)) (ρ t 4) p c) ρ Z := hH_7.upR hw10_ (by decide) rfl (by omega) (by omega)
  exact r_vret (pc := 17) hX 11 hQ rfl rfl (Nat.le_refl 0) (Nat.le_refl 0) ⟨rfl, rfl, ((FrW.rf).up (r := t) ht (by decide)).up (r := (ρ t 4)) hw10_ (by decide), hH_16, rfl, trivial⟩
set_option maxHeartbeats 4000000 in
set_option maxRecDepth 100000 in
theorem c_X9_mayTurn (g : Gp) (ω : Rw) (v ρ : Mv) (Z : Mz) (hH : HT ω v ρ Z) (t : Int) (ht : ω t = 22) (p : Int) (hp : 0 ≤ p ∧ p ≤ 2) : Ok g 3 0 0 F_X9_mayTurn [(2, t), (0, p)] v ρ Z (fun o9 v' ρ' Z' => ρ = ρ' ∧ Z = Z' ∧ v = v' ∧ ∃ r : Int, o9 = some (0, r) ∧ (0 ≤ r ∧ r ≤ 1 ∧ (r = 1 → v t 2 < v (ρ t 0) 12)) ∧ ((r = 1 → ∀ j, 0 ≤ j → j < v (ρ t 0) 10 → v (ρ t 6) j < v (ρ t 0) 11))) := by
  refine Ok.of mo_X9_mayTurn (Nat.le_of_ble_eq_true rfl) ?_
  intro X hX hRm hxn hQ
  show wp g X F_X9_mayTurn 0 0 0 [(2, t), (0, p)] [] v ρ Z
  refine r_aload_n (pc := 0) hX 0 rfl rfl ?_
  refine r_callV (as := []) (st := []) (K := 9) (pc := 1) hX 1 rfl mo_X9_isOver ml_X9_86 im_X9_isOver se_X9_isOver (c_X9_isOver g ω v ρ Z hH t ht ) rfl rfl rfl (hH.kd ht (by decide)) (by rw [hRm]; exact ⟨by decide, by decide⟩) (by rw [hRm]; exact ⟨by decide, by decide⟩) (Nat.le_of_ble_eq_true rfl) (fun o1 v1 ρv1 Zv1 hq1 _ => ?_)
  obtain ⟨rfl, rfl, rfl, r1, rfl, hq1⟩ := hq1
  have hw1_ : ω (ρ t 0) = 5 := hH.rf ht (by decide) rfl
  have hwf1_ : ω (ρ t 6) = 26 := hH.rf ht (by decide) rfl
  show wp g X F_X9_mayTurn 0 0 4 [(2, t), (0, p)] [(0, r1)] v ρ Z
  first | refine r_if_ne (pc := 4) hX 2 (tgt := 40) rfl (by decide) (⟨by omega, by omega⟩) (fun h4 => ?_) (fun h4 => ?_) | refine r_if_ne_any (pc := 4) hX 2 (tgt := 40) rfl (by decide) ?_ ?_
  · refine r_iconst (pc := 40) hX 20 rfl ?_
    exact r_zret (pc := 41) hX 21 hQ rfl rfl ⟨by omega, by omega⟩ (Nat.le_refl 0) (Nat.le_refl 0) ⟨rfl, rfl, rfl, 0, rfl, (by omega), (fun e => by first | exact hq1.2 (by omega) | (exfalso; omega))⟩
  · refine t_getR (q := (ρ t 0)) (pc := 7) hX 3 rfl rfl rfl fl_X9_25 rfl (hH.kd ht (by decide)) (rfl) ?_
    refine e_getI (y := (v (ρ t 0) 13)) (pc := 11) hX 5 rfl fl_X9_97 rfl (hH.kd hw1_ (by decide)) (rfl) ?_
    have hb11 : 0 ≤ (v (ρ t 0) 13) ∧ (v (ρ t 0) 13) ≤ 1 := hH.rg hw1_ (by decide) rfl
    first | refine r_if_eq (pc := 14) hX 6 (tgt := 40) rfl (by decide) (⟨by omega, by omega⟩) (fun h14 => ?_) (fun h14 => ?_) | refine r_if_eq_any (pc := 14) hX 6 (tgt := 40) rfl (by decide) ?_ ?_
    · refine r_iconst (pc := 40) hX 20 rfl ?_
      exact r_zret (pc := 41) hX 21 hQ rfl rfl ⟨by omega, by omega⟩ (Nat.le_refl 0) (Nat.le_refl 0) ⟨rfl, rfl, rfl, 0, rfl, (by omega), (fun e => by first | exact hq1.2 (by omega) | (exfalso; omega))⟩
    · refine t_getR (q := (ρ t 4)) (pc := 17) hX 7 rfl rfl rfl fl_X9_15 rfl (hH.kd ht (by decide)) (rfl) ?_
      have hw17_ : ω (ρ t 4) = 24 := hH.rf ht (by decide) rfl
      refine r_iload_n (pc := 21) hX 9 rfl rfl ?_
      refine e_iald (y := (v (ρ t 4) p)) (n := 3) (pc := 22) hX 10 rfl (hH.kd hw17_ (by decide)) (hH.ln hw17_ (by decide)) (by omega) (by omega) (rfl) ?_
      have hb22 : (-1) ≤ (v (ρ t 4) p) ∧ (v (ρ t 4) p) ≤ 3 := hH.rg hw17_ (by decide) rfl
      refine r_iconst (pc := 23) hX 11 rfl ?_
      first | refine r_icmp_eq (pc := 24) hX 12 (tgt := 40) rfl (by decide) (⟨by omega, by omega⟩) (⟨by omega, by omega⟩) (fun h24 => ?_) (fun h24 => ?_) | refine r_icmp_eq_any (pc := 24) hX 12 (tgt := 40) rfl (by decide) ?_ ?_
      · refine r_iconst (pc := 40) hX 20 rfl ?_
        exact r_zret (pc := 41) hX 21 hQ rfl rfl ⟨by omega, by omega⟩ (Nat.le_refl 0) (Nat.le_refl 0) ⟨rfl, rfl, rfl, 0, rfl, (by omega), (fun e => by first | exact hq1.2 (by omega) | (exfalso; omega))⟩
      · refine t_getR (q := (ρ t 5)) (pc := 27) hX 13 rfl rfl rfl fl_X9_18 rfl (hH.kd ht (by decide)) (rfl) ?_
        have hw27_ : ω (ρ t 5) = 25 := hH.rf ht (by decide) rfl
        refine r_iload_n (pc := 31) hX 15 rfl rfl ?_
        refine e_zald (y := (v (ρ t 5) p)) (n := 3) (pc := 32) hX 16 rfl (hH.kd hw27_ (by decide)) (hH.ln hw27_ (by decide)) (by omega) (by omega) (rfl) (fun hb32a hb32b => ?_)
        first | refine r_if_ne (pc := 33) hX 17 (tgt := 40) rfl (by decide) (⟨by omega, by omega⟩) (fun h33 => ?_) (fun h33 => ?_) | refine r_if_ne_any (pc := 33) hX 17 (tgt := 40) rfl (by decide) ?_ ?_
        · refine r_iconst (pc := 40) hX 20 rfl ?_
          exact r_zret (pc := 41) hX 21 hQ rfl rfl ⟨by omega, by omega⟩ (Nat.le_refl 0) (Nat.le_refl 0) ⟨rfl, rfl, rfl, 0, rfl, (by omega), (fun e => by first | exact hq1.2 (by omega) | (exfalso; omega))⟩
        · refine r_iconst (pc := 36) hX 18 rfl ?_
          refine r_goto (pc := 37) hX 19 (tgt := 41) rfl (by decide) ?_
          exact r_zret (pc := 41) hX 21 hQ rfl rfl ⟨by omega, by omega⟩ (Nat.le_refl 0) (Nat.le_refl 0) ⟨rfl, rfl, rfl, 1, rfl, (by omega), (fun e => by first | exact hq1.2 (by omega) | (exfalso; omega))⟩
set_option maxHeartbeats 4000000 in
set_option maxRecDepth 100000 in
theorem c_X9_whyNotTurn (g : Gp) (ω : Rw) (v ρ : Mv) (Z : Mz) (hH : HT ω v ρ Z) (t : Int) (ht : ω t = 22) (p : Int) (c : Int) (hp : 0 ≤ p ∧ p ≤ 2) (hcr : inR c) : Ok g 4 0 0 F_X9_whyNotTurn [(2, t), (0, p), (0, c)] v ρ Z (fun o9 v' ρ' Z' => ρ = ρ' ∧ Z = Z' ∧ v = v' ∧ ∃ r : Int, o9 = some (0, r) ∧ (0 ≤ r ∧ r ≤ 4)) := by
  refine Ok.of mo_X9_whyNotTurn (Nat.le_of_ble_eq_true rfl) ?_
  intro X hX hRm hxn hQ
  show wp g X F_X9_whyNotTurn 0 0 0 [(2, t), (0, p), (0, c)] [] v ρ Z
  refine r_aload_n (pc := 0) hX 0 rfl rfl ?_
  refine r_callV (as := []) (st := []) (K := 9) (pc := 1) hX 1 rfl mo_X9_isOver ml_X9_86 im_X9_isOver se_X9_isOver (c_X9_isOver g ω v ρ Z hH t ht ) rfl rfl rfl (hH.kd ht (by decide)) (by rw [hRm]; exact ⟨by decide, by decide⟩) (by rw [hRm]; exact ⟨by decide, by decide⟩) (Nat.le_of_ble_eq_true rfl) (fun o1 v1 ρv1 Zv1 hq1 _ => ?_)
  obtain ⟨rfl, rfl, rfl, r1, rfl, hq1⟩ := hq1
  have hw1_ : ω (ρ t 0) = 5 := hH.rf ht (by decide) rfl
  have hwf1_ : ω (ρ t 6) = 26 := hH.rf ht (by decide) rfl
  show wp g X F_X9_whyNotTurn 0 0 4 [(2, t), (0, p), (0, c)] [(0, r1)] v ρ Z
  first | refine r_if_eq (pc := 4) hX 2 (tgt := 9) rfl (by decide) (⟨by omega, by omega⟩) (fun h4 => ?_) (fun h4 => ?_) | refine r_if_eq_any (pc := 4) hX 2 (tgt := 9) rfl (by decide) ?_ ?_
  · refine t_getR (q := (ρ t 0)) (pc := 9) hX 5 rfl rfl rfl fl_X9_25 rfl (hH.kd ht (by decide)) (rfl) ?_
    refine e_getI (y := (v (ρ t 0) 13)) (pc := 13) hX 7 rfl fl_X9_97 rfl (hH.kd hw1_ (by decide)) (rfl) ?_
    have hb13 : 0 ≤ (v (ρ t 0) 13) ∧ (v (ρ t 0) 13) ≤ 1 := hH.rg hw1_ (by decide) rfl
    first | refine r_if_ne (pc := 16) hX 8 (tgt := 21) rfl (by decide) (⟨by omega, by omega⟩) (fun h16 => ?_) (fun h16 => ?_) | refine r_if_ne_any (pc := 16) hX 8 (tgt := 21) rfl (by decide) ?_ ?_
    · refine r_aload_n (pc := 21) hX 11 rfl rfl ?_
      refine r_iload_n (pc := 22) hX 12 rfl rfl ?_
      refine r_callV (as := [(0, p)]) (st := []) (K := 9) (pc := 23) hX 13 rfl mo_X9_mayTurn ml_X9_101 im_X9_mayTurn se_X9_mayTurn (c_X9_mayTurn g ω v ρ Z hH t ht (p) (by omega)) rfl rfl rfl (hH.kd ht (by decide)) (by rw [hRm]; exact ⟨by decide, by decide⟩) (by rw [hRm]; exact ⟨by decide, by decide⟩) (Nat.le_of_ble_eq_true rfl) (fun o23 v23 ρv23 Zv23 hq23 _ => ?_)
      obtain ⟨rfl, rfl, rfl, r23, rfl, hq23⟩ := hq23
      show wp g X F_X9_whyNotTurn 0 0 26 [(2, t), (0, p), (0, c)] [(0, r23)] v ρ Z
      first | refine r_if_ne (pc := 26) hX 14 (tgt := 31) rfl (by decide) (⟨by omega, by omega⟩) (fun h26 => ?_) (fun h26 => ?_) | refine r_if_ne_any (pc := 26) hX 14 (tgt := 31) rfl (by decide) ?_ ?_
      · refine r_aload_n (pc := 31) hX 17 rfl rfl ?_
        refine r_iload_n (pc := 32) hX 18 rfl rfl ?_
        refine r_callV (as := [(0, c)]) (st := []) (K := 9) (pc := 33) hX 19 rfl mo_X9_holderOf ml_X9_94 im_X9_holderOf se_X9_holderOf (c_X9_holderOf g ω v ρ Z hH t ht (c) (by omega)) rfl rfl rfl (hH.kd ht (by decide)) (by rw [hRm]; exact ⟨by decide, by decide⟩) (by rw [hRm]; exact ⟨by decide, by decide⟩) (Nat.le_of_ble_eq_true rfl) (fun o33 v33 ρv33 Zv33 hq33 _ => ?_)
        obtain ⟨rfl, rfl, rfl, r33, rfl, hq33⟩ := hq33
        have hw33_ : ω (ρ t 4) = 24 := hH.rf ht (by decide) rfl
        show wp g X F_X9_whyNotTurn 0 0 36 [(2, t), (0, p), (0, c)] [(0, r33)] v ρ Z
        refine r_iconst (pc := 36) hX 20 rfl ?_
        first | refine r_icmp_eq (pc := 37) hX 21 (tgt := 44) rfl (by decide) (⟨by omega, by omega⟩) (⟨by omega, by omega⟩) (fun h37 => ?_) (fun h37 => ?_) | refine r_icmp_eq_any (pc := 37) hX 21 (tgt := 44) rfl (by decide) ?_ ?_
        · refine r_iconst (pc := 44) hX 24 rfl ?_
          exact r_iret (pc := 45) hX 25 hQ rfl rfl (Nat.le_refl 0) (Nat.le_refl 0) ⟨rfl, rfl, rfl, 0, rfl, (by omega)⟩
        · refine r_iconst (pc := 40) hX 22 rfl ?_
          refine r_goto (pc := 41) hX 23 (tgt := 45) rfl (by decide) ?_
          exact r_iret (pc := 45) hX 25 hQ rfl rfl (Nat.le_refl 0) (Nat.le_refl 0) ⟨rfl, rfl, rfl, 4, rfl, (by omega)⟩
      · refine r_iconst (pc := 29) hX 15 rfl ?_
        exact r_iret (pc := 30) hX 16 hQ rfl rfl (Nat.le_refl 0) (Nat.le_refl 0) ⟨rfl, rfl, rfl, 3, rfl, (by omega)⟩
    · refine r_iconst (pc := 19) hX 9 rfl ?_
      exact r_iret (pc := 20) hX 10 hQ rfl rfl (Nat.le_refl 0) (Nat.le_refl 0) ⟨rfl, rfl, rfl, 2, rfl, (by omega)⟩
  · refine r_iconst (pc := 7) hX 3 rfl ?_
    exact r_iret (pc := 8) hX 4 hQ rfl rfl (Nat.le_refl 0) (Nat.le_refl 0) ⟨rfl, rfl, rfl, 1, rfl, (by omega)⟩
set_option maxHeartbeats 4000000 in
set_option maxRecDepth 100000 in
theorem c_X9_doTurn (g : Gp) (ω : Rw) (v ρ : Mv) (Z : Mz) (hH : HT ω v ρ Z) (t : Int) (ht : ω t = 22) (p : Int) (c : Int) (hp : 0 ≤ p ∧ p ≤ 2) (hc : -1 ≤ c ∧ c ≤ 3) : Ok g 1 0 0 F_X9_doTurn [(2, t), (0, p), (0, c)] v ρ Z (fun o9 v' ρ' Z' => ρ = ρ' ∧ Z = Z' ∧ FrW ω [22, 24, 25] v v' ∧ HT ω v' ρ Z ∧ o9 = none ∧ True) := by
  refine Ok.of mo_X9_doTurn (Nat.le_of_ble_eq_true rfl) ?_
  intro X hX hRm hxn hQ
  show wp g X F_X9_doTurn 0 0 0 [(2, t), (0, p), (0, c)] [] v ρ Z
  refine r_aload_n (pc := 0) hX 0 rfl rfl ?_
  refine r_dup (pc := 1) hX 1 rfl (show (2 : Nat) ≠ 1 by decide) ?_
  refine e_getI (y := (v t 1)) (pc := 2) hX 2 rfl fl_X9_29 rfl (hH.kd ht (by decide)) (rfl) ?_
  refine r_iconst (pc := 5) hX 3 rfl ?_
  refine r_iadd (pc := 6) hX 4 rfl ?_
  refine r_putI (pc := 7) hX 5 rfl fl_X9_29 rfl (fun _ h => by cases h; rfl) (hH.kd ht (by decide)) (hH.g4 ht (by decide)) ?_
  have hH_7 : HT ω (up v t 1 ((v t 1) + 1)) ρ Z := hH.up0 ht (by decide) rfl
  show wp g X F_X9_doTurn 0 0 10 [(2, t), (0, p), (0, c)] [] (up v t 1 ((v t 1) + 1)) ρ Z
  refine t_getR (q := (ρ t 4)) (pc := 10) hX 6 rfl rfl rfl fl_X9_15 rfl (hH_7.kd ht (by decide)) (rfl) ?_
  have hw10_ : ω (ρ t 4) = 24 := hH.rf ht (by decide) rfl
  refine r_iload_n (pc := 14) hX 8 rfl rfl ?_
  refine r_iload_n (pc := 15) hX 9 rfl rfl ?_
  refine e_iast (n := 3) (pc := 16) hX 10 rfl (hH_7.kd hw10_ (by decide)) (hH_7.ln hw10_ (by decide)) (hH_7.g4 hw10_ (by decide)) (by omega) (by omega) ?_
  have hH_16 : HT ω (up (up v t 1 ((v t 1) + 1)) (ρ t 4) p c) ρ Z := hH_7.upR hw10_ (by decide) rfl (by omega) (by omega)
  refine t_getR (q := (ρ t 5)) (pc := 17) hX 11 rfl rfl rfl fl_X9_18 rfl (hH_16.kd ht (by decide)) (rfl) ?_
  have hw17_ : ω (ρ t 5) = 25 := hH.rf ht (by decide) rfl
  refine r_iload_n (pc := 21) hX 13 rfl rfl ?_
  refine r_iconst (pc := 22) hX 14 rfl ?_
  refine e_zast (n := 3) (pc := 23) hX 15 rfl (hH_16.kd hw17_ (by decide)) (hH_16.ln hw17_ (by decide)) (hH_16.g4 hw17_ (by decide)) (by omega) (by omega) ⟨by omega, by omega⟩ ?_
  have hH_23 : HT ω (up (up (up v t 1 ((v t 1) + 1)) (ρ t 4) p c) (ρ t 5) p 1) ρ Z := hH_16.up0 hw17_ (by decide) rfl
  exact r_vret (pc := 24) hX 16 hQ rfl rfl (Nat.le_refl 0) (Nat.le_refl 0) ⟨rfl, rfl, (((FrW.rf).up (r := t) ht (by decide)).up (r := (ρ t 4)) hw10_ (by decide)).up (r := (ρ t 5)) hw17_ (by decide), hH_23, rfl, trivial⟩
set_option maxHeartbeats 4000000 in
set_option maxRecDepth 100000 in
theorem c_X9_whyNotCome (g : Gp) (ω : Rw) (v ρ : Mv) (Z : Mz) (hH : HT ω v ρ Z) (t : Int) (ht : ω t = 22) (c : Int) (hc : -1 ≤ c ∧ c ≤ 3) : Ok g 4 0 0 F_X9_whyNotCome [(2, t), (0, c)] v ρ Z (fun o9 v' ρ' Z' => ρ = ρ' ∧ Z = Z' ∧ v = v' ∧ ∃ r : Int, o9 = some (0, r) ∧ (0 ≤ r ∧ r ≤ 2) ∧ ((r = 0 → ∀ j, 0 ≤ j → j < v (ρ t 0) 10 → v (ρ t 6) j < v (ρ t 0) 11))) := by
  refine Ok.of mo_X9_whyNotCome (Nat.le_of_ble_eq_true rfl) ?_
  intro X hX hRm hxn hQ
  show wp g X F_X9_whyNotCome 0 0 0 [(2, t), (0, c)] [] v ρ Z
  refine r_aload_n (pc := 0) hX 0 rfl rfl ?_
  refine r_callV (as := []) (st := []) (K := 9) (pc := 1) hX 1 rfl mo_X9_isOver ml_X9_86 im_X9_isOver se_X9_isOver (c_X9_isOver g ω v ρ Z hH t ht ) rfl rfl rfl (hH.kd ht (by decide)) (by rw [hRm]; exact ⟨by decide, by decide⟩) (by rw [hRm]; exact ⟨by decide, by decide⟩) (Nat.le_of_ble_eq_true rfl) (fun o1 v1 ρv1 Zv1 hq1 _ => ?_)
  obtain ⟨rfl, rfl, rfl, r1, rfl, hq1⟩ := hq1
  have hw1_ : ω (ρ t 0) = 5 := hH.rf ht (by decide) rfl
  have hwf1_ : ω (ρ t 6) = 26 := hH.rf ht (by decide) rfl
  show wp g X F_X9_whyNotCome 0 0 4 [(2, t), (0, c)] [(0, r1)] v ρ Z
  first | refine r_if_eq (pc := 4) hX 2 (tgt := 9) rfl (by decide) (⟨by omega, by omega⟩) (fun h4 => ?_) (fun h4 => ?_) | refine r_if_eq_any (pc := 4) hX 2 (tgt := 9) rfl (by decide) ?_ ?_
  · refine r_aload_n (pc := 9) hX 5 rfl rfl ?_
    refine r_iload_n (pc := 10) hX 6 rfl rfl ?_
    refine r_callV (as := [(0, c)]) (st := []) (K := 9) (pc := 11) hX 7 rfl mo_X9_weightsWith ml_X9_105 im_X9_weightsWith se_X9_weightsWith (c_X9_weightsWith g ω v ρ Z hH t ht (c) (by omega)) rfl rfl rfl (hH.kd ht (by decide)) (by rw [hRm]; exact ⟨by decide, by decide⟩) (by rw [hRm]; exact ⟨by decide, by decide⟩) (Nat.le_of_ble_eq_true rfl) (fun o11 v11 ρv11 Zv11 hq11 _ => ?_)
    obtain ⟨rfl, rfl, rfl, r11, rfl, hq11⟩ := hq11
    show wp g X F_X9_whyNotCome 0 0 14 [(2, t), (0, c)] [(1, r11)] v ρ Z
    refine r_lconst (pc := 14) hX 8 rfl ?_
    show wp g X F_X9_whyNotCome 0 0 15 [(2, t), (0, c)] [(1, 0), (1, r11)] v ρ Z
    refine r_lcmp_any (pc := 15) hX 9 rfl (fun z15 hz15a hz15b => ?_)
    first | refine r_if_ne (pc := 16) hX 10 (tgt := 23) rfl (by decide) (⟨by omega, by omega⟩) (fun h16 => ?_) (fun h16 => ?_) | refine r_if_ne_any (pc := 16) hX 10 (tgt := 23) rfl (by decide) ?_ ?_
    · refine r_iconst (pc := 23) hX 13 rfl ?_
      exact r_iret (pc := 24) hX 14 hQ rfl rfl (Nat.le_refl 0) (Nat.le_refl 0) ⟨rfl, rfl, rfl, 0, rfl, (by omega), (fun e => by first | exact hq1.2 (by omega) | (exfalso; omega))⟩
    · refine r_iconst (pc := 19) hX 11 rfl ?_
      refine r_goto (pc := 20) hX 12 (tgt := 24) rfl (by decide) ?_
      exact r_iret (pc := 24) hX 14 hQ rfl rfl (Nat.le_refl 0) (Nat.le_refl 0) ⟨rfl, rfl, rfl, 2, rfl, (by omega), (fun e => by first | exact hq1.2 (by omega) | (exfalso; omega))⟩
  · refine r_iconst (pc := 7) hX 3 rfl ?_
    exact r_iret (pc := 8) hX 4 hQ rfl rfl (Nat.le_refl 0) (Nat.le_refl 0) ⟨rfl, rfl, rfl, 1, rfl, (by omega), (fun e => by omega)⟩
set_option maxHeartbeats 4000000 in
set_option maxRecDepth 100000 in
theorem c_X9_doCome (g : Gp) (ω : Rw) (v ρ : Mv) (Z : Mz) (hH : HT ω v ρ Z) (t : Int) (ht : ω t = 22) (c : Int) (hc : -1 ≤ c ∧ c ≤ 3) (hsc : ∀ j, 0 ≤ j → j < v (ρ t 0) 10 → v (ρ t 6) j < v (ρ t 0) 11) : Ok g 2 0 0 F_X9_doCome [(2, t), (0, c)] v ρ Z (fun o9 v' ρ' Z' => ρ = ρ' ∧ Z = Z' ∧ FrW ω [22, 23, 26] v v' ∧ HT ω v' ρ Z ∧ o9 = none ∧ True) := by
  refine Ok.of mo_X9_doCome (Nat.le_of_ble_eq_true rfl) ?_
  intro X hX hRm hxn hQ
  show wp g X F_X9_doCome 0 0 0 [(2, t), (0, c), (3, 0)] [] v ρ Z
  have hwr : ω (ρ t 0) = 5 := hH.rf ht (by decide) rfl
  have hg10 : 0 ≤ v (ρ t 0) 10 ∧ v (ρ t 0) 10 ≤ 3 := hH.rg hwr (by decide) rfl
  have hg11 : 1 ≤ v (ρ t 0) 11 ∧ v (ρ t 0) 11 ≤ 9 := hH.rg hwr (by decide) rfl
  refine t_getI (y := (v t 2)) (pc := 0) hX 0 rfl rfl rfl fl_X9_33 rfl (hH.kd ht (by decide)) (rfl) ?_
  have hb0 : 0 ≤ (v t 2) ∧ (v t 2) ≤ 12 := hH.rg ht (by decide) rfl
  refine r_bipush (pc := 4) hX 2 rfl (by decide) ?_
  first | refine r_icmp_lt (pc := 6) hX 3 (tgt := 10) rfl (by decide) (⟨by omega, by omega⟩) (⟨by omega, by omega⟩) (fun h6 => ?_) (fun h6 => ?_) | refine r_icmp_lt_any (pc := 6) hX 3 (tgt := 10) rfl (by decide) ?_ ?_
  · refine r_aload_n (pc := 10) hX 5 rfl rfl ?_
    refine r_dup (pc := 11) hX 6 rfl (show (2 : Nat) ≠ 1 by decide) ?_
    refine e_getI (y := (v t 1)) (pc := 12) hX 7 rfl fl_X9_29 rfl (hH.kd ht (by decide)) (rfl) ?_
    refine r_iconst (pc := 15) hX 8 rfl ?_
    refine r_iadd (pc := 16) hX 9 rfl ?_
    refine r_putI (pc := 17) hX 10 rfl fl_X9_29 rfl (fun _ h => by cases h; rfl) (hH.kd ht (by decide)) (hH.g4 ht (by decide)) ?_
    have hH_17 : HT ω (up v t 1 ((v t 1) + 1)) ρ Z := hH.up0 ht (by decide) rfl
    show wp g X F_X9_doCome 0 0 20 [(2, t), (0, c), (3, 0)] [] (up v t 1 ((v t 1) + 1)) ρ Z
    refine t_getR (q := (ρ t 3)) (pc := 20) hX 11 rfl rfl rfl fl_X9_9 rfl (hH_17.kd ht (by decide)) (rfl) ?_
    have hw20_ : ω (ρ t 3) = 23 := hH.rf ht (by decide) rfl
    refine t_getI (y := (v t 2)) (pc := 24) hX 13 rfl rfl rfl fl_X9_33 rfl (hH_17.kd ht (by decide)) ((up_k (by decide)).trans (rfl)) ?_
    refine r_iload_n (pc := 28) hX 15 rfl rfl ?_
    refine e_iast (n := 12) (pc := 29) hX 16 rfl (hH_17.kd hw20_ (by decide)) (hH_17.ln hw20_ (by decide)) (hH_17.g4 hw20_ (by decide)) (by omega) (by omega) ?_
    have hH_29 : HT ω (up (up v t 1 ((v t 1) + 1)) (ρ t 3) (v t 2) c) ρ Z := hH_17.upR hw20_ (by decide) rfl (by omega) (by omega)
    refine r_aload_n (pc := 30) hX 17 rfl rfl ?_
    refine r_dup (pc := 31) hX 18 rfl (show (2 : Nat) ≠ 1 by decide) ?_
    refine e_getI (y := (v t 2)) (pc := 32) hX 19 rfl fl_X9_33 rfl (hH_29.kd ht (by decide)) ((up_r (rne ht hw20_ (by decide))).trans ((up_k (by decide)).trans (rfl))) ?_
    refine r_iconst (pc := 35) hX 20 rfl ?_
    refine r_iadd (pc := 36) hX 21 rfl ?_
    refine r_putI (pc := 37) hX 22 rfl fl_X9_33 rfl (fun _ h => by cases h; rfl) (hH_29.kd ht (by decide)) (hH_29.g4 ht (by decide)) ?_
    have hH_37 : HT ω (up (up (up v t 1 ((v t 1) + 1)) (ρ t 3) (v t 2) c) t 2 ((v t 2) + 1)) ρ Z := hH_29.upR ht (by decide) rfl (by omega) (by omega)
    show wp g X F_X9_doCome 0 0 40 [(2, t), (0, c), (3, 0)] [] (up (up (up v t 1 ((v t 1) + 1)) (ρ t 3) (v t 2) c) t 2 ((v t 2) + 1)) ρ Z
    refine r_iload_n (pc := 40) hX 23 rfl rfl ?_
    refine r_iconst (pc := 41) hX 24 rfl ?_
    have L54 : ∀ (p : Int) , (-1 ≤ p ∧ p ≤ 2 ∧ (0 ≤ p → p < v (ρ t 0) 10 ∧ 0 ≤ c)) → wp g X F_X9_doCome 0 0 54 [(2, t), (0, c), (3, 0)] [(0, p)] (up (up (up v t 1 ((v t 1) + 1)) (ρ t 3) (v t 2) c) t 2 ((v t 2) + 1)) ρ Z := by
      intro p ip
      refine r_istore_n (ls' := [(2, t), (0, c), (0, p)]) (pc := 54) hX 31 rfl (by decide) rfl ?_
      refine r_iload_n (pc := 55) hX 32 rfl rfl ?_
      refine r_iconst (pc := 56) hX 33 rfl ?_
      first | refine r_icmp_eq (pc := 57) hX 34 (tgt := 78) rfl (by decide) (⟨by omega, by omega⟩) (⟨by omega, by omega⟩) (fun h57 => ?_) (fun h57 => ?_) | refine r_icmp_eq_any (pc := 57) hX 34 (tgt := 78) rfl (by decide) ?_ ?_
      · exact r_vret (pc := 78) hX 47 hQ rfl rfl (Nat.le_refl 0) (Nat.le_refl 0) ⟨rfl, rfl, (((FrW.rf).up (r := t) ht (by decide)).up (r := (ρ t 3)) hw20_ (by decide)).up (r := t) ht (by decide), hH_37, rfl, trivial⟩
      · refine t_getR (q := (ρ t 6)) (pc := 60) hX 35 rfl rfl rfl fl_X9_22 rfl (hH_37.kd ht (by decide)) (rfl) ?_
        have hw60_ : ω (ρ t 6) = 26 := hH.rf ht (by decide) rfl
        refine r_iload_n (pc := 64) hX 37 rfl rfl ?_
        refine r_dup2i (pc := 65) hX 38 rfl (show (0 : Nat) ≠ 1 by decide) (show (2 : Nat) ≠ 1 by decide) ?_
        refine e_iald (y := (v (ρ t 6) p)) (n := 3) (pc := 66) hX 39 rfl (hH_37.kd hw60_ (by decide)) (hH_37.ln hw60_ (by decide)) (by omega) (by omega) ((up_r (rne hw60_ ht (by decide))).trans ((up_r (rne hw60_ hw20_ (by decide))).trans ((up_r (rne hw60_ ht (by decide))).trans (rfl)))) ?_
        have hb66 : 0 ≤ (v (ρ t 6) p) ∧ (v (ρ t 6) p) ≤ 11 := hH.rg hw60_ (by decide) rfl
        refine t_getR (q := (ρ t 0)) (pc := 67) hX 40 rfl rfl rfl fl_X9_25 rfl (hH_37.kd ht (by decide)) (rfl) ?_
        have hw67_ : ω (ρ t 0) = 5 := hH.rf ht (by decide) rfl
        refine r_getR (q := (ρ (ρ t 0) 1)) (pc := 71) hX 42 rfl fl_X9_108 rfl (hH_37.kd hw67_ (by decide)) (rfl) ?_
        have hw71_ : ω (ρ (ρ t 0) 1) = 9 := hH.rf hw67_ (by decide) rfl
        refine r_iload_n (pc := 74) hX 43 rfl rfl ?_
        refine e_iald (y := (v (ρ (ρ t 0) 1) c)) (n := 5) (pc := 75) hX 44 rfl (hH_37.kd hw71_ (by decide)) (hH_37.ln hw71_ (by decide)) (by omega) (by omega) ((up_r (rne hw71_ ht (by decide))).trans ((up_r (rne hw71_ hw20_ (by decide))).trans ((up_r (rne hw71_ ht (by decide))).trans (rfl)))) ?_
        have hb75 : 0 ≤ (v (ρ (ρ t 0) 1) c) ∧ (v (ρ (ρ t 0) 1) c) ≤ 3 := hH.rg hw71_ (by decide) rfl
        refine r_iadd (pc := 76) hX 45 rfl ?_
        have z77 := hsc p (by omega) (by omega)
        refine e_iast (n := 3) (pc := 77) hX 46 rfl (hH_37.kd hw60_ (by decide)) (hH_37.ln hw60_ (by decide)) (hH_37.g4 hw60_ (by decide)) (by omega) (by omega) ?_
        have hH_77 : HT ω (up (up (up (up v t 1 ((v t 1) + 1)) (ρ t 3) (v t 2) c) t 2 ((v t 2) + 1)) (ρ t 6) p ((v (ρ t 6) p) + (v (ρ (ρ t 0) 1) c))) ρ Z := hH_37.upR hw60_ (by decide) rfl (by omega) (by omega)
        exact r_vret (pc := 78) hX 47 hQ rfl rfl (Nat.le_refl 0) (Nat.le_refl 0) ⟨rfl, rfl, ((((FrW.rf).up (r := t) ht (by decide)).up (r := (ρ t 3)) hw20_ (by decide)).up (r := t) ht (by decide)).up (r := (ρ t 6)) hw60_ (by decide), hH_77, rfl, trivial⟩
    first | refine r_icmp_ne (pc := 42) hX 25 (tgt := 49) rfl (by decide) (⟨by omega, by omega⟩) (⟨by omega, by omega⟩) (fun h42 => ?_) (fun h42 => ?_) | refine r_icmp_ne_any (pc := 42) hX 25 (tgt := 49) rfl (by decide) ?_ ?_
    · refine r_aload_n (pc := 49) hX 28 rfl rfl ?_
      refine r_iload_n (pc := 50) hX 29 rfl rfl ?_
      refine r_callV (as := [(0, c)]) (st := []) (K := 9) (pc := 51) hX 30 rfl mo_X9_holderOf ml_X9_94 im_X9_holderOf se_X9_holderOf (c_X9_holderOf g ω (up (up (up v t 1 ((v t 1) + 1)) (ρ t 3) (v t 2) c) t 2 ((v t 2) + 1)) ρ Z hH_37 t ht (c) (by omega)) rfl rfl rfl (hH_37.kd ht (by decide)) (by rw [hRm]; exact ⟨by decide, by decide⟩) (by rw [hRm]; exact ⟨by decide, by decide⟩) (Nat.le_of_ble_eq_true rfl) (fun o51 v51 ρv51 Zv51 hq51 _ => ?_)
      obtain ⟨rfl, rfl, rfl, r51, rfl, hq51⟩ := hq51
      have hw51_ : ω (ρ t 0) = 5 := hH.rf ht (by decide) rfl
      have hwf1_ : ω (ρ t 4) = 24 := hH.rf ht (by decide) rfl
      try rw [show ((up (up (up v t 1 ((v t 1) + 1)) (ρ t 3) (v t 2) c) t 2 ((v t 2) + 1)) (ρ t 0) 10) = (v (ρ t 0) 10) from (up_k (by decide)).trans ((up_r (rne hw51_ hw20_ (by decide))).trans ((up_k (by decide)).trans (rfl)))] at hq51
      try rw [show ((up (up (up v t 1 ((v t 1) + 1)) (ρ t 3) (v t 2) c) t 2 ((v t 2) + 1)) (ρ t 4)) = (v (ρ t 4)) from (up_f (rne hwf1_ ht (by decide))).trans ((up_f (rne hwf1_ hw20_ (by decide))).trans ((up_f (rne hwf1_ ht (by decide))).trans (rfl)))] at hq51
      show wp g X F_X9_doCome 0 0 54 [(2, t), (0, c), (3, 0)] [(0, r51)] (up (up (up v t 1 ((v t 1) + 1)) (ρ t 3) (v t 2) c) t 2 ((v t 2) + 1)) ρ Z
      exact (L54 r51 (by omega) )
    · refine r_iconst (pc := 45) hX 26 rfl ?_
      refine r_goto (pc := 46) hX 27 (tgt := 54) rfl (by decide) ?_
      exact (L54 (-1) (by omega) )
  · exact r_vret (pc := 9) hX 4 hQ rfl rfl (Nat.le_refl 0) (Nat.le_refl 0) ⟨rfl, rfl, FrW.rf, hH, rfl, trivial⟩
set_option maxHeartbeats 4000000 in
set_option maxRecDepth 100000 in
theorem c_X9_landDrawn (g : Gp) (ω : Rw) (v ρ : Mv) (Z : Mz) (hH : HT ω v ρ Z) (t : Int) (ht : ω t = 22) (hi : Int)  : Ok g 3 0 0 F_X9_landDrawn [(2, t), (0, hi)] v ρ Z (fun o9 v' ρ' Z' => ρ = ρ' ∧ Z = Z' ∧ v = v' ∧ ∃ r : Int, o9 = some (0, r) ∧ (0 ≤ r ∧ r ≤ 2)) := by
  refine Ok.of mo_X9_landDrawn (Nat.le_of_ble_eq_true rfl) ?_
  intro X hX hRm hxn hQ
  show wp g X F_X9_landDrawn 0 0 0 [(2, t), (0, hi), (3, 0), (3, 0), (3, 0), (3, 0)] [] v ρ Z
  refine r_iconst (pc := 0) hX 0 rfl ?_
  refine r_istore_n (ls' := [(2, t), (0, hi), (0, 0), (3, 0), (3, 0), (3, 0)]) (pc := 1) hX 1 rfl (by decide) rfl ?_
  refine r_iconst (pc := 2) hX 2 rfl ?_
  refine r_istore_n (ls' := [(2, t), (0, hi), (0, 0), (0, 0), (3, 0), (3, 0)]) (pc := 3) hX 3 rfl (by decide) rfl ?_
  have L4 : ∀ (n4 : Nat) (s l : Int) , (0 ≤ l ∧ l ≤ 3) → (inR s) → (3 - l).toNat < n4 → wp g X F_X9_landDrawn 0 0 4 [(2, t), (0, hi), (0, s), (0, l), (3, 0), (3, 0)] [] v ρ Z := by
    intro n4
    induction n4 with
    | zero => intro s l il is hme4; exact absurd hme4 (Nat.not_lt_zero _)
    | succ n4 ih4 =>
      intro s l il is hme4
      refine r_iload_n (pc := 4) hX 4 rfl rfl ?_
      refine t_getR (q := (ρ t 0)) (pc := 5) hX 5 rfl rfl rfl fl_X9_25 rfl (hH.kd ht (by decide)) (rfl) ?_
      have hw5_ : ω (ρ t 0) = 5 := hH.rf ht (by decide) rfl
      refine r_callV (as := []) (st := [(0, l)]) (K := 4) (pc := 9) hX 7 rfl mo_X4_rows ml_X9_66 im_X4_rows se_X4_rows (c_X4_rows g ω v ρ Z hH (ρ t 0) hw5_ ) rfl rfl rfl (hH.kd hw5_ (by decide)) (by rw [hRm]; exact ⟨by decide, by decide⟩) (by rw [hRm]; exact ⟨by decide, by decide⟩) (Nat.le_of_ble_eq_true rfl) (fun o9 v9 ρv9 Zv9 hq9 _ => ?_)
      obtain ⟨rfl, rfl, rfl, r9, rfl, hq9⟩ := hq9
      show wp g X F_X9_landDrawn 0 0 12 [(2, t), (0, hi), (0, s), (0, l), (3, 0), (3, 0)] [(0, r9), (0, l)] v ρ Z
      first | refine r_icmp_ge (pc := 12) hX 8 (tgt := 47) rfl (by decide) (⟨by omega, by omega⟩) (⟨by omega, by omega⟩) (fun h12 => ?_) (fun h12 => ?_) | refine r_icmp_ge_any (pc := 12) hX 8 (tgt := 47) rfl (by decide) ?_ ?_
      · refine r_iload_n (pc := 47) hX 27 rfl rfl ?_
        first | refine r_if_gt (pc := 48) hX 28 (tgt := 53) rfl (by decide) (⟨by omega, by omega⟩) (fun h48 => ?_) (fun h48 => ?_) | refine r_if_gt_any (pc := 48) hX 28 (tgt := 53) rfl (by decide) ?_ ?_
        · refine r_iload_n (pc := 53) hX 31 rfl rfl ?_
          refine r_iload_n (pc := 54) hX 32 rfl rfl ?_
          refine r_irem_any (pc := 55) hX 33 rfl (⟨by omega, by omega⟩) (by omega) (fun z55 hz55 => ?_)
          refine r_istore_n (ls' := [(2, t), (0, hi), (0, s), (0, z55), (3, 0), (3, 0)]) (pc := 56) hX 34 rfl (by decide) rfl ?_
          refine r_iconst (pc := 57) hX 35 rfl ?_
          refine r_istore (ls' := [(2, t), (0, hi), (0, s), (0, z55), (0, 0), (3, 0)]) (pc := 58) hX 36 rfl (by decide) rfl ?_
          have L60 : ∀ (n60 : Nat) (rs l : Int) , (0 ≤ l ∧ l ≤ 3) → (3 - l).toNat < n60 → wp g X F_X9_landDrawn 0 0 60 [(2, t), (0, hi), (0, s), (0, rs), (0, l), (3, 0)] [] v ρ Z := by
            intro n60
            induction n60 with
            | zero => intro rs l il hme60; exact absurd hme60 (Nat.not_lt_zero _)
            | succ n60 ih60 =>
              intro rs l il hme60
              refine r_iload (pc := 60) hX 37 rfl rfl ?_
              refine t_getR (q := (ρ t 0)) (pc := 62) hX 38 rfl rfl rfl fl_X9_25 rfl (hH.kd ht (by decide)) (rfl) ?_
              refine r_callV (as := []) (st := [(0, l)]) (K := 4) (pc := 66) hX 40 rfl mo_X4_rows ml_X9_66 im_X4_rows se_X4_rows (c_X4_rows g ω v ρ Z hH (ρ t 0) hw5_ ) rfl rfl rfl (hH.kd hw5_ (by decide)) (by rw [hRm]; exact ⟨by decide, by decide⟩) (by rw [hRm]; exact ⟨by decide, by decide⟩) (Nat.le_of_ble_eq_true rfl) (fun o66 v66 ρv66 Zv66 hq66 _ => ?_)
              obtain ⟨rfl, rfl, rfl, r66, rfl, hq66⟩ := hq66
              show wp g X F_X9_landDrawn 0 0 69 [(2, t), (0, hi), (0, s), (0, rs), (0, l), (3, 0)] [(0, r66), (0, l)] v ρ Z
              first | refine r_icmp_ge (pc := 69) hX 41 (tgt := 119) rfl (by decide) (⟨by omega, by omega⟩) (⟨by omega, by omega⟩) (fun h69 => ?_) (fun h69 => ?_) | refine r_icmp_ge_any (pc := 69) hX 41 (tgt := 119) rfl (by decide) ?_ ?_
              · refine r_iconst (pc := 119) hX 67 rfl ?_
                exact r_iret (pc := 120) hX 68 hQ rfl rfl (Nat.le_refl 0) (Nat.le_refl 0) ⟨rfl, rfl, rfl, 0, rfl, (by omega)⟩
              · refine r_aload_n (pc := 72) hX 42 rfl rfl ?_
                refine r_iload (pc := 73) hX 43 rfl rfl ?_
                refine r_callV (as := [(0, l)]) (st := []) (K := 9) (pc := 75) hX 44 rfl mo_X9_weightOf ml_X9_70 im_X9_weightOf se_X9_weightOf (c_X9_weightOf g ω v ρ Z hH t ht (l) (by omega)) rfl rfl rfl (hH.kd ht (by decide)) (by rw [hRm]; exact ⟨by decide, by decide⟩) (by rw [hRm]; exact ⟨by decide, by decide⟩) (Nat.le_of_ble_eq_true rfl) (fun o75 v75 ρv75 Zv75 hq75 _ => ?_)
                obtain ⟨rfl, rfl, rfl, r75, rfl, hq75⟩ := hq75
                show wp g X F_X9_landDrawn 0 0 78 [(2, t), (0, hi), (0, s), (0, rs), (0, l), (3, 0)] [(1, r75)] v ρ Z
                refine r_lconst (pc := 78) hX 45 rfl ?_
                show wp g X F_X9_landDrawn 0 0 79 [(2, t), (0, hi), (0, s), (0, rs), (0, l), (3, 0)] [(1, 0), (1, r75)] v ρ Z
                refine r_lcmp_any (pc := 79) hX 46 rfl (fun z79 hz79a hz79b => ?_)
                have L97 : ∀ (ch : Int) , wp g X F_X9_landDrawn 0 0 97 [(2, t), (0, hi), (0, s), (0, rs), (0, l), (3, 0)] [(0, ch)] v ρ Z := by
                  intro ch
                  refine r_istore (ls' := [(2, t), (0, hi), (0, s), (0, rs), (0, l), (0, ch)]) (pc := 97) hX 55 rfl (by decide) rfl ?_
                  refine r_iload_n (pc := 99) hX 56 rfl rfl ?_
                  refine r_iload (pc := 100) hX 57 rfl rfl ?_
                  first | refine r_icmp_ge (pc := 102) hX 58 (tgt := 108) rfl (by decide) (⟨by omega, by omega⟩) (⟨by omega, by omega⟩) (fun h102 => ?_) (fun h102 => ?_) | refine r_icmp_ge_any (pc := 102) hX 58 (tgt := 108) rfl (by decide) ?_ ?_
                  · refine r_iload_n (pc := 108) hX 61 rfl rfl ?_
                    refine r_iload (pc := 109) hX 62 rfl rfl ?_
                    refine r_isub (pc := 111) hX 63 rfl ?_
                    refine r_istore_n (ls' := [(2, t), (0, hi), (0, s), (0, (rs - ch)), (0, l), (0, ch)]) (pc := 112) hX 64 rfl (by decide) rfl ?_
                    refine r_iinc (ls' := [(2, t), (0, hi), (0, s), (0, (rs - ch)), (0, (l + 1)), (0, ch)]) (pc := 113) hX 65 rfl rfl (by decide) rfl ?_
                    refine r_goto (pc := 116) hX 66 (tgt := 60) rfl (by decide) ?_
                    refine r_wk (ls' := [(2, t), (0, hi), (0, s), (0, (rs - ch)), (0, (l + 1)), (3, 0)]) ⟨Or.inr rfl, Or.inr rfl, Or.inr rfl, Or.inr rfl, Or.inr rfl, Or.inl rfl, trivial⟩ ?_
                    exact (ih60 (rs - ch) (l + 1) (by omega) (by omega))
                  · refine r_iload (pc := 105) hX 59 rfl rfl ?_
                    exact r_iret (pc := 107) hX 60 hQ rfl rfl (Nat.le_refl 0) (Nat.le_refl 0) ⟨rfl, rfl, rfl, l, rfl, (by omega)⟩
                first | refine r_if_le (pc := 80) hX 47 (tgt := 96) rfl (by decide) (⟨by omega, by omega⟩) (fun h80 => ?_) (fun h80 => ?_) | refine r_if_le_any (pc := 80) hX 47 (tgt := 96) rfl (by decide) ?_ ?_
                · refine r_iconst (pc := 96) hX 54 rfl ?_
                  exact (L97 0  )
                · refine t_getR (q := (ρ t 0)) (pc := 83) hX 48 rfl rfl rfl fl_X9_25 rfl (hH.kd ht (by decide)) (rfl) ?_
                  refine r_getR (q := (ρ (ρ t 0) 4)) (pc := 87) hX 50 rfl fl_X9_56 rfl (hH.kd hw5_ (by decide)) (rfl) ?_
                  have hw87_ : ω (ρ (ρ t 0) 4) = 11 := hH.rf hw5_ (by decide) rfl
                  refine r_iload (pc := 90) hX 51 rfl rfl ?_
                  refine e_iald (y := (v (ρ (ρ t 0) 4) l)) (n := 3) (pc := 92) hX 52 rfl (hH.kd hw87_ (by decide)) (hH.ln hw87_ (by decide)) (by omega) (by omega) (rfl) ?_
                  have hb92 : 0 ≤ (v (ρ (ρ t 0) 4) l) ∧ (v (ρ (ρ t 0) 4) l) ≤ 9 := hH.rg hw87_ (by decide) rfl
                  refine r_goto (pc := 93) hX 53 (tgt := 97) rfl (by decide) ?_
                  exact (L97 (v (ρ (ρ t 0) 4) l)  )
          exact (L60 _ z55 0 (by omega) (Nat.lt_succ_self _))
        · refine r_iconst (pc := 51) hX 29 rfl ?_
          exact r_iret (pc := 52) hX 30 hQ rfl rfl (Nat.le_refl 0) (Nat.le_refl 0) ⟨rfl, rfl, rfl, 0, rfl, (by omega)⟩
      · refine r_iload_n (pc := 15) hX 9 rfl rfl ?_
        refine r_aload_n (pc := 16) hX 10 rfl rfl ?_
        refine r_iload_n (pc := 17) hX 11 rfl rfl ?_
        refine r_callV (as := [(0, l)]) (st := [(0, s)]) (K := 9) (pc := 18) hX 12 rfl mo_X9_weightOf ml_X9_70 im_X9_weightOf se_X9_weightOf (c_X9_weightOf g ω v ρ Z hH t ht (l) (by omega)) rfl rfl rfl (hH.kd ht (by decide)) (by rw [hRm]; exact ⟨by decide, by decide⟩) (by rw [hRm]; exact ⟨by decide, by decide⟩) (Nat.le_of_ble_eq_true rfl) (fun o18 v18 ρv18 Zv18 hq18 _ => ?_)
        obtain ⟨rfl, rfl, rfl, r18, rfl, hq18⟩ := hq18
        show wp g X F_X9_landDrawn 0 0 21 [(2, t), (0, hi), (0, s), (0, l), (3, 0), (3, 0)] [(1, r18), (0, s)] v ρ Z
        refine r_lconst (pc := 21) hX 13 rfl ?_
        show wp g X F_X9_landDrawn 0 0 22 [(2, t), (0, hi), (0, s), (0, l), (3, 0), (3, 0)] [(1, 0), (1, r18), (0, s)] v ρ Z
        refine r_lcmp_any (pc := 22) hX 14 rfl (fun z22 hz22a hz22b => ?_)
        have L39 : ∀ (ch : Int) , wp g X F_X9_landDrawn 0 0 39 [(2, t), (0, hi), (0, s), (0, l), (3, 0), (3, 0)] [(0, ch), (0, s)] v ρ Z := by
          intro ch
          refine r_iadd (pc := 39) hX 23 rfl ?_
          refine r_iany _ (fun z39 hz39 => ?_)
          refine r_istore_n (ls' := [(2, t), (0, hi), (0, z39), (0, l), (3, 0), (3, 0)]) (pc := 40) hX 24 rfl (by decide) rfl ?_
          refine r_iinc (ls' := [(2, t), (0, hi), (0, z39), (0, (l + 1)), (3, 0), (3, 0)]) (pc := 41) hX 25 rfl rfl (by decide) rfl ?_
          refine r_goto (pc := 44) hX 26 (tgt := 4) rfl (by decide) ?_
          exact (ih4 z39 (l + 1) (by omega) (by omega) (by omega))
        first | refine r_if_le (pc := 23) hX 15 (tgt := 38) rfl (by decide) (⟨by omega, by omega⟩) (fun h23 => ?_) (fun h23 => ?_) | refine r_if_le_any (pc := 23) hX 15 (tgt := 38) rfl (by decide) ?_ ?_
        · refine r_iconst (pc := 38) hX 22 rfl ?_
          exact (L39 0  )
        · refine t_getR (q := (ρ t 0)) (pc := 26) hX 16 rfl rfl rfl fl_X9_25 rfl (hH.kd ht (by decide)) (rfl) ?_
          refine r_getR (q := (ρ (ρ t 0) 4)) (pc := 30) hX 18 rfl fl_X9_56 rfl (hH.kd hw5_ (by decide)) (rfl) ?_
          have hw30_ : ω (ρ (ρ t 0) 4) = 11 := hH.rf hw5_ (by decide) rfl
          refine r_iload_n (pc := 33) hX 19 rfl rfl ?_
          refine e_iald (y := (v (ρ (ρ t 0) 4) l)) (n := 3) (pc := 34) hX 20 rfl (hH.kd hw30_ (by decide)) (hH.ln hw30_ (by decide)) (by omega) (by omega) (rfl) ?_
          have hb34 : 0 ≤ (v (ρ (ρ t 0) 4) l) ∧ (v (ρ (ρ t 0) 4) l) ≤ 9 := hH.rg hw30_ (by decide) rfl
          refine r_goto (pc := 35) hX 21 (tgt := 39) rfl (by decide) ?_
          exact (L39 (v (ρ (ρ t 0) 4) l)  )
  exact (L4 _ 0 0 (by omega) (by omega) (Nat.lt_succ_self _))
set_option maxHeartbeats 4000000 in
set_option maxRecDepth 100000 in
theorem c_X9_driveOn (g : Gp) (ω : Rw) (v ρ : Mv) (Z : Mz) (hH : HT ω v ρ Z) (t : Int) (ht : ω t = 22) (sd : Int)  : Ok g 4 0 0 F_X9_driveOn [(2, t), (0, sd)] v ρ Z (fun o9 v' ρ' Z' => ρ = ρ' ∧ Z = Z' ∧ FrW ω [22, 23, 26] v v' ∧ HT ω v' ρ Z ∧ o9 = none ∧ True) := by
  refine Ok.of mo_X9_driveOn (Nat.le_of_ble_eq_true rfl) ?_
  intro X hX hRm hxn hQ
  show wp g X F_X9_driveOn 0 0 0 [(2, t), (0, sd), (3, 0), (3, 0), (3, 0)] [] v ρ Z
  have hwr : ω (ρ t 0) = 5 := hH.rf ht (by decide) rfl
  have hg10 : 0 ≤ v (ρ t 0) 10 ∧ v (ρ t 0) 10 ≤ 3 := hH.rg hwr (by decide) rfl
  refine r_iload_n (pc := 0) hX 0 rfl rfl ?_
  refine r_ldc (y := 1103515245) (pc := 1) hX 1 rfl ki_X9_111 (by decide) ?_
  refine r_imul (pc := 3) hX 2 rfl ?_
  refine r_sipush (pc := 4) hX 3 rfl (by decide) ?_
  refine r_iadd (pc := 7) hX 4 rfl ?_
  refine r_istore_n (ls' := [(2, t), (0, sd), (0, ((sd * 1103515245) + 12345)), (3, 0), (3, 0)]) (pc := 8) hX 5 rfl (by decide) rfl ?_
  refine r_aload_n (pc := 9) hX 6 rfl rfl ?_
  refine r_iload_n (pc := 10) hX 7 rfl rfl ?_
  refine r_bipush (pc := 11) hX 8 rfl (by decide) ?_
  refine r_iushr8 (pc := 13) hX 9 rfl (fun z13 hz13a hz13b => ?_)
  refine r_callV (as := [(0, z13)]) (st := []) (K := 9) (pc := 14) hX 10 rfl mo_X9_landDrawn ml_X9_112 im_X9_landDrawn se_X9_landDrawn (c_X9_landDrawn g ω v ρ Z hH t ht (z13) ) rfl rfl rfl (hH.kd ht (by decide)) (by rw [hRm]; exact ⟨by decide, by decide⟩) (by rw [hRm]; exact ⟨by decide, by decide⟩) (Nat.le_of_ble_eq_true rfl) (fun o14 v14 ρv14 Zv14 hq14 _ => ?_)
  obtain ⟨rfl, rfl, rfl, r14, rfl, hq14⟩ := hq14
  show wp g X F_X9_driveOn 0 0 17 [(2, t), (0, sd), (0, ((sd * 1103515245) + 12345)), (3, 0), (3, 0)] [(0, r14)] v ρ Z
  refine r_istore_n (ls' := [(2, t), (0, sd), (0, ((sd * 1103515245) + 12345)), (0, r14), (3, 0)]) (pc := 17) hX 11 rfl (by decide) rfl ?_
  refine r_iconst (pc := 18) hX 12 rfl ?_
  refine r_istore (ls' := [(2, t), (0, sd), (0, ((sd * 1103515245) + 12345)), (0, r14), (0, 0)]) (pc := 19) hX 13 rfl (by decide) rfl ?_
  have L21 : ∀ (n21 : Nat) (dr i : Int) (v21 : Mv) , (FrW ω [22, 23, 26] v v21) → (HT ω v21 ρ Z) → (0 ≤ i ∧ i ≤ 12) → (12 - i).toNat < n21 → wp g X F_X9_driveOn 0 0 21 [(2, t), (0, sd), (0, dr), (0, r14), (0, i)] [] v21 ρ Z := by
    intro n21
    induction n21 with
    | zero => intro dr i v21 hfr21 hH21 ii hme21; exact absurd hme21 (Nat.not_lt_zero _)
    | succ n21 ih21 =>
      intro dr i v21 hfr21 hH21 ii hme21
      refine r_iload (pc := 21) hX 14 rfl rfl ?_
      refine r_bipush (pc := 23) hX 15 rfl (by decide) ?_
      first | refine r_icmp_ge (pc := 25) hX 16 (tgt := 69) rfl (by decide) (⟨by omega, by omega⟩) (⟨by omega, by omega⟩) (fun h25 => ?_) (fun h25 => ?_) | refine r_icmp_ge_any (pc := 25) hX 16 (tgt := 69) rfl (by decide) ?_ ?_
      · exact r_vret (pc := 69) hX 39 hQ rfl rfl (Nat.le_refl 0) (Nat.le_refl 0) ⟨rfl, rfl, hfr21, hH21, rfl, trivial⟩
      · refine r_aload_n (pc := 28) hX 17 rfl rfl ?_
        refine r_callV (as := []) (st := []) (K := 9) (pc := 29) hX 18 rfl mo_X9_isOver ml_X9_86 im_X9_isOver se_X9_isOver (c_X9_isOver g ω v21 ρ Z hH21 t ht ) rfl rfl rfl (hH21.kd ht (by decide)) (by rw [hRm]; exact ⟨by decide, by decide⟩) (by rw [hRm]; exact ⟨by decide, by decide⟩) (Nat.le_of_ble_eq_true rfl) (fun o29 v29 ρv29 Zv29 hq29 _ => ?_)
        obtain ⟨rfl, rfl, rfl, r29, rfl, hq29⟩ := hq29
        have hw29_ : ω (ρ t 0) = 5 := hH.rf ht (by decide) rfl
        have hwf1_ : ω (ρ t 6) = 26 := hH.rf ht (by decide) rfl
        try rw [show (v21 (ρ t 0) 10) = (v (ρ t 0) 10) from (hfr21.at hw29_ (by decide) 10).trans (rfl)] at hq29
        try rw [show (v21 (ρ t 0) 11) = (v (ρ t 0) 11) from (hfr21.at hw29_ (by decide) 11).trans (rfl)] at hq29
        try rw [show (v21 (ρ t 0) 12) = (v (ρ t 0) 12) from (hfr21.at hw29_ (by decide) 12).trans (rfl)] at hq29
        show wp g X F_X9_driveOn 0 0 32 [(2, t), (0, sd), (0, dr), (0, r14), (0, i)] [(0, r29)] v21 ρ Z
        first | refine r_if_ne (pc := 32) hX 19 (tgt := 69) rfl (by decide) (⟨by omega, by omega⟩) (fun h32 => ?_) (fun h32 => ?_) | refine r_if_ne_any (pc := 32) hX 19 (tgt := 69) rfl (by decide) ?_ ?_
        · exact r_vret (pc := 69) hX 39 hQ rfl rfl (Nat.le_refl 0) (Nat.le_refl 0) ⟨rfl, rfl, hfr21, hH21, rfl, trivial⟩
        · refine r_iload_n (pc := 35) hX 20 rfl rfl ?_
          refine r_ldc (y := 1103515245) (pc := 36) hX 21 rfl ki_X9_111 (by decide) ?_
          refine r_imul (pc := 38) hX 22 rfl ?_
          refine r_sipush (pc := 39) hX 23 rfl (by decide) ?_
          refine r_iadd (pc := 42) hX 24 rfl ?_
          refine r_istore_n (ls' := [(2, t), (0, sd), (0, ((dr * 1103515245) + 12345)), (0, r14), (0, i)]) (pc := 43) hX 25 rfl (by decide) rfl ?_
          refine r_aload_n (pc := 44) hX 26 rfl rfl ?_
          refine t_getR (q := (ρ t 0)) (pc := 45) hX 27 rfl rfl rfl fl_X9_25 rfl (hH21.kd ht (by decide)) (rfl) ?_
          refine r_iload_n (pc := 49) hX 29 rfl rfl ?_
          refine r_iload_n (pc := 50) hX 30 rfl rfl ?_
          refine r_bipush (pc := 51) hX 31 rfl (by decide) ?_
          refine r_iushr8 (pc := 53) hX 32 rfl (fun z53 hz53a hz53b => ?_)
          refine r_bipush (pc := 54) hX 33 rfl (by decide) ?_
          refine r_irem_any (pc := 56) hX 34 rfl (⟨by omega, by omega⟩) (by omega) (fun z56 hz56 => ?_)
          refine r_callV (as := [(0, r14), (0, z56)]) (st := [(2, t)]) (K := 4) (pc := 57) hX 35 rfl mo_X4_kindDrawn ml_X9_115 im_X4_kindDrawn se_X4_kindDrawn (c_X4_kindDrawn g ω v21 ρ Z hH21 (ρ t 0) hw29_ (r14) (z56) (by omega)) rfl rfl rfl (hH21.kd hw29_ (by decide)) (by rw [hRm]; exact ⟨by decide, by decide⟩) (by rw [hRm]; exact ⟨by decide, by decide⟩) (Nat.le_of_ble_eq_true rfl) (fun o57 v57 ρv57 Zv57 hq57 _ => ?_)
          obtain ⟨rfl, rfl, rfl, r57, rfl, hq57⟩ := hq57
          show wp g X F_X9_driveOn 0 0 60 [(2, t), (0, sd), (0, ((dr * 1103515245) + 12345)), (0, r14), (0, i)] [(0, r57), (2, t)] v21 ρ Z
          refine r_callV (as := [(0, r57)]) (st := []) (K := 9) (pc := 60) hX 36 rfl mo_X9_doCome ml_X9_118 im_X9_doCome se_X9_doCome (c_X9_doCome g ω v21 ρ Z hH21 t ht (r57) (by omega) (by rw [hfr21.at hwr (by decide) 10, hfr21.at hwr (by decide) 11]; exact hq29.2 (by omega))) rfl rfl rfl (hH21.kd ht (by decide)) (by rw [hRm]; exact ⟨by decide, by decide⟩) (by rw [hRm]; exact ⟨by decide, by decide⟩) (Nat.le_of_ble_eq_true rfl) (fun o60 v60 ρv60 Zv60 hq60 _ => ?_)
          obtain ⟨rfl, rfl, hfr60, hH60, rfl, hq60⟩ := hq60
          show wp g X F_X9_driveOn 0 0 63 [(2, t), (0, sd), (0, ((dr * 1103515245) + 12345)), (0, r14), (0, i)] [] v60 ρ Z
          refine r_iinc (ls' := [(2, t), (0, sd), (0, ((dr * 1103515245) + 12345)), (0, r14), (0, (i + 1))]) (pc := 63) hX 37 rfl rfl (by decide) rfl ?_
          refine r_goto (pc := 66) hX 38 (tgt := 21) rfl (by decide) ?_
          exact (ih21 ((dr * 1103515245) + 12345) (i + 1) v60 ((hfr21).tr hfr60 (by decide)) (hH60) (by omega) (by omega))
  exact (L21 _ ((sd * 1103515245) + 12345) 0 v (FrW.rf) (hH) (by omega) (Nat.lt_succ_self _))
set_option maxHeartbeats 4000000 in
set_option maxRecDepth 100000 in
theorem c_X9_begin (g : Gp) (ω : Rw) (v ρ : Mv) (Z : Mz) (hH : HT ω v ρ Z) (t : Int) (ht : ω t = 22) (o : Int) (ho : ω o = 5)  : Ok g 1 0 0 F_X9_begin [(2, t), (2, o)] v ρ Z (fun o9 v' ρ' Z' => Z = Z' ∧ FrW ω [22, 24, 25, 26] v v' ∧ FrW ω [22] ρ ρ' ∧ HT ω v' ρ' Z ∧ o9 = none ∧ True) := by
  refine Ok.of mo_X9_begin (Nat.le_of_ble_eq_true rfl) ?_
  intro X hX hRm hxn hQ
  show wp g X F_X9_begin 0 0 0 [(2, t), (2, o), (3, 0)] [] v ρ Z
  refine r_aload_n (pc := 0) hX 0 rfl rfl ?_
  refine r_aload_n (pc := 1) hX 1 rfl rfl ?_
  refine r_putR (pc := 2) hX 2 rfl fl_X9_25 rfl (fun _ h => by cases h; rfl) (hH.kd ht (by decide)) (hH.g4 ht (by decide)) ?_
  have hH_2 : HT ω v (up ρ t 0 o) Z := hH.uf ht rfl ho rfl
  show wp g X F_X9_begin 0 0 5 [(2, t), (2, o), (3, 0)] [] v (up ρ t 0 o) Z
  refine r_aload_n (pc := 5) hX 3 rfl rfl ?_
  refine r_dup (pc := 6) hX 4 rfl (show (2 : Nat) ≠ 1 by decide) ?_
  refine e_getI (y := (v t 1)) (pc := 7) hX 5 rfl fl_X9_29 rfl (hH_2.kd ht (by decide)) (rfl) ?_
  refine r_iconst (pc := 10) hX 6 rfl ?_
  refine r_iadd (pc := 11) hX 7 rfl ?_
  refine r_putI (pc := 12) hX 8 rfl fl_X9_29 rfl (fun _ h => by cases h; rfl) (hH_2.kd ht (by decide)) (hH_2.g4 ht (by decide)) ?_
  have hH_12 : HT ω (up v t 1 ((v t 1) + 1)) (up ρ t 0 o) Z := hH_2.up0 ht (by decide) rfl
  show wp g X F_X9_begin 0 0 15 [(2, t), (2, o), (3, 0)] [] (up v t 1 ((v t 1) + 1)) (up ρ t 0 o) Z
  refine r_aload_n (pc := 15) hX 9 rfl rfl ?_
  refine r_iconst (pc := 16) hX 10 rfl ?_
  refine r_putI (pc := 17) hX 11 rfl fl_X9_33 rfl (fun _ h => by cases h; rfl) (hH_12.kd ht (by decide)) (hH_12.g4 ht (by decide)) ?_
  have hH_17 : HT ω (up (up v t 1 ((v t 1) + 1)) t 2 0) (up ρ t 0 o) Z := hH_12.upR ht (by decide) rfl (by omega) (by omega)
  show wp g X F_X9_begin 0 0 20 [(2, t), (2, o), (3, 0)] [] (up (up v t 1 ((v t 1) + 1)) t 2 0) (up ρ t 0 o) Z
  refine r_iconst (pc := 20) hX 12 rfl ?_
  refine r_istore_n (ls' := [(2, t), (2, o), (0, 0)]) (pc := 21) hX 13 rfl (by decide) rfl ?_
  have L22 : ∀ (n22 : Nat) (i : Int) (v22 : Mv) (ρ22 : Mv) , (FrW ω [22, 24, 25, 26] v v22) → (FrW ω [22] ρ ρ22) → (HT ω v22 ρ22 Z) → (0 ≤ i ∧ i ≤ 3) → (3 - i).toNat < n22 → wp g X F_X9_begin 0 0 22 [(2, t), (2, o), (0, i)] [] v22 ρ22 Z := by
    intro n22
    induction n22 with
    | zero => intro i v22 ρ22 hfr22 hfrR22 hH22 ii hme22; exact absurd hme22 (Nat.not_lt_zero _)
    | succ n22 ih22 =>
      intro i v22 ρ22 hfr22 hfrR22 hH22 ii hme22
      refine r_iload_n (pc := 22) hX 14 rfl rfl ?_
      refine r_iconst (pc := 23) hX 15 rfl ?_
      first | refine r_icmp_ge (pc := 24) hX 16 (tgt := 59) rfl (by decide) (⟨by omega, by omega⟩) (⟨by omega, by omega⟩) (fun h24 => ?_) (fun h24 => ?_) | refine r_icmp_ge_any (pc := 24) hX 16 (tgt := 59) rfl (by decide) ?_ ?_
      · exact r_vret (pc := 59) hX 37 hQ rfl rfl (Nat.le_refl 0) (Nat.le_refl 0) ⟨rfl, hfr22, hfrR22, hH22, rfl, trivial⟩
      · refine t_getR (q := (ρ22 t 4)) (pc := 27) hX 17 rfl rfl rfl fl_X9_15 rfl (hH22.kd ht (by decide)) (rfl) ?_
        have hw27_ : ω (ρ22 t 4) = 24 := hH22.rf ht (by decide) rfl
        refine r_iload_n (pc := 31) hX 19 rfl rfl ?_
        refine r_iconst (pc := 32) hX 20 rfl ?_
        refine e_iast (n := 3) (pc := 33) hX 21 rfl (hH22.kd hw27_ (by decide)) (hH22.ln hw27_ (by decide)) (hH22.g4 hw27_ (by decide)) (by omega) (by omega) ?_
        have hH_33 : HT ω (up v22 (ρ22 t 4) i (-1)) ρ22 Z := hH22.upR hw27_ (by decide) rfl (by omega) (by omega)
        refine t_getR (q := (ρ22 t 5)) (pc := 34) hX 22 rfl rfl rfl fl_X9_18 rfl (hH_33.kd ht (by decide)) (rfl) ?_
        have hw34_ : ω (ρ22 t 5) = 25 := hH22.rf ht (by decide) rfl
        refine r_iload_n (pc := 38) hX 24 rfl rfl ?_
        refine r_iconst (pc := 39) hX 25 rfl ?_
        refine e_zast (n := 3) (pc := 40) hX 26 rfl (hH_33.kd hw34_ (by decide)) (hH_33.ln hw34_ (by decide)) (hH_33.g4 hw34_ (by decide)) (by omega) (by omega) ⟨by omega, by omega⟩ ?_
        have hH_40 : HT ω (up (up v22 (ρ22 t 4) i (-1)) (ρ22 t 5) i 0) ρ22 Z := hH_33.up0 hw34_ (by decide) rfl
        refine t_getR (q := (ρ22 t 6)) (pc := 41) hX 27 rfl rfl rfl fl_X9_22 rfl (hH_40.kd ht (by decide)) (rfl) ?_
        have hw41_ : ω (ρ22 t 6) = 26 := hH22.rf ht (by decide) rfl
        refine r_iload_n (pc := 45) hX 29 rfl rfl ?_
        refine r_aload_n (pc := 46) hX 30 rfl rfl ?_
        refine r_getR (q := (ρ o 7)) (pc := 47) hX 31 rfl fl_X9_36 rfl (hH_40.kd ho (by decide)) ((hfrR22.at ho (by decide) 7).trans (rfl)) ?_
        have hw47_ : ω (ρ o 7) = 14 := hH.rf ho (by decide) rfl
        refine r_iload_n (pc := 50) hX 32 rfl rfl ?_
        refine e_iald (y := (v (ρ o 7) i)) (n := 3) (pc := 51) hX 33 rfl (hH_40.kd hw47_ (by decide)) (hH_40.ln hw47_ (by decide)) (by omega) (by omega) ((up_r (rne hw47_ hw34_ (by decide))).trans ((up_r (rne hw47_ hw27_ (by decide))).trans ((hfr22.at hw47_ (by decide) i).trans (rfl)))) ?_
        have hb51 : 0 ≤ (v (ρ o 7) i) ∧ (v (ρ o 7) i) ≤ 8 := hH.rg hw47_ (by decide) rfl
        refine e_iast (n := 3) (pc := 52) hX 34 rfl (hH_40.kd hw41_ (by decide)) (hH_40.ln hw41_ (by decide)) (hH_40.g4 hw41_ (by decide)) (by omega) (by omega) ?_
        have hH_52 : HT ω (up (up (up v22 (ρ22 t 4) i (-1)) (ρ22 t 5) i 0) (ρ22 t 6) i (v (ρ o 7) i)) ρ22 Z := hH_40.upR hw41_ (by decide) rfl (by omega) (by omega)
        refine r_iinc (ls' := [(2, t), (2, o), (0, (i + 1))]) (pc := 53) hX 35 rfl rfl (by decide) rfl ?_
        refine r_goto (pc := 56) hX 36 (tgt := 22) rfl (by decide) ?_
        exact (ih22 (i + 1) (up (up (up v22 (ρ22 t 4) i (-1)) (ρ22 t 5) i 0) (ρ22 t 6) i (v (ρ o 7) i)) ρ22 ((((hfr22).up (r := (ρ22 t 4)) hw27_ (by decide)).up (r := (ρ22 t 5)) hw34_ (by decide)).up (r := (ρ22 t 6)) hw41_ (by decide)) (hfrR22) (hH_52) (by omega) (by omega))
  exact (L22 _ 0 (up (up v t 1 ((v t 1) + 1)) t 2 0) (up ρ t 0 o) (((FrW.rf).up (r := t) ht (by decide)).up (r := t) ht (by decide)) ((FrW.rf).up (r := t) ht (by decide)) (hH_17) (by omega) (Nat.lt_succ_self _))
set_option maxHeartbeats 4000000 in
set_option maxRecDepth 100000 in
theorem c_X9_copyFrom (g : Gp) (ω : Rw) (v ρ : Mv) (Z : Mz) (hH : HT ω v ρ Z) (t : Int) (ht : ω t = 22) (o : Int) (ho : ω o = 66)  : Ok g 2 0 0 F_X9_copyFrom [(2, t), (2, o)] v ρ Z (fun o9 v' ρ' Z' => Z = Z' ∧ FrW ω [22, 23, 24, 25, 26] v v' ∧ FrW ω [22] ρ ρ' ∧ HT ω v' ρ' Z ∧ o9 = none ∧ True) := by
  refine Ok.of mo_X9_copyFrom (Nat.le_of_ble_eq_true rfl) ?_
  intro X hX hRm hxn hQ
  show wp g X F_X9_copyFrom 0 0 0 [(2, t), (2, o), (3, 0)] [] v ρ Z
  refine r_aload_n (pc := 0) hX 0 rfl rfl ?_
  refine r_aload_n (pc := 1) hX 1 rfl rfl ?_
  refine r_getR (q := (ρ o 0)) (pc := 2) hX 2 rfl fl_X9_25 rfl (hH.kd ho (by decide)) (rfl) ?_
  have hw2_ : ω (ρ o 0) = 5 := hH.rf ho (by decide) rfl
  refine r_putR (pc := 5) hX 3 rfl fl_X9_25 rfl (fun _ h => by cases h; rfl) (hH.kd ht (by decide)) (hH.g4 ht (by decide)) ?_
  have hH_5 : HT ω v (up ρ t 0 (ρ o 0)) Z := hH.uf ht rfl hw2_ rfl
  show wp g X F_X9_copyFrom 0 0 8 [(2, t), (2, o), (3, 0)] [] v (up ρ t 0 (ρ o 0)) Z
  refine r_aload_n (pc := 8) hX 4 rfl rfl ?_
  refine r_dup (pc := 9) hX 5 rfl (show (2 : Nat) ≠ 1 by decide) ?_
  refine e_getI (y := (v t 1)) (pc := 10) hX 6 rfl fl_X9_29 rfl (hH_5.kd ht (by decide)) (rfl) ?_
  refine r_iconst (pc := 13) hX 7 rfl ?_
  refine r_iadd (pc := 14) hX 8 rfl ?_
  refine r_putI (pc := 15) hX 9 rfl fl_X9_29 rfl (fun _ h => by cases h; rfl) (hH_5.kd ht (by decide)) (hH_5.g4 ht (by decide)) ?_
  have hH_15 : HT ω (up v t 1 ((v t 1) + 1)) (up ρ t 0 (ρ o 0)) Z := hH_5.up0 ht (by decide) rfl
  show wp g X F_X9_copyFrom 0 0 18 [(2, t), (2, o), (3, 0)] [] (up v t 1 ((v t 1) + 1)) (up ρ t 0 (ρ o 0)) Z
  refine r_aload_n (pc := 18) hX 10 rfl rfl ?_
  refine r_aload_n (pc := 19) hX 11 rfl rfl ?_
  refine e_getI (y := (v o 2)) (pc := 20) hX 12 rfl fl_X9_33 rfl (hH_15.kd ho (by decide)) ((up_k (by decide)).trans (rfl)) ?_
  have hb20 : 0 ≤ (v o 2) ∧ (v o 2) ≤ 12 := hH.rg ho (by decide) rfl
  refine r_putI (pc := 23) hX 13 rfl fl_X9_33 rfl (fun _ h => by cases h; rfl) (hH_15.kd ht (by decide)) (hH_15.g4 ht (by decide)) ?_
  have hH_23 : HT ω (up (up v t 1 ((v t 1) + 1)) t 2 (v o 2)) (up ρ t 0 (ρ o 0)) Z := hH_15.upR ht (by decide) rfl (by omega) (by omega)
  show wp g X F_X9_copyFrom 0 0 26 [(2, t), (2, o), (3, 0)] [] (up (up v t 1 ((v t 1) + 1)) t 2 (v o 2)) (up ρ t 0 (ρ o 0)) Z
  refine r_aload_n (pc := 26) hX 14 rfl rfl ?_
  refine r_getR (q := (ρ o 3)) (pc := 27) hX 15 rfl fl_X9_9 rfl (hH_23.kd ho (by decide)) ((up_k (by decide)).trans (rfl)) ?_
  have hw27_ : ω (ρ o 3) = 67 := hH.rf ho (by decide) rfl
  refine r_iconst (pc := 30) hX 16 rfl ?_
  refine t_getR (q := (ρ t 3)) (pc := 31) hX 17 rfl rfl rfl fl_X9_9 rfl (hH_23.kd ht (by decide)) ((up_k (by decide)).trans (rfl)) ?_
  have hw31_ : ω (ρ t 3) = 23 := hH.rf ht (by decide) rfl
  refine r_iconst (pc := 35) hX 19 rfl ?_
  refine r_bipush (pc := 36) hX 20 rfl (by decide) ?_
  refine r_copy (na := 12) (nd := 12) (pc := 38) hX 21 13 12 rfl ml_X9_41 (by decide) (hH_23.kd hw27_ (by decide)) (hH_23.kd hw31_ (by decide)) (hH_23.g4 hw27_ (by decide)) (hH_23.g4 hw31_ (by decide)) (by decide) (hH_23.ln hw27_ (by decide)) (hH_23.ln hw31_ (by decide)) (by decide) (by decide) (by rw [hRm]; exact ⟨by decide, by decide, by decide, by decide⟩) (Nat.le_of_ble_eq_true rfl) ?_
  have hH_38 : HT ω (cpM (up (up v t 1 ((v t 1) + 1)) t 2 (v o 2)) (ρ t 3) (ρ o 3) 12) (up ρ t 0 (ρ o 0)) Z := hH_23.cp hw31_ (by decide) (lo := (-1)) (hi := 3) (fun _ => Or.inl rfl) (fun k _ _ => by have z := hH_23.rg (k := k) hw27_ (by decide) rfl; omega)
  show wp g X F_X9_copyFrom 0 0 41 [(2, t), (2, o), (3, 0)] [] (cpM (up (up v t 1 ((v t 1) + 1)) t 2 (v o 2)) (ρ t 3) (ρ o 3) 12) (up ρ t 0 (ρ o 0)) Z
  refine r_iconst (pc := 41) hX 22 rfl ?_
  refine r_istore_n (ls' := [(2, t), (2, o), (0, 0)]) (pc := 42) hX 23 rfl (by decide) rfl ?_
  have L43 : ∀ (n43 : Nat) (i : Int) (v43 : Mv) (ρ43 : Mv) , (FrW ω [22, 23, 24, 25, 26] v v43) → (FrW ω [22] ρ ρ43) → (HT ω v43 ρ43 Z) → (0 ≤ i ∧ i ≤ 3) → (3 - i).toNat < n43 → wp g X F_X9_copyFrom 0 0 43 [(2, t), (2, o), (0, i)] [] v43 ρ43 Z := by
    intro n43
    induction n43 with
    | zero => intro i v43 ρ43 hfr43 hfrR43 hH43 ii hme43; exact absurd hme43 (Nat.not_lt_zero _)
    | succ n43 ih43 =>
      intro i v43 ρ43 hfr43 hfrR43 hH43 ii hme43
      refine r_iload_n (pc := 43) hX 24 rfl rfl ?_
      refine r_iconst (pc := 44) hX 25 rfl ?_
      first | refine r_icmp_ge (pc := 45) hX 26 (tgt := 90) rfl (by decide) (⟨by omega, by omega⟩) (⟨by omega, by omega⟩) (fun h45 => ?_) (fun h45 => ?_) | refine r_icmp_ge_any (pc := 45) hX 26 (tgt := 90) rfl (by decide) ?_ ?_
      · exact r_vret (pc := 90) hX 53 hQ rfl rfl (Nat.le_refl 0) (Nat.le_refl 0) ⟨rfl, hfr43, hfrR43, hH43, rfl, trivial⟩
      · refine t_getR (q := (ρ43 t 4)) (pc := 48) hX 27 rfl rfl rfl fl_X9_15 rfl (hH43.kd ht (by decide)) (rfl) ?_
        have hw48_ : ω (ρ43 t 4) = 24 := hH43.rf ht (by decide) rfl
        refine r_iload_n (pc := 52) hX 29 rfl rfl ?_
        refine r_aload_n (pc := 53) hX 30 rfl rfl ?_
        refine r_getR (q := (ρ o 4)) (pc := 54) hX 31 rfl fl_X9_15 rfl (hH43.kd ho (by decide)) ((hfrR43.at ho (by decide) 4).trans (rfl)) ?_
        have hw54_ : ω (ρ o 4) = 68 := hH.rf ho (by decide) rfl
        refine r_iload_n (pc := 57) hX 32 rfl rfl ?_
        refine e_iald (y := (v (ρ o 4) i)) (n := 3) (pc := 58) hX 33 rfl (hH43.kd hw54_ (by decide)) (hH43.ln hw54_ (by decide)) (by omega) (by omega) ((hfr43.at hw54_ (by decide) i).trans (rfl)) ?_
        have hb58 : (-1) ≤ (v (ρ o 4) i) ∧ (v (ρ o 4) i) ≤ 3 := hH.rg hw54_ (by decide) rfl
        refine e_iast (n := 3) (pc := 59) hX 34 rfl (hH43.kd hw48_ (by decide)) (hH43.ln hw48_ (by decide)) (hH43.g4 hw48_ (by decide)) (by omega) (by omega) ?_
        have hH_59 : HT ω (up v43 (ρ43 t 4) i (v (ρ o 4) i)) ρ43 Z := hH43.upR hw48_ (by decide) rfl (by omega) (by omega)
        refine t_getR (q := (ρ43 t 5)) (pc := 60) hX 35 rfl rfl rfl fl_X9_18 rfl (hH_59.kd ht (by decide)) (rfl) ?_
        have hw60_ : ω (ρ43 t 5) = 25 := hH43.rf ht (by decide) rfl
        refine r_iload_n (pc := 64) hX 37 rfl rfl ?_
        refine r_aload_n (pc := 65) hX 38 rfl rfl ?_
        refine r_getR (q := (ρ o 5)) (pc := 66) hX 39 rfl fl_X9_18 rfl (hH_59.kd ho (by decide)) ((hfrR43.at ho (by decide) 5).trans (rfl)) ?_
        have hw66_ : ω (ρ o 5) = 69 := hH.rf ho (by decide) rfl
        refine r_iload_n (pc := 69) hX 40 rfl rfl ?_
        refine e_zald (y := (v (ρ o 5) i)) (n := 3) (pc := 70) hX 41 rfl (hH_59.kd hw66_ (by decide)) (hH_59.ln hw66_ (by decide)) (by omega) (by omega) ((up_r (rne hw66_ hw48_ (by decide))).trans ((hfr43.at hw66_ (by decide) i).trans (rfl))) (fun hb70a hb70b => ?_)
        refine e_zast (n := 3) (pc := 71) hX 42 rfl (hH_59.kd hw60_ (by decide)) (hH_59.ln hw60_ (by decide)) (hH_59.g4 hw60_ (by decide)) (by omega) (by omega) ⟨by omega, by omega⟩ ?_
        have hH_71 : HT ω (up (up v43 (ρ43 t 4) i (v (ρ o 4) i)) (ρ43 t 5) i (v (ρ o 5) i)) ρ43 Z := hH_59.up0 hw60_ (by decide) rfl
        refine t_getR (q := (ρ43 t 6)) (pc := 72) hX 43 rfl rfl rfl fl_X9_22 rfl (hH_71.kd ht (by decide)) (rfl) ?_
        have hw72_ : ω (ρ43 t 6) = 26 := hH43.rf ht (by decide) rfl
        refine r_iload_n (pc := 76) hX 45 rfl rfl ?_
        refine r_aload_n (pc := 77) hX 46 rfl rfl ?_
        refine r_getR (q := (ρ o 6)) (pc := 78) hX 47 rfl fl_X9_22 rfl (hH_71.kd ho (by decide)) ((hfrR43.at ho (by decide) 6).trans (rfl)) ?_
        have hw78_ : ω (ρ o 6) = 70 := hH.rf ho (by decide) rfl
        refine r_iload_n (pc := 81) hX 48 rfl rfl ?_
        refine e_iald (y := (v (ρ o 6) i)) (n := 3) (pc := 82) hX 49 rfl (hH_71.kd hw78_ (by decide)) (hH_71.ln hw78_ (by decide)) (by omega) (by omega) ((up_r (rne hw78_ hw60_ (by decide))).trans ((up_r (rne hw78_ hw48_ (by decide))).trans ((hfr43.at hw78_ (by decide) i).trans (rfl)))) ?_
        have hb82 : 0 ≤ (v (ρ o 6) i) ∧ (v (ρ o 6) i) ≤ 11 := hH.rg hw78_ (by decide) rfl
        refine e_iast (n := 3) (pc := 83) hX 50 rfl (hH_71.kd hw72_ (by decide)) (hH_71.ln hw72_ (by decide)) (hH_71.g4 hw72_ (by decide)) (by omega) (by omega) ?_
        have hH_83 : HT ω (up (up (up v43 (ρ43 t 4) i (v (ρ o 4) i)) (ρ43 t 5) i (v (ρ o 5) i)) (ρ43 t 6) i (v (ρ o 6) i)) ρ43 Z := hH_71.upR hw72_ (by decide) rfl (by omega) (by omega)
        refine r_iinc (ls' := [(2, t), (2, o), (0, (i + 1))]) (pc := 84) hX 51 rfl rfl (by decide) rfl ?_
        refine r_goto (pc := 87) hX 52 (tgt := 43) rfl (by decide) ?_
        exact (ih43 (i + 1) (up (up (up v43 (ρ43 t 4) i (v (ρ o 4) i)) (ρ43 t 5) i (v (ρ o 5) i)) (ρ43 t 6) i (v (ρ o 6) i)) ρ43 ((((hfr43).up (r := (ρ43 t 4)) hw48_ (by decide)).up (r := (ρ43 t 5)) hw60_ (by decide)).up (r := (ρ43 t 6)) hw72_ (by decide)) (hfrR43) (hH_83) (by omega) (by omega))
  exact (L43 _ 0 (cpM (up (up v t 1 ((v t 1) + 1)) t 2 (v o 2)) (ρ t 3) (ρ o 3) 12) (up ρ t 0 (ρ o 0)) ((((FrW.rf).up (r := t) ht (by decide)).up (r := t) ht (by decide)).cp (d := (ρ t 3)) hw31_ (by decide)) ((FrW.rf).up (r := t) ht (by decide)) (hH_38) (by omega) (Nat.lt_succ_self _))
