set_option maxHeartbeats 4000000 in
set_option maxRecDepth 100000 in
theorem c_fourF (g : Gp) (v ρ : Mv) (Z : Mz) (hG : GM ρ Z) (x : Int) (hl : 0 ≤ v 178 2 ∧ v 178 2 ≤ 936) : Ok g 1 0 0 F_m_four [(2, 178), (0, x)] v ρ Z (fun o v' ρ' Z' => ρ = ρ' ∧ Z = Z' ∧ Fr [179] [2] v v' ∧ o = none ∧ (v' 178 2 = v 178 2 + 4) ∧ (v' 179 = ap (v 179) (v 178 2) x)) := by
  refine Ok.of mo_m_four (Nat.le_of_ble_eq_true rfl) ?_
  intro X hX hRm hxn hQ
  show wp g X F_m_four 0 0 0 [(2, 178), (0, x), (3, 0)] [] v ρ Z
  refine r_bipush (pc := 0) hX 0 rfl (by decide) ?_
  refine r_istore_n (ls' := [(2, 178), (0, x), (0, 24)]) (pc := 2) hX 1 rfl (by decide) rfl ?_
  have L3 : ∀ (n3 : Nat) (i : Int) (v3 : Mv) , (Fr [179] [2] v v3) → (-8 ≤ i ∧ i ≤ 24 ∧ 8 * (v3 178 2 - v 178 2) = 24 - i) → (v3 179 = apn (v 179) (v 178 2) x (v3 178 2 - v 178 2).toNat) → (i + 8).toNat < n3 → wp g X F_m_four 0 0 3 [(2, 178), (0, x), (0, i)] [] v3 ρ Z := by
    intro n3
    induction n3 with
    | zero => intro i v3 hfr3 ii ib hme3; exact absurd hme3 (Nat.not_lt_zero _)
    | succ n3 ih3 =>
      intro i v3 hfr3 ii ib hme3
      refine r_iload_n (pc := 3) hX 2 rfl rfl ?_
      first | refine r_if_lt (pc := 4) hX 3 (tgt := 36) rfl (by decide) (⟨by omega, by omega⟩) (fun h4 => ?_) (fun h4 => ?_) | refine r_if_lt_any (pc := 4) hX 3 (tgt := 36) rfl (by decide) ?_ ?_
      · exact r_vret (pc := 36) hX 21 hQ rfl rfl (Nat.le_refl 0) (Nat.le_refl 0) ⟨rfl, rfl, hfr3, rfl, (by omega), (by rw [ib, show (v3 178 2 - v 178 2).toNat = 4 by omega]; rfl)⟩
      · refine t_getR (pc := 7) hX 4 rfl rfl rfl fl_X12_14 rfl hG.1 (a_tape hG).1 ?_
        refine t_getI (y := (v3 178 2)) (pc := 11) hX 6 rfl rfl rfl fl_X12_7 rfl hG.1 (rfl) ?_
        refine r_iload_n (pc := 15) hX 8 rfl rfl ?_
        refine r_iload_n (pc := 16) hX 9 rfl rfl ?_
        refine r_ishrE (pc := 17) hX 10 rfl ?_
        refine r_i2bE (pc := 18) hX 11 rfl ?_
        have hb18 := byI_b (shI x i)
        refine e_bast (pc := 19) hX 12 rfl (a_tape hG).2.1 (a_tape hG).2.2 (by decide) (by omega) (by omega) ⟨by omega, by omega⟩ ?_
        refine r_aload_n (pc := 20) hX 13 rfl rfl ?_
        refine r_dup (pc := 21) hX 14 rfl (show (2 : Nat) ≠ 1 by decide) ?_
        refine e_getI (y := (v3 178 2)) (pc := 22) hX 15 rfl fl_X12_7 rfl hG.1 ((up_r (by decide)).trans (rfl)) ?_
        refine r_iconst (pc := 25) hX 16 rfl ?_
        refine r_iadd (pc := 26) hX 17 rfl ?_
        refine r_putI (pc := 27) hX 18 rfl fl_X12_7 rfl (fun _ h => by cases h; rfl) hG.1 (by decide) ?_
        refine r_iinc (ls' := [(2, 178), (0, x), (0, (i + (-8)))]) (pc := 30) hX 19 rfl rfl (by decide) rfl ?_
        refine r_goto (pc := 33) hX 20 (tgt := 3) rfl (by decide) ?_
        exact (ih3 (i + (-8)) (up (up v3 179 (v3 178 2) (byI (shI x i))) 178 2 ((v3 178 2) + 1)) (((hfr3).arr (r := 179) (by decide) (by decide)).fld (k := 2) (by decide)) (by (repeat (first | rw [up_k (by decide)] | rw [up_s] | rw [up_r (by decide)])); omega) (by
          rw [up_f (show (179 : Int) ≠ 178 by decide), show (up (up v3 179 (v3 178 2) (byI (shI x i))) 178 2 (v3 178 2 + 1)) 178 2 = v3 178 2 + 1 from up_s _ _ _ _, up_row, show (v3 178 2 + 1 - v 178 2).toNat = (v3 178 2 - v 178 2).toNat + 1 by omega]
          exact apn_s ib (by omega) (by omega)) (by omega))
  exact (L3 _ 24 v (Fr.rf) (by omega) (by rw [show (v 178 2 - v 178 2).toNat = 0 by omega]; rfl) (Nat.lt_succ_self _))
set_option maxHeartbeats 4000000 in
set_option maxRecDepth 100000 in
theorem c_feedF (g : Gp) (v ρ : Mv) (Z : Mz) (hG : GM ρ Z) (a b c d e : Int) (hl : 0 ≤ v 178 2 ∧ v 178 2 ≤ 940) : Ok g 2 0 0 F_m_feed [(2, 178), (0, a), (0, b), (0, c), (0, d), (0, e)] v ρ Z (fun o v' ρ' Z' => ρ = ρ' ∧ Z = Z' ∧ Fr [179] [0, 2] v v' ∧ ∃ r : Int, o = some (0, r) ∧ (0 ≤ v' 178 2 ∧ v' 178 2 ≤ 940) ∧ ((v 178 2 ≤ 920 ∧ r = v 178 2 + 20 ∧ v' 178 2 = v 178 2 + 20 ∨ 920 < v 178 2 ∧ r = -1 ∧ v' 178 2 = v 178 2)) ∧ ((r = -1 ∧ v' 179 = v 179 ∨ r = v 178 2 + 20 ∧ v' 179 = ap5 (v 179) (v 178 2) a b c d e))) := by
  refine Ok.of mo_m_feed (Nat.le_of_ble_eq_true rfl) ?_
  intro X hX hRm hxn hQ
  show wp g X F_m_feed 0 0 0 [(2, 178), (0, a), (0, b), (0, c), (0, d), (0, e)] [] v ρ Z
  refine r_aload_n (pc := 0) hX 0 rfl rfl ?_
  refine r_iconst (pc := 1) hX 1 rfl ?_
  refine r_putI (pc := 2) hX 2 rfl fl_X12_1 rfl (fun _ h => by cases h; rfl) hG.1 (by decide) ?_
  refine t_getI (y := (v 178 2)) (pc := 5) hX 3 rfl rfl rfl fl_X12_7 rfl hG.1 ((up_k (by decide)).trans (rfl)) ?_
  refine r_bipush (pc := 9) hX 5 rfl (by decide) ?_
  refine r_iadd (pc := 11) hX 6 rfl ?_
  refine r_sipush (pc := 12) hX 7 rfl (by decide) ?_
  first | refine r_icmp_le (pc := 15) hX 8 (tgt := 20) rfl (by decide) (⟨by omega, by omega⟩) (⟨by omega, by omega⟩) (fun h15 => ?_) (fun h15 => ?_) | refine r_icmp_le_any (pc := 15) hX 8 (tgt := 20) rfl (by decide) ?_ ?_
  · refine r_aload_n (pc := 20) hX 11 rfl rfl ?_
    refine r_iload_n (pc := 21) hX 12 rfl rfl ?_
    refine r_callV (as := [(0, a)]) (st := []) (K := 12) (pc := 22) hX 13 rfl mo_m_four ml_X12_10 im_m_four se_m_four (c_fourF g (up v 178 0 0) ρ Z hG (a) (by (repeat (first | rw [up_k (by decide)] | rw [up_s] | rw [up_r (by decide)])); omega)) rfl rfl rfl hG.1 (by rw [hRm]; exact ⟨by decide, by decide⟩) (by rw [hRm]; exact ⟨by decide, by decide⟩) (Nat.le_of_ble_eq_true rfl) (fun o22 v22 ρ22 Z22 hq22 _ => ?_)
    obtain ⟨rfl, rfl, hfr22, rfl, hq22⟩ := hq22
    try simp only [up_f (show (179 : Int) ≠ 178 by decide), up_f (show (180 : Int) ≠ 178 by decide), up_k (show (2 : Int) ≠ 0 by decide)] at hq22
    show wp g X F_m_feed 0 0 25 [(2, 178), (0, a), (0, b), (0, c), (0, d), (0, e)] [] v22 ρ Z
    refine r_aload_n (pc := 25) hX 14 rfl rfl ?_
    refine r_iload_n (pc := 26) hX 15 rfl rfl ?_
    refine r_callV (as := [(0, b)]) (st := []) (K := 12) (pc := 27) hX 16 rfl mo_m_four ml_X12_10 im_m_four se_m_four (c_fourF g v22 ρ Z hG (b) (by omega)) rfl rfl rfl hG.1 (by rw [hRm]; exact ⟨by decide, by decide⟩) (by rw [hRm]; exact ⟨by decide, by decide⟩) (Nat.le_of_ble_eq_true rfl) (fun o27 v27 ρ27 Z27 hq27 _ => ?_)
    obtain ⟨rfl, rfl, hfr27, rfl, hq27⟩ := hq27
    show wp g X F_m_feed 0 0 30 [(2, 178), (0, a), (0, b), (0, c), (0, d), (0, e)] [] v27 ρ Z
    refine r_aload_n (pc := 30) hX 17 rfl rfl ?_
    refine r_iload_n (pc := 31) hX 18 rfl rfl ?_
    refine r_callV (as := [(0, c)]) (st := []) (K := 12) (pc := 32) hX 19 rfl mo_m_four ml_X12_10 im_m_four se_m_four (c_fourF g v27 ρ Z hG (c) (by omega)) rfl rfl rfl hG.1 (by rw [hRm]; exact ⟨by decide, by decide⟩) (by rw [hRm]; exact ⟨by decide, by decide⟩) (Nat.le_of_ble_eq_true rfl) (fun o32 v32 ρ32 Z32 hq32 _ => ?_)
    obtain ⟨rfl, rfl, hfr32, rfl, hq32⟩ := hq32
    show wp g X F_m_feed 0 0 35 [(2, 178), (0, a), (0, b), (0, c), (0, d), (0, e)] [] v32 ρ Z
    refine r_aload_n (pc := 35) hX 20 rfl rfl ?_
    refine r_iload (pc := 36) hX 21 rfl rfl ?_
    refine r_callV (as := [(0, d)]) (st := []) (K := 12) (pc := 38) hX 22 rfl mo_m_four ml_X12_10 im_m_four se_m_four (c_fourF g v32 ρ Z hG (d) (by omega)) rfl rfl rfl hG.1 (by rw [hRm]; exact ⟨by decide, by decide⟩) (by rw [hRm]; exact ⟨by decide, by decide⟩) (Nat.le_of_ble_eq_true rfl) (fun o38 v38 ρ38 Z38 hq38 _ => ?_)
    obtain ⟨rfl, rfl, hfr38, rfl, hq38⟩ := hq38
    show wp g X F_m_feed 0 0 41 [(2, 178), (0, a), (0, b), (0, c), (0, d), (0, e)] [] v38 ρ Z
    refine r_aload_n (pc := 41) hX 23 rfl rfl ?_
    refine r_iload (pc := 42) hX 24 rfl rfl ?_
    refine r_callV (as := [(0, e)]) (st := []) (K := 12) (pc := 44) hX 25 rfl mo_m_four ml_X12_10 im_m_four se_m_four (c_fourF g v38 ρ Z hG (e) (by omega)) rfl rfl rfl hG.1 (by rw [hRm]; exact ⟨by decide, by decide⟩) (by rw [hRm]; exact ⟨by decide, by decide⟩) (Nat.le_of_ble_eq_true rfl) (fun o44 v44 ρ44 Z44 hq44 _ => ?_)
    obtain ⟨rfl, rfl, hfr44, rfl, hq44⟩ := hq44
    show wp g X F_m_feed 0 0 47 [(2, 178), (0, a), (0, b), (0, c), (0, d), (0, e)] [] v44 ρ Z
    refine t_getI (y := (v44 178 2)) (pc := 47) hX 26 rfl rfl rfl fl_X12_7 rfl hG.1 (rfl) ?_
    exact r_iret (pc := 51) hX 28 hQ rfl rfl (Nat.le_refl 0) (Nat.le_refl 0) ⟨rfl, rfl, ((((((Fr.rf).fld (k := 0) (by decide)).tr hfr22 (by decide) (by decide)).tr hfr27 (by decide) (by decide)).tr hfr32 (by decide) (by decide)).tr hfr38 (by decide) (by decide)).tr hfr44 (by decide) (by decide), (v44 178 2), rfl, (by (repeat (first | rw [up_k (by decide)] | rw [up_s] | rw [up_r (by decide)])); omega), (by (repeat (first | rw [up_k (by decide)] | rw [up_s] | rw [up_r (by decide)])); omega), (by
        refine Or.inr ⟨by omega, ?_⟩
        have e2 : v22 178 2 = v 178 2 + 4 := by omega
        have e3 : v27 178 2 = v 178 2 + 8 := by omega
        have e4 : v32 178 2 = v 178 2 + 12 := by omega
        have e5 : v38 178 2 = v 178 2 + 16 := by omega
        rw [hq44.2, hq38.2, hq32.2, hq27.2, hq22.2, e2, e3, e4, e5]
        rfl)⟩
  · refine r_iconst (pc := 18) hX 9 rfl ?_
    exact r_iret (pc := 19) hX 10 hQ rfl rfl (Nat.le_refl 0) (Nat.le_refl 0) ⟨rfl, rfl, (Fr.rf).fld (k := 0) (by decide), (-1), rfl, (by (repeat (first | rw [up_k (by decide)] | rw [up_s] | rw [up_r (by decide)])); omega), (by (repeat (first | rw [up_k (by decide)] | rw [up_s] | rw [up_r (by decide)])); omega), (Or.inl ⟨rfl, up_f (by decide)⟩)⟩
