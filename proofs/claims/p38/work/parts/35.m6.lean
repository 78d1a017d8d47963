set_option maxHeartbeats 4000000 in
set_option maxRecDepth 100000 in
theorem c_taking (g : Gp) (v ρ : Mv) (Z : Mz) (hG : GM ρ Z) (q c : Int) (hS : SInv (v 180)) (hq : 0 ≤ q ∧ q ≤ 2) (hc : 0 ≤ c ∧ c < v 180 0) : Ok g 1 0 0 F_m_taking [(2, 178), (0, q), (0, c)] v ρ Z (fun o v' ρ' Z' => ρ = ρ' ∧ Z = Z' ∧ Fr [180] [] v v' ∧ o = none ∧ (SInv (v' 180)) ∧ (RdEq (v 180) (v' 180))) := by
  refine Ok.of mo_m_taking (Nat.le_of_ble_eq_true rfl) ?_
  intro X hX hRm hxn hQ
  show wp g X F_m_taking 0 0 0 [(2, 178), (0, q), (0, c)] [] v ρ Z
  have hb0 := hS.c0
  have hb39 := hS.c39 q hq.1 hq.2
  refine t_getR (pc := 0) hX 0 rfl rfl rfl fl_X12_33 rfl hG.1 (a_s hG).1 ?_
  refine r_bipush (pc := 4) hX 2 rfl (by decide) ?_
  refine r_iload_n (pc := 6) hX 3 rfl rfl ?_
  refine r_iadd (pc := 7) hX 4 rfl ?_
  refine r_iload_n (pc := 8) hX 5 rfl rfl ?_
  refine r_iconst (pc := 9) hX 6 rfl ?_
  refine r_iadd (pc := 10) hX 7 rfl ?_
  refine e_iast (pc := 11) hX 8 rfl (a_s hG).2.1 (a_s hG).2.2 (by decide) (by omega) (by omega) ?_
  exact r_vret (pc := 12) hX 9 hQ rfl rfl (Nat.le_refl 0) (Nat.le_refl 0) ⟨rfl, rfl, (Fr.rf).arr (r := 180) (by decide) (by decide), rfl, ((hS.take (q := q) (c := c) hq hc (fun k a b => by repeat rw [up_k (by omega)]) (by first | rw [up_s] | rw [up_k (by omega), up_s]) (by rw [up_k (by omega)]; exact hb39)).1), ((hS.take (q := q) (c := c) hq hc (fun k a b => by repeat rw [up_k (by omega)]) (by first | rw [up_s] | rw [up_k (by omega), up_s]) (by rw [up_k (by omega)]; exact hb39)).2)⟩
set_option maxHeartbeats 4000000 in
set_option maxRecDepth 100000 in
theorem c_turning (g : Gp) (v ρ : Mv) (Z : Mz) (hG : GM ρ Z) (q c : Int) (hS : SInv (v 180)) (hq : 0 ≤ q ∧ q ≤ 2) (hc : 0 ≤ c ∧ c < v 180 0) : Ok g 1 0 0 F_m_turning [(2, 178), (0, q), (0, c)] v ρ Z (fun o v' ρ' Z' => ρ = ρ' ∧ Z = Z' ∧ Fr [180] [] v v' ∧ o = none ∧ (SInv (v' 180)) ∧ (RdEq (v 180) (v' 180))) := by
  refine Ok.of mo_m_turning (Nat.le_of_ble_eq_true rfl) ?_
  intro X hX hRm hxn hQ
  show wp g X F_m_turning 0 0 0 [(2, 178), (0, q), (0, c)] [] v ρ Z
  have hb0 := hS.c0
  refine t_getR (pc := 0) hX 0 rfl rfl rfl fl_X12_33 rfl hG.1 (a_s hG).1 ?_
  refine r_bipush (pc := 4) hX 2 rfl (by decide) ?_
  refine r_iload_n (pc := 6) hX 3 rfl rfl ?_
  refine r_iadd (pc := 7) hX 4 rfl ?_
  refine r_iload_n (pc := 8) hX 5 rfl rfl ?_
  refine r_iconst (pc := 9) hX 6 rfl ?_
  refine r_iadd (pc := 10) hX 7 rfl ?_
  refine e_iast (pc := 11) hX 8 rfl (a_s hG).2.1 (a_s hG).2.2 (by decide) (by omega) (by omega) ?_
  refine t_getR (pc := 12) hX 9 rfl rfl rfl fl_X12_33 rfl hG.1 (a_s hG).1 ?_
  refine r_bipush (pc := 16) hX 11 rfl (by decide) ?_
  refine r_iload_n (pc := 18) hX 12 rfl rfl ?_
  refine r_iadd (pc := 19) hX 13 rfl ?_
  refine r_iconst (pc := 20) hX 14 rfl ?_
  refine e_iast (pc := 21) hX 15 rfl (a_s hG).2.1 (a_s hG).2.2 (by decide) (by omega) (by omega) ?_
  exact r_vret (pc := 22) hX 16 hQ rfl rfl (Nat.le_refl 0) (Nat.le_refl 0) ⟨rfl, rfl, ((Fr.rf).arr (r := 180) (by decide) (by decide)).arr (r := 180) (by decide) (by decide), rfl, ((hS.take (q := q) (c := c) hq hc (fun k a b => by repeat rw [up_k (by omega)]) (by first | rw [up_s] | rw [up_k (by omega), up_s]) (by rw [up_s]; omega)).1), ((hS.take (q := q) (c := c) hq hc (fun k a b => by repeat rw [up_k (by omega)]) (by first | rw [up_s] | rw [up_k (by omega), up_s]) (by rw [up_s]; omega)).2)⟩
set_option maxHeartbeats 4000000 in
set_option maxRecDepth 100000 in
theorem c_coming (g : Gp) (v ρ : Mv) (Z : Mz) (hG : GM ρ Z) (c : Int) (hS : SInv (v 180)) (hc : 0 ≤ c ∧ c ≤ 4) (hlt : v 180 35 < v 180 4) (hE : ∃ l, Fz (v 180) l ∧ 1 ≤ v 180 (17 + 5 * l + c)) : Ok g 2 0 0 F_m_coming [(2, 178), (0, c)] v ρ Z (fun o v' ρ' Z' => ρ = ρ' ∧ Z = Z' ∧ Fr [180] [] v v' ∧ o = none ∧ (SInv (v' 180)) ∧ (RdEq (v 180) (v' 180)) ∧ (v' 180 35 = v 180 35 + 1) ∧ (∀ l, Fz (v 180) l → 1 ≤ v 180 (17 + 5 * l + c) → Fz (v' 180) l)) := by
  refine Ok.of mo_m_coming (Nat.le_of_ble_eq_true rfl) ?_
  intro X hX hRm hxn hQ
  show wp g X F_m_coming 0 0 0 [(2, 178), (0, c), (3, 0)] [] v ρ Z
  have hb35 := hS.c35
  have hb4 := hS.c4
  have hb2 := hS.c2
  refine t_getR (pc := 0) hX 0 rfl rfl rfl fl_X12_33 rfl hG.1 (a_s hG).1 ?_
  refine r_bipush (pc := 4) hX 2 rfl (by decide) ?_
  refine t_getR (pc := 6) hX 3 rfl rfl rfl fl_X12_33 rfl hG.1 (a_s hG).1 ?_
  refine r_bipush (pc := 10) hX 5 rfl (by decide) ?_
  refine e_iald (y := (v 180 35)) (pc := 12) hX 6 rfl (a_s hG).2.1 (a_s hG).2.2 (by omega) (by omega) (rfl) ?_
  have hb12 := hS.c35
  refine r_iadd (pc := 13) hX 7 rfl ?_
  refine r_iload_n (pc := 14) hX 8 rfl rfl ?_
  refine e_iast (pc := 15) hX 9 rfl (a_s hG).2.1 (a_s hG).2.2 (by decide) (by omega) (by omega) ?_
  refine t_getR (pc := 16) hX 10 rfl rfl rfl fl_X12_33 rfl hG.1 (a_s hG).1 ?_
  refine r_bipush (pc := 20) hX 12 rfl (by decide) ?_
  refine r_dup2i (pc := 22) hX 13 rfl (show (0 : Nat) ≠ 1 by decide) (show (2 : Nat) ≠ 1 by decide) ?_
  refine e_iald (y := (v 180 35)) (pc := 23) hX 14 rfl (a_s hG).2.1 (a_s hG).2.2 (by omega) (by omega) ((up_k (by omega)).trans (rfl)) ?_
  have hb23 := hS.c35
  refine r_iconst (pc := 24) hX 15 rfl ?_
  refine r_iadd (pc := 25) hX 16 rfl ?_
  refine e_iast (pc := 26) hX 17 rfl (a_s hG).2.1 (a_s hG).2.2 (by decide) (by omega) (by omega) ?_
  refine r_iload_n (pc := 27) hX 18 rfl rfl ?_
  refine r_iconst (pc := 28) hX 19 rfl ?_
  first | refine r_icmp_ge (pc := 29) hX 20 (tgt := 40) rfl (by decide) (⟨by omega, by omega⟩) (⟨by omega, by omega⟩) (fun h29 => ?_) (fun h29 => ?_) | refine r_icmp_ge_any (pc := 29) hX 20 (tgt := 40) rfl (by decide) ?_ ?_
  · refine r_iconst (pc := 40) hX 25 rfl ?_
    refine r_istore_n (ls' := [(2, 178), (0, c), (0, (-1))]) (pc := 41) hX 26 rfl (by decide) rfl ?_
    refine r_iload_n (pc := 42) hX 27 rfl rfl ?_
    first | refine r_if_lt (pc := 43) hX 28 (tgt := 67) rfl (by decide) (⟨by omega, by omega⟩) (fun h43 => ?_) (fun h43 => ?_) | refine r_if_lt_any (pc := 43) hX 28 (tgt := 67) rfl (by decide) ?_ ?_
    · exact r_vret (pc := 67) hX 44 hQ rfl rfl (Nat.le_refl 0) (Nat.le_refl 0) ⟨rfl, rfl, ((Fr.rf).arr (r := 180) (by decide) (by decide)).arr (r := 180) (by decide) (by decide), rfl, ((hS.come1 hc hlt hE (by first | rw [up_s] | rw [up_k (by omega), up_s]) (by first | rw [up_k (by omega), up_s] | rw [up_k (by omega), up_k (by omega), up_s]) (fun k a b d => by repeat rw [up_k (by omega)]) (fun k a b => by first | (rw [up_k (by omega), up_k (by omega)]; omega) | (rw [up_k (by omega), up_k (by omega), up_k (by omega)]; omega) | (by_cases e : k = r34; subst e; rw [up_s]; omega; rw [up_k (by omega), up_k (by omega), up_k (by omega)]; omega))).1), ((hS.come1 hc hlt hE (by first | rw [up_s] | rw [up_k (by omega), up_s]) (by first | rw [up_k (by omega), up_s] | rw [up_k (by omega), up_k (by omega), up_s]) (fun k a b d => by repeat rw [up_k (by omega)]) (fun k a b => by first | (rw [up_k (by omega), up_k (by omega)]; omega) | (rw [up_k (by omega), up_k (by omega), up_k (by omega)]; omega) | (by_cases e : k = r34; subst e; rw [up_s]; omega; rw [up_k (by omega), up_k (by omega), up_k (by omega)]; omega))).2.1), (by first | rw [up_s] | rw [up_k (by omega), up_s]), ((hS.come1 hc hlt hE (by first | rw [up_s] | rw [up_k (by omega), up_s]) (by first | rw [up_k (by omega), up_s] | rw [up_k (by omega), up_k (by omega), up_s]) (fun k a b d => by repeat rw [up_k (by omega)]) (fun k a b => by first | (rw [up_k (by omega), up_k (by omega)]; omega) | (rw [up_k (by omega), up_k (by omega), up_k (by omega)]; omega) | (by_cases e : k = r34; subst e; rw [up_s]; omega; rw [up_k (by omega), up_k (by omega), up_k (by omega)]; omega))).2.2)⟩
    · exact absurd (by decide) h43
  · refine r_aload_n (pc := 32) hX 21 rfl rfl ?_
    refine r_iload_n (pc := 33) hX 22 rfl rfl ?_
    refine r_callV (as := [(0, c)]) (st := []) (K := 12) (pc := 34) hX 23 rfl mo_m_ownerOf ml_X12_284 im_m_ownerOf se_m_ownerOf (c_ownerOf g (up (up v 180 (45 + (v 180 35)) c) 180 35 ((v 180 35) + 1)) ρ Z hG (c) ((hS.come1 hc hlt hE (by first | rw [up_s] | rw [up_k (by omega), up_s]) (by first | rw [up_k (by omega), up_s] | rw [up_k (by omega), up_k (by omega), up_s]) (fun k a b d => by repeat rw [up_k (by omega)]) (fun k a b => by first | (rw [up_k (by omega), up_k (by omega)]; omega) | (rw [up_k (by omega), up_k (by omega), up_k (by omega)]; omega) | (by_cases e : k = k; subst e; rw [up_s]; omega; rw [up_k (by omega), up_k (by omega), up_k (by omega)]; omega))).1)) rfl rfl rfl hG.1 (by rw [hRm]; exact ⟨by decide, by decide⟩) (by rw [hRm]; exact ⟨by decide, by decide⟩) (Nat.le_of_ble_eq_true rfl) (fun o34 v34 ρ34 Z34 hq34 _ => ?_)
    obtain ⟨rfl, rfl, rfl, r34, rfl, hq34⟩ := hq34
    show wp g X F_m_coming 0 0 37 [(2, 178), (0, c), (3, 0)] [(0, r34)] (up (up v 180 (45 + (v 180 35)) c) 180 35 ((v 180 35) + 1)) ρ Z
    rw [up_k (by omega), up_k (by omega)] at hq34
    refine r_goto (pc := 37) hX 24 (tgt := 41) rfl (by decide) ?_
    refine r_istore_n (ls' := [(2, 178), (0, c), (0, r34)]) (pc := 41) hX 26 rfl (by decide) rfl ?_
    refine r_iload_n (pc := 42) hX 27 rfl rfl ?_
    first | refine r_if_lt (pc := 43) hX 28 (tgt := 67) rfl (by decide) (⟨by omega, by omega⟩) (fun h43 => ?_) (fun h43 => ?_) | refine r_if_lt_any (pc := 43) hX 28 (tgt := 67) rfl (by decide) ?_ ?_
    · exact r_vret (pc := 67) hX 44 hQ rfl rfl (Nat.le_refl 0) (Nat.le_refl 0) ⟨rfl, rfl, ((Fr.rf).arr (r := 180) (by decide) (by decide)).arr (r := 180) (by decide) (by decide), rfl, ((hS.come1 hc hlt hE (by first | rw [up_s] | rw [up_k (by omega), up_s]) (by first | rw [up_k (by omega), up_s] | rw [up_k (by omega), up_k (by omega), up_s]) (fun k a b d => by repeat rw [up_k (by omega)]) (fun k a b => by first | (rw [up_k (by omega), up_k (by omega)]; omega) | (rw [up_k (by omega), up_k (by omega), up_k (by omega)]; omega) | (by_cases e : k = r34; subst e; rw [up_s]; omega; rw [up_k (by omega), up_k (by omega), up_k (by omega)]; omega))).1), ((hS.come1 hc hlt hE (by first | rw [up_s] | rw [up_k (by omega), up_s]) (by first | rw [up_k (by omega), up_s] | rw [up_k (by omega), up_k (by omega), up_s]) (fun k a b d => by repeat rw [up_k (by omega)]) (fun k a b => by first | (rw [up_k (by omega), up_k (by omega)]; omega) | (rw [up_k (by omega), up_k (by omega), up_k (by omega)]; omega) | (by_cases e : k = r34; subst e; rw [up_s]; omega; rw [up_k (by omega), up_k (by omega), up_k (by omega)]; omega))).2.1), (by first | rw [up_s] | rw [up_k (by omega), up_s]), ((hS.come1 hc hlt hE (by first | rw [up_s] | rw [up_k (by omega), up_s]) (by first | rw [up_k (by omega), up_s] | rw [up_k (by omega), up_k (by omega), up_s]) (fun k a b d => by repeat rw [up_k (by omega)]) (fun k a b => by first | (rw [up_k (by omega), up_k (by omega)]; omega) | (rw [up_k (by omega), up_k (by omega), up_k (by omega)]; omega) | (by_cases e : k = r34; subst e; rw [up_s]; omega; rw [up_k (by omega), up_k (by omega), up_k (by omega)]; omega))).2.2)⟩
    · refine t_getR (pc := 46) hX 29 rfl rfl rfl fl_X12_33 rfl hG.1 (a_s hG).1 ?_
      refine r_bipush (pc := 50) hX 31 rfl (by decide) ?_
      refine r_iload_n (pc := 52) hX 32 rfl rfl ?_
      refine r_iadd (pc := 53) hX 33 rfl ?_
      refine r_dup2i (pc := 54) hX 34 rfl (show (0 : Nat) ≠ 1 by decide) (show (2 : Nat) ≠ 1 by decide) ?_
      refine e_iald (y := (v 180 (42 + r34))) (pc := 55) hX 35 rfl (a_s hG).2.1 (a_s hG).2.2 (by omega) (by omega) ((up_k (by omega)).trans ((up_k (by omega)).trans (rfl))) ?_
      have hb55 := hS.c42 r34 (by omega) (by omega)
      refine t_getR (pc := 56) hX 36 rfl rfl rfl fl_X12_33 rfl hG.1 (a_s hG).1 ?_
      refine r_bipush (pc := 60) hX 38 rfl (by decide) ?_
      refine r_iload_n (pc := 62) hX 39 rfl rfl ?_
      refine r_iadd (pc := 63) hX 40 rfl ?_
      refine e_iald (y := (v 180 (6 + c))) (pc := 64) hX 41 rfl (a_s hG).2.1 (a_s hG).2.2 (by omega) (by omega) ((up_k (by omega)).trans ((up_k (by omega)).trans (rfl))) ?_
      have hb64 := hS.c6 c (by omega) (by omega)
      refine r_iadd (pc := 65) hX 42 rfl ?_
      refine e_iast (pc := 66) hX 43 rfl (a_s hG).2.1 (a_s hG).2.2 (by decide) (by omega) (by omega) ?_
      exact r_vret (pc := 67) hX 44 hQ rfl rfl (Nat.le_refl 0) (Nat.le_refl 0) ⟨rfl, rfl, (((Fr.rf).arr (r := 180) (by decide) (by decide)).arr (r := 180) (by decide) (by decide)).arr (r := 180) (by decide) (by decide), rfl, ((hS.come1 hc hlt hE (by first | rw [up_s] | rw [up_k (by omega), up_s]) (by first | rw [up_k (by omega), up_s] | rw [up_k (by omega), up_k (by omega), up_s]) (fun k a b d => by repeat rw [up_k (by omega)]) (fun k a b => by first | (rw [up_k (by omega), up_k (by omega)]; omega) | (rw [up_k (by omega), up_k (by omega), up_k (by omega)]; omega) | (by_cases e : k = r34; subst e; rw [up_s]; omega; rw [up_k (by omega), up_k (by omega), up_k (by omega)]; omega))).1), ((hS.come1 hc hlt hE (by first | rw [up_s] | rw [up_k (by omega), up_s]) (by first | rw [up_k (by omega), up_s] | rw [up_k (by omega), up_k (by omega), up_s]) (fun k a b d => by repeat rw [up_k (by omega)]) (fun k a b => by first | (rw [up_k (by omega), up_k (by omega)]; omega) | (rw [up_k (by omega), up_k (by omega), up_k (by omega)]; omega) | (by_cases e : k = r34; subst e; rw [up_s]; omega; rw [up_k (by omega), up_k (by omega), up_k (by omega)]; omega))).2.1), (by first | rw [up_s] | rw [up_k (by omega), up_s]), ((hS.come1 hc hlt hE (by first | rw [up_s] | rw [up_k (by omega), up_s]) (by first | rw [up_k (by omega), up_s] | rw [up_k (by omega), up_k (by omega), up_s]) (fun k a b d => by repeat rw [up_k (by omega)]) (fun k a b => by first | (rw [up_k (by omega), up_k (by omega)]; omega) | (rw [up_k (by omega), up_k (by omega), up_k (by omega)]; omega) | (by_cases e : k = r34; subst e; rw [up_s]; omega; rw [up_k (by omega), up_k (by omega), up_k (by omega)]; omega))).2.2)⟩
set_option maxHeartbeats 4000000 in
set_option maxRecDepth 100000 in
theorem c_keep (g : Gp) (v ρ : Mv) (Z : Mz) (hG : GM ρ Z)  (hS : SInv (v 180)) (hU : UInv (v 180) (v 187) (v 178 25)) : Ok g 1 0 0 F_m_keep [(2, 178)] v ρ Z (fun o v' ρ' Z' => ρ = ρ' ∧ Z = Z' ∧ Fr [187] [25] v v' ∧ o = none ∧ (UInv (v 180) (v' 187) (v' 178 25))) := by
  refine Ok.of mo_m_keep (Nat.le_of_ble_eq_true rfl) ?_
  intro X hX hRm hxn hQ
  show wp g X F_m_keep 0 0 0 [(2, 178), (3, 0)] [] v ρ Z
  have hu0 := hU.1
  have hu8 := hU.2.1
  refine t_getI (y := (v 178 25)) (pc := 0) hX 0 rfl rfl rfl fl_X12_278 rfl hG.1 (rfl) ?_
  refine r_bipush (pc := 4) hX 2 rfl (by decide) ?_
  have L45 : ∀ (v45 : Mv) , (Fr [187] [25] v v45) → (SInv (v45 180)) → (0 ≤ v45 178 25 ∧ v45 178 25 ≤ 7) → (UInv (v 180) (v45 187) (v45 178 25)) → wp g X F_m_keep 0 0 45 [(2, 178), (3, 0)] [] v45 ρ Z := by
    intro v45 hfr45 hSInv_45 im iu
    refine r_iconst (pc := 45) hX 24 rfl ?_
    refine r_istore_n (ls' := [(2, 178), (0, 0)]) (pc := 46) hX 25 rfl (by decide) rfl ?_
    have L47 : ∀ (n47 : Nat) (i : Int) (v47 : Mv) , (Fr [187] [25] v v47) → (SInv (v47 180)) → (0 ≤ i ∧ i ≤ 22) → (0 ≤ v47 178 25 ∧ v47 178 25 ≤ 7) → (UInv (v 180) (v47 187) (v47 178 25)) → (∀ k, 0 ≤ k → k < i → v47 187 (22 * v47 178 25 + k) = v 180 (35 + k)) → (22 - i).toNat < n47 → wp g X F_m_keep 0 0 47 [(2, 178), (0, i)] [] v47 ρ Z := by
      intro n47
      induction n47 with
      | zero => intro i v47 hfr47 hSInv_47 ii im iu iw hme47; exact absurd hme47 (Nat.not_lt_zero _)
      | succ n47 ih47 =>
        intro i v47 hfr47 hSInv_47 ii im iu iw hme47
        have es47 : v47 180 = v 180 := hfr47.1 180 (by decide) (by decide)
        refine r_iload_n (pc := 47) hX 26 rfl rfl ?_
        refine r_bipush (pc := 48) hX 27 rfl (by decide) ?_
        first | refine r_icmp_ge (pc := 50) hX 28 (tgt := 82) rfl (by decide) (⟨by omega, by omega⟩) (⟨by omega, by omega⟩) (fun h50 => ?_) (fun h50 => ?_) | refine r_icmp_ge_any (pc := 50) hX 28 (tgt := 82) rfl (by decide) ?_ ?_
        · refine r_aload_n (pc := 82) hX 46 rfl rfl ?_
          refine r_dup (pc := 83) hX 47 rfl (show (2 : Nat) ≠ 1 by decide) ?_
          refine e_getI (y := (v47 178 25)) (pc := 84) hX 48 rfl fl_X12_278 rfl hG.1 (rfl) ?_
          refine r_iconst (pc := 87) hX 49 rfl ?_
          refine r_iadd (pc := 88) hX 50 rfl ?_
          refine r_putI (pc := 89) hX 51 rfl fl_X12_278 rfl (fun _ h => by cases h; rfl) hG.1 (by decide) ?_
          exact r_vret (pc := 92) hX 52 hQ rfl rfl (Nat.le_refl 0) (Nat.le_refl 0) ⟨rfl, rfl, (hfr47).fld (k := 25) (by decide), rfl, (by
        have z : UInv (v 180) (up v47 178 25 (v47 178 25 + 1) 187) (up v47 178 25 (v47 178 25 + 1) 178 25) := by rw [up_s, up_f (by decide)]; exact iu.add (by omega) hS.2.1 (fun k a b => iw k a (by omega))
        exact z)⟩
        · refine t_getR (pc := 53) hX 29 rfl rfl rfl fl_X12_56 rfl hG.1 (a_undone hG).1 ?_
          refine r_bipush (pc := 57) hX 31 rfl (by decide) ?_
          refine t_getI (y := (v47 178 25)) (pc := 59) hX 32 rfl rfl rfl fl_X12_278 rfl hG.1 (rfl) ?_
          refine r_imul (pc := 63) hX 34 rfl ?_
          refine r_iload_n (pc := 64) hX 35 rfl rfl ?_
          refine r_iadd (pc := 65) hX 36 rfl ?_
          refine t_getR (pc := 66) hX 37 rfl rfl rfl fl_X12_33 rfl hG.1 (a_s hG).1 ?_
          refine r_bipush (pc := 70) hX 39 rfl (by decide) ?_
          refine r_iload_n (pc := 72) hX 40 rfl rfl ?_
          refine r_iadd (pc := 73) hX 41 rfl ?_
          refine e_iald (y := (v47 180 (35 + i))) (pc := 74) hX 42 rfl (a_s hG).2.1 (a_s hG).2.2 (by omega) (by omega) (rfl) ?_
          refine e_iast (pc := 75) hX 43 rfl (a_undone hG).2.1 (a_undone hG).2.2 (by decide) (by omega) (by omega) ?_
          refine r_iinc (ls' := [(2, 178), (0, (i + 1))]) (pc := 76) hX 44 rfl rfl (by decide) rfl ?_
          refine r_goto (pc := 79) hX 45 (tgt := 47) rfl (by decide) ?_
          exact (ih47 (i + 1) (up v47 187 ((22 * (v47 178 25)) + i) (v47 180 (35 + i))) ((hfr47).arr (r := 187) (by decide) (by decide)) (by rw [up_f (by decide)]; exact hSInv_47) (by omega) (by rw [up_r (by decide)]; exact im) (by rw [up_r (show (178 : Int) ≠ 187 by decide)]; exact iu.wr (fun k a => up_k (by omega))) (fun k a b => by
            rw [up_r (show (178 : Int) ≠ 187 by decide)]
            by_cases e : k = i
            · subst e; rw [up_s, es47]
            · rw [up_k (by omega)]; exact iw k a (by omega)) (by omega))
    exact (L47 _ 0 v45 (hfr45) (hSInv_45) (by omega) (im) (iu) (fun k a b => by omega) (Nat.lt_succ_self _))
  first | refine r_icmp_ne (pc := 6) hX 3 (tgt := 45) rfl (by decide) (⟨by omega, by omega⟩) (⟨by omega, by omega⟩) (fun h6 => ?_) (fun h6 => ?_) | refine r_icmp_ne_any (pc := 6) hX 3 (tgt := 45) rfl (by decide) ?_ ?_
  · exact (L45  v (Fr.rf) (hS) (by first | omega | (rw [up_s]; omega)) (by first | exact hU | (rw [up_s, up_f (by decide)]; exact UInv.shift (U := v 187) (by rw [show (8 : Int) = v 178 25 by omega]; exact hU) (fun k a b => ia k a (by omega)))) )
  · refine r_iconst (pc := 9) hX 4 rfl ?_
    refine r_istore_n (ls' := [(2, 178), (0, 0)]) (pc := 10) hX 5 rfl (by decide) rfl ?_
    have L11 : ∀ (n11 : Nat) (i : Int) (v11 : Mv) , (Fr [187] [25] v v11) → (SInv (v11 180)) → (0 ≤ i ∧ i ≤ 154) → (∀ k, 0 ≤ k → k < i → v11 187 k = v 187 (k + 22)) → (∀ k, i ≤ k → v11 187 k = v 187 k) → (154 - i).toNat < n11 → wp g X F_m_keep 0 0 11 [(2, 178), (0, i)] [] v11 ρ Z := by
      intro n11
      induction n11 with
      | zero => intro i v11 hfr11 hSInv_11 ii ia ib hme11; exact absurd hme11 (Nat.not_lt_zero _)
      | succ n11 ih11 =>
        intro i v11 hfr11 hSInv_11 ii ia ib hme11
        refine r_iload_n (pc := 11) hX 6 rfl rfl ?_
        refine r_sipush (pc := 12) hX 7 rfl (by decide) ?_
        first | refine r_icmp_ge (pc := 15) hX 8 (tgt := 39) rfl (by decide) (⟨by omega, by omega⟩) (⟨by omega, by omega⟩) (fun h15 => ?_) (fun h15 => ?_) | refine r_icmp_ge_any (pc := 15) hX 8 (tgt := 39) rfl (by decide) ?_ ?_
        · refine r_aload_n (pc := 39) hX 21 rfl rfl ?_
          refine r_bipush (pc := 40) hX 22 rfl (by decide) ?_
          refine r_putI (pc := 42) hX 23 rfl fl_X12_278 rfl (fun _ h => by cases h; rfl) hG.1 (by decide) ?_
          refine r_wk (ls' := [(2, 178), (3, 0)]) ⟨Or.inr rfl, Or.inl rfl, trivial⟩ ?_
          exact (L45  (up v11 178 25 7) ((hfr11).fld (k := 25) (by decide)) (by rw [up_f (by decide)]; exact hSInv_11) (by first | omega | (rw [up_s]; omega)) (by first | exact hU | (rw [up_s, up_f (by decide)]; exact UInv.shift (U := v 187) (by rw [show (8 : Int) = v 178 25 by omega]; exact hU) (fun k a b => ia k a (by omega)))) )
        · refine t_getR (pc := 18) hX 9 rfl rfl rfl fl_X12_56 rfl hG.1 (a_undone hG).1 ?_
          refine r_iload_n (pc := 22) hX 11 rfl rfl ?_
          refine t_getR (pc := 23) hX 12 rfl rfl rfl fl_X12_56 rfl hG.1 (a_undone hG).1 ?_
          refine r_iload_n (pc := 27) hX 14 rfl rfl ?_
          refine r_bipush (pc := 28) hX 15 rfl (by decide) ?_
          refine r_iadd (pc := 30) hX 16 rfl ?_
          refine e_iald (y := (v11 187 (i + 22))) (pc := 31) hX 17 rfl (a_undone hG).2.1 (a_undone hG).2.2 (by omega) (by omega) (rfl) ?_
          refine e_iast (pc := 32) hX 18 rfl (a_undone hG).2.1 (a_undone hG).2.2 (by decide) (by omega) (by omega) ?_
          refine r_iinc (ls' := [(2, 178), (0, (i + 1))]) (pc := 33) hX 19 rfl rfl (by decide) rfl ?_
          refine r_goto (pc := 36) hX 20 (tgt := 11) rfl (by decide) ?_
          exact (ih11 (i + 1) (up v11 187 i (v11 187 (i + 22))) ((hfr11).arr (r := 187) (by decide) (by decide)) (by rw [up_f (by decide)]; exact hSInv_11) (by omega) (fun k a b => by
            by_cases e : k = i
            · subst e; rw [up_s]; exact ib _ (by omega)
            · rw [up_k e]; exact ia k a (by omega)) (fun k a => by rw [up_k (by omega)]; exact ib k (by omega)) (by omega))
    exact (L11 _ 0 v (Fr.rf) (hS) (by omega) (fun k a b => by omega) (fun k a => rfl) (Nat.lt_succ_self _))
set_option maxHeartbeats 4000000 in
set_option maxRecDepth 100000 in
theorem c_undo (g : Gp) (v ρ : Mv) (Z : Mz) (hG : GM ρ Z)  (hS : SInv (v 180)) (hU : UInv (v 180) (v 187) (v 178 25)) : Ok g 1 0 0 F_m_undo [(2, 178)] v ρ Z (fun o v' ρ' Z' => ρ = ρ' ∧ Z = Z' ∧ Fr [180] [0, 25] v v' ∧ ∃ r : Int, o = some (0, r) ∧ (SRU v v')) := by
  refine Ok.of mo_m_undo (Nat.le_of_ble_eq_true rfl) ?_
  intro X hX hRm hxn hQ
  show wp g X F_m_undo 0 0 0 [(2, 178), (3, 0)] [] v ρ Z
  have hu0 := hU.1
  have hu8 := hU.2.1
  refine r_aload_n (pc := 0) hX 0 rfl rfl ?_
  refine r_iconst (pc := 1) hX 1 rfl ?_
  refine r_putI (pc := 2) hX 2 rfl fl_X12_1 rfl (fun _ h => by cases h; rfl) hG.1 (by decide) ?_
  refine t_getI (y := (v 178 25)) (pc := 5) hX 3 rfl rfl rfl fl_X12_278 rfl hG.1 ((up_k (by decide)).trans (rfl)) ?_
  first | refine r_if_ne (pc := 9) hX 5 (tgt := 14) rfl (by decide) (⟨by omega, by omega⟩) (fun h9 => ?_) (fun h9 => ?_) | refine r_if_ne_any (pc := 9) hX 5 (tgt := 14) rfl (by decide) ?_ ?_
  · refine r_aload_n (pc := 14) hX 8 rfl rfl ?_
    refine r_dup (pc := 15) hX 9 rfl (show (2 : Nat) ≠ 1 by decide) ?_
    refine e_getI (y := (v 178 25)) (pc := 16) hX 10 rfl fl_X12_278 rfl hG.1 ((up_k (by decide)).trans (rfl)) ?_
    refine r_iconst (pc := 19) hX 11 rfl ?_
    refine r_isub (pc := 20) hX 12 rfl ?_
    refine r_putI (pc := 21) hX 13 rfl fl_X12_278 rfl (fun _ h => by cases h; rfl) hG.1 (by decide) ?_
    refine r_iconst (pc := 24) hX 14 rfl ?_
    refine r_istore_n (ls' := [(2, 178), (0, 0)]) (pc := 25) hX 15 rfl (by decide) rfl ?_
    have L26 : ∀ (n26 : Nat) (i : Int) (v26 : Mv) , (Fr [180] [0, 25] v v26) → (0 ≤ i ∧ i ≤ 22) → (v26 178 25 = v 178 25 - 1) → (RdEq (v 180) (v26 180)) → (∀ k, 0 ≤ k → k < i → v26 180 (35 + k) = v 187 (22 * (v 178 25 - 1) + k)) → (22 - i).toNat < n26 → wp g X F_m_undo 0 0 26 [(2, 178), (0, i)] [] v26 ρ Z := by
      intro n26
      induction n26 with
      | zero => intro i v26 hfr26 ii im ir iw hme26; exact absurd hme26 (Nat.not_lt_zero _)
      | succ n26 ih26 =>
        intro i v26 hfr26 ii im ir iw hme26
        have es26 : v26 187 = v 187 := hfr26.1 187 (by decide) (by decide)
        refine r_iload_n (pc := 26) hX 16 rfl rfl ?_
        refine r_bipush (pc := 27) hX 17 rfl (by decide) ?_
        first | refine r_icmp_ge (pc := 29) hX 18 (tgt := 61) rfl (by decide) (⟨by omega, by omega⟩) (⟨by omega, by omega⟩) (fun h29 => ?_) (fun h29 => ?_) | refine r_icmp_ge_any (pc := 29) hX 18 (tgt := 61) rfl (by decide) ?_ ?_
        · refine t_getI (y := (v26 178 25)) (pc := 61) hX 36 rfl rfl rfl fl_X12_278 rfl hG.1 (rfl) ?_
          exact r_iret (pc := 65) hX 38 hQ rfl rfl (Nat.le_refl 0) (Nat.le_refl 0) ⟨rfl, rfl, hfr26, (v26 178 25), rfl, (by
        have z := hU.pop hS (by omega) ir (fun k a b => iw k a (by omega))
        unfold SRU; rw [es26, im]; exact ⟨z.1, ir, z.2⟩)⟩
        · refine t_getR (pc := 32) hX 19 rfl rfl rfl fl_X12_33 rfl hG.1 (a_s hG).1 ?_
          refine r_bipush (pc := 36) hX 21 rfl (by decide) ?_
          refine r_iload_n (pc := 38) hX 22 rfl rfl ?_
          refine r_iadd (pc := 39) hX 23 rfl ?_
          refine t_getR (pc := 40) hX 24 rfl rfl rfl fl_X12_56 rfl hG.1 (a_undone hG).1 ?_
          refine r_bipush (pc := 44) hX 26 rfl (by decide) ?_
          refine t_getI (y := (v26 178 25)) (pc := 46) hX 27 rfl rfl rfl fl_X12_278 rfl hG.1 (rfl) ?_
          refine r_imul (pc := 50) hX 29 rfl ?_
          refine r_iload_n (pc := 51) hX 30 rfl rfl ?_
          refine r_iadd (pc := 52) hX 31 rfl ?_
          refine e_iald (y := (v26 187 ((22 * (v26 178 25)) + i))) (pc := 53) hX 32 rfl (a_undone hG).2.1 (a_undone hG).2.2 (by omega) (by omega) (rfl) ?_
          refine e_iast (pc := 54) hX 33 rfl (a_s hG).2.1 (a_s hG).2.2 (by decide) (by omega) (by omega) ?_
          refine r_iinc (ls' := [(2, 178), (0, (i + 1))]) (pc := 55) hX 34 rfl rfl (by decide) rfl ?_
          refine r_goto (pc := 58) hX 35 (tgt := 26) rfl (by decide) ?_
          exact (ih26 (i + 1) (up v26 180 (35 + i) (v26 187 ((22 * (v26 178 25)) + i))) ((hfr26).arr (r := 180) (by decide) (by decide)) (by omega) (by rw [up_r (by decide)]; exact im) (fun k hk => by rw [up_k (by omega)]; exact ir k hk) (fun k a b => by
            by_cases e : k = i
            · subst e; rw [up_s, es26, im]
            · rw [up_k (by omega)]; exact iw k a (by omega)) (by omega))
    exact (L26 _ 0 (up (up v 178 0 0) 178 25 ((v 178 25) - 1)) (((Fr.rf).fld (k := 0) (by decide)).fld (k := 25) (by decide)) (by omega) (by rw [up_s]) (by rw [up_f (by decide), up_f (by decide)]; exact RdEq.rf) (fun k a b => by omega) (Nat.lt_succ_self _))
  · refine r_iconst (pc := 12) hX 6 rfl ?_
    exact r_iret (pc := 13) hX 7 hQ rfl rfl (Nat.le_refl 0) (Nat.le_refl 0) ⟨rfl, rfl, (Fr.rf).fld (k := 0) (by decide), (-1), rfl, (SRU.same hS hU (up_f (by decide)) (up_f (by decide)) (up_k (by decide)))⟩
set_option maxHeartbeats 4000000 in
set_option maxRecDepth 100000 in
theorem c_tries (g : Gp) (v ρ : Mv) (Z : Mz) (hG : GM ρ Z)   : Ok g 1 0 0 F_m_tries [(2, 178)] v ρ Z (fun o v' ρ' Z' => ρ = ρ' ∧ Z = Z' ∧ Fr [188] [] v v' ∧ o = none ∧ (∀ k, 0 ≤ k → k < 22 → v' 188 k = v 180 (35 + k))) := by
  refine Ok.of mo_m_tries (Nat.le_of_ble_eq_true rfl) ?_
  intro X hX hRm hxn hQ
  show wp g X F_m_tries 0 0 0 [(2, 178), (3, 0)] [] v ρ Z
  refine r_iconst (pc := 0) hX 0 rfl ?_
  refine r_istore_n (ls' := [(2, 178), (0, 0)]) (pc := 1) hX 1 rfl (by decide) rfl ?_
  have L2 : ∀ (n2 : Nat) (i : Int) (v2 : Mv) , (Fr [188] [] v v2) → (0 ≤ i ∧ i ≤ 22) → (∀ k, 0 ≤ k → k < i → v2 188 k = v 180 (35 + k)) → (22 - i).toNat < n2 → wp g X F_m_tries 0 0 2 [(2, 178), (0, i)] [] v2 ρ Z := by
    intro n2
    induction n2 with
    | zero => intro i v2 hfr2 ii iw hme2; exact absurd hme2 (Nat.not_lt_zero _)
    | succ n2 ih2 =>
      intro i v2 hfr2 ii iw hme2
      have es2 : v2 180 = v 180 := hfr2.1 180 (by decide) (by decide)
      refine r_iload_n (pc := 2) hX 2 rfl rfl ?_
      refine r_bipush (pc := 3) hX 3 rfl (by decide) ?_
      first | refine r_icmp_ge (pc := 5) hX 4 (tgt := 29) rfl (by decide) (⟨by omega, by omega⟩) (⟨by omega, by omega⟩) (fun h5 => ?_) (fun h5 => ?_) | refine r_icmp_ge_any (pc := 5) hX 4 (tgt := 29) rfl (by decide) ?_ ?_
      · exact r_vret (pc := 29) hX 17 hQ rfl rfl (Nat.le_refl 0) (Nat.le_refl 0) ⟨rfl, rfl, hfr2, rfl, (fun k a b => iw k a (by omega))⟩
      · refine t_getR (pc := 8) hX 5 rfl rfl rfl fl_X12_59 rfl hG.1 (a_before hG).1 ?_
        refine r_iload_n (pc := 12) hX 7 rfl rfl ?_
        refine t_getR (pc := 13) hX 8 rfl rfl rfl fl_X12_33 rfl hG.1 (a_s hG).1 ?_
        refine r_bipush (pc := 17) hX 10 rfl (by decide) ?_
        refine r_iload_n (pc := 19) hX 11 rfl rfl ?_
        refine r_iadd (pc := 20) hX 12 rfl ?_
        refine e_iald (y := (v2 180 (35 + i))) (pc := 21) hX 13 rfl (a_s hG).2.1 (a_s hG).2.2 (by omega) (by omega) (rfl) ?_
        refine e_iast (pc := 22) hX 14 rfl (a_before hG).2.1 (a_before hG).2.2 (by decide) (by omega) (by omega) ?_
        refine r_iinc (ls' := [(2, 178), (0, (i + 1))]) (pc := 23) hX 15 rfl rfl (by decide) rfl ?_
        refine r_goto (pc := 26) hX 16 (tgt := 2) rfl (by decide) ?_
        exact (ih2 (i + 1) (up v2 188 i (v2 180 (35 + i))) ((hfr2).arr (r := 188) (by decide) (by decide)) (by omega) (fun k a b => by
            by_cases e : k = i
            · subst e; rw [up_s, es2]
            · rw [up_k (by omega)]; exact iw k a (by omega)) (by omega))
  exact (L2 _ 0 v (Fr.rf) (by omega) (fun k a b => by omega) (Nat.lt_succ_self _))
set_option maxHeartbeats 4000000 in
set_option maxRecDepth 100000 in
theorem c_back (g : Gp) (v ρ : Mv) (Z : Mz) (hG : GM ρ Z)   : Ok g 1 0 0 F_m_back [(2, 178)] v ρ Z (fun o v' ρ' Z' => ρ = ρ' ∧ Z = Z' ∧ Fr [180] [] v v' ∧ o = none ∧ (RdEq (v 180) (v' 180)) ∧ (∀ k, 0 ≤ k → k < 22 → v' 180 (35 + k) = v 188 k)) := by
  refine Ok.of mo_m_back (Nat.le_of_ble_eq_true rfl) ?_
  intro X hX hRm hxn hQ
  show wp g X F_m_back 0 0 0 [(2, 178), (3, 0)] [] v ρ Z
  refine r_iconst (pc := 0) hX 0 rfl ?_
  refine r_istore_n (ls' := [(2, 178), (0, 0)]) (pc := 1) hX 1 rfl (by decide) rfl ?_
  have L2 : ∀ (n2 : Nat) (i : Int) (v2 : Mv) , (Fr [180] [] v v2) → (0 ≤ i ∧ i ≤ 22) → (RdEq (v 180) (v2 180)) → (∀ k, 0 ≤ k → k < i → v2 180 (35 + k) = v 188 k) → (22 - i).toNat < n2 → wp g X F_m_back 0 0 2 [(2, 178), (0, i)] [] v2 ρ Z := by
    intro n2
    induction n2 with
    | zero => intro i v2 hfr2 ii ir iw hme2; exact absurd hme2 (Nat.not_lt_zero _)
    | succ n2 ih2 =>
      intro i v2 hfr2 ii ir iw hme2
      have es2 : v2 188 = v 188 := hfr2.1 188 (by decide) (by decide)
      refine r_iload_n (pc := 2) hX 2 rfl rfl ?_
      refine r_bipush (pc := 3) hX 3 rfl (by decide) ?_
      first | refine r_icmp_ge (pc := 5) hX 4 (tgt := 29) rfl (by decide) (⟨by omega, by omega⟩) (⟨by omega, by omega⟩) (fun h5 => ?_) (fun h5 => ?_) | refine r_icmp_ge_any (pc := 5) hX 4 (tgt := 29) rfl (by decide) ?_ ?_
      · exact r_vret (pc := 29) hX 17 hQ rfl rfl (Nat.le_refl 0) (Nat.le_refl 0) ⟨rfl, rfl, hfr2, rfl, (ir), (fun k a b => iw k a (by omega))⟩
      · refine t_getR (pc := 8) hX 5 rfl rfl rfl fl_X12_33 rfl hG.1 (a_s hG).1 ?_
        refine r_bipush (pc := 12) hX 7 rfl (by decide) ?_
        refine r_iload_n (pc := 14) hX 8 rfl rfl ?_
        refine r_iadd (pc := 15) hX 9 rfl ?_
        refine t_getR (pc := 16) hX 10 rfl rfl rfl fl_X12_59 rfl hG.1 (a_before hG).1 ?_
        refine r_iload_n (pc := 20) hX 12 rfl rfl ?_
        refine e_iald (y := (v2 188 i)) (pc := 21) hX 13 rfl (a_before hG).2.1 (a_before hG).2.2 (by omega) (by omega) (rfl) ?_
        refine e_iast (pc := 22) hX 14 rfl (a_s hG).2.1 (a_s hG).2.2 (by decide) (by omega) (by omega) ?_
        refine r_iinc (ls' := [(2, 178), (0, (i + 1))]) (pc := 23) hX 15 rfl rfl (by decide) rfl ?_
        refine r_goto (pc := 26) hX 16 (tgt := 2) rfl (by decide) ?_
        exact (ih2 (i + 1) (up v2 180 (35 + i) (v2 188 i)) ((hfr2).arr (r := 180) (by decide) (by decide)) (by omega) (fun k hk => by rw [up_k (by omega)]; exact ir k hk) (fun k a b => by
            by_cases e : k = i
            · subst e; rw [up_s, es2]
            · rw [up_k (by omega)]; exact iw k a (by omega)) (by omega))
  exact (L2 _ 0 v (Fr.rf) (by omega) (RdEq.rf) (fun k a b => by omega) (Nat.lt_succ_self _))
set_option maxHeartbeats 4000000 in
set_option maxRecDepth 100000 in
theorem c_take (g : Gp) (v ρ : Mv) (Z : Mz) (hG : GM ρ Z) (q c : Int) (hS : SInv (v 180)) (hU : UInv (v 180) (v 187) (v 178 25)) (hq : inR q) (hc : inR c) : Ok g 5 0 0 F_m_take [(2, 178), (0, q), (0, c)] v ρ Z (fun o v' ρ' Z' => ρ = ρ' ∧ Z = Z' ∧ Fr [180, 185, 186, 187] [0, 25] v v' ∧ ∃ r : Int, o = some (0, r) ∧ (SRU v v')) := by
  refine Ok.of mo_m_take (Nat.le_of_ble_eq_true rfl) ?_
  intro X hX hRm hxn hQ
  show wp g X F_m_take 0 0 0 [(2, 178), (0, q), (0, c), (3, 0)] [] v ρ Z
  have hb2 := hS.c2
  have hb0 := hS.c0
  refine r_aload_n (pc := 0) hX 0 rfl rfl ?_
  refine r_iconst (pc := 1) hX 1 rfl ?_
  refine r_putI (pc := 2) hX 2 rfl fl_X12_1 rfl (fun _ h => by cases h; rfl) hG.1 (by decide) ?_
  refine r_aload_n (pc := 5) hX 3 rfl rfl ?_
  refine r_iload_n (pc := 6) hX 4 rfl rfl ?_
  refine r_callV (as := [(0, q)]) (st := []) (K := 12) (pc := 7) hX 5 rfl mo_m_isPlayer ml_X12_294 im_m_isPlayer se_m_isPlayer (c_isPlayer g (up v 178 0 0) ρ Z hG (q) (by rw [up_f (by decide)]; exact hS) (by omega)) rfl rfl rfl hG.1 (by rw [hRm]; exact ⟨by decide, by decide⟩) (by rw [hRm]; exact ⟨by decide, by decide⟩) (Nat.le_of_ble_eq_true rfl) (fun o7 v7 ρ7 Z7 hq7 _ => ?_)
  obtain ⟨rfl, rfl, rfl, r7, rfl, hq7⟩ := hq7
  try simp only [up_f (show (180 : Int) ≠ 178 by decide)] at hq7
  show wp g X F_m_take 0 0 10 [(2, 178), (0, q), (0, c), (3, 0)] [(0, r7)] (up v 178 0 0) ρ Z
  first | refine r_if_eq (pc := 10) hX 6 (tgt := 21) rfl (by decide) (⟨by omega, by omega⟩) (fun h10 => ?_) (fun h10 => ?_) | refine r_if_eq_any (pc := 10) hX 6 (tgt := 21) rfl (by decide) ?_ ?_
  · refine r_iconst (pc := 21) hX 11 rfl ?_
    exact r_iret (pc := 22) hX 12 hQ rfl rfl (Nat.le_refl 0) (Nat.le_refl 0) ⟨rfl, rfl, (Fr.rf).fld (k := 0) (by decide), (-1), rfl, (SRU.same hS hU (up_f (by decide)) (up_f (by decide)) (up_k (by decide)))⟩
  · refine r_aload_n (pc := 13) hX 7 rfl rfl ?_
    refine r_iload_n (pc := 14) hX 8 rfl rfl ?_
    refine r_callV (as := [(0, c)]) (st := []) (K := 12) (pc := 15) hX 9 rfl mo_m_isColour ml_X12_281 im_m_isColour se_m_isColour (c_isColour g (up v 178 0 0) ρ Z hG (c) (by rw [up_f (by decide)]; exact hS) (by omega)) rfl rfl rfl hG.1 (by rw [hRm]; exact ⟨by decide, by decide⟩) (by rw [hRm]; exact ⟨by decide, by decide⟩) (Nat.le_of_ble_eq_true rfl) (fun o15 v15 ρ15 Z15 hq15 _ => ?_)
    obtain ⟨rfl, rfl, rfl, r15, rfl, hq15⟩ := hq15
    try simp only [up_f (show (180 : Int) ≠ 178 by decide)] at hq15
    show wp g X F_m_take 0 0 18 [(2, 178), (0, q), (0, c), (3, 0)] [(0, r15)] (up v 178 0 0) ρ Z
    first | refine r_if_ne (pc := 18) hX 10 (tgt := 23) rfl (by decide) (⟨by omega, by omega⟩) (fun h18 => ?_) (fun h18 => ?_) | refine r_if_ne_any (pc := 18) hX 10 (tgt := 23) rfl (by decide) ?_ ?_
    · refine r_aload_n (pc := 23) hX 13 rfl rfl ?_
      refine r_iload_n (pc := 24) hX 14 rfl rfl ?_
      refine r_iload_n (pc := 25) hX 15 rfl rfl ?_
      refine r_callV (as := [(0, q), (0, c)]) (st := []) (K := 12) (pc := 26) hX 16 rfl mo_m_whyTake ml_X12_325 im_m_whyTake se_m_whyTake (c_whyTake g (up v 178 0 0) ρ Z hG (q) (c) (by rw [up_f (by decide)]; exact hS) (by omega)) rfl rfl rfl hG.1 (by rw [hRm]; exact ⟨by decide, by decide⟩) (by rw [hRm]; exact ⟨by decide, by decide⟩) (Nat.le_of_ble_eq_true rfl) (fun o26 v26 ρ26 Z26 hq26 _ => ?_)
      obtain ⟨rfl, rfl, hfr26, r26, rfl, hq26⟩ := hq26
      try simp only [up_f (show (180 : Int) ≠ 178 by decide)] at hq26
      have hSInv_26 : SInv (v26 180) := by rw [hfr26.1 180 (by decide) (by decide), up_f (by decide)]; exact hS
      have hk26_25 : v26 178 25 = (v 178 25) := (hfr26.2 25 (by decide)).trans ((up_k (by decide)).trans (rfl))
      show wp g X F_m_take 0 0 29 [(2, 178), (0, q), (0, c), (3, 0)] [(0, r26)] v26 ρ Z
      have es26 : v26 180 = v 180 := by rw [hfr26.1 180 (by decide) (by decide), up_f (by decide)]
      have eu26 : v26 187 = v 187 := by rw [hfr26.1 187 (by decide) (by decide), up_f (by decide)]
      refine r_istore_n (ls' := [(2, 178), (0, q), (0, c), (0, r26)]) (pc := 29) hX 17 rfl (by decide) rfl ?_
      refine r_iload_n (pc := 30) hX 18 rfl rfl ?_
      first | refine r_if_le (pc := 31) hX 19 (tgt := 36) rfl (by decide) (⟨by omega, by omega⟩) (fun h31 => ?_) (fun h31 => ?_) | refine r_if_le_any (pc := 31) hX 19 (tgt := 36) rfl (by decide) ?_ ?_
      · refine r_aload_n (pc := 36) hX 22 rfl rfl ?_
        refine r_callV (as := []) (st := []) (K := 12) (pc := 37) hX 23 rfl mo_m_keep ml_X12_328 im_m_keep se_m_keep (c_keep g v26 ρ Z hG  (hSInv_26) (by rw [es26, eu26, hk26_25]; exact hU)) rfl rfl rfl hG.1 (by rw [hRm]; exact ⟨by decide, by decide⟩) (by rw [hRm]; exact ⟨by decide, by decide⟩) (Nat.le_of_ble_eq_true rfl) (fun o37 v37 ρ37 Z37 hq37 _ => ?_)
        obtain ⟨rfl, rfl, hfr37, rfl, hq37⟩ := hq37
        have hSInv_37 : SInv (v37 180) := by rw [hfr37.1 180 (by decide) (by decide)]; exact hSInv_26
        show wp g X F_m_take 0 0 40 [(2, 178), (0, q), (0, c), (0, r26)] [] v37 ρ Z
        have es37 : v37 180 = v 180 := by rw [hfr37.1 180 (by decide) (by decide), es26]
        have hU37 : UInv (v37 180) (v37 187) (v37 178 25) := by rw [es37]; rw [es26] at hq37; exact hq37
        refine r_aload_n (pc := 40) hX 24 rfl rfl ?_
        refine r_iload_n (pc := 41) hX 25 rfl rfl ?_
        refine r_iload_n (pc := 42) hX 26 rfl rfl ?_
        refine r_callV (as := [(0, q), (0, c)]) (st := []) (K := 12) (pc := 43) hX 27 rfl mo_m_taking ml_X12_331 im_m_taking se_m_taking (c_taking g v37 ρ Z hG (q) (c) (hSInv_37) (by omega) (by rw [es37]; omega)) rfl rfl rfl hG.1 (by rw [hRm]; exact ⟨by decide, by decide⟩) (by rw [hRm]; exact ⟨by decide, by decide⟩) (Nat.le_of_ble_eq_true rfl) (fun o43 v43 ρ43 Z43 hq43 _ => ?_)
        obtain ⟨rfl, rfl, hfr43, rfl, hq43⟩ := hq43
        have hk43_25 : v43 178 25 = (v37 178 25) := (hfr43.2 25 (by decide)).trans (rfl)
        show wp g X F_m_take 0 0 46 [(2, 178), (0, q), (0, c), (0, r26)] [] v43 ρ Z
        rw [es37] at hq43 hU37
        refine r_iconst (pc := 46) hX 28 rfl ?_
        exact r_iret (pc := 47) hX 29 hQ rfl rfl (Nat.le_refl 0) (Nat.le_refl 0) ⟨rfl, rfl, ((((Fr.rf).fld (k := 0) (by decide)).tr hfr26 (by decide) (by decide)).tr hfr37 (by decide) (by decide)).tr hfr43 (by decide) (by decide), 0, rfl, (⟨hq43.1, hq43.2, by rw [hfr43.1 187 (by decide) (by decide), hfr43.2 25 (by decide)]; exact hU37.rd hq43.2⟩)⟩
      · refine r_iload_n (pc := 34) hX 20 rfl rfl ?_
        exact r_iret (pc := 35) hX 21 hQ rfl rfl (Nat.le_refl 0) (Nat.le_refl 0) ⟨rfl, rfl, ((Fr.rf).fld (k := 0) (by decide)).tr hfr26 (by decide) (by decide), r26, rfl, (SRU.same hS hU es26 eu26 hk26_25)⟩
    · refine r_iconst (pc := 21) hX 11 rfl ?_
      exact r_iret (pc := 22) hX 12 hQ rfl rfl (Nat.le_refl 0) (Nat.le_refl 0) ⟨rfl, rfl, (Fr.rf).fld (k := 0) (by decide), (-1), rfl, (SRU.same hS hU (up_f (by decide)) (up_f (by decide)) (up_k (by decide)))⟩
set_option maxHeartbeats 4000000 in
set_option maxRecDepth 100000 in
theorem c_turn (g : Gp) (v ρ : Mv) (Z : Mz) (hG : GM ρ Z) (q c : Int) (hS : SInv (v 180)) (hU : UInv (v 180) (v 187) (v 178 25)) (hq : inR q) (hc : inR c) : Ok g 5 0 0 F_m_turn [(2, 178), (0, q), (0, c)] v ρ Z (fun o v' ρ' Z' => ρ = ρ' ∧ Z = Z' ∧ Fr [180, 185, 186, 187] [0, 25] v v' ∧ ∃ r : Int, o = some (0, r) ∧ (SRU v v')) := by
  refine Ok.of mo_m_turn (Nat.le_of_ble_eq_true rfl) ?_
  intro X hX hRm hxn hQ
  show wp g X F_m_turn 0 0 0 [(2, 178), (0, q), (0, c), (3, 0)] [] v ρ Z
  have hb2 := hS.c2
  have hb0 := hS.c0
  refine r_aload_n (pc := 0) hX 0 rfl rfl ?_
  refine r_iconst (pc := 1) hX 1 rfl ?_
  refine r_putI (pc := 2) hX 2 rfl fl_X12_1 rfl (fun _ h => by cases h; rfl) hG.1 (by decide) ?_
  refine r_aload_n (pc := 5) hX 3 rfl rfl ?_
  refine r_iload_n (pc := 6) hX 4 rfl rfl ?_
  refine r_callV (as := [(0, q)]) (st := []) (K := 12) (pc := 7) hX 5 rfl mo_m_isPlayer ml_X12_294 im_m_isPlayer se_m_isPlayer (c_isPlayer g (up v 178 0 0) ρ Z hG (q) (by rw [up_f (by decide)]; exact hS) (by omega)) rfl rfl rfl hG.1 (by rw [hRm]; exact ⟨by decide, by decide⟩) (by rw [hRm]; exact ⟨by decide, by decide⟩) (Nat.le_of_ble_eq_true rfl) (fun o7 v7 ρ7 Z7 hq7 _ => ?_)
  obtain ⟨rfl, rfl, rfl, r7, rfl, hq7⟩ := hq7
  try simp only [up_f (show (180 : Int) ≠ 178 by decide)] at hq7
  show wp g X F_m_turn 0 0 10 [(2, 178), (0, q), (0, c), (3, 0)] [(0, r7)] (up v 178 0 0) ρ Z
  first | refine r_if_eq (pc := 10) hX 6 (tgt := 21) rfl (by decide) (⟨by omega, by omega⟩) (fun h10 => ?_) (fun h10 => ?_) | refine r_if_eq_any (pc := 10) hX 6 (tgt := 21) rfl (by decide) ?_ ?_
  · refine r_iconst (pc := 21) hX 11 rfl ?_
    exact r_iret (pc := 22) hX 12 hQ rfl rfl (Nat.le_refl 0) (Nat.le_refl 0) ⟨rfl, rfl, (Fr.rf).fld (k := 0) (by decide), (-1), rfl, (SRU.same hS hU (up_f (by decide)) (up_f (by decide)) (up_k (by decide)))⟩
  · refine r_aload_n (pc := 13) hX 7 rfl rfl ?_
    refine r_iload_n (pc := 14) hX 8 rfl rfl ?_
    refine r_callV (as := [(0, c)]) (st := []) (K := 12) (pc := 15) hX 9 rfl mo_m_isColour ml_X12_281 im_m_isColour se_m_isColour (c_isColour g (up v 178 0 0) ρ Z hG (c) (by rw [up_f (by decide)]; exact hS) (by omega)) rfl rfl rfl hG.1 (by rw [hRm]; exact ⟨by decide, by decide⟩) (by rw [hRm]; exact ⟨by decide, by decide⟩) (Nat.le_of_ble_eq_true rfl) (fun o15 v15 ρ15 Z15 hq15 _ => ?_)
    obtain ⟨rfl, rfl, rfl, r15, rfl, hq15⟩ := hq15
    try simp only [up_f (show (180 : Int) ≠ 178 by decide)] at hq15
    show wp g X F_m_turn 0 0 18 [(2, 178), (0, q), (0, c), (3, 0)] [(0, r15)] (up v 178 0 0) ρ Z
    first | refine r_if_ne (pc := 18) hX 10 (tgt := 23) rfl (by decide) (⟨by omega, by omega⟩) (fun h18 => ?_) (fun h18 => ?_) | refine r_if_ne_any (pc := 18) hX 10 (tgt := 23) rfl (by decide) ?_ ?_
    · refine r_aload_n (pc := 23) hX 13 rfl rfl ?_
      refine r_iload_n (pc := 24) hX 14 rfl rfl ?_
      refine r_iload_n (pc := 25) hX 15 rfl rfl ?_
      refine r_callV (as := [(0, q), (0, c)]) (st := []) (K := 12) (pc := 26) hX 16 rfl mo_m_whyTurn ml_X12_335 im_m_whyTurn se_m_whyTurn (c_whyTurn g (up v 178 0 0) ρ Z hG (q) (c) (by rw [up_f (by decide)]; exact hS) (by omega)) rfl rfl rfl hG.1 (by rw [hRm]; exact ⟨by decide, by decide⟩) (by rw [hRm]; exact ⟨by decide, by decide⟩) (Nat.le_of_ble_eq_true rfl) (fun o26 v26 ρ26 Z26 hq26 _ => ?_)
      obtain ⟨rfl, rfl, hfr26, r26, rfl, hq26⟩ := hq26
      try simp only [up_f (show (180 : Int) ≠ 178 by decide)] at hq26
      have hSInv_26 : SInv (v26 180) := by rw [hfr26.1 180 (by decide) (by decide), up_f (by decide)]; exact hS
      have hk26_25 : v26 178 25 = (v 178 25) := (hfr26.2 25 (by decide)).trans ((up_k (by decide)).trans (rfl))
      show wp g X F_m_turn 0 0 29 [(2, 178), (0, q), (0, c), (3, 0)] [(0, r26)] v26 ρ Z
      have es26 : v26 180 = v 180 := by rw [hfr26.1 180 (by decide) (by decide), up_f (by decide)]
      have eu26 : v26 187 = v 187 := by rw [hfr26.1 187 (by decide) (by decide), up_f (by decide)]
      refine r_istore_n (ls' := [(2, 178), (0, q), (0, c), (0, r26)]) (pc := 29) hX 17 rfl (by decide) rfl ?_
      refine r_iload_n (pc := 30) hX 18 rfl rfl ?_
      first | refine r_if_le (pc := 31) hX 19 (tgt := 36) rfl (by decide) (⟨by omega, by omega⟩) (fun h31 => ?_) (fun h31 => ?_) | refine r_if_le_any (pc := 31) hX 19 (tgt := 36) rfl (by decide) ?_ ?_
      · refine r_aload_n (pc := 36) hX 22 rfl rfl ?_
        refine r_callV (as := []) (st := []) (K := 12) (pc := 37) hX 23 rfl mo_m_keep ml_X12_328 im_m_keep se_m_keep (c_keep g v26 ρ Z hG  (hSInv_26) (by rw [es26, eu26, hk26_25]; exact hU)) rfl rfl rfl hG.1 (by rw [hRm]; exact ⟨by decide, by decide⟩) (by rw [hRm]; exact ⟨by decide, by decide⟩) (Nat.le_of_ble_eq_true rfl) (fun o37 v37 ρ37 Z37 hq37 _ => ?_)
        obtain ⟨rfl, rfl, hfr37, rfl, hq37⟩ := hq37
        have hSInv_37 : SInv (v37 180) := by rw [hfr37.1 180 (by decide) (by decide)]; exact hSInv_26
        show wp g X F_m_turn 0 0 40 [(2, 178), (0, q), (0, c), (0, r26)] [] v37 ρ Z
        have es37 : v37 180 = v 180 := by rw [hfr37.1 180 (by decide) (by decide), es26]
        have hU37 : UInv (v37 180) (v37 187) (v37 178 25) := by rw [es37]; rw [es26] at hq37; exact hq37
        refine r_aload_n (pc := 40) hX 24 rfl rfl ?_
        refine r_iload_n (pc := 41) hX 25 rfl rfl ?_
        refine r_iload_n (pc := 42) hX 26 rfl rfl ?_
        refine r_callV (as := [(0, q), (0, c)]) (st := []) (K := 12) (pc := 43) hX 27 rfl mo_m_turning ml_X12_338 im_m_turning se_m_turning (c_turning g v37 ρ Z hG (q) (c) (hSInv_37) (by omega) (by rw [es37]; omega)) rfl rfl rfl hG.1 (by rw [hRm]; exact ⟨by decide, by decide⟩) (by rw [hRm]; exact ⟨by decide, by decide⟩) (Nat.le_of_ble_eq_true rfl) (fun o43 v43 ρ43 Z43 hq43 _ => ?_)
        obtain ⟨rfl, rfl, hfr43, rfl, hq43⟩ := hq43
        have hk43_25 : v43 178 25 = (v37 178 25) := (hfr43.2 25 (by decide)).trans (rfl)
        show wp g X F_m_turn 0 0 46 [(2, 178), (0, q), (0, c), (0, r26)] [] v43 ρ Z
        rw [es37] at hq43 hU37
        refine r_iconst (pc := 46) hX 28 rfl ?_
        exact r_iret (pc := 47) hX 29 hQ rfl rfl (Nat.le_refl 0) (Nat.le_refl 0) ⟨rfl, rfl, ((((Fr.rf).fld (k := 0) (by decide)).tr hfr26 (by decide) (by decide)).tr hfr37 (by decide) (by decide)).tr hfr43 (by decide) (by decide), 0, rfl, (⟨hq43.1, hq43.2, by rw [hfr43.1 187 (by decide) (by decide), hfr43.2 25 (by decide)]; exact hU37.rd hq43.2⟩)⟩
      · refine r_iload_n (pc := 34) hX 20 rfl rfl ?_
        exact r_iret (pc := 35) hX 21 hQ rfl rfl (Nat.le_refl 0) (Nat.le_refl 0) ⟨rfl, rfl, ((Fr.rf).fld (k := 0) (by decide)).tr hfr26 (by decide) (by decide), r26, rfl, (SRU.same hS hU es26 eu26 hk26_25)⟩
    · refine r_iconst (pc := 21) hX 11 rfl ?_
      exact r_iret (pc := 22) hX 12 hQ rfl rfl (Nat.le_refl 0) (Nat.le_refl 0) ⟨rfl, rfl, (Fr.rf).fld (k := 0) (by decide), (-1), rfl, (SRU.same hS hU (up_f (by decide)) (up_f (by decide)) (up_k (by decide)))⟩
set_option maxHeartbeats 4000000 in
set_option maxRecDepth 100000 in
theorem c_come (g : Gp) (v ρ : Mv) (Z : Mz) (hG : GM ρ Z) (c : Int) (hS : SInv (v 180)) (hU : UInv (v 180) (v 187) (v 178 25)) (hc : inR c) : Ok g 5 0 0 F_m_come [(2, 178), (0, c)] v ρ Z (fun o v' ρ' Z' => ρ = ρ' ∧ Z = Z' ∧ Fr [180, 185, 186, 187, 189] [0, 25] v v' ∧ ∃ r : Int, o = some (0, r) ∧ (SRU v v')) := by
  refine Ok.of mo_m_come (Nat.le_of_ble_eq_true rfl) ?_
  intro X hX hRm hxn hQ
  show wp g X F_m_come 0 0 0 [(2, 178), (0, c), (3, 0), (3, 0)] [] v ρ Z
  have hb2 := hS.c2
  have hb0 := hS.c0
  refine r_aload_n (pc := 0) hX 0 rfl rfl ?_
  refine r_iconst (pc := 1) hX 1 rfl ?_
  refine r_putI (pc := 2) hX 2 rfl fl_X12_1 rfl (fun _ h => by cases h; rfl) hG.1 (by decide) ?_
  refine r_iload_n (pc := 5) hX 3 rfl rfl ?_
  refine r_iconst (pc := 6) hX 4 rfl ?_
  first | refine r_icmp_eq (pc := 7) hX 5 (tgt := 20) rfl (by decide) (⟨by omega, by omega⟩) (⟨by omega, by omega⟩) (fun h7 => ?_) (fun h7 => ?_) | refine r_icmp_eq_any (pc := 7) hX 5 (tgt := 20) rfl (by decide) ?_ ?_
  · refine r_iload_n (pc := 20) hX 12 rfl rfl ?_
    refine r_iconst (pc := 21) hX 13 rfl ?_
    first | refine r_icmp_ne (pc := 22) hX 14 (tgt := 29) rfl (by decide) (⟨by omega, by omega⟩) (⟨by omega, by omega⟩) (fun h22 => ?_) (fun h22 => ?_) | refine r_icmp_ne_any (pc := 22) hX 14 (tgt := 29) rfl (by decide) ?_ ?_
    · refine r_iload_n (pc := 29) hX 17 rfl rfl ?_
      refine r_istore_n (ls' := [(2, 178), (0, c), (0, c), (3, 0)]) (pc := 30) hX 18 rfl (by decide) rfl ?_
      refine r_aload_n (pc := 31) hX 19 rfl rfl ?_
      refine r_iload_n (pc := 32) hX 20 rfl rfl ?_
      refine r_callV (as := [(0, c)]) (st := []) (K := 12) (pc := 33) hX 21 rfl mo_m_whyCome ml_X12_341 im_m_whyCome se_m_whyCome (c_whyCome g (up v 178 0 0) ρ Z hG (c) (by rw [up_f (by decide)]; exact hS) (by omega)) rfl rfl rfl hG.1 (by rw [hRm]; exact ⟨by decide, by decide⟩) (by rw [hRm]; exact ⟨by decide, by decide⟩) (Nat.le_of_ble_eq_true rfl) (fun o33 v33 ρ33 Z33 hq33 _ => ?_)
      obtain ⟨rfl, rfl, hfr33, r33, rfl, hq33⟩ := hq33
      try simp only [up_f (show (180 : Int) ≠ 178 by decide)] at hq33
      have hSInv_33 : SInv (v33 180) := by rw [hfr33.1 180 (by decide) (by decide), up_f (by decide)]; exact hS
      have hk33_25 : v33 178 25 = (v 178 25) := (hfr33.2 25 (by decide)).trans ((up_k (by decide)).trans (rfl))
      show wp g X F_m_come 0 0 36 [(2, 178), (0, c), (0, c), (3, 0)] [(0, r33)] v33 ρ Z
      have es33 : v33 180 = v 180 := by rw [hfr33.1 180 (by decide) (by decide), up_f (by decide)]
      have eu33 : v33 187 = v 187 := by rw [hfr33.1 187 (by decide) (by decide), up_f (by decide)]
      try simp only [up_f (show (180 : Int) ≠ 178 by decide)] at hq33
      refine r_istore_n (ls' := [(2, 178), (0, c), (0, c), (0, r33)]) (pc := 36) hX 22 rfl (by decide) rfl ?_
      refine r_iload_n (pc := 37) hX 23 rfl rfl ?_
      first | refine r_if_le (pc := 38) hX 24 (tgt := 43) rfl (by decide) (⟨by omega, by omega⟩) (fun h38 => ?_) (fun h38 => ?_) | refine r_if_le_any (pc := 38) hX 24 (tgt := 43) rfl (by decide) ?_ ?_
      · refine r_aload_n (pc := 43) hX 27 rfl rfl ?_
        refine r_callV (as := []) (st := []) (K := 12) (pc := 44) hX 28 rfl mo_m_keep ml_X12_328 im_m_keep se_m_keep (c_keep g v33 ρ Z hG  (hSInv_33) (by rw [es33, eu33, hk33_25]; exact hU)) rfl rfl rfl hG.1 (by rw [hRm]; exact ⟨by decide, by decide⟩) (by rw [hRm]; exact ⟨by decide, by decide⟩) (Nat.le_of_ble_eq_true rfl) (fun o44 v44 ρ44 Z44 hq44 _ => ?_)
        obtain ⟨rfl, rfl, hfr44, rfl, hq44⟩ := hq44
        have hSInv_44 : SInv (v44 180) := by rw [hfr44.1 180 (by decide) (by decide)]; exact hSInv_33
        show wp g X F_m_come 0 0 47 [(2, 178), (0, c), (0, c), (0, r33)] [] v44 ρ Z
        have es44 : v44 180 = v 180 := by rw [hfr44.1 180 (by decide) (by decide), es33]
        have hU44 : UInv (v44 180) (v44 187) (v44 178 25) := by rw [es44]; rw [es33] at hq44; exact hq44
        refine r_aload_n (pc := 47) hX 29 rfl rfl ?_
        refine r_iload_n (pc := 48) hX 30 rfl rfl ?_
        refine r_callV (as := [(0, c)]) (st := []) (K := 12) (pc := 49) hX 31 rfl mo_m_coming ml_X12_344 im_m_coming se_m_coming (c_coming g v44 ρ Z hG (c) (hSInv_44) (by clear hq33; omega) (by rw [es44]; exact (hq33.2 (by omega)).1) (by rw [es44]; obtain ⟨-, -, l, a, b, c1, d⟩ := hq33.2 (by omega); exact ⟨l, ⟨a, b, c1⟩, d⟩)) rfl rfl rfl hG.1 (by rw [hRm]; exact ⟨by decide, by decide⟩) (by rw [hRm]; exact ⟨by decide, by decide⟩) (Nat.le_of_ble_eq_true rfl) (fun o49 v49 ρ49 Z49 hq49 _ => ?_)
        obtain ⟨rfl, rfl, hfr49, rfl, hq49⟩ := hq49
        have hk49_25 : v49 178 25 = (v44 178 25) := (hfr49.2 25 (by decide)).trans (rfl)
        show wp g X F_m_come 0 0 52 [(2, 178), (0, c), (0, c), (0, r33)] [] v49 ρ Z
        rw [es44] at hq49 hU44
        refine r_iconst (pc := 52) hX 32 rfl ?_
        exact r_iret (pc := 53) hX 33 hQ rfl rfl (Nat.le_refl 0) (Nat.le_refl 0) ⟨rfl, rfl, ((((Fr.rf).fld (k := 0) (by decide)).tr hfr33 (by decide) (by decide)).tr hfr44 (by decide) (by decide)).tr hfr49 (by decide) (by decide), 0, rfl, (⟨hq49.1, hq49.2.1, by rw [hfr49.1 187 (by decide) (by decide), hfr49.2 25 (by decide)]; exact hU44.rd hq49.2.1⟩)⟩
      · refine r_iload_n (pc := 41) hX 25 rfl rfl ?_
        exact r_iret (pc := 42) hX 26 hQ rfl rfl (Nat.le_refl 0) (Nat.le_refl 0) ⟨rfl, rfl, ((Fr.rf).fld (k := 0) (by decide)).tr hfr33 (by decide) (by decide), r33, rfl, (SRU.same hS hU es33 eu33 hk33_25)⟩
    · refine r_iconst (pc := 25) hX 15 rfl ?_
      refine r_goto (pc := 26) hX 16 (tgt := 30) rfl (by decide) ?_
      refine r_istore_n (ls' := [(2, 178), (0, c), (0, 4), (3, 0)]) (pc := 30) hX 18 rfl (by decide) rfl ?_
      refine r_aload_n (pc := 31) hX 19 rfl rfl ?_
      refine r_iload_n (pc := 32) hX 20 rfl rfl ?_
      refine r_callV (as := [(0, 4)]) (st := []) (K := 12) (pc := 33) hX 21 rfl mo_m_whyCome ml_X12_341 im_m_whyCome se_m_whyCome (c_whyCome g (up v 178 0 0) ρ Z hG (4) (by rw [up_f (by decide)]; exact hS) (by omega)) rfl rfl rfl hG.1 (by rw [hRm]; exact ⟨by decide, by decide⟩) (by rw [hRm]; exact ⟨by decide, by decide⟩) (Nat.le_of_ble_eq_true rfl) (fun o33 v33 ρ33 Z33 hq33 _ => ?_)
      obtain ⟨rfl, rfl, hfr33, r33, rfl, hq33⟩ := hq33
      try simp only [up_f (show (180 : Int) ≠ 178 by decide)] at hq33
      have hSInv_33 : SInv (v33 180) := by rw [hfr33.1 180 (by decide) (by decide), up_f (by decide)]; exact hS
      have hk33_25 : v33 178 25 = (v 178 25) := (hfr33.2 25 (by decide)).trans ((up_k (by decide)).trans (rfl))
      show wp g X F_m_come 0 0 36 [(2, 178), (0, c), (0, 4), (3, 0)] [(0, r33)] v33 ρ Z
      have es33 : v33 180 = v 180 := by rw [hfr33.1 180 (by decide) (by decide), up_f (by decide)]
      have eu33 : v33 187 = v 187 := by rw [hfr33.1 187 (by decide) (by decide), up_f (by decide)]
      try simp only [up_f (show (180 : Int) ≠ 178 by decide)] at hq33
      refine r_istore_n (ls' := [(2, 178), (0, c), (0, 4), (0, r33)]) (pc := 36) hX 22 rfl (by decide) rfl ?_
      refine r_iload_n (pc := 37) hX 23 rfl rfl ?_
      first | refine r_if_le (pc := 38) hX 24 (tgt := 43) rfl (by decide) (⟨by omega, by omega⟩) (fun h38 => ?_) (fun h38 => ?_) | refine r_if_le_any (pc := 38) hX 24 (tgt := 43) rfl (by decide) ?_ ?_
      · refine r_aload_n (pc := 43) hX 27 rfl rfl ?_
        refine r_callV (as := []) (st := []) (K := 12) (pc := 44) hX 28 rfl mo_m_keep ml_X12_328 im_m_keep se_m_keep (c_keep g v33 ρ Z hG  (hSInv_33) (by rw [es33, eu33, hk33_25]; exact hU)) rfl rfl rfl hG.1 (by rw [hRm]; exact ⟨by decide, by decide⟩) (by rw [hRm]; exact ⟨by decide, by decide⟩) (Nat.le_of_ble_eq_true rfl) (fun o44 v44 ρ44 Z44 hq44 _ => ?_)
        obtain ⟨rfl, rfl, hfr44, rfl, hq44⟩ := hq44
        have hSInv_44 : SInv (v44 180) := by rw [hfr44.1 180 (by decide) (by decide)]; exact hSInv_33
        show wp g X F_m_come 0 0 47 [(2, 178), (0, c), (0, 4), (0, r33)] [] v44 ρ Z
        have es44 : v44 180 = v 180 := by rw [hfr44.1 180 (by decide) (by decide), es33]
        have hU44 : UInv (v44 180) (v44 187) (v44 178 25) := by rw [es44]; rw [es33] at hq44; exact hq44
        refine r_aload_n (pc := 47) hX 29 rfl rfl ?_
        refine r_iload_n (pc := 48) hX 30 rfl rfl ?_
        refine r_callV (as := [(0, 4)]) (st := []) (K := 12) (pc := 49) hX 31 rfl mo_m_coming ml_X12_344 im_m_coming se_m_coming (c_coming g v44 ρ Z hG (4) (hSInv_44) (by clear hq33; omega) (by rw [es44]; exact (hq33.2 (by omega)).1) (by rw [es44]; obtain ⟨-, -, l, a, b, c1, d⟩ := hq33.2 (by omega); exact ⟨l, ⟨a, b, c1⟩, d⟩)) rfl rfl rfl hG.1 (by rw [hRm]; exact ⟨by decide, by decide⟩) (by rw [hRm]; exact ⟨by decide, by decide⟩) (Nat.le_of_ble_eq_true rfl) (fun o49 v49 ρ49 Z49 hq49 _ => ?_)
        obtain ⟨rfl, rfl, hfr49, rfl, hq49⟩ := hq49
        have hk49_25 : v49 178 25 = (v44 178 25) := (hfr49.2 25 (by decide)).trans (rfl)
        show wp g X F_m_come 0 0 52 [(2, 178), (0, c), (0, 4), (0, r33)] [] v49 ρ Z
        rw [es44] at hq49 hU44
        refine r_iconst (pc := 52) hX 32 rfl ?_
        exact r_iret (pc := 53) hX 33 hQ rfl rfl (Nat.le_refl 0) (Nat.le_refl 0) ⟨rfl, rfl, ((((Fr.rf).fld (k := 0) (by decide)).tr hfr33 (by decide) (by decide)).tr hfr44 (by decide) (by decide)).tr hfr49 (by decide) (by decide), 0, rfl, (⟨hq49.1, hq49.2.1, by rw [hfr49.1 187 (by decide) (by decide), hfr49.2 25 (by decide)]; exact hU44.rd hq49.2.1⟩)⟩
      · refine r_iload_n (pc := 41) hX 25 rfl rfl ?_
        exact r_iret (pc := 42) hX 26 hQ rfl rfl (Nat.le_refl 0) (Nat.le_refl 0) ⟨rfl, rfl, ((Fr.rf).fld (k := 0) (by decide)).tr hfr33 (by decide) (by decide), r33, rfl, (SRU.same hS hU es33 eu33 hk33_25)⟩
  · refine r_aload_n (pc := 10) hX 6 rfl rfl ?_
    refine r_iload_n (pc := 11) hX 7 rfl rfl ?_
    refine r_callV (as := [(0, c)]) (st := []) (K := 12) (pc := 12) hX 8 rfl mo_m_isColour ml_X12_281 im_m_isColour se_m_isColour (c_isColour g (up v 178 0 0) ρ Z hG (c) (by rw [up_f (by decide)]; exact hS) (by omega)) rfl rfl rfl hG.1 (by rw [hRm]; exact ⟨by decide, by decide⟩) (by rw [hRm]; exact ⟨by decide, by decide⟩) (Nat.le_of_ble_eq_true rfl) (fun o12 v12 ρ12 Z12 hq12 _ => ?_)
    obtain ⟨rfl, rfl, rfl, r12, rfl, hq12⟩ := hq12
    try simp only [up_f (show (180 : Int) ≠ 178 by decide)] at hq12
    show wp g X F_m_come 0 0 15 [(2, 178), (0, c), (3, 0), (3, 0)] [(0, r12)] (up v 178 0 0) ρ Z
    first | refine r_if_ne (pc := 15) hX 9 (tgt := 20) rfl (by decide) (⟨by omega, by omega⟩) (fun h15 => ?_) (fun h15 => ?_) | refine r_if_ne_any (pc := 15) hX 9 (tgt := 20) rfl (by decide) ?_ ?_
    · refine r_iload_n (pc := 20) hX 12 rfl rfl ?_
      refine r_iconst (pc := 21) hX 13 rfl ?_
      first | refine r_icmp_ne (pc := 22) hX 14 (tgt := 29) rfl (by decide) (⟨by omega, by omega⟩) (⟨by omega, by omega⟩) (fun h22 => ?_) (fun h22 => ?_) | refine r_icmp_ne_any (pc := 22) hX 14 (tgt := 29) rfl (by decide) ?_ ?_
      · refine r_iload_n (pc := 29) hX 17 rfl rfl ?_
        refine r_istore_n (ls' := [(2, 178), (0, c), (0, c), (3, 0)]) (pc := 30) hX 18 rfl (by decide) rfl ?_
        refine r_aload_n (pc := 31) hX 19 rfl rfl ?_
        refine r_iload_n (pc := 32) hX 20 rfl rfl ?_
        refine r_callV (as := [(0, c)]) (st := []) (K := 12) (pc := 33) hX 21 rfl mo_m_whyCome ml_X12_341 im_m_whyCome se_m_whyCome (c_whyCome g (up v 178 0 0) ρ Z hG (c) (by rw [up_f (by decide)]; exact hS) (by omega)) rfl rfl rfl hG.1 (by rw [hRm]; exact ⟨by decide, by decide⟩) (by rw [hRm]; exact ⟨by decide, by decide⟩) (Nat.le_of_ble_eq_true rfl) (fun o33 v33 ρ33 Z33 hq33 _ => ?_)
        obtain ⟨rfl, rfl, hfr33, r33, rfl, hq33⟩ := hq33
        try simp only [up_f (show (180 : Int) ≠ 178 by decide)] at hq33
        have hSInv_33 : SInv (v33 180) := by rw [hfr33.1 180 (by decide) (by decide), up_f (by decide)]; exact hS
        have hk33_25 : v33 178 25 = (v 178 25) := (hfr33.2 25 (by decide)).trans ((up_k (by decide)).trans (rfl))
        show wp g X F_m_come 0 0 36 [(2, 178), (0, c), (0, c), (3, 0)] [(0, r33)] v33 ρ Z
        have es33 : v33 180 = v 180 := by rw [hfr33.1 180 (by decide) (by decide), up_f (by decide)]
        have eu33 : v33 187 = v 187 := by rw [hfr33.1 187 (by decide) (by decide), up_f (by decide)]
        try simp only [up_f (show (180 : Int) ≠ 178 by decide)] at hq33
        refine r_istore_n (ls' := [(2, 178), (0, c), (0, c), (0, r33)]) (pc := 36) hX 22 rfl (by decide) rfl ?_
        refine r_iload_n (pc := 37) hX 23 rfl rfl ?_
        first | refine r_if_le (pc := 38) hX 24 (tgt := 43) rfl (by decide) (⟨by omega, by omega⟩) (fun h38 => ?_) (fun h38 => ?_) | refine r_if_le_any (pc := 38) hX 24 (tgt := 43) rfl (by decide) ?_ ?_
        · refine r_aload_n (pc := 43) hX 27 rfl rfl ?_
          refine r_callV (as := []) (st := []) (K := 12) (pc := 44) hX 28 rfl mo_m_keep ml_X12_328 im_m_keep se_m_keep (c_keep g v33 ρ Z hG  (hSInv_33) (by rw [es33, eu33, hk33_25]; exact hU)) rfl rfl rfl hG.1 (by rw [hRm]; exact ⟨by decide, by decide⟩) (by rw [hRm]; exact ⟨by decide, by decide⟩) (Nat.le_of_ble_eq_true rfl) (fun o44 v44 ρ44 Z44 hq44 _ => ?_)
          obtain ⟨rfl, rfl, hfr44, rfl, hq44⟩ := hq44
          have hSInv_44 : SInv (v44 180) := by rw [hfr44.1 180 (by decide) (by decide)]; exact hSInv_33
          show wp g X F_m_come 0 0 47 [(2, 178), (0, c), (0, c), (0, r33)] [] v44 ρ Z
          have es44 : v44 180 = v 180 := by rw [hfr44.1 180 (by decide) (by decide), es33]
          have hU44 : UInv (v44 180) (v44 187) (v44 178 25) := by rw [es44]; rw [es33] at hq44; exact hq44
          refine r_aload_n (pc := 47) hX 29 rfl rfl ?_
          refine r_iload_n (pc := 48) hX 30 rfl rfl ?_
          refine r_callV (as := [(0, c)]) (st := []) (K := 12) (pc := 49) hX 31 rfl mo_m_coming ml_X12_344 im_m_coming se_m_coming (c_coming g v44 ρ Z hG (c) (hSInv_44) (by clear hq33; omega) (by rw [es44]; exact (hq33.2 (by omega)).1) (by rw [es44]; obtain ⟨-, -, l, a, b, c1, d⟩ := hq33.2 (by omega); exact ⟨l, ⟨a, b, c1⟩, d⟩)) rfl rfl rfl hG.1 (by rw [hRm]; exact ⟨by decide, by decide⟩) (by rw [hRm]; exact ⟨by decide, by decide⟩) (Nat.le_of_ble_eq_true rfl) (fun o49 v49 ρ49 Z49 hq49 _ => ?_)
          obtain ⟨rfl, rfl, hfr49, rfl, hq49⟩ := hq49
          have hk49_25 : v49 178 25 = (v44 178 25) := (hfr49.2 25 (by decide)).trans (rfl)
          show wp g X F_m_come 0 0 52 [(2, 178), (0, c), (0, c), (0, r33)] [] v49 ρ Z
          rw [es44] at hq49 hU44
          refine r_iconst (pc := 52) hX 32 rfl ?_
          exact r_iret (pc := 53) hX 33 hQ rfl rfl (Nat.le_refl 0) (Nat.le_refl 0) ⟨rfl, rfl, ((((Fr.rf).fld (k := 0) (by decide)).tr hfr33 (by decide) (by decide)).tr hfr44 (by decide) (by decide)).tr hfr49 (by decide) (by decide), 0, rfl, (⟨hq49.1, hq49.2.1, by rw [hfr49.1 187 (by decide) (by decide), hfr49.2 25 (by decide)]; exact hU44.rd hq49.2.1⟩)⟩
        · refine r_iload_n (pc := 41) hX 25 rfl rfl ?_
          exact r_iret (pc := 42) hX 26 hQ rfl rfl (Nat.le_refl 0) (Nat.le_refl 0) ⟨rfl, rfl, ((Fr.rf).fld (k := 0) (by decide)).tr hfr33 (by decide) (by decide), r33, rfl, (SRU.same hS hU es33 eu33 hk33_25)⟩
      · refine r_iconst (pc := 25) hX 15 rfl ?_
        refine r_goto (pc := 26) hX 16 (tgt := 30) rfl (by decide) ?_
        refine r_istore_n (ls' := [(2, 178), (0, c), (0, 4), (3, 0)]) (pc := 30) hX 18 rfl (by decide) rfl ?_
        refine r_aload_n (pc := 31) hX 19 rfl rfl ?_
        refine r_iload_n (pc := 32) hX 20 rfl rfl ?_
        refine r_callV (as := [(0, 4)]) (st := []) (K := 12) (pc := 33) hX 21 rfl mo_m_whyCome ml_X12_341 im_m_whyCome se_m_whyCome (c_whyCome g (up v 178 0 0) ρ Z hG (4) (by rw [up_f (by decide)]; exact hS) (by omega)) rfl rfl rfl hG.1 (by rw [hRm]; exact ⟨by decide, by decide⟩) (by rw [hRm]; exact ⟨by decide, by decide⟩) (Nat.le_of_ble_eq_true rfl) (fun o33 v33 ρ33 Z33 hq33 _ => ?_)
        obtain ⟨rfl, rfl, hfr33, r33, rfl, hq33⟩ := hq33
        try simp only [up_f (show (180 : Int) ≠ 178 by decide)] at hq33
        have hSInv_33 : SInv (v33 180) := by rw [hfr33.1 180 (by decide) (by decide), up_f (by decide)]; exact hS
        have hk33_25 : v33 178 25 = (v 178 25) := (hfr33.2 25 (by decide)).trans ((up_k (by decide)).trans (rfl))
        show wp g X F_m_come 0 0 36 [(2, 178), (0, c), (0, 4), (3, 0)] [(0, r33)] v33 ρ Z
        have es33 : v33 180 = v 180 := by rw [hfr33.1 180 (by decide) (by decide), up_f (by decide)]
        have eu33 : v33 187 = v 187 := by rw [hfr33.1 187 (by decide) (by decide), up_f (by decide)]
        try simp only [up_f (show (180 : Int) ≠ 178 by decide)] at hq33
        refine r_istore_n (ls' := [(2, 178), (0, c), (0, 4), (0, r33)]) (pc := 36) hX 22 rfl (by decide) rfl ?_
        refine r_iload_n (pc := 37) hX 23 rfl rfl ?_
        first | refine r_if_le (pc := 38) hX 24 (tgt := 43) rfl (by decide) (⟨by omega, by omega⟩) (fun h38 => ?_) (fun h38 => ?_) | refine r_if_le_any (pc := 38) hX 24 (tgt := 43) rfl (by decide) ?_ ?_
        · refine r_aload_n (pc := 43) hX 27 rfl rfl ?_
          refine r_callV (as := []) (st := []) (K := 12) (pc := 44) hX 28 rfl mo_m_keep ml_X12_328 im_m_keep se_m_keep (c_keep g v33 ρ Z hG  (hSInv_33) (by rw [es33, eu33, hk33_25]; exact hU)) rfl rfl rfl hG.1 (by rw [hRm]; exact ⟨by decide, by decide⟩) (by rw [hRm]; exact ⟨by decide, by decide⟩) (Nat.le_of_ble_eq_true rfl) (fun o44 v44 ρ44 Z44 hq44 _ => ?_)
          obtain ⟨rfl, rfl, hfr44, rfl, hq44⟩ := hq44
          have hSInv_44 : SInv (v44 180) := by rw [hfr44.1 180 (by decide) (by decide)]; exact hSInv_33
          show wp g X F_m_come 0 0 47 [(2, 178), (0, c), (0, 4), (0, r33)] [] v44 ρ Z
          have es44 : v44 180 = v 180 := by rw [hfr44.1 180 (by decide) (by decide), es33]
          have hU44 : UInv (v44 180) (v44 187) (v44 178 25) := by rw [es44]; rw [es33] at hq44; exact hq44
          refine r_aload_n (pc := 47) hX 29 rfl rfl ?_
          refine r_iload_n (pc := 48) hX 30 rfl rfl ?_
          refine r_callV (as := [(0, 4)]) (st := []) (K := 12) (pc := 49) hX 31 rfl mo_m_coming ml_X12_344 im_m_coming se_m_coming (c_coming g v44 ρ Z hG (4) (hSInv_44) (by clear hq33; omega) (by rw [es44]; exact (hq33.2 (by omega)).1) (by rw [es44]; obtain ⟨-, -, l, a, b, c1, d⟩ := hq33.2 (by omega); exact ⟨l, ⟨a, b, c1⟩, d⟩)) rfl rfl rfl hG.1 (by rw [hRm]; exact ⟨by decide, by decide⟩) (by rw [hRm]; exact ⟨by decide, by decide⟩) (Nat.le_of_ble_eq_true rfl) (fun o49 v49 ρ49 Z49 hq49 _ => ?_)
          obtain ⟨rfl, rfl, hfr49, rfl, hq49⟩ := hq49
          have hk49_25 : v49 178 25 = (v44 178 25) := (hfr49.2 25 (by decide)).trans (rfl)
          show wp g X F_m_come 0 0 52 [(2, 178), (0, c), (0, 4), (0, r33)] [] v49 ρ Z
          rw [es44] at hq49 hU44
          refine r_iconst (pc := 52) hX 32 rfl ?_
          exact r_iret (pc := 53) hX 33 hQ rfl rfl (Nat.le_refl 0) (Nat.le_refl 0) ⟨rfl, rfl, ((((Fr.rf).fld (k := 0) (by decide)).tr hfr33 (by decide) (by decide)).tr hfr44 (by decide) (by decide)).tr hfr49 (by decide) (by decide), 0, rfl, (⟨hq49.1, hq49.2.1, by rw [hfr49.1 187 (by decide) (by decide), hfr49.2 25 (by decide)]; exact hU44.rd hq49.2.1⟩)⟩
        · refine r_iload_n (pc := 41) hX 25 rfl rfl ?_
          exact r_iret (pc := 42) hX 26 hQ rfl rfl (Nat.le_refl 0) (Nat.le_refl 0) ⟨rfl, rfl, ((Fr.rf).fld (k := 0) (by decide)).tr hfr33 (by decide) (by decide), r33, rfl, (SRU.same hS hU es33 eu33 hk33_25)⟩
    · refine r_iconst (pc := 18) hX 10 rfl ?_
      exact r_iret (pc := 19) hX 11 hQ rfl rfl (Nat.le_refl 0) (Nat.le_refl 0) ⟨rfl, rfl, (Fr.rf).fld (k := 0) (by decide), (-1), rfl, (SRU.same hS hU (up_f (by decide)) (up_f (by decide)) (up_k (by decide)))⟩
set_option maxHeartbeats 4000000 in
set_option maxRecDepth 100000 in
theorem c_draw (g : Gp) (v ρ : Mv) (Z : Mz) (hG : GM ρ Z) (n : Int) (hn : 1 ≤ n ∧ n ≤ 1000) : Ok g 1 0 0 F_m_draw [(2, 178), (0, n)] v ρ Z (fun o v' ρ' Z' => ρ = ρ' ∧ Z = Z' ∧ Fr [] [46] v v' ∧ ∃ r : Int, o = some (0, r) ∧ (0 ≤ r ∧ r < n)) := by
  refine Ok.of mo_m_draw (Nat.le_of_ble_eq_true rfl) ?_
  intro X hX hRm hxn hQ
  show wp g X F_m_draw 0 0 0 [(2, 178), (0, n)] [] v ρ Z
  refine r_aload_n (pc := 0) hX 0 rfl rfl ?_
  refine t_getI (y := (v 178 46)) (pc := 1) hX 1 rfl rfl rfl fl_X12_461 rfl hG.1 (rfl) ?_
  refine r_ldcw (y := 1103515245) (pc := 5) hX 3 rfl ki_X12_464 (by decide) ?_
  refine r_imul (pc := 8) hX 4 rfl ?_
  refine r_sipush (pc := 9) hX 5 rfl (by decide) ?_
  refine r_iadd (pc := 12) hX 6 rfl ?_
  refine r_putI (pc := 13) hX 7 rfl fl_X12_461 rfl (fun _ h => by cases h; rfl) hG.1 (by decide) ?_
  refine t_getI (y := (((v 178 46) * 1103515245) + 12345)) (pc := 16) hX 8 rfl rfl rfl fl_X12_461 rfl hG.1 (up_s _ _ _ _) ?_
  refine r_bipush (pc := 20) hX 10 rfl (by decide) ?_
  refine r_iushr8 (pc := 22) hX 11 rfl (fun z22 hz22a hz22b => ?_)
  refine r_iload_n (pc := 23) hX 12 rfl rfl ?_
  refine r_irem (pc := 24) hX 13 rfl (⟨by omega, by omega⟩) (by omega) (⟨by omega, by omega⟩) (by omega) ?_
  exact r_iret (pc := 25) hX 14 hQ rfl rfl (Nat.le_refl 0) (Nat.le_refl 0) ⟨rfl, rfl, (Fr.rf).fld (k := 46) (by decide), (z22 % n), rfl, (⟨Int.emod_nonneg _ (by omega), Int.emod_lt_of_pos _ (by omega)⟩)⟩
