set_option maxHeartbeats 4000000 in
set_option maxRecDepth 100000 in
theorem c_greys (g : Gp) (v ρ : Mv) (Z : Mz) (hG : GM ρ Z)  (hV : HInv (v 180)) : Ok g 1 0 0 F_m_greys [(2, 178)] v ρ Z (fun o v' ρ' Z' => ρ = ρ' ∧ Z = Z' ∧ Fr [180] [] v v' ∧ o = none ∧ (RInv (v' 180)) ∧ (∀ k, 35 ≤ k → v' 180 k = v 180 k)) := by
  refine Ok.of mo_m_greys (Nat.le_of_ble_eq_true rfl) ?_
  intro X hX hRm hxn hQ
  show wp g X F_m_greys 0 0 0 [(2, 178), (3, 0), (3, 0)] [] v ρ Z
  have hz1 := hV.h0
  have h14 := (hV.1 14 (by decide) (by decide)).2.2.2.2.2.2.2.1 (by decide)
  have hc14 : v 180 1 ≠ 0 → 1 ≤ v 180 14 := fun h => hV.2.2 0 (by omega) (by omega) (by omega)
  refine t_getR (pc := 0) hX 0 rfl rfl rfl fl_X12_33 rfl hG.1 (a_s hG).1 ?_
  refine r_iconst (pc := 4) hX 2 rfl ?_
  refine e_iald (y := (v 180 1)) (pc := 5) hX 3 rfl (a_s hG).2.1 (a_s hG).2.2 (by omega) (by omega) (rfl) ?_
  have L17 : ∀ (v17 : Mv) , (Fr [180] [] v v17) → (∀ k, k ≠ 14 → v17 180 k = v 180 k) → (1 ≤ v17 180 14 ∧ v17 180 14 ≤ 9) → wp g X F_m_greys 0 0 17 [(2, 178), (3, 0), (3, 0)] [] v17 ρ Z := by
    intro v17 hfr17 ja j14
    refine r_iconst (pc := 17) hX 10 rfl ?_
    refine r_istore_n (ls' := [(2, 178), (0, 0), (3, 0)]) (pc := 18) hX 11 rfl (by decide) rfl ?_
    have L19 : ∀ (n19 : Nat) (l : Int) (v19 : Mv) , (Fr [180] [] v v19) → (0 ≤ l ∧ l ≤ 3) → (∀ k, k ≠ 14 → k ≠ 21 → k ≠ 26 → k ≠ 31 → v19 180 k = v 180 k) → (1 ≤ v19 180 14 ∧ v19 180 14 ≤ 9) → (∀ j, 0 ≤ j → j < l → v19 180 (17 + 5 * j + 4) = 12 - opF (v 180) j 4) → (3 - l).toNat < n19 → wp g X F_m_greys 0 0 19 [(2, 178), (0, l), (3, 0)] [] v19 ρ Z := by
      intro n19
      induction n19 with
      | zero => intro l v19 hfr19 il ia i14 ic hme19; exact absurd hme19 (Nat.not_lt_zero _)
      | succ n19 ih19 =>
        intro l v19 hfr19 il ia i14 ic hme19
        refine r_iload_n (pc := 19) hX 12 rfl rfl ?_
        refine r_iconst (pc := 20) hX 13 rfl ?_
        first | refine r_icmp_ge (pc := 21) hX 14 (tgt := 87) rfl (by decide) (⟨by omega, by omega⟩) (⟨by omega, by omega⟩) (fun h21 => ?_) (fun h21 => ?_) | refine r_icmp_ge_any (pc := 21) hX 14 (tgt := 87) rfl (by decide) ?_ ?_
        · exact r_vret (pc := 87) hX 58 hQ rfl rfl (Nat.le_refl 0) (Nat.le_refl 0) ⟨rfl, rfl, hfr19, rfl, (RInv.read hV i14 (fun k _ b c d e => ia k b c d e) (fun l a b => ic l a (by omega))), (fun k h => ia k (by omega) (by omega) (by omega) (by omega))⟩
        · refine t_getR (pc := 24) hX 15 rfl rfl rfl fl_X12_33 rfl hG.1 (a_s hG).1 ?_
          refine r_bipush (pc := 28) hX 17 rfl (by decide) ?_
          refine r_iconst (pc := 30) hX 18 rfl ?_
          refine r_iload_n (pc := 31) hX 19 rfl rfl ?_
          refine r_imul (pc := 32) hX 20 rfl ?_
          refine r_iadd (pc := 33) hX 21 rfl ?_
          refine r_iconst (pc := 34) hX 22 rfl ?_
          refine r_iadd (pc := 35) hX 23 rfl ?_
          refine r_bipush (pc := 36) hX 24 rfl (by decide) ?_
          refine e_iast (pc := 38) hX 25 rfl (a_s hG).2.1 (a_s hG).2.2 (by decide) (by omega) (by omega) ?_
          refine r_iconst (pc := 39) hX 26 rfl ?_
          refine r_istore_n (ls' := [(2, 178), (0, l), (0, 0)]) (pc := 40) hX 27 rfl (by decide) rfl ?_
          have L41 : ∀ (n41 : Nat) (c : Int) (v41 : Mv) , (Fr [180] [] v v41) → (0 ≤ c ∧ c ≤ 4) → (∀ k, k ≠ 14 → k ≠ 21 → k ≠ 26 → k ≠ 31 → v41 180 k = v 180 k) → (1 ≤ v41 180 14 ∧ v41 180 14 ≤ 9) → (∀ j, 0 ≤ j → j < l → v41 180 (17 + 5 * j + 4) = 12 - opF (v 180) j 4) → (v41 180 (17 + 5 * l + 4) = 12 - opF (v 180) l c.toNat) → (4 - c).toNat < n41 → wp g X F_m_greys 0 0 41 [(2, 178), (0, l), (0, c)] [] v41 ρ Z := by
            intro n41
            induction n41 with
            | zero => intro c v41 hfr41 icc ia i14 ic id_ hme41; exact absurd hme41 (Nat.not_lt_zero _)
            | succ n41 ih41 =>
              intro c v41 hfr41 icc ia i14 ic id_ hme41
              refine r_iload_n (pc := 41) hX 28 rfl rfl ?_
              refine r_iconst (pc := 42) hX 29 rfl ?_
              first | refine r_icmp_ge (pc := 43) hX 30 (tgt := 81) rfl (by decide) (⟨by omega, by omega⟩) (⟨by omega, by omega⟩) (fun h43 => ?_) (fun h43 => ?_) | refine r_icmp_ge_any (pc := 43) hX 30 (tgt := 81) rfl (by decide) ?_ ?_
              · refine r_iinc (ls' := [(2, 178), (0, (l + 1)), (0, c)]) (pc := 81) hX 56 rfl rfl (by decide) rfl ?_
                refine r_goto (pc := 84) hX 57 (tgt := 19) rfl (by decide) ?_
                refine r_wk (ls' := [(2, 178), (0, (l + 1)), (3, 0)]) ⟨Or.inr rfl, Or.inr rfl, Or.inl rfl, trivial⟩ ?_
                exact (ih19 (l + 1) v41 (hfr41) (by omega) (ia) (i14) (fun j a b => by
          by_cases e : j = l
          · subst e; rw [id_, show c = 4 by omega]; rfl
          · exact ic j a (by omega)) (by omega))
              · refine t_getR (pc := 46) hX 31 rfl rfl rfl fl_X12_33 rfl hG.1 (a_s hG).1 ?_
                refine r_bipush (pc := 50) hX 33 rfl (by decide) ?_
                refine r_iconst (pc := 52) hX 34 rfl ?_
                refine r_iload_n (pc := 53) hX 35 rfl rfl ?_
                refine r_imul (pc := 54) hX 36 rfl ?_
                refine r_iadd (pc := 55) hX 37 rfl ?_
                refine r_iconst (pc := 56) hX 38 rfl ?_
                refine r_iadd (pc := 57) hX 39 rfl ?_
                refine r_dup2i (pc := 58) hX 40 rfl (show (0 : Nat) ≠ 1 by decide) (show (2 : Nat) ≠ 1 by decide) ?_
                refine e_iald (y := (v41 180 ((17 + (5 * l)) + 4))) (pc := 59) hX 41 rfl (a_s hG).2.1 (a_s hG).2.2 (by omega) (by omega) (rfl) ?_
                refine t_getR (pc := 60) hX 42 rfl rfl rfl fl_X12_33 rfl hG.1 (a_s hG).1 ?_
                refine r_bipush (pc := 64) hX 44 rfl (by decide) ?_
                refine r_iconst (pc := 66) hX 45 rfl ?_
                refine r_iload_n (pc := 67) hX 46 rfl rfl ?_
                refine r_imul (pc := 68) hX 47 rfl ?_
                refine r_iadd (pc := 69) hX 48 rfl ?_
                refine r_iload_n (pc := 70) hX 49 rfl rfl ?_
                refine r_iadd (pc := 71) hX 50 rfl ?_
                refine e_iald (y := (v41 180 ((17 + (5 * l)) + c))) (pc := 72) hX 51 rfl (a_s hG).2.1 (a_s hG).2.2 (by omega) (by omega) (rfl) ?_
                refine r_isub (pc := 73) hX 52 rfl ?_
                refine e_iast (pc := 74) hX 53 rfl (a_s hG).2.1 (a_s hG).2.2 (by decide) (by omega) (by omega) ?_
                refine r_iinc (ls' := [(2, 178), (0, l), (0, (c + 1))]) (pc := 75) hX 54 rfl rfl (by decide) rfl ?_
                refine r_goto (pc := 78) hX 55 (tgt := 41) rfl (by decide) ?_
                exact (ih41 (c + 1) (up v41 180 ((17 + (5 * l)) + 4) ((v41 180 ((17 + (5 * l)) + 4)) - (v41 180 ((17 + (5 * l)) + c)))) ((hfr41).arr (r := 180) (by decide) (by decide)) (by omega) (fun k a b c d => by rw [up_k (by omega)]; exact ia k a b c d) (by rw [up_k (by omega)]; exact i14) (fun j a b => by rw [up_k (by omega)]; exact ic j a b) (by rw [up_s, opF_s (by omega), id_, ia (17 + 5 * l + c) (by omega) (by omega) (by omega) (by omega)]; omega) (by omega))
          exact (L41 _ 0 (up v19 180 ((17 + (5 * l)) + 4) 12) ((hfr19).arr (r := 180) (by decide) (by decide)) (by omega) (fun k a b c d => by rw [up_k (by omega)]; exact ia k a b c d) (by rw [up_k (by omega)]; exact i14) (fun j a b => by rw [up_k (by omega)]; exact ic j a b) (by rw [up_s]; rfl) (Nat.lt_succ_self _))
    exact (L19 _ 0 v17 (hfr17) (by omega) (fun k a _ _ _ => ja k a) (j14) (fun j a b => by omega) (Nat.lt_succ_self _))
  first | refine r_if_ne (pc := 6) hX 4 (tgt := 17) rfl (by decide) (⟨by omega, by omega⟩) (fun h6 => ?_) (fun h6 => ?_) | refine r_if_ne_any (pc := 6) hX 4 (tgt := 17) rfl (by decide) ?_ ?_
  · exact (L17  v (Fr.rf) (fun k h => by first | rfl | exact up_k h) (by first | (rw [up_s]; omega) | (have := hc14 (by omega); omega)) )
  · refine t_getR (pc := 9) hX 5 rfl rfl rfl fl_X12_33 rfl hG.1 (a_s hG).1 ?_
    refine r_bipush (pc := 13) hX 7 rfl (by decide) ?_
    refine r_iconst (pc := 15) hX 8 rfl ?_
    refine e_iast (pc := 16) hX 9 rfl (a_s hG).2.1 (a_s hG).2.2 (by decide) (by omega) (by omega) ?_
    exact (L17  (up v 180 14 1) ((Fr.rf).arr (r := 180) (by decide) (by decide)) (fun k h => by first | rfl | exact up_k h) (by first | (rw [up_s]; omega) | (have := hc14 (by omega); omega)) )
set_option maxHeartbeats 4000000 in
set_option maxRecDepth 100000 in
theorem c_readLand (g : Gp) (v ρ : Mv) (Z : Mz) (hG : GM ρ Z)  (hL : 0 ≤ v 178 4 ∧ v 178 4 ≤ v 178 3 ∧ v 178 3 ≤ 940 ∧ 0 ≤ v 178 11 ∧ v 178 11 ≤ 4 ∧ inR (v 178 5) ∧ inR (v 178 14)) (hV : HInv (v 181)) : Ok g 5 0 0 F_m_readLand [(2, 178)] v ρ Z (fun o v' ρ' Z' => ρ = ρ' ∧ Z = Z' ∧ Fr [181, 183] [4, 11, 12, 13, 14, 15, 16, 17, 18] v v' ∧ ∃ r : Int, o = some (0, r) ∧ (0 ≤ v' 178 4 ∧ v' 178 4 ≤ v' 178 3 ∧ v' 178 3 ≤ 940 ∧ 0 ≤ v' 178 11 ∧ v' 178 11 ≤ 4 ∧ inR (v' 178 5) ∧ inR (v' 178 14) ∧ v 178 4 ≤ v' 178 4 ∧ v' 178 3 = v 178 3) ∧ ((r = 0 ∨ r = 1 ∧ HInv (v' 181) ∧ (v 178 4 < v' 178 4 ∨ v' 178 11 = 0 ∨ v' 178 11 = 4)))) := by
  refine Ok.of mo_m_readLand (Nat.le_of_ble_eq_true rfl) ?_
  intro X hX hRm hxn hQ
  show wp g X F_m_readLand 0 0 0 [(2, 178), (3, 0), (3, 0), (3, 0)] [] v ρ Z
  have hz := hV.h0
  refine t_getR (pc := 0) hX 0 rfl rfl rfl fl_X12_37 rfl hG.1 (a_h hG).1 ?_
  refine r_iconst (pc := 4) hX 2 rfl ?_
  refine e_iald (y := (v 181 1)) (pc := 5) hX 3 rfl (a_h hG).2.1 (a_h hG).2.2 (by omega) (by omega) (rfl) ?_
  obtain ⟨l, hl_e⟩ : ∃ z : Int, z = (v 181 1) := ⟨_, rfl⟩
  rw [← hl_e]
  refine r_istore_n (ls' := [(2, 178), (0, l), (3, 0), (3, 0)]) (pc := 6) hX 4 rfl (by decide) rfl ?_
  refine r_iload_n (pc := 7) hX 5 rfl rfl ?_
  refine r_iconst (pc := 8) hX 6 rfl ?_
  first | refine r_icmp_ne (pc := 9) hX 7 (tgt := 18) rfl (by decide) (⟨by omega, by omega⟩) (⟨by omega, by omega⟩) (fun h9 => ?_) (fun h9 => ?_) | refine r_icmp_ne_any (pc := 9) hX 7 (tgt := 18) rfl (by decide) ?_ ?_
  · refine r_aload_n (pc := 18) hX 12 rfl rfl ?_
    refine r_callV (as := []) (st := []) (K := 12) (pc := 19) hX 13 rfl mo_m_go ml_X12_219 im_m_go se_m_go (c_go g v ρ Z hG  (by omega)) rfl rfl rfl hG.1 (by rw [hRm]; exact ⟨by decide, by decide⟩) (by rw [hRm]; exact ⟨by decide, by decide⟩) (Nat.le_of_ble_eq_true rfl) (fun o19 v19 ρ19 Z19 hq19 _ => ?_)
    obtain ⟨rfl, rfl, hfr19, rfl, hq19⟩ := hq19
    have hk19_3 : v19 178 3 = (v 178 3) := (hfr19.2 3 (by decide)).trans (rfl)
    have hk19_5 : v19 178 5 = (v 178 5) := (hfr19.2 5 (by decide)).trans (rfl)
    show wp g X F_m_readLand 0 0 22 [(2, 178), (0, l), (3, 0), (3, 0)] [] v19 ρ Z
    have eh19 : v19 181 = v 181 := hfr19.1 181 (by decide) (by decide)
    refine r_aload_n (pc := 22) hX 14 rfl rfl ?_
    refine r_bipush (pc := 23) hX 15 rfl (by decide) ?_
    refine r_iload_n (pc := 25) hX 16 rfl rfl ?_
    refine r_iadd (pc := 26) hX 17 rfl ?_
    refine r_callV (as := [(0, (14 + l))]) (st := []) (K := 12) (pc := 27) hX 18 rfl mo_m_fresh ml_X12_251 im_m_fresh se_m_fresh (c_fresh g v19 ρ Z hG ((14 + l)) (by omega) (by rw [eh19]; exact hz) (by omega)) rfl rfl rfl hG.1 (by rw [hRm]; exact ⟨by decide, by decide⟩) (by rw [hRm]; exact ⟨by decide, by decide⟩) (Nat.le_of_ble_eq_true rfl) (fun o27 v27 ρ27 Z27 hq27 _ => ?_)
    obtain ⟨rfl, rfl, hfr27, r27, rfl, hq27⟩ := hq27
    have hk27_3 : v27 178 3 = (v19 178 3) := (hfr27.2 3 (by decide)).trans (rfl)
    have hk27_5 : v27 178 5 = (v19 178 5) := (hfr27.2 5 (by decide)).trans (rfl)
    show wp g X F_m_readLand 0 0 30 [(2, 178), (0, l), (3, 0), (3, 0)] [(0, r27)] v27 ρ Z
    have eh27 : v27 181 = v19 181 := hfr27.1 181 (by decide) (by decide)
    first | refine r_if_eq (pc := 30) hX 19 (tgt := 47) rfl (by decide) (⟨by omega, by omega⟩) (fun h30 => ?_) (fun h30 => ?_) | refine r_if_eq_any (pc := 30) hX 19 (tgt := 47) rfl (by decide) ?_ ?_
    · refine r_iconst (pc := 47) hX 28 rfl ?_
      exact r_zret (pc := 48) hX 29 hQ rfl rfl ⟨by omega, by omega⟩ (Nat.le_refl 0) (Nat.le_refl 0) ⟨rfl, rfl, ((Fr.rf).tr hfr19 (by decide) (by decide)).tr hfr27 (by decide) (by decide), 0, rfl, (by (repeat (first | rw [up_k (by decide)] | rw [up_s] | rw [up_r (by decide)])); omega), (by omega)⟩
    · refine r_aload_n (pc := 33) hX 20 rfl rfl ?_
      refine r_bipush (pc := 34) hX 21 rfl (by decide) ?_
      refine r_iload_n (pc := 36) hX 22 rfl rfl ?_
      refine r_iadd (pc := 37) hX 23 rfl ?_
      refine r_iconst (pc := 38) hX 24 rfl ?_
      refine r_bipush (pc := 39) hX 25 rfl (by decide) ?_
      refine r_callV (as := [(0, (14 + l)), (0, 1), (0, 9)]) (st := []) (K := 12) (pc := 41) hX 26 rfl mo_m_puts ml_X12_254 im_m_puts se_m_puts (c_puts g v27 ρ Z hG ((14 + l)) (1) (9) (by omega) (by omega) (by omega) (by omega)) rfl rfl rfl hG.1 (by rw [hRm]; exact ⟨by decide, by decide⟩) (by rw [hRm]; exact ⟨by decide, by decide⟩) (Nat.le_of_ble_eq_true rfl) (fun o41 v41 ρ41 Z41 hq41 _ => ?_)
      obtain ⟨rfl, rfl, hfr41, r41, rfl, hq41⟩ := hq41
      have hk41_3 : v41 178 3 = (v27 178 3) := (hfr41.2 3 (by decide)).trans (rfl)
      have hk41_5 : v41 178 5 = (v27 178 5) := (hfr41.2 5 (by decide)).trans (rfl)
      show wp g X F_m_readLand 0 0 44 [(2, 178), (0, l), (3, 0), (3, 0)] [(0, r41)] v41 ρ Z
      have hoth : ∀ j, j ≠ 14 + l → r41 ≠ 0 → v41 181 j = v 181 j := fun j a b => by
        rcases hq41.2 with ⟨c, -⟩ | ⟨-, -, -, -, c, -⟩
        · exact absurd c b
        · rw [c j a, eh27, eh19]
      have hq41b : r41 = 0 ∨ r41 = 1 ∧ v27 178 11 = 2 ∧ 1 ≤ v41 181 (14 + l) ∧ v41 181 (14 + l) ≤ 9 ∧ (v27 178 4 < v41 178 4 ∨ v41 178 11 = 0 ∨ v41 178 11 = 4) := by
        rcases hq41.2 with ⟨c, -⟩ | ⟨a, b, c, d, -, e⟩
        · exact Or.inl c
        · exact Or.inr ⟨a, b, c, d, e⟩
      replace hq41 := hq41.1
      first | refine r_if_ne (pc := 44) hX 27 (tgt := 49) rfl (by decide) (⟨by omega, by omega⟩) (fun h44 => ?_) (fun h44 => ?_) | refine r_if_ne_any (pc := 44) hX 27 (tgt := 49) rfl (by decide) ?_ ?_
      · replace hoth := fun j a => hoth j a (by omega)
        refine r_iconst (pc := 49) hX 30 rfl ?_
        refine r_istore_n (ls' := [(2, 178), (0, l), (0, 0), (3, 0)]) (pc := 50) hX 31 rfl (by decide) rfl ?_
        have L51 : ∀ (n51 : Nat) (i : Int) (v51 : Mv) , (Fr [181, 183] [4, 11, 12, 13, 14, 15, 16, 17, 18] v v51) → (0 ≤ i ∧ i ≤ 4) → (0 ≤ v51 178 4 ∧ v51 178 4 ≤ v51 178 3 ∧ v51 178 3 ≤ 940 ∧ 0 ≤ v51 178 11 ∧ v51 178 11 ≤ 4 ∧ inR (v51 178 5) ∧ inR (v51 178 14)) → (v 178 4 ≤ v51 178 4 ∧ v51 178 3 = v 178 3) → ((v 178 4 < v51 178 4 ∨ v51 178 11 = 0 ∨ v51 178 11 = 4)) → (∀ j, j ≠ 14 + l → ¬ (17 + 5 * l ≤ j ∧ j < 17 + 5 * l + 4) → v51 181 j = v 181 j) → (1 ≤ v51 181 (14 + l) ∧ v51 181 (14 + l) ≤ 9) → (∀ c, 0 ≤ c → c < i → v51 181 (17 + 5 * l + c) = 0) → (4 - i).toNat < n51 → wp g X F_m_readLand 0 0 51 [(2, 178), (0, l), (0, i), (3, 0)] [] v51 ρ Z := by
          intro n51
          induction n51 with
          | zero => intro i v51 hfr51 ii jl jp js ia i14 iz hme51; exact absurd hme51 (Nat.not_lt_zero _)
          | succ n51 ih51 =>
            intro i v51 hfr51 ii jl jp js ia i14 iz hme51
            refine r_iload_n (pc := 51) hX 32 rfl rfl ?_
            refine r_iconst (pc := 52) hX 33 rfl ?_
            first | refine r_icmp_ge (pc := 53) hX 34 (tgt := 76) rfl (by decide) (⟨by omega, by omega⟩) (⟨by omega, by omega⟩) (fun h53 => ?_) (fun h53 => ?_) | refine r_icmp_ge_any (pc := 53) hX 34 (tgt := 76) rfl (by decide) ?_ ?_
            · refine r_bipush (pc := 76) hX 48 rfl (by decide) ?_
              refine r_istore_n (ls' := [(2, 178), (0, l), (0, 12), (3, 0)]) (pc := 78) hX 49 rfl (by decide) rfl ?_
              have L79 : ∀ (n79 : Nat) (lf : Int) (v79 : Mv) , (Fr [181, 183] [4, 11, 12, 13, 14, 15, 16, 17, 18] v v79) → (0 ≤ v79 178 4 ∧ v79 178 4 ≤ v79 178 3 ∧ v79 178 3 ≤ 940 ∧ 0 ≤ v79 178 11 ∧ v79 178 11 ≤ 4 ∧ inR (v79 178 5) ∧ inR (v79 178 14)) → (v 178 4 ≤ v79 178 4 ∧ v79 178 3 = v 178 3) → ((v 178 4 < v79 178 4 ∨ v79 178 11 = 0 ∨ v79 178 11 = 4)) → (∀ j, j ≠ 14 + l → ¬ (17 + 5 * l ≤ j ∧ j < 17 + 5 * l + 4) → v79 181 j = v 181 j) → (1 ≤ v79 181 (14 + l) ∧ v79 181 (14 + l) ≤ 9) → (∀ c, 0 ≤ c → c ≤ 3 → 0 ≤ v79 181 (17 + 5 * l + c) ∧ v79 181 (17 + 5 * l + c) ≤ 12) → (v79 181 (17 + 5 * l + 0) + v79 181 (17 + 5 * l + 1) + v79 181 (17 + 5 * l + 2) + v79 181 (17 + 5 * l + 3) + lf = 12 ∧ 0 ≤ lf ∧ lf ≤ 12) → (940 - v79 178 4).toNat < n79 → wp g X F_m_readLand 0 0 79 [(2, 178), (0, l), (0, lf), (3, 0)] [] v79 ρ Z := by
                intro n79
                induction n79 with
                | zero => intro lf v79 hfr79 jl jp js ia i14 ib iss hme79; exact absurd hme79 (Nat.not_lt_zero _)
                | succ n79 ih79 =>
                  intro lf v79 hfr79 jl jp js ia i14 ib iss hme79
                  have ih0 := ia 0 (by omega) (by omega)
                  have ih1 := ia 1 (by omega) (by omega)
                  refine r_aload_n (pc := 79) hX 50 rfl rfl ?_
                  refine r_bipush (pc := 80) hX 51 rfl (by decide) ?_
                  refine r_callV (as := [(0, 59)]) (st := []) (K := 12) (pc := 82) hX 52 rfl mo_m_isSign ml_X12_213 im_m_isSign se_m_isSign (c_isSign g v79 ρ Z hG (59) (by omega)) rfl rfl rfl hG.1 (by rw [hRm]; exact ⟨by decide, by decide⟩) (by rw [hRm]; exact ⟨by decide, by decide⟩) (Nat.le_of_ble_eq_true rfl) (fun o82 v82 ρ82 Z82 hq82 _ => ?_)
                  obtain ⟨rfl, rfl, rfl, r82, rfl, hq82⟩ := hq82
                  show wp g X F_m_readLand 0 0 85 [(2, 178), (0, l), (0, lf), (3, 0)] [(0, r82)] v79 ρ Z
                  first | refine r_if_ne (pc := 85) hX 53 (tgt := 160) rfl (by decide) (⟨by omega, by omega⟩) (fun h85 => ?_) (fun h85 => ?_) | refine r_if_ne_any (pc := 85) hX 53 (tgt := 160) rfl (by decide) ?_ ?_
                  · refine t_getR (pc := 160) hX 100 rfl rfl rfl fl_X12_37 rfl hG.1 (a_h hG).1 ?_
                    refine r_iconst (pc := 164) hX 102 rfl ?_
                    refine r_dup2i (pc := 165) hX 103 rfl (show (0 : Nat) ≠ 1 by decide) (show (2 : Nat) ≠ 1 by decide) ?_
                    refine e_iald (y := (v79 181 1)) (pc := 166) hX 104 rfl (a_h hG).2.1 (a_h hG).2.2 (by omega) (by omega) (rfl) ?_
                    refine r_iconst (pc := 167) hX 105 rfl ?_
                    refine r_iadd (pc := 168) hX 106 rfl ?_
                    refine e_iast (pc := 169) hX 107 rfl (a_h hG).2.1 (a_h hG).2.2 (by decide) (by omega) (by omega) ?_
                    refine r_iconst (pc := 170) hX 108 rfl ?_
                    show wp g X F_m_readLand 0 0 171 [(2, 178), (0, l), (0, lf), (3, 0)] [(0, 1)] (up v79 181 1 ((v79 181 1) + 1)) ρ Z
                    exact r_zret (pc := 171) hX 109 hQ rfl rfl ⟨by omega, by omega⟩ (Nat.le_refl 0) (Nat.le_refl 0) ⟨rfl, rfl, (hfr79).arr (r := 181) (by decide) (by decide), 1, rfl, (by (repeat (first | rw [up_k (by decide)] | rw [up_s] | rw [up_r (by decide)])); omega), (Or.inr ⟨rfl, HInv.more (hV.land (l := l) (by omega) (ia 1 (by omega) (by omega)) (by omega) ia (by omega) ib (by omega)) (fun j hj => up_k hj) (up_s _ _ _ _) (by omega) (by rw [show v79 181 1 = l by omega]; exact i14.1), by (repeat (first | rw [up_k (by decide)] | rw [up_s] | rw [up_r (by decide)])); omega⟩)⟩
                  · refine r_aload_n (pc := 88) hX 54 rfl rfl ?_
                    refine r_bipush (pc := 89) hX 55 rfl (by decide) ?_
                    refine t_getR (pc := 91) hX 56 rfl rfl rfl fl_X12_37 rfl hG.1 (a_h hG).1 ?_
                    refine r_iconst (pc := 95) hX 58 rfl ?_
                    refine e_iald (y := (v79 181 0)) (pc := 96) hX 59 rfl (a_h hG).2.1 (a_h hG).2.2 (by omega) (by omega) (rfl) ?_
                    refine r_callV (as := [(0, 10), (0, (v79 181 0))]) (st := []) (K := 12) (pc := 97) hX 60 rfl mo_m_looksAt ml_X12_257 im_m_looksAt se_m_looksAt (c_looksAt g v79 ρ Z hG (10) ((v79 181 0)) (by omega) (by omega) (by omega)) rfl rfl rfl hG.1 (by rw [hRm]; exact ⟨by decide, by decide⟩) (by rw [hRm]; exact ⟨by decide, by decide⟩) (Nat.le_of_ble_eq_true rfl) (fun o97 v97 ρ97 Z97 hq97 _ => ?_)
                    obtain ⟨rfl, rfl, hfr97, r97, rfl, hq97⟩ := hq97
                    have hk97_3 : v97 178 3 = (v79 178 3) := (hfr97.2 3 (by decide)).trans (rfl)
                    have hk97_4 : v97 178 4 = (v79 178 4) := (hfr97.2 4 (by decide)).trans (rfl)
                    have hk97_5 : v97 178 5 = (v79 178 5) := (hfr97.2 5 (by decide)).trans (rfl)
                    have hk97_11 : v97 178 11 = (v79 178 11) := (hfr97.2 11 (by decide)).trans (rfl)
                    have hk97_14 : v97 178 14 = (v79 178 14) := (hfr97.2 14 (by decide)).trans (rfl)
                    show wp g X F_m_readLand 0 0 100 [(2, 178), (0, l), (0, lf), (3, 0)] [(0, r97)] v97 ρ Z
                    have eh97 : v97 181 = v79 181 := hfr97.1 181 (by decide) (by decide)
                    first | refine r_if_ne (pc := 100) hX 61 (tgt := 105) rfl (by decide) (⟨by omega, by omega⟩) (fun h100 => ?_) (fun h100 => ?_) | refine r_if_ne_any (pc := 100) hX 61 (tgt := 105) rfl (by decide) ?_ ?_
                    · refine r_bipush (pc := 105) hX 64 rfl (by decide) ?_
                      refine r_iconst (pc := 107) hX 65 rfl ?_
                      refine r_iload_n (pc := 108) hX 66 rfl rfl ?_
                      refine r_imul (pc := 109) hX 67 rfl ?_
                      refine r_iadd (pc := 110) hX 68 rfl ?_
                      refine t_getI (y := (v97 178 18)) (pc := 111) hX 69 rfl rfl rfl fl_X12_226 rfl hG.1 (rfl) ?_
                      refine r_iadd (pc := 115) hX 71 rfl ?_
                      refine r_istore_n (ls' := [(2, 178), (0, l), (0, lf), (0, ((17 + (5 * l)) + (v97 178 18)))]) (pc := 116) hX 72 rfl (by decide) rfl ?_
                      refine t_getR (pc := 117) hX 73 rfl rfl rfl fl_X12_37 rfl hG.1 (a_h hG).1 ?_
                      refine r_iload_n (pc := 121) hX 75 rfl rfl ?_
                      refine e_iald (y := (v97 181 ((17 + (5 * l)) + (v97 178 18)))) (pc := 122) hX 76 rfl (a_h hG).2.1 (a_h hG).2.2 (by omega) (by omega) (rfl) ?_
                      have hold : v97 181 (17 + 5 * l + (v97 178 18)) = v79 181 (17 + 5 * l + (v97 178 18)) := by rw [eh97]
                      have hob := ib (v97 178 18) (by omega) (by omega)
                      first | refine r_if_le (pc := 123) hX 77 (tgt := 132) rfl (by decide) (⟨by omega, by omega⟩) (fun h123 => ?_) (fun h123 => ?_) | refine r_if_le_any (pc := 123) hX 77 (tgt := 132) rfl (by decide) ?_ ?_
                      · refine r_aload_n (pc := 132) hX 82 rfl rfl ?_
                        refine r_callV (as := []) (st := []) (K := 12) (pc := 133) hX 83 rfl mo_m_go ml_X12_219 im_m_go se_m_go (c_go g v97 ρ Z hG  (by omega)) rfl rfl rfl hG.1 (by rw [hRm]; exact ⟨by decide, by decide⟩) (by rw [hRm]; exact ⟨by decide, by decide⟩) (Nat.le_of_ble_eq_true rfl) (fun o133 v133 ρ133 Z133 hq133 _ => ?_)
                        obtain ⟨rfl, rfl, hfr133, rfl, hq133⟩ := hq133
                        have hk133_3 : v133 178 3 = (v97 178 3) := (hfr133.2 3 (by decide)).trans (rfl)
                        have hk133_5 : v133 178 5 = (v97 178 5) := (hfr133.2 5 (by decide)).trans (rfl)
                        show wp g X F_m_readLand 0 0 136 [(2, 178), (0, l), (0, lf), (0, ((17 + (5 * l)) + (v97 178 18)))] [] v133 ρ Z
                        have eh133 : v133 181 = v97 181 := hfr133.1 181 (by decide) (by decide)
                        refine r_aload_n (pc := 136) hX 84 rfl rfl ?_
                        refine r_iload_n (pc := 137) hX 85 rfl rfl ?_
                        refine r_iconst (pc := 138) hX 86 rfl ?_
                        refine r_iload_n (pc := 139) hX 87 rfl rfl ?_
                        refine r_callV (as := [(0, ((17 + (5 * l)) + (v97 178 18))), (0, 1), (0, lf)]) (st := []) (K := 12) (pc := 140) hX 88 rfl mo_m_puts ml_X12_254 im_m_puts se_m_puts (c_puts g v133 ρ Z hG (((17 + (5 * l)) + (v97 178 18))) (1) (lf) (by omega) (by omega) (by omega) (by omega)) rfl rfl rfl hG.1 (by rw [hRm]; exact ⟨by decide, by decide⟩) (by rw [hRm]; exact ⟨by decide, by decide⟩) (Nat.le_of_ble_eq_true rfl) (fun o140 v140 ρ140 Z140 hq140 _ => ?_)
                        obtain ⟨rfl, rfl, hfr140, r140, rfl, hq140⟩ := hq140
                        have hk140_3 : v140 178 3 = (v133 178 3) := (hfr140.2 3 (by decide)).trans (rfl)
                        have hk140_5 : v140 178 5 = (v133 178 5) := (hfr140.2 5 (by decide)).trans (rfl)
                        show wp g X F_m_readLand 0 0 143 [(2, 178), (0, l), (0, lf), (0, ((17 + (5 * l)) + (v97 178 18)))] [(0, r140)] v140 ρ Z
                        have hq140b : r140 = 0 ∨ r140 = 1 ∧ v133 178 11 = 2 ∧ 1 ≤ v140 181 (17 + 5 * l + (v97 178 18)) ∧ v140 181 (17 + 5 * l + (v97 178 18)) ≤ lf ∧ (v133 178 4 < v140 178 4 ∨ v140 178 11 = 0 ∨ v140 178 11 = 4) := by
                          rcases hq140.2 with ⟨c, -⟩ | ⟨a, b, c, d, -, e⟩
                          · exact Or.inl c
                          · exact Or.inr ⟨a, b, c, d, e⟩
                        have hoth2 : ∀ j, j ≠ 17 + 5 * l + (v97 178 18) → r140 ≠ 0 → v140 181 j = v79 181 j := fun j a b => by
                          rcases hq140.2 with ⟨c, -⟩ | ⟨-, -, -, -, c, -⟩
                          · exact absurd c b
                          · rw [c j a, eh133, eh97]
                        replace hq140 := hq140.1
                        first | refine r_if_ne (pc := 143) hX 89 (tgt := 148) rfl (by decide) (⟨by omega, by omega⟩) (fun h143 => ?_) (fun h143 => ?_) | refine r_if_ne_any (pc := 143) hX 89 (tgt := 148) rfl (by decide) ?_ ?_
                        · replace hoth2 := fun j a => hoth2 j a (by omega)
                          have hval : (1 : Int) = 1 := rfl
                          have hnew : 1 ≤ v140 181 (17 + 5 * l + (v97 178 18)) ∧ v140 181 (17 + 5 * l + (v97 178 18)) ≤ lf := by omega
                          refine r_iload_n (pc := 148) hX 92 rfl rfl ?_
                          refine t_getR (pc := 149) hX 93 rfl rfl rfl fl_X12_37 rfl hG.1 (a_h hG).1 ?_
                          refine r_iload_n (pc := 153) hX 95 rfl rfl ?_
                          refine e_iald (y := (v140 181 ((17 + (5 * l)) + (v97 178 18)))) (pc := 154) hX 96 rfl (a_h hG).2.1 (a_h hG).2.2 (by omega) (by omega) (rfl) ?_
                          refine r_isub (pc := 155) hX 97 rfl ?_
                          refine r_istore_n (ls' := [(2, 178), (0, l), (0, (lf - (v140 181 ((17 + (5 * l)) + (v97 178 18))))), (0, ((17 + (5 * l)) + (v97 178 18)))]) (pc := 156) hX 98 rfl (by decide) rfl ?_
                          refine r_goto (pc := 157) hX 99 (tgt := 79) rfl (by decide) ?_
                          refine r_wk (ls' := [(2, 178), (0, l), (0, (lf - (v140 181 ((17 + (5 * l)) + (v97 178 18))))), (3, 0)]) ⟨Or.inr rfl, Or.inr rfl, Or.inr rfl, Or.inl rfl, trivial⟩ ?_
                          exact (ih79 (lf - (v140 181 ((17 + (5 * l)) + (v97 178 18)))) v140 ((((hfr79).tr hfr97 (by decide) (by decide)).tr hfr133 (by decide) (by decide)).tr hfr140 (by decide) (by decide)) (by omega) (by omega) (by omega) (fun j a b => by rw [hoth2 j (by omega)]; exact ia j a b) (by rw [hoth2 _ (by omega)]; exact i14) (fun c a b => by
          by_cases e : c = (v97 178 18)
          · subst e; omega
          · rw [hoth2 _ (by omega)]; exact ib c a b) (by
          have hg4 : (v97 178 18) = 0 ∨ (v97 178 18) = 1 ∨ (v97 178 18) = 2 ∨ (v97 178 18) = 3 := by omega
          have y0 := hoth2 (17 + 5 * l + 0)
          have y1 := hoth2 (17 + 5 * l + 1)
          have y2 := hoth2 (17 + 5 * l + 2)
          have y3 := hoth2 (17 + 5 * l + 3)
          have x0 := ib 0 (by omega) (by omega)
          have x1 := ib 1 (by omega) (by omega)
          have x2 := ib 2 (by omega) (by omega)
          have x3 := ib 3 (by omega) (by omega)
          have hzero : v79 181 (17 + 5 * l + (v97 178 18)) = 0 := by omega
          rcases hg4 with e | e | e | e <;> rw [e] at hnew hzero y0 y1 y2 y3 ⊢ <;> omega) (by omega))
                        · refine r_iconst (pc := 146) hX 90 rfl ?_
                          exact r_zret (pc := 147) hX 91 hQ rfl rfl ⟨by omega, by omega⟩ (Nat.le_refl 0) (Nat.le_refl 0) ⟨rfl, rfl, (((hfr79).tr hfr97 (by decide) (by decide)).tr hfr133 (by decide) (by decide)).tr hfr140 (by decide) (by decide), 0, rfl, (by (repeat (first | rw [up_k (by decide)] | rw [up_s] | rw [up_r (by decide)])); omega), (by omega)⟩
                      · refine r_aload_n (pc := 126) hX 78 rfl rfl ?_
                        refine r_iconst (pc := 127) hX 79 rfl ?_
                        refine r_callV (as := [(0, 3)]) (st := []) (K := 12) (pc := 128) hX 80 rfl mo_m_bad ml_X12_216 im_m_bad se_m_bad (c_bad g v97 ρ Z hG (3) ) rfl rfl rfl hG.1 (by rw [hRm]; exact ⟨by decide, by decide⟩) (by rw [hRm]; exact ⟨by decide, by decide⟩) (Nat.le_of_ble_eq_true rfl) (fun o128 v128 ρ128 Z128 hq128 _ => ?_)
                        obtain ⟨rfl, rfl, hfr128, r128, rfl, hq128⟩ := hq128
                        have hk128_3 : v128 178 3 = (v97 178 3) := (hfr128.2 3 (by decide)).trans (rfl)
                        have hk128_4 : v128 178 4 = (v97 178 4) := (hfr128.2 4 (by decide)).trans (rfl)
                        have hk128_5 : v128 178 5 = (v97 178 5) := (hfr128.2 5 (by decide)).trans (rfl)
                        have hk128_11 : v128 178 11 = (v97 178 11) := (hfr128.2 11 (by decide)).trans (rfl)
                        have hk128_14 : v128 178 14 = (v97 178 14) := (hfr128.2 14 (by decide)).trans (rfl)
                        show wp g X F_m_readLand 0 0 131 [(2, 178), (0, l), (0, lf), (0, ((17 + (5 * l)) + (v97 178 18)))] [(0, r128)] v128 ρ Z
                        exact r_zret (pc := 131) hX 81 hQ rfl rfl ⟨by omega, by omega⟩ (Nat.le_refl 0) (Nat.le_refl 0) ⟨rfl, rfl, ((hfr79).tr hfr97 (by decide) (by decide)).tr hfr128 (by decide) (by decide), r128, rfl, (by (repeat (first | rw [up_k (by decide)] | rw [up_s] | rw [up_r (by decide)])); omega), (by omega)⟩
                    · refine r_iconst (pc := 103) hX 62 rfl ?_
                      exact r_zret (pc := 104) hX 63 hQ rfl rfl ⟨by omega, by omega⟩ (Nat.le_refl 0) (Nat.le_refl 0) ⟨rfl, rfl, (hfr79).tr hfr97 (by decide) (by decide), 0, rfl, (by (repeat (first | rw [up_k (by decide)] | rw [up_s] | rw [up_r (by decide)])); omega), (by omega)⟩
              exact (L79 _ 12 v51 (hfr51) (jl) (jp) (js) (ia) (i14) (fun c a b => by rw [iz c a (by omega)]; omega) (by rw [iz 0 (by omega) (by omega), iz 1 (by omega) (by omega), iz 2 (by omega) (by omega), iz 3 (by omega) (by omega)]; omega) (Nat.lt_succ_self _))
            · refine t_getR (pc := 56) hX 35 rfl rfl rfl fl_X12_37 rfl hG.1 (a_h hG).1 ?_
              refine r_bipush (pc := 60) hX 37 rfl (by decide) ?_
              refine r_iconst (pc := 62) hX 38 rfl ?_
              refine r_iload_n (pc := 63) hX 39 rfl rfl ?_
              refine r_imul (pc := 64) hX 40 rfl ?_
              refine r_iadd (pc := 65) hX 41 rfl ?_
              refine r_iload_n (pc := 66) hX 42 rfl rfl ?_
              refine r_iadd (pc := 67) hX 43 rfl ?_
              refine r_iconst (pc := 68) hX 44 rfl ?_
              refine e_iast (pc := 69) hX 45 rfl (a_h hG).2.1 (a_h hG).2.2 (by decide) (by omega) (by omega) ?_
              refine r_iinc (ls' := [(2, 178), (0, l), (0, (i + 1)), (3, 0)]) (pc := 70) hX 46 rfl rfl (by decide) rfl ?_
              refine r_goto (pc := 73) hX 47 (tgt := 51) rfl (by decide) ?_
              exact (ih51 (i + 1) (up v51 181 ((17 + (5 * l)) + i) 0) ((hfr51).arr (r := 181) (by decide) (by decide)) (by omega) (by (repeat (first | rw [up_k (by decide)] | rw [up_s] | rw [up_r (by decide)])); omega) (by (repeat (first | rw [up_k (by decide)] | rw [up_s] | rw [up_r (by decide)])); omega) (by (repeat (first | rw [up_k (by decide)] | rw [up_s] | rw [up_r (by decide)])); omega) (fun j a b => by rw [up_k (by omega)]; exact ia j a b) (by rw [up_k (by omega)]; exact i14) (fun c a b => by
          by_cases e : c = i
          · subst e; rw [up_s]
          · rw [up_k (by omega)]; exact iz c a (by omega)) (by omega))
        exact (L51 _ 0 v41 ((((Fr.rf).tr hfr19 (by decide) (by decide)).tr hfr27 (by decide) (by decide)).tr hfr41 (by decide) (by decide)) (by omega) (by omega) (by omega) (by omega) (fun j a b => by rw [hoth j a]) (by omega) (fun c a b => by omega) (Nat.lt_succ_self _))
      · refine r_iconst (pc := 47) hX 28 rfl ?_
        exact r_zret (pc := 48) hX 29 hQ rfl rfl ⟨by omega, by omega⟩ (Nat.le_refl 0) (Nat.le_refl 0) ⟨rfl, rfl, (((Fr.rf).tr hfr19 (by decide) (by decide)).tr hfr27 (by decide) (by decide)).tr hfr41 (by decide) (by decide), 0, rfl, (by (repeat (first | rw [up_k (by decide)] | rw [up_s] | rw [up_r (by decide)])); omega), (by omega)⟩
  · refine r_aload_n (pc := 12) hX 8 rfl rfl ?_
    refine r_iconst (pc := 13) hX 9 rfl ?_
    refine r_callV (as := [(0, 4)]) (st := []) (K := 12) (pc := 14) hX 10 rfl mo_m_bad ml_X12_216 im_m_bad se_m_bad (c_bad g v ρ Z hG (4) ) rfl rfl rfl hG.1 (by rw [hRm]; exact ⟨by decide, by decide⟩) (by rw [hRm]; exact ⟨by decide, by decide⟩) (Nat.le_of_ble_eq_true rfl) (fun o14 v14 ρ14 Z14 hq14 _ => ?_)
    obtain ⟨rfl, rfl, hfr14, r14, rfl, hq14⟩ := hq14
    have hk14_3 : v14 178 3 = (v 178 3) := (hfr14.2 3 (by decide)).trans (rfl)
    have hk14_4 : v14 178 4 = (v 178 4) := (hfr14.2 4 (by decide)).trans (rfl)
    have hk14_5 : v14 178 5 = (v 178 5) := (hfr14.2 5 (by decide)).trans (rfl)
    have hk14_11 : v14 178 11 = (v 178 11) := (hfr14.2 11 (by decide)).trans (rfl)
    have hk14_14 : v14 178 14 = (v 178 14) := (hfr14.2 14 (by decide)).trans (rfl)
    show wp g X F_m_readLand 0 0 17 [(2, 178), (0, l), (3, 0), (3, 0)] [(0, r14)] v14 ρ Z
    exact r_zret (pc := 17) hX 11 hQ rfl rfl ⟨by omega, by omega⟩ (Nat.le_refl 0) (Nat.le_refl 0) ⟨rfl, rfl, (Fr.rf).tr hfr14 (by decide) (by decide), r14, rfl, (by (repeat (first | rw [up_k (by decide)] | rw [up_s] | rw [up_r (by decide)])); omega), (by omega)⟩
