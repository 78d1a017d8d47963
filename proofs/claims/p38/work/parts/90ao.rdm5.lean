set_option maxHeartbeats 4000000 in
set_option maxRecDepth 100000 in
theorem c_greysF (g : Gp) (v ρ : Mv) (Z : Mz) (hG : GM ρ Z)  (hV : HInv (v 180)) : Ok g 1 0 0 F_m_greys [(2, 178)] v ρ Z (fun o v' ρ' Z' => ρ = ρ' ∧ Z = Z' ∧ Fr [180] [] v v' ∧ o = none ∧ (RInv (v' 180)) ∧ (∀ k, 35 ≤ k → v' 180 k = v 180 k) ∧ (∀ k, k ≠ 14 → k ≠ 21 → k ≠ 26 → k ≠ 31 → v' 180 k = v 180 k) ∧ (∀ l, 0 ≤ l → l ≤ 2 → v' 180 (17 + 5 * l + 4) = 12 - opF (v 180) l 4)) := by
  refine Ok.of mo_m_greys (Nat.le_of_ble_eq_true rfl) ?_
  intro X hX hRm hxn hQ
  show wp g X F_m_greys 0 0 0 [(2, 178), (3, 0), (3, 0)] [] v ρ Z
  have hz1 := hV.h0
  have h14 := (hV.1 14 (by decide) (by decide)).2.2.2.2.2.2.2.1 (by decide)
  have hc14 : v 180 1 ≠ 0 → 1 ≤ v 180 14 := fun h => hV.2.2 0 (by omega) (by omega) (by omega)
  refine t_getR (pc := 0) hX 0 rfl rfl rfl fl_X12_33 rfl hG.1 (a_s hG).1 ?_
  refine r_iconst (pc := 4) hX 2 rfl ?_
  refine e_iald (y := (v 180 1)) (pc := 5) hX 3 rfl (a_s hG).2.1 (a_s hG).2.2 (by omega) (by omega) (rfl) ?_
  have L17 : ∀ (v17 : Mv) , (Fr [180] [] v v17) → (∀ k, k ≠ 14 → v17 180 k = v 180 k) → (1 ≤ v17 180 14 ∧ v17 180 14 ≤ 9) → wp g X F_m_greys 0 0 17 [(2, 178), (3, 0), (3, 0)] [] v17 ρ Z := by
    intro v17 hfr17 ja j14
    refine r_iconst (pc := 17) hX 10 rfl ?_
    refine r_istore_n (ls' := [(2, 178), (0, 0), (3, 0)]) (pc := 18) hX 11 rfl (by decide) rfl ?_
    have L19 : ∀ (n19 : Nat) (l : Int) (v19 : Mv) , (Fr [180] [] v v19) → (0 ≤ l ∧ l ≤ 3) → (∀ k, k ≠ 14 → k ≠ 21 → k ≠ 26 → k ≠ 31 → v19 180 k = v 180 k) → (1 ≤ v19 180 14 ∧ v19 180 14 ≤ 9) → (∀ j, 0 ≤ j → j < l → v19 180 (17 + 5 * j + 4) = 12 - opF (v 180) j 4) → (3 - l).toNat < n19 → wp g X F_m_greys 0 0 19 [(2, 178), (0, l), (3, 0)] [] v19 ρ Z := by
      intro n19
      induction n19 with
      | zero => intro l v19 hfr19 il ia i14 ic hme19; exact absurd hme19 (Nat.not_lt_zero _)
      | succ n19 ih19 =>
        intro l v19 hfr19 il ia i14 ic hme19
        refine r_iload_n (pc := 19) hX 12 rfl rfl ?_
        refine r_iconst (pc := 20) hX 13 rfl ?_
        first | refine r_icmp_ge (pc := 21) hX 14 (tgt := 87) rfl (by decide) (⟨by omega, by omega⟩) (⟨by omega, by omega⟩) (fun h21 => ?_) (fun h21 => ?_) | refine r_icmp_ge_any (pc := 21) hX 14 (tgt := 87) rfl (by decide) ?_ ?_
        · exact r_vret (pc := 87) hX 58 hQ rfl rfl (Nat.le_refl 0) (Nat.le_refl 0) ⟨rfl, rfl, hfr19, rfl, (RInv.read hV i14 (fun k _ b c d e => ia k b c d e) (fun l a b => ic l a (by omega))), (fun k h => ia k (by omega) (by omega) (by omega) (by omega)), (ia), (fun l a b => ic l a (by omega))⟩
        · refine t_getR (pc := 24) hX 15 rfl rfl rfl fl_X12_33 rfl hG.1 (a_s hG).1 ?_
          refine r_bipush (pc := 28) hX 17 rfl (by decide) ?_
          refine r_iconst (pc := 30) hX 18 rfl ?_
          refine r_iload_n (pc := 31) hX 19 rfl rfl ?_
          refine r_imul (pc := 32) hX 20 rfl ?_
          refine r_iadd (pc := 33) hX 21 rfl ?_
          refine r_iconst (pc := 34) hX 22 rfl ?_
          refine r_iadd (pc := 35) hX 23 rfl ?_
          refine r_bipush (pc := 36) hX 24 rfl (by decide) ?_
          refine e_iast (pc := 38) hX 25 rfl (a_s hG).2.1 (a_s hG).2.2 (by decide) (by omega) (by omega) ?_
          refine r_iconst (pc := 39) hX 26 rfl ?_
          refine r_istore_n (ls' := [(2, 178), (0, l), (0, 0)]) (pc := 40) hX 27 rfl (by decide) rfl ?_
          have L41 : ∀ (n41 : Nat) (c : Int) (v41 : Mv) , (Fr [180] [] v v41) → (0 ≤ c ∧ c ≤ 4) → (∀ k, k ≠ 14 → k ≠ 21 → k ≠ 26 → k ≠ 31 → v41 180 k = v 180 k) → (1 ≤ v41 180 14 ∧ v41 180 14 ≤ 9) → (∀ j, 0 ≤ j → j < l → v41 180 (17 + 5 * j + 4) = 12 - opF (v 180) j 4) → (v41 180 (17 + 5 * l + 4) = 12 - opF (v 180) l c.toNat) → (4 - c).toNat < n41 → wp g X F_m_greys 0 0 41 [(2, 178), (0, l), (0, c)] [] v41 ρ Z := by
            intro n41
            induction n41 with
            | zero => intro c v41 hfr41 icc ia i14 ic id_ hme41; exact absurd hme41 (Nat.not_lt_zero _)
            | succ n41 ih41 =>
              intro c v41 hfr41 icc ia i14 ic id_ hme41
              refine r_iload_n (pc := 41) hX 28 rfl rfl ?_
              refine r_iconst (pc := 42) hX 29 rfl ?_
              first | refine r_icmp_ge (pc := 43) hX 30 (tgt := 81) rfl (by decide) (⟨by omega, by omega⟩) (⟨by omega, by omega⟩) (fun h43 => ?_) (fun h43 => ?_) | refine r_icmp_ge_any (pc := 43) hX 30 (tgt := 81) rfl (by decide) ?_ ?_
              · refine r_iinc (ls' := [(2, 178), (0, (l + 1)), (0, c)]) (pc := 81) hX 56 rfl rfl (by decide) rfl ?_
                refine r_goto (pc := 84) hX 57 (tgt := 19) rfl (by decide) ?_
                refine r_wk (ls' := [(2, 178), (0, (l + 1)), (3, 0)]) ⟨Or.inr rfl, Or.inr rfl, Or.inl rfl, trivial⟩ ?_
                exact (ih19 (l + 1) v41 (hfr41) (by omega) (ia) (i14) (fun j a b => by
          by_cases e : j = l
          · subst e; rw [id_, show c = 4 by omega]; rfl
          · exact ic j a (by omega)) (by omega))
              · refine t_getR (pc := 46) hX 31 rfl rfl rfl fl_X12_33 rfl hG.1 (a_s hG).1 ?_
                refine r_bipush (pc := 50) hX 33 rfl (by decide) ?_
                refine r_iconst (pc := 52) hX 34 rfl ?_
                refine r_iload_n (pc := 53) hX 35 rfl rfl ?_
                refine r_imul (pc := 54) hX 36 rfl ?_
                refine r_iadd (pc := 55) hX 37 rfl ?_
                refine r_iconst (pc := 56) hX 38 rfl ?_
                refine r_iadd (pc := 57) hX 39 rfl ?_
                refine r_dup2i (pc := 58) hX 40 rfl (show (0 : Nat) ≠ 1 by decide) (show (2 : Nat) ≠ 1 by decide) ?_
                refine e_iald (y := (v41 180 ((17 + (5 * l)) + 4))) (pc := 59) hX 41 rfl (a_s hG).2.1 (a_s hG).2.2 (by omega) (by omega) (rfl) ?_
                refine t_getR (pc := 60) hX 42 rfl rfl rfl fl_X12_33 rfl hG.1 (a_s hG).1 ?_
                refine r_bipush (pc := 64) hX 44 rfl (by decide) ?_
                refine r_iconst (pc := 66) hX 45 rfl ?_
                refine r_iload_n (pc := 67) hX 46 rfl rfl ?_
                refine r_imul (pc := 68) hX 47 rfl ?_
                refine r_iadd (pc := 69) hX 48 rfl ?_
                refine r_iload_n (pc := 70) hX 49 rfl rfl ?_
                refine r_iadd (pc := 71) hX 50 rfl ?_
                refine e_iald (y := (v41 180 ((17 + (5 * l)) + c))) (pc := 72) hX 51 rfl (a_s hG).2.1 (a_s hG).2.2 (by omega) (by omega) (rfl) ?_
                refine r_isub (pc := 73) hX 52 rfl ?_
                refine e_iast (pc := 74) hX 53 rfl (a_s hG).2.1 (a_s hG).2.2 (by decide) (by omega) (by omega) ?_
                refine r_iinc (ls' := [(2, 178), (0, l), (0, (c + 1))]) (pc := 75) hX 54 rfl rfl (by decide) rfl ?_
                refine r_goto (pc := 78) hX 55 (tgt := 41) rfl (by decide) ?_
                exact (ih41 (c + 1) (up v41 180 ((17 + (5 * l)) + 4) ((v41 180 ((17 + (5 * l)) + 4)) - (v41 180 ((17 + (5 * l)) + c)))) ((hfr41).arr (r := 180) (by decide) (by decide)) (by omega) (fun k a b c d => by rw [up_k (by omega)]; exact ia k a b c d) (by rw [up_k (by omega)]; exact i14) (fun j a b => by rw [up_k (by omega)]; exact ic j a b) (by rw [up_s, opF_s (by omega), id_, ia (17 + 5 * l + c) (by omega) (by omega) (by omega) (by omega)]; omega) (by omega))
          exact (L41 _ 0 (up v19 180 ((17 + (5 * l)) + 4) 12) ((hfr19).arr (r := 180) (by decide) (by decide)) (by omega) (fun k a b c d => by rw [up_k (by omega)]; exact ia k a b c d) (by rw [up_k (by omega)]; exact i14) (fun j a b => by rw [up_k (by omega)]; exact ic j a b) (by rw [up_s]; rfl) (Nat.lt_succ_self _))
    exact (L19 _ 0 v17 (hfr17) (by omega) (fun k a _ _ _ => ja k a) (j14) (fun j a b => by omega) (Nat.lt_succ_self _))
  first | refine r_if_ne (pc := 6) hX 4 (tgt := 17) rfl (by decide) (⟨by omega, by omega⟩) (fun h6 => ?_) (fun h6 => ?_) | refine r_if_ne_any (pc := 6) hX 4 (tgt := 17) rfl (by decide) ?_ ?_
  · exact (L17  v (Fr.rf) (fun k h => by first | rfl | exact up_k h) (by first | (rw [up_s]; omega) | (have := hc14 (by omega); omega)) )
  · refine t_getR (pc := 9) hX 5 rfl rfl rfl fl_X12_33 rfl hG.1 (a_s hG).1 ?_
    refine r_bipush (pc := 13) hX 7 rfl (by decide) ?_
    refine r_iconst (pc := 15) hX 8 rfl ?_
    refine e_iast (pc := 16) hX 9 rfl (a_s hG).2.1 (a_s hG).2.2 (by decide) (by omega) (by omega) ?_
    exact (L17  (up v 180 14 1) ((Fr.rf).arr (r := 180) (by decide) (by decide)) (fun k h => by first | rfl | exact up_k h) (by first | (rw [up_s]; omega) | (have := hc14 (by omega); omega)) )
set_option maxHeartbeats 4000000 in
set_option maxRecDepth 100000 in
theorem c_roadF (g : Gp) (v ρ : Mv) (Z : Mz) (hG : GM ρ Z)  (hS : SInv (v 180)) (hU : UInv (v 180) (v 187) (v 178 25)) (hl : 0 ≤ v 178 2 ∧ v 178 2 ≤ 940) (hn : inR (v 178 14) ∧ 0 ≤ v 178 11 ∧ v 178 11 ≤ 4) (hrs : RsI (v 184)) : Ok g 7 0 0 F_m_road [(2, 178)] v ρ Z (fun o v' ρ' Z' => ρ = ρ' ∧ Z = Z' ∧ Fr [180, 181, 183] [0, 2, 3, 4, 5, 11, 12, 13, 14, 15, 16, 17, 18, 19, 20, 25] v v' ∧ ∃ r : Int, o = some (0, r) ∧ (SInv (v' 180)) ∧ (UInv (v' 180) (v' 187) (v' 178 25)) ∧ (inR (v' 178 14) ∧ 0 ≤ v' 178 11 ∧ v' 178 11 ≤ 4 ∧ v' 178 2 = 0) ∧ (r = rAns (cb (v 178 2) (v 179)) (v 178 2) 900) ∧ (RoP (cb (v 178 2) (v 179)) (v 178 2) 900 v v') ∧ (RoN (cb (v 178 2) (v 179)) (v 178 2) 900 v v')) := by
  refine Ok.of mo_m_road (Nat.le_of_ble_eq_true rfl) ?_
  intro X hX hRm hxn hQ
  show wp g X F_m_road 0 0 0 [(2, 178), (3, 0)] [] v ρ Z
  have hcbs := cb_sam (v 178 2) (v 179)
  refine r_aload_n (pc := 0) hX 0 rfl rfl ?_
  refine r_iconst (pc := 1) hX 1 rfl ?_
  refine r_putI (pc := 2) hX 2 rfl fl_X12_1 rfl (fun _ h => by cases h; rfl) hG.1 (by decide) ?_
  refine r_aload_n (pc := 5) hX 3 rfl rfl ?_
  refine r_sipush (pc := 6) hX 4 rfl (by decide) ?_
  refine r_callV (as := [(0, 900)]) (st := []) (K := 12) (pc := 9) hX 5 rfl mo_m_taken ml_X12_266 im_m_taken se_m_taken (c_taken g (up v 178 0 0) ρ Z hG (900) ) rfl rfl rfl hG.1 (by rw [hRm]; exact ⟨by decide, by decide⟩) (by rw [hRm]; exact ⟨by decide, by decide⟩) (Nat.le_of_ble_eq_true rfl) (fun o9 v9 ρ9 Z9 hq9 _ => ?_)
  obtain ⟨rfl, rfl, hfr9, rfl, hq9⟩ := hq9
  try simp only [up_f (show (180 : Int) ≠ 178 by decide), up_k (show (2 : Int) ≠ 0 by decide)] at hq9
  have hSInv_9 : SInv (v9 180) := by rw [hfr9.1 180 (by decide) (by decide), up_f (by decide)]; exact hS
  have hRsI_9 : RsI (v9 184) := by rw [hfr9.1 184 (by decide) (by decide), up_f (by decide)]; exact hrs
  have hk9_11 : v9 178 11 = (v 178 11) := (hfr9.2 11 (by decide)).trans ((up_k (by decide)).trans (rfl))
  have hk9_14 : v9 178 14 = (v 178 14) := (hfr9.2 14 (by decide)).trans ((up_k (by decide)).trans (rfl))
  have hk9_25 : v9 178 25 = (v 178 25) := (hfr9.2 25 (by decide)).trans ((up_k (by decide)).trans (rfl))
  have hk9_19 : v9 178 19 = (v 178 19) := (hfr9.2 19 (by decide)).trans ((up_k (by decide)).trans (rfl))
  have hk9_15 : v9 178 15 = (v 178 15) := (hfr9.2 15 (by decide)).trans ((up_k (by decide)).trans (rfl))
  show wp g X F_m_road 0 0 12 [(2, 178), (3, 0)] [] v9 ρ Z
  refine r_aload_n (pc := 12) hX 6 rfl rfl ?_
  refine r_iconst (pc := 13) hX 7 rfl ?_
  refine r_putI (pc := 14) hX 8 rfl fl_X12_207 rfl (fun _ h => by cases h; rfl) hG.1 (by decide) ?_
  refine r_aload_n (pc := 17) hX 9 rfl rfl ?_
  refine r_iconst (pc := 18) hX 10 rfl ?_
  refine r_putI (pc := 19) hX 11 rfl fl_X12_269 rfl (fun _ h => by cases h; rfl) hG.1 (by decide) ?_
  refine r_aload_n (pc := 22) hX 12 rfl rfl ?_
  refine r_iconst (pc := 23) hX 13 rfl ?_
  refine r_putI (pc := 24) hX 14 rfl fl_X12_241 rfl (fun _ h => by cases h; rfl) hG.1 (by decide) ?_
  refine r_aload_n (pc := 27) hX 15 rfl rfl ?_
  refine r_callV (as := []) (st := []) (K := 12) (pc := 28) hX 16 rfl mo_m_clears ml_X12_174 im_m_clears se_m_clears (c_clears g (up (up (up v9 178 15 0) 178 19 0) 178 20 0) ρ Z hG  ) rfl rfl rfl hG.1 (by rw [hRm]; exact ⟨by decide, by decide⟩) (by rw [hRm]; exact ⟨by decide, by decide⟩) (Nat.le_of_ble_eq_true rfl) (fun o28 v28 ρ28 Z28 hq28 _ => ?_)
  obtain ⟨rfl, rfl, hfr28, rfl, hq28⟩ := hq28
  try simp only [up_f (show (180 : Int) ≠ 178 by decide)] at hq28
  have hSInv_28 : SInv (v28 180) := by rw [hfr28.1 180 (by decide) (by decide), up_f (by decide), up_f (by decide), up_f (by decide)]; exact hSInv_9
  have hRsI_28 : RsI (v28 184) := by rw [hfr28.1 184 (by decide) (by decide), up_f (by decide), up_f (by decide), up_f (by decide)]; exact hRsI_9
  have hk28_2 : v28 178 2 = (v9 178 2) := (hfr28.2 2 (by decide)).trans ((up_k (by decide)).trans ((up_k (by decide)).trans ((up_k (by decide)).trans (rfl))))
  have hk28_3 : v28 178 3 = (v9 178 3) := (hfr28.2 3 (by decide)).trans ((up_k (by decide)).trans ((up_k (by decide)).trans ((up_k (by decide)).trans (rfl))))
  have hk28_4 : v28 178 4 = (v9 178 4) := (hfr28.2 4 (by decide)).trans ((up_k (by decide)).trans ((up_k (by decide)).trans ((up_k (by decide)).trans (rfl))))
  have hk28_5 : v28 178 5 = (v9 178 5) := (hfr28.2 5 (by decide)).trans ((up_k (by decide)).trans ((up_k (by decide)).trans ((up_k (by decide)).trans (rfl))))
  have hk28_11 : v28 178 11 = (v9 178 11) := (hfr28.2 11 (by decide)).trans ((up_k (by decide)).trans ((up_k (by decide)).trans ((up_k (by decide)).trans (rfl))))
  have hk28_14 : v28 178 14 = (v9 178 14) := (hfr28.2 14 (by decide)).trans ((up_k (by decide)).trans ((up_k (by decide)).trans ((up_k (by decide)).trans (rfl))))
  have hk28_25 : v28 178 25 = (v9 178 25) := (hfr28.2 25 (by decide)).trans ((up_k (by decide)).trans ((up_k (by decide)).trans ((up_k (by decide)).trans (rfl))))
  have hk28_19 : v28 178 19 = 0 := (hfr28.2 19 (by decide)).trans ((up_k (by decide)).trans (up_s _ _ _ _))
  have hk28_15 : v28 178 15 = 0 := (hfr28.2 15 (by decide)).trans ((up_k (by decide)).trans ((up_k (by decide)).trans (up_s _ _ _ _)))
  show wp g X F_m_road 0 0 31 [(2, 178), (3, 0)] [] v28 ρ Z
  refine r_aload_n (pc := 31) hX 17 rfl rfl ?_
  refine r_callV (as := []) (st := []) (K := 12) (pc := 32) hX 18 rfl mo_m_go ml_X12_219 im_m_go se_m_go (c_goF g v28 ρ Z hG  (by omega)) rfl rfl rfl hG.1 (by rw [hRm]; exact ⟨by decide, by decide⟩) (by rw [hRm]; exact ⟨by decide, by decide⟩) (Nat.le_of_ble_eq_true rfl) (fun o32 v32 ρ32 Z32 hq32 _ => ?_)
  obtain ⟨rfl, rfl, hfr32, rfl, hq32⟩ := hq32
  have hSInv_32 : SInv (v32 180) := by rw [hfr32.1 180 (by decide) (by decide)]; exact hSInv_28
  have hRsI_32 : RsI (v32 184) := by rw [hfr32.1 184 (by decide) (by decide)]; exact hRsI_28
  have hk32_2 : v32 178 2 = (v28 178 2) := (hfr32.2 2 (by decide)).trans (rfl)
  have hk32_3 : v32 178 3 = (v28 178 3) := (hfr32.2 3 (by decide)).trans (rfl)
  have hk32_5 : v32 178 5 = (v28 178 5) := (hfr32.2 5 (by decide)).trans (rfl)
  have hk32_25 : v32 178 25 = (v28 178 25) := (hfr32.2 25 (by decide)).trans (rfl)
  have hk32_19 : v32 178 19 = (v28 178 19) := (hfr32.2 19 (by decide)).trans (rfl)
  have hk32_15 : v32 178 15 = (v28 178 15) := (hfr32.2 15 (by decide)).trans (rfl)
  show wp g X F_m_road 0 0 35 [(2, 178), (3, 0)] [] v32 ρ Z
  have hR0 : RdM (cb (v 178 2) (v 179)) (v 178 2) 900 v32 rd0 := by
    have e9 : v28 179 = v 179 := by
      rw [hfr28.1 179 (by decide) (by decide)]; (repeat rw [up_f (by decide)]); rw [hfr9.1 179 (by decide) (by decide), up_f (by decide)]
    have z := tkM_of (F := (cb (v 178 2) (v 179))) (n := v 178 2) (m := 900) (v := v28) (v' := v32) (by omega) (by omega) (by rw [e9]; exact hcbs) (hfr32.1 179 (by decide) (by decide)) (by omega) (by omega) (by omega) (by omega) hq32.2.1 hq32.2.2.1 hq32.2.2.2.1 hq32.2.2.2.2.1 hq32.2.2.2.2.2
    rw [show v28 178 4 = 0 by omega] at z
    have e1 : v32 181 = v28 181 := hfr32.1 181 (by decide) (by decide)
    refine RdM.start z (by rw [e1]; exact hq28.1) (by rw [e1]; exact hq28.2.1) (by rw [e1]; exact hq28.2.2) ?_
    rw [hfr32.2 20 (by decide), hfr28.2 20 (by decide)]
    exact up_s _ _ _ _
  replace hq32 := hq32.1
  have L35 : ∀ (n35 : Nat) (v35 : Mv) , (Fr [180, 181, 183] [0, 2, 3, 4, 5, 11, 12, 13, 14, 15, 16, 17, 18, 19, 20, 25] v v35) → (RsI (v35 184)) → (0 ≤ v35 178 4 ∧ v35 178 4 ≤ v35 178 3 ∧ v35 178 3 ≤ 940 ∧ 0 ≤ v35 178 11 ∧ v35 178 11 ≤ 4 ∧ inR (v35 178 5) ∧ inR (v35 178 14)) → (HInv (v35 181)) → (v35 180 = v 180) → (v35 178 25 = v 178 25) → (v35 178 2 = 0) → (RoI (cb (v 178 2) (v 179)) (v 178 2) 900 v35) → (∀ j, j < 10 → v35 183 j = v 183 j) → (1000 - v35 178 12).toNat < n35 → wp g X F_m_road 0 0 35 [(2, 178), (3, 0)] [] v35 ρ Z := by
    intro n35
    induction n35 with
    | zero => intro v35 hfr35 hRsI_35 il ihv e180 e25 e2 iq in35 hme35; exact absurd hme35 (Nat.not_lt_zero _)
    | succ n35 ih35 =>
      intro v35 hfr35 hRsI_35 il ihv e180 e25 e2 iq in35 hme35
      have eu35 : v35 187 = v 187 := hfr35.1 187 (by decide) (by decide)
      obtain ⟨kf, sg, hRg, heq, hpk⟩ := iq
      have hTk := hRg.1.2.2.2.2.2.2.1
      have hTg := hRg.1.2.2.2.2.2.1
      have hTa := hRg.1.2.2.2.2.2.2.2.1
      have hpn := hRg.1.2.1
      have hp0 := hRg.1.1
      refine t_getI (y := (v35 178 11)) (pc := 35) hX 19 rfl rfl rfl fl_X12_190 rfl hG.1 (rfl) ?_
      first | refine r_if_eq (pc := 39) hX 21 (tgt := 78) rfl (by decide) (⟨by omega, by omega⟩) (fun h39 => ?_) (fun h39 => ?_) | refine r_if_eq_any (pc := 39) hX 21 (tgt := 78) rfl (by decide) ?_ ?_
      · obtain ⟨hrd, hra⟩ := RoI.done heq hpk hpn (by omega)
        have hbn : sg.H 0 ≤ 4 ∧ sg.H 1 ≤ 3 ∧ sg.H 2 ≤ 3 := by
          have q0 : v35 181 0 = sg.H 0 := hRg.2.1 0 (by decide) (by decide)
          have q1 : v35 181 1 = sg.H 1 := hRg.2.1 1 (by decide) (by decide)
          have q2 : v35 181 2 = sg.H 2 := hRg.2.1 2 (by decide) (by decide)
          have q := ihv.h0
          omega
        refine r_iconst (pc := 78) hX 41 rfl ?_
        refine r_istore_n (ls' := [(2, 178), (0, 0)]) (pc := 79) hX 42 rfl (by decide) rfl ?_
        have L80 : ∀ (n80 : Nat) (i : Int) (v80 : Mv) , (Fr [180, 181, 183] [0, 2, 3, 4, 5, 11, 12, 13, 14, 15, 16, 17, 18, 19, 20, 25] v v80) → (RsI (v80 184)) → (0 ≤ i ∧ i ≤ 238) → (0 ≤ v80 178 11 ∧ v80 178 11 ≤ 4 ∧ inR (v80 178 14) ∧ v80 178 2 = 0) → (HInv (v80 181)) → (∀ k, 0 ≤ k → k < i → k < 35 → v80 180 k = v80 181 k) → (∀ k, 35 ≤ k → k < i → v80 180 k = 0) → (v80 178 19 = v35 178 19) → (v80 181 = v35 181) → (v80 183 = v35 183) → (238 - i).toNat < n80 → wp g X F_m_road 0 0 80 [(2, 178), (0, i)] [] v80 ρ Z := by
          intro n80
          induction n80 with
          | zero => intro i v80 hfr80 hRsI_80 ii jl ihv ia iz i19 eH e83 hme80; exact absurd hme80 (Nat.not_lt_zero _)
          | succ n80 ih80 =>
            intro i v80 hfr80 hRsI_80 ii jl ihv ia iz i19 eH e83 hme80
            refine r_iload_n (pc := 80) hX 43 rfl rfl ?_
            refine r_sipush (pc := 81) hX 44 rfl (by decide) ?_
            first | refine r_icmp_ge (pc := 84) hX 45 (tgt := 115) rfl (by decide) (⟨by omega, by omega⟩) (⟨by omega, by omega⟩) (fun h84 => ?_) (fun h84 => ?_) | refine r_icmp_ge_any (pc := 84) hX 45 (tgt := 115) rfl (by decide) ?_ ?_
            · refine r_aload_n (pc := 115) hX 61 rfl rfl ?_
              refine r_callV (as := []) (st := []) (K := 12) (pc := 116) hX 62 rfl mo_m_greys ml_X12_177 im_m_greys se_m_greys (c_greysF g v80 ρ Z hG  (ihv.cg (fun k a b => ia k a (by omega) b))) rfl rfl rfl hG.1 (by rw [hRm]; exact ⟨by decide, by decide⟩) (by rw [hRm]; exact ⟨by decide, by decide⟩) (Nat.le_of_ble_eq_true rfl) (fun o116 v116 ρ116 Z116 hq116 _ => ?_)
              obtain ⟨rfl, rfl, hfr116, rfl, hq116⟩ := hq116
              have hRsI_116 : RsI (v116 184) := by rw [hfr116.1 184 (by decide) (by decide)]; exact hRsI_80
              have hk116_2 : v116 178 2 = (v80 178 2) := (hfr116.2 2 (by decide)).trans (rfl)
              have hk116_3 : v116 178 3 = (v80 178 3) := (hfr116.2 3 (by decide)).trans (rfl)
              have hk116_4 : v116 178 4 = (v80 178 4) := (hfr116.2 4 (by decide)).trans (rfl)
              have hk116_5 : v116 178 5 = (v80 178 5) := (hfr116.2 5 (by decide)).trans (rfl)
              have hk116_11 : v116 178 11 = (v80 178 11) := (hfr116.2 11 (by decide)).trans (rfl)
              have hk116_14 : v116 178 14 = (v80 178 14) := (hfr116.2 14 (by decide)).trans (rfl)
              have hk116_25 : v116 178 25 = (v80 178 25) := (hfr116.2 25 (by decide)).trans (rfl)
              have hk116_19 : v116 178 19 = (v80 178 19) := (hfr116.2 19 (by decide)).trans (rfl)
              have hk116_15 : v116 178 15 = (v80 178 15) := (hfr116.2 15 (by decide)).trans (rfl)
              show wp g X F_m_road 0 0 119 [(2, 178), (0, i)] [] v116 ρ Z
              have hq116b := hq116.2.2
              replace hq116 := And.intro hq116.1 hq116.2.1
              refine r_iconst (pc := 119) hX 63 rfl ?_
              refine r_istore_n (ls' := [(2, 178), (0, 0)]) (pc := 120) hX 64 rfl (by decide) rfl ?_
              have L121 : ∀ (n121 : Nat) (i : Int) (v121 : Mv) , (Fr [180, 181, 183] [0, 2, 3, 4, 5, 11, 12, 13, 14, 15, 16, 17, 18, 19, 20, 25] v v121) → (RsI (v121 184)) → (0 ≤ i ∧ i ≤ 10) → (0 ≤ v121 178 11 ∧ v121 178 11 ≤ 4 ∧ inR (v121 178 14) ∧ v121 178 2 = 0) → (RInv (v121 180)) → (∀ k, 35 ≤ k → k < 238 → v121 180 k = 0) → (v121 178 19 = v35 178 19) → (v121 180 = v116 180) → (∀ j, 0 ≤ j → j < i → v121 183 j = v35 183 (10 + j)) → (∀ j, 10 ≤ j → v121 183 j = v35 183 j) → (10 - i).toNat < n121 → wp g X F_m_road 0 0 121 [(2, 178), (0, i)] [] v121 ρ Z := by
                intro n121
                induction n121 with
                | zero => intro i v121 hfr121 hRsI_121 ii jl jr jz i19 e116 ina inb hme121; exact absurd hme121 (Nat.not_lt_zero _)
                | succ n121 ih121 =>
                  intro i v121 hfr121 hRsI_121 ii jl jr jz i19 e116 ina inb hme121
                  refine r_iload_n (pc := 121) hX 65 rfl rfl ?_
                  refine r_bipush (pc := 122) hX 66 rfl (by decide) ?_
                  first | refine r_icmp_ge (pc := 124) hX 67 (tgt := 148) rfl (by decide) (⟨by omega, by omega⟩) (⟨by omega, by omega⟩) (fun h124 => ?_) (fun h124 => ?_) | refine r_icmp_ge_any (pc := 124) hX 67 (tgt := 148) rfl (by decide) ?_ ?_
                  · refine r_iconst (pc := 148) hX 80 rfl ?_
                    refine r_istore_n (ls' := [(2, 178), (0, 0)]) (pc := 149) hX 81 rfl (by decide) rfl ?_
                    have L150 : ∀ (n150 : Nat) (i : Int) (v150 : Mv) , (Fr [180, 181, 183] [0, 2, 3, 4, 5, 11, 12, 13, 14, 15, 16, 17, 18, 19, 20, 25] v v150) → (RsI (v150 184)) → (0 ≤ i ∧ i ≤ 3) → (0 ≤ v150 178 11 ∧ v150 178 11 ≤ 4 ∧ inR (v150 178 14) ∧ v150 178 2 = 0) → (RInv (v150 180)) → (∀ k, 35 ≤ k → k < 238 → ¬ (42 ≤ k ∧ k < 45) → v150 180 k = 0) → (∀ q, 0 ≤ q → q < i → v150 180 (42 + q) = v150 180 (32 + q)) → (v150 178 19 = v35 178 19) → (∀ k, k < 42 → v150 180 k = v116 180 k) → (∀ j, 0 ≤ j → j < 10 → v150 183 j = v35 183 (10 + j)) → (3 - i).toNat < n150 → wp g X F_m_road 0 0 150 [(2, 178), (0, i)] [] v150 ρ Z := by
                      intro n150
                      induction n150 with
                      | zero => intro i v150 hfr150 hRsI_150 ii jl jr jz jq i19 e116 e8c hme150; exact absurd hme150 (Nat.not_lt_zero _)
                      | succ n150 ih150 =>
                        intro i v150 hfr150 hRsI_150 ii jl jr jz jq i19 e116 e8c hme150
                        refine r_iload_n (pc := 150) hX 82 rfl rfl ?_
                        refine r_iconst (pc := 151) hX 83 rfl ?_
                        first | refine r_icmp_ge (pc := 152) hX 84 (tgt := 179) rfl (by decide) (⟨by omega, by omega⟩) (⟨by omega, by omega⟩) (fun h152 => ?_) (fun h152 => ?_) | refine r_icmp_ge_any (pc := 152) hX 84 (tgt := 179) rfl (by decide) ?_ ?_
                        · refine r_aload_n (pc := 179) hX 99 rfl rfl ?_
                          refine r_iconst (pc := 180) hX 100 rfl ?_
                          refine r_putI (pc := 181) hX 101 rfl fl_X12_278 rfl (fun _ h => by cases h; rfl) hG.1 (by decide) ?_
                          refine t_getI (y := (v150 178 19)) (pc := 184) hX 102 rfl rfl rfl fl_X12_269 rfl hG.1 ((up_k (by decide)).trans (rfl)) ?_
                          show wp g X F_m_road 0 0 188 [(2, 178), (0, i)] [(0, (v150 178 19))] (up v150 178 25 0) ρ Z
                          exact r_iret (pc := 188) hX 104 hQ rfl rfl (Nat.le_refl 0) (Nat.le_refl 0) ⟨rfl, rfl, (hfr150).fld (k := 25) (by decide), (v150 178 19), rfl, (by rw [up_f (by decide)]; exact SInv.new jr jz (fun q a b => jq q a (by omega))), (by rw [up_s]; exact UInv.none), (by (repeat (first | rw [up_k (by decide)] | rw [up_s] | rw [up_r (by decide)])); omega), (by
        have z1 : (up v150 178 25 0) 178 19 = v35 178 19 := (up_k (by decide)).trans i19
        rw [hra]; exact z1), (by
        refine Or.inl ⟨by rw [hrd], fun k a b c d e f => ?_, fun l a b => ?_⟩
        · rw [up_f (by decide), e116 k (by omega), hq116b.1 k c d e f, ia k a (by omega) b, eH, hrd]
          exact hRg.2.1 k a b
        · rw [up_f (by decide), e116 _ (by omega), hq116b.2 l a b]
          have ec : ∀ k, 17 + 5 * l ≤ k → k < 17 + 5 * l + 4 → v150 180 k = v80 180 k := fun k x y => by rw [e116 k (by omega), hq116b.1 k (by omega) (by omega) (by omega) (by omega)]
          rw [opF_cg (f := v150 180) (g := v80 180) l ec]), (by
        refine Or.inl ⟨by rw [hrd], ?_⟩
        rw [hrd, up_f (by decide)]
        exact ⟨hbn, NmS.of hRg.2.2.1 hbn e8c⟩)⟩
                        · refine t_getR (pc := 155) hX 85 rfl rfl rfl fl_X12_33 rfl hG.1 (a_s hG).1 ?_
                          refine r_bipush (pc := 159) hX 87 rfl (by decide) ?_
                          refine r_iload_n (pc := 161) hX 88 rfl rfl ?_
                          refine r_iadd (pc := 162) hX 89 rfl ?_
                          refine t_getR (pc := 163) hX 90 rfl rfl rfl fl_X12_33 rfl hG.1 (a_s hG).1 ?_
                          refine r_bipush (pc := 167) hX 92 rfl (by decide) ?_
                          refine r_iload_n (pc := 169) hX 93 rfl rfl ?_
                          refine r_iadd (pc := 170) hX 94 rfl ?_
                          refine e_iald (y := (v150 180 (32 + i))) (pc := 171) hX 95 rfl (a_s hG).2.1 (a_s hG).2.2 (by omega) (by omega) (rfl) ?_
                          refine e_iast (pc := 172) hX 96 rfl (a_s hG).2.1 (a_s hG).2.2 (by decide) (by omega) (by omega) ?_
                          refine r_iinc (ls' := [(2, 178), (0, (i + 1))]) (pc := 173) hX 97 rfl rfl (by decide) rfl ?_
                          refine r_goto (pc := 176) hX 98 (tgt := 150) rfl (by decide) ?_
                          exact (ih150 (i + 1) (up v150 180 (42 + i) (v150 180 (32 + i))) ((hfr150).arr (r := 180) (by decide) (by decide)) (by rw [up_f (by decide)]; exact hRsI_150) (by omega) (by (repeat (first | rw [up_k (by decide)] | rw [up_s] | rw [up_r (by decide)])); omega) (jr.cg (fun k hk => up_k (by omega))) (fun k a b c => by rw [up_k (by omega)]; exact jz k a b c) (fun q a b => by
          rw [up_k (show 32 + q ≠ 42 + i by omega)]
          by_cases e : q = i
          · subst e; rw [up_s]
          · rw [up_k (by omega)]; exact jq q a (by omega)) ((up_r (by decide)).trans i19) (fun k a => (up_k (by omega)).trans (e116 k a)) (fun j a b => by rw [up_f (by decide)]; exact e8c j a b) (by omega))
                    exact (L150 _ 0 v121 (hfr121) (hRsI_121) (by omega) (jl) (jr) (fun k a b _ => jz k a b) (fun q a b => by omega) (i19) (fun k _ => by rw [e116]) (fun j a b => ina j a (by omega)) (Nat.lt_succ_self _))
                  · refine t_getR (pc := 127) hX 68 rfl rfl rfl fl_X12_43 rfl hG.1 (a_names hG).1 ?_
                    refine r_iload_n (pc := 131) hX 70 rfl rfl ?_
                    refine t_getR (pc := 132) hX 71 rfl rfl rfl fl_X12_43 rfl hG.1 (a_names hG).1 ?_
                    refine r_bipush (pc := 136) hX 73 rfl (by decide) ?_
                    refine r_iload_n (pc := 138) hX 74 rfl rfl ?_
                    refine r_iadd (pc := 139) hX 75 rfl ?_
                    refine e_lald (y := (v121 183 (10 + i))) (pc := 140) hX 76 rfl (a_names hG).2.1 (a_names hG).2.2 (by omega) (by omega) (rfl) ?_
                    refine e_last (pc := 141) hX 77 rfl (a_names hG).2.1 (a_names hG).2.2 (by decide) (by omega) (by omega) ?_
                    refine r_iinc (ls' := [(2, 178), (0, (i + 1))]) (pc := 142) hX 78 rfl rfl (by decide) rfl ?_
                    refine r_goto (pc := 145) hX 79 (tgt := 121) rfl (by decide) ?_
                    exact (ih121 (i + 1) (up v121 183 i (v121 183 (10 + i))) ((hfr121).arr (r := 183) (by decide) (by decide)) (by rw [up_f (by decide)]; exact hRsI_121) (by omega) (by (repeat (first | rw [up_k (by decide)] | rw [up_s] | rw [up_r (by decide)])); omega) (by rw [up_f (by decide)]; exact jr) (by rw [up_f (by decide)]; exact jz) ((up_r (by decide)).trans i19) ((up_f (by decide)).trans e116) (fun j a b => by
          by_cases e : j = i
          · rw [e, up_s]; exact inb _ (by omega)
          · rw [up_k e]; exact ina j a (by omega)) (fun j a => by rw [up_k (by omega)]; exact inb j a) (by omega))
              exact (L121 _ 0 v116 ((hfr80).tr hfr116 (by decide) (by decide)) (hRsI_116) (by omega) (by omega) (hq116.1) (fun k a b => by rw [hq116.2 k a]; exact iz k a (by omega)) (by omega) (rfl) (fun j a b => by omega) (fun j _ => by rw [hfr116.1 183 (by decide) (by decide), e83]) (Nat.lt_succ_self _))
            · refine t_getR (pc := 87) hX 46 rfl rfl rfl fl_X12_33 rfl hG.1 (a_s hG).1 ?_
              refine r_iload_n (pc := 91) hX 48 rfl rfl ?_
              refine r_iload_n (pc := 92) hX 49 rfl rfl ?_
              refine r_bipush (pc := 93) hX 50 rfl (by decide) ?_
              first | refine r_icmp_ge (pc := 95) hX 51 (tgt := 107) rfl (by decide) (⟨by omega, by omega⟩) (⟨by omega, by omega⟩) (fun h95 => ?_) (fun h95 => ?_) | refine r_icmp_ge_any (pc := 95) hX 51 (tgt := 107) rfl (by decide) ?_ ?_
              · refine r_iconst (pc := 107) hX 57 rfl ?_
                refine e_iast (pc := 108) hX 58 rfl (a_s hG).2.1 (a_s hG).2.2 (by decide) (by omega) (by omega) ?_
                refine r_iinc (ls' := [(2, 178), (0, (i + 1))]) (pc := 109) hX 59 rfl rfl (by decide) rfl ?_
                refine r_goto (pc := 112) hX 60 (tgt := 80) rfl (by decide) ?_
                exact (ih80 (i + 1) (up v80 180 i 0) ((hfr80).arr (r := 180) (by decide) (by decide)) (by rw [up_f (by decide)]; exact hRsI_80) (by omega) (by (repeat (first | rw [up_k (by decide)] | rw [up_s] | rw [up_r (by decide)])); omega) (by rw [up_f (by decide)]; exact ihv) (fun k a b c => by
          rw [up_f (show (181 : Int) ≠ 180 by decide)]
          by_cases e : k = i
          · subst e; first | (exfalso; omega) | rw [up_s]
          · rw [up_k e]; exact ia k a (by omega) c) (fun k a b => by
          by_cases e : k = i
          · subst e; first | (exfalso; omega) | rw [up_s]
          · rw [up_k e]; exact iz k a (by omega)) ((up_r (by decide)).trans i19) ((up_f (by decide)).trans eH) ((up_f (by decide)).trans e83) (by omega))
              · refine t_getR (pc := 98) hX 52 rfl rfl rfl fl_X12_37 rfl hG.1 (a_h hG).1 ?_
                refine r_iload_n (pc := 102) hX 54 rfl rfl ?_
                refine e_iald (y := (v80 181 i)) (pc := 103) hX 55 rfl (a_h hG).2.1 (a_h hG).2.2 (by omega) (by omega) (rfl) ?_
                refine r_goto (pc := 104) hX 56 (tgt := 108) rfl (by decide) ?_
                refine e_iast (pc := 108) hX 58 rfl (a_s hG).2.1 (a_s hG).2.2 (by decide) (by omega) (by omega) ?_
                refine r_iinc (ls' := [(2, 178), (0, (i + 1))]) (pc := 109) hX 59 rfl rfl (by decide) rfl ?_
                refine r_goto (pc := 112) hX 60 (tgt := 80) rfl (by decide) ?_
                exact (ih80 (i + 1) (up v80 180 i (v80 181 i)) ((hfr80).arr (r := 180) (by decide) (by decide)) (by rw [up_f (by decide)]; exact hRsI_80) (by omega) (by (repeat (first | rw [up_k (by decide)] | rw [up_s] | rw [up_r (by decide)])); omega) (by rw [up_f (by decide)]; exact ihv) (fun k a b c => by
          rw [up_f (show (181 : Int) ≠ 180 by decide)]
          by_cases e : k = i
          · subst e; first | (exfalso; omega) | rw [up_s]
          · rw [up_k e]; exact ia k a (by omega) c) (fun k a b => by
          by_cases e : k = i
          · subst e; first | (exfalso; omega) | rw [up_s]
          · rw [up_k e]; exact iz k a (by omega)) ((up_r (by decide)).trans i19) ((up_f (by decide)).trans eH) ((up_f (by decide)).trans e83) (by omega))
        exact (L80 _ 0 v35 (hfr35) (hRsI_35) (by omega) (by omega) (ihv) (fun k a b c => by omega) (fun k a b => by omega) (rfl) (rfl) (rfl) (Nat.lt_succ_self _))
      · refine r_aload_n (pc := 42) hX 22 rfl rfl ?_
        refine r_callV (as := []) (st := []) (K := 12) (pc := 43) hX 23 rfl mo_m_line ml_X12_272 im_m_line se_m_line (c_lineF g v35 ρ Z hG  (by omega) (ihv) (hRg) (hRsI_35)) rfl rfl rfl hG.1 (by rw [hRm]; exact ⟨by decide, by decide⟩) (by rw [hRm]; exact ⟨by decide, by decide⟩) (Nat.le_of_ble_eq_true rfl) (fun o43 v43 ρ43 Z43 hq43 _ => ?_)
        obtain ⟨rfl, rfl, hfr43, r43, rfl, hq43⟩ := hq43
        have hRsI_43 : RsI (v43 184) := by rw [hfr43.1 184 (by decide) (by decide)]; exact hRsI_35
        have hk43_2 : v43 178 2 = (v35 178 2) := (hfr43.2 2 (by decide)).trans (rfl)
        have hk43_3 : v43 178 3 = (v35 178 3) := (hfr43.2 3 (by decide)).trans (rfl)
        have hk43_5 : v43 178 5 = (v35 178 5) := (hfr43.2 5 (by decide)).trans (rfl)
        have hk43_25 : v43 178 25 = (v35 178 25) := (hfr43.2 25 (by decide)).trans (rfl)
        have hk43_19 : v43 178 19 = (v35 178 19) := (hfr43.2 19 (by decide)).trans (rfl)
        show wp g X F_m_road 0 0 46 [(2, 178), (3, 0)] [(0, r43)] v43 ρ Z
        have hL43 := hq43.2.2.2.1
        have hn43 : ∀ j, j < 10 → v43 183 j = v 183 j := fun j hj => by rw [hq43.2.2.2.2 j hj]; exact in35 j hj
        have hI43 : r43 ≠ 0 → HInv (v43 181) := fun b => Hd.o hq43.2.2.1 (by omega)
        replace hq43 := And.intro hq43.1 hq43.2.1
        first | refine r_if_eq (pc := 46) hX 24 (tgt := 58) rfl (by decide) (⟨by omega, by omega⟩) (fun h46 => ?_) (fun h46 => ?_) | refine r_if_eq_any (pc := 46) hX 24 (tgt := 58) rfl (by decide) ?_ ?_
        · refine r_iconst (pc := 58) hX 29 rfl ?_
          refine t_getI (y := (v43 178 16)) (pc := 59) hX 30 rfl rfl rfl fl_X12_210 rfl hG.1 (rfl) ?_
          refine r_isub (pc := 63) hX 32 rfl ?_
          exact r_iret (pc := 64) hX 33 hQ rfl rfl (Nat.le_refl 0) (Nat.le_refl 0) ⟨rfl, rfl, (hfr35).tr hfr43 (by decide) (by decide), ((-1) - (v43 178 16)), rfl, (by first | (rw [hfr43.1 180 (by decide) (by decide), e180]; exact hS) | (rw [hfr52.1 180 (by decide) (by decide), hfr43.1 180 (by decide) (by decide), e180]; exact hS)), (by first | (rw [hfr43.1 180 (by decide) (by decide), e180, hfr43.1 187 (by decide) (by decide), eu35, hk43_25, e25]; exact hU) | (rw [hfr52.1 180 (by decide) (by decide), hfr43.1 180 (by decide) (by decide), e180, hfr52.1 187 (by decide) (by decide), hfr43.1 187 (by decide) (by decide), eu35, hk52_25, hk43_25, e25]; exact hU)), (by omega), (by first | (rcases hL43 with ⟨a, _⟩ | ⟨_, a, _, b⟩; exact absurd a (by omega); exact (RoI.bad heq hpk hpn (by omega) a b).1) | (rcases hm52 with ⟨a, _⟩ | ⟨_, a, _, b⟩; exact absurd a (by omega); have hc := cl_f hl43.1 a; exact (RoI.bad (c := v52 178 16) heq hpk hpn (by omega) (by rw [hc]; show (1 : Int) ≠ 0; decide) (by rw [hc]; exact b)).1)), (by first | (refine Or.inr ⟨?_, by rw [hfr43.1 180 (by decide) (by decide), e180]⟩; rcases hL43 with ⟨a, _⟩ | ⟨_, a, _, b⟩; exact absurd a (by omega); have z := RoI.bad heq hpk hpn (by omega) a b; rw [z.2]; exact a) | (refine Or.inr ⟨?_, by rw [hfr52.1 180 (by decide) (by decide), hfr43.1 180 (by decide) (by decide), e180]⟩; rcases hm52 with ⟨a, _⟩ | ⟨_, a, _, b⟩; exact absurd a (by omega); have hc := cl_f hl43.1 a; have z := RoI.bad (c := v52 178 16) heq hpk hpn (by omega) (by rw [hc]; show (1 : Int) ≠ 0; decide) (by rw [hc]; exact b); rw [z.2, hc]; show (1 : Int) ≠ 0; decide)), (by first | (refine Or.inr ⟨?_, hn43⟩; rcases hL43 with ⟨a, _⟩ | ⟨_, a, _, b⟩; exact absurd a (by omega); have z := RoI.bad heq hpk hpn (by omega) a b; rw [z.2]; exact a) | (refine Or.inr ⟨?_, fun j hj => by rw [hfr52.1 183 (by decide) (by decide)]; exact hn43 j hj⟩; rcases hm52 with ⟨a, _⟩ | ⟨_, a, _, b⟩; exact absurd a (by omega); have hc := cl_f hl43.1 a; have z := RoI.bad (c := v52 178 16) heq hpk hpn (by omega) (by rw [hc]; show (1 : Int) ≠ 0; decide) (by rw [hc]; exact b); rw [z.2, hc]; show (1 : Int) ≠ 0; decide))⟩
        · have hl43 : (rLine (cb (v 178 2) (v 179)) (v 178 2) 900 sg).1 = 0 ∧ RdM (cb (v 178 2) (v 179)) (v 178 2) 900 v43 (rLine (cb (v 178 2) (v 179)) (v 178 2) 900 sg).2 := by
            rcases hL43 with ⟨_, a, b⟩ | ⟨a, _⟩
            · exact ⟨a, b⟩
            · exact absurd a (by omega)
          have hTl := hl43.2.1
          refine r_aload_n (pc := 49) hX 25 rfl rfl ?_
          refine r_bipush (pc := 50) hX 26 rfl (by decide) ?_
          refine r_callV (as := [(0, 59)]) (st := []) (K := 12) (pc := 52) hX 27 rfl mo_m_sign ml_X12_275 im_m_sign se_m_sign (c_signF g v43 ρ Z hG (59) (by omega) (hl43.2.1) (by omega)) rfl rfl rfl hG.1 (by rw [hRm]; exact ⟨by decide, by decide⟩) (by rw [hRm]; exact ⟨by decide, by decide⟩) (Nat.le_of_ble_eq_true rfl) (fun o52 v52 ρ52 Z52 hq52 _ => ?_)
          obtain ⟨rfl, rfl, hfr52, r52, rfl, hq52⟩ := hq52
          have hRsI_52 : RsI (v52 184) := by rw [hfr52.1 184 (by decide) (by decide)]; exact hRsI_43
          have hk52_2 : v52 178 2 = (v43 178 2) := (hfr52.2 2 (by decide)).trans (rfl)
          have hk52_3 : v52 178 3 = (v43 178 3) := (hfr52.2 3 (by decide)).trans (rfl)
          have hk52_5 : v52 178 5 = (v43 178 5) := (hfr52.2 5 (by decide)).trans (rfl)
          have hk52_25 : v52 178 25 = (v43 178 25) := (hfr52.2 25 (by decide)).trans (rfl)
          have hk52_19 : v52 178 19 = (v43 178 19) := (hfr52.2 19 (by decide)).trans (rfl)
          show wp g X F_m_road 0 0 55 [(2, 178), (3, 0)] [(0, r52)] v52 ρ Z
          have hm52 := hq52.2.2
          replace hq52 := And.intro hq52.1 hq52.2.1
          first | refine r_if_ne (pc := 55) hX 28 (tgt := 65) rfl (by decide) (⟨by omega, by omega⟩) (fun h55 => ?_) (fun h55 => ?_) | refine r_if_ne_any (pc := 55) hX 28 (tgt := 65) rfl (by decide) ?_ ?_
          · replace hm52 : mk (cb (v 178 2) (v 179)) (v 178 2) 900 (rLine (cb (v 178 2) (v 179)) (v 178 2) 900 sg).2.p 59 = true ∧ TkM (cb (v 178 2) (v 179)) (v 178 2) 900 v52 (tp (cb (v 178 2) (v 179)) (v 178 2) 900 (rLine (cb (v 178 2) (v 179)) (v 178 2) 900 sg).2.p) := by
              rcases hm52 with ⟨_, a, b⟩ | ⟨a, _⟩
              · exact ⟨a, b⟩
              · exact absurd a (by omega)
            have hR52 := hl43.2.go hfr52 (by decide) (by decide) hm52.2
            have hat : v35 178 12 < v52 178 12 ∧ v52 178 12 ≤ 940 := by
              have z1 : v52 178 12 = ta (cb (v 178 2) (v 179)) (v 178 2) 900 (nx (cb (v 178 2) (v 179)) (v 178 2) 900 (rLine (cb (v 178 2) (v 179)) (v 178 2) 900 sg).2).p := hR52.1.2.2.2.2.2.2.2.1
              rw [z1, hTa]
              exact ⟨ta_lt hpn (rLine_w hl43.1) (by show _ ≤ tp _ _ _ _; rw [← hTl.2.2.2.2.2.1, ← hTg]; omega) hR52.1.2.1, (ta_bd hR52.1.1 hR52.1.2.1 (by decide) (by decide) (by omega)).2⟩
            refine r_aload_n (pc := 65) hX 34 rfl rfl ?_
            refine r_dup (pc := 66) hX 35 rfl (show (2 : Nat) ≠ 1 by decide) ?_
            refine e_getI (y := (v52 178 19)) (pc := 67) hX 36 rfl fl_X12_269 rfl hG.1 (rfl) ?_
            refine r_iconst (pc := 70) hX 37 rfl ?_
            refine r_iadd (pc := 71) hX 38 rfl ?_
            refine r_putI (pc := 72) hX 39 rfl fl_X12_269 rfl (fun _ h => by cases h; rfl) hG.1 (by decide) ?_
            refine r_goto (pc := 75) hX 40 (tgt := 35) rfl (by decide) ?_
            exact (ih35  (up v52 178 19 ((v52 178 19) + 1)) ((((hfr35).tr hfr43 (by decide) (by decide)).tr hfr52 (by decide) (by decide)).fld (k := 19) (by decide)) (by rw [up_f (by decide)]; exact hRsI_52) (by (repeat (first | rw [up_k (by decide)] | rw [up_s] | rw [up_r (by decide)])); omega) (by rw [up_f (by decide), hfr52.1 181 (by decide) (by decide)]; exact hI43 (by omega)) (by rw [up_f (by decide), hfr52.1 180 (by decide) (by decide), hfr43.1 180 (by decide) (by decide)]; exact e180) (by (repeat (first | rw [up_k (by decide)] | rw [up_s] | rw [up_r (by decide)])); omega) (by (repeat (first | rw [up_k (by decide)] | rw [up_s] | rw [up_r (by decide)])); omega) (RoI.next heq hpk hpn (by omega) hl43.1 hm52.1 (hR52.fldx (by decide) (by decide)) ((up_s _ _ _ _).trans (by omega)) (by rw [← hTl.2.2.2.2.2.1, ← hTg]; omega)) (fun j hj => by rw [up_f (by decide), hfr52.1 183 (by decide) (by decide)]; exact hn43 j hj) (by (repeat (first | rw [up_k (by decide)] | rw [up_s] | rw [up_r (by decide)])); omega))
          · refine r_iconst (pc := 58) hX 29 rfl ?_
            refine t_getI (y := (v52 178 16)) (pc := 59) hX 30 rfl rfl rfl fl_X12_210 rfl hG.1 (rfl) ?_
            refine r_isub (pc := 63) hX 32 rfl ?_
            exact r_iret (pc := 64) hX 33 hQ rfl rfl (Nat.le_refl 0) (Nat.le_refl 0) ⟨rfl, rfl, ((hfr35).tr hfr43 (by decide) (by decide)).tr hfr52 (by decide) (by decide), ((-1) - (v52 178 16)), rfl, (by first | (rw [hfr43.1 180 (by decide) (by decide), e180]; exact hS) | (rw [hfr52.1 180 (by decide) (by decide), hfr43.1 180 (by decide) (by decide), e180]; exact hS)), (by first | (rw [hfr43.1 180 (by decide) (by decide), e180, hfr43.1 187 (by decide) (by decide), eu35, hk43_25, e25]; exact hU) | (rw [hfr52.1 180 (by decide) (by decide), hfr43.1 180 (by decide) (by decide), e180, hfr52.1 187 (by decide) (by decide), hfr43.1 187 (by decide) (by decide), eu35, hk52_25, hk43_25, e25]; exact hU)), (by omega), (by first | (rcases hL43 with ⟨a, _⟩ | ⟨_, a, _, b⟩; exact absurd a (by omega); exact (RoI.bad heq hpk hpn (by omega) a b).1) | (rcases hm52 with ⟨a, _⟩ | ⟨_, a, _, b⟩; exact absurd a (by omega); have hc := cl_f hl43.1 a; exact (RoI.bad (c := v52 178 16) heq hpk hpn (by omega) (by rw [hc]; show (1 : Int) ≠ 0; decide) (by rw [hc]; exact b)).1)), (by first | (refine Or.inr ⟨?_, by rw [hfr43.1 180 (by decide) (by decide), e180]⟩; rcases hL43 with ⟨a, _⟩ | ⟨_, a, _, b⟩; exact absurd a (by omega); have z := RoI.bad heq hpk hpn (by omega) a b; rw [z.2]; exact a) | (refine Or.inr ⟨?_, by rw [hfr52.1 180 (by decide) (by decide), hfr43.1 180 (by decide) (by decide), e180]⟩; rcases hm52 with ⟨a, _⟩ | ⟨_, a, _, b⟩; exact absurd a (by omega); have hc := cl_f hl43.1 a; have z := RoI.bad (c := v52 178 16) heq hpk hpn (by omega) (by rw [hc]; show (1 : Int) ≠ 0; decide) (by rw [hc]; exact b); rw [z.2, hc]; show (1 : Int) ≠ 0; decide)), (by first | (refine Or.inr ⟨?_, hn43⟩; rcases hL43 with ⟨a, _⟩ | ⟨_, a, _, b⟩; exact absurd a (by omega); have z := RoI.bad heq hpk hpn (by omega) a b; rw [z.2]; exact a) | (refine Or.inr ⟨?_, fun j hj => by rw [hfr52.1 183 (by decide) (by decide)]; exact hn43 j hj⟩; rcases hm52 with ⟨a, _⟩ | ⟨_, a, _, b⟩; exact absurd a (by omega); have hc := cl_f hl43.1 a; have z := RoI.bad (c := v52 178 16) heq hpk hpn (by omega) (by rw [hc]; show (1 : Int) ≠ 0; decide) (by rw [hc]; exact b); rw [z.2, hc]; show (1 : Int) ≠ 0; decide))⟩
  exact (L35 _  v32 ((((((((Fr.rf).fld (k := 0) (by decide)).tr hfr9 (by decide) (by decide)).fld (k := 15) (by decide)).fld (k := 19) (by decide)).fld (k := 20) (by decide)).tr hfr28 (by decide) (by decide)).tr hfr32 (by decide) (by decide)) (hRsI_32) (by omega) (by rw [hfr32.1 181 (by decide) (by decide)]; exact HInv.start hq28.1 hq28.2.1 hq28.2.2) (by rw [hfr32.1 180 (by decide) (by decide), hfr28.1 180 (by decide) (by decide)]; (repeat rw [up_f (by decide)]); rw [hfr9.1 180 (by decide) (by decide), up_f (by decide)]) (by omega) (by omega) (RoI.start hR0 (by omega) (by omega)) (fun j _ => by rw [hfr32.1 183 (by decide) (by decide), hfr28.1 183 (by decide) (by decide)]; (repeat rw [up_f (by decide)]); rw [hfr9.1 183 (by decide) (by decide), up_f (by decide)]) (Nat.lt_succ_self _))
