set_option maxHeartbeats 4000000 in
set_option maxRecDepth 100000 in
theorem c_badF (g : Gp) (v ρ : Mv) (Z : Mz) (hG : GM ρ Z) (kind : Int) (hk : inR kind) : Ok g 1 0 0 F_m_bad [(2, 178), (0, kind)] v ρ Z (fun o v' ρ' Z' => ρ = ρ' ∧ Z = Z' ∧ Fr [] [15, 16] v v' ∧ ∃ r : Int, o = some (0, r) ∧ (r = 0) ∧ (v' 178 15 = kind ∧ v' 178 16 = v 178 12)) := by
  refine Ok.of mo_m_bad (Nat.le_of_ble_eq_true rfl) ?_
  intro X hX hRm hxn hQ
  show wp g X F_m_bad 0 0 0 [(2, 178), (0, kind)] [] v ρ Z
  refine r_aload_n (pc := 0) hX 0 rfl rfl ?_
  refine r_iload_n (pc := 1) hX 1 rfl rfl ?_
  refine r_putI (pc := 2) hX 2 rfl fl_X12_207 rfl (fun _ h => by cases h; rfl) hG.1 (by decide) ?_
  refine r_aload_n (pc := 5) hX 3 rfl rfl ?_
  refine t_getI (y := (v 178 12)) (pc := 6) hX 4 rfl rfl rfl fl_X12_184 rfl hG.1 ((up_k (by decide)).trans (rfl)) ?_
  refine r_putI (pc := 10) hX 6 rfl fl_X12_210 rfl (fun _ h => by cases h; rfl) hG.1 (by decide) ?_
  refine r_iconst (pc := 13) hX 7 rfl ?_
  show wp g X F_m_bad 0 0 14 [(2, 178), (0, kind)] [(0, 0)] (up (up v 178 15 kind) 178 16 (v 178 12)) ρ Z
  exact r_zret (pc := 14) hX 8 hQ rfl rfl ⟨by omega, by omega⟩ (Nat.le_refl 0) (Nat.le_refl 0) ⟨rfl, rfl, ((Fr.rf).fld (k := 15) (by decide)).fld (k := 16) (by decide), 0, rfl, (by omega), (⟨by (repeat (first | rw [up_k (by decide)] | rw [up_s] | rw [up_r (by decide)])), by (repeat (first | rw [up_k (by decide)] | rw [up_s] | rw [up_r (by decide)]))⟩)⟩
set_option maxHeartbeats 4000000 in
set_option maxRecDepth 100000 in
theorem c_isSignF (g : Gp) (v ρ : Mv) (Z : Mz) (hG : GM ρ Z) (c : Int) (ht : 0 ≤ v 178 11 ∧ v 178 11 ≤ 4) (hc : inR c) (hn : inR (v 178 14)) : Ok g 1 0 0 F_m_isSign [(2, 178), (0, c)] v ρ Z (fun o v' ρ' Z' => ρ = ρ' ∧ Z = Z' ∧ v = v' ∧ ∃ r : Int, o = some (0, r) ∧ ((r = 1 ∧ (v 178 11 = 3 ∧ v 178 14 = c) ∨ r = 0 ∧ ¬ (v 178 11 = 3 ∧ v 178 14 = c)))) := by
  refine Ok.of mo_m_isSign (Nat.le_of_ble_eq_true rfl) ?_
  intro X hX hRm hxn hQ
  show wp g X F_m_isSign 0 0 0 [(2, 178), (0, c)] [] v ρ Z
  refine t_getI (y := (v 178 11)) (pc := 0) hX 0 rfl rfl rfl fl_X12_190 rfl hG.1 (rfl) ?_
  refine r_iconst (pc := 4) hX 2 rfl ?_
  first | refine r_icmp_ne (pc := 5) hX 3 (tgt := 20) rfl (by decide) (⟨by omega, by omega⟩) (⟨by omega, by omega⟩) (fun h5 => ?_) (fun h5 => ?_) | refine r_icmp_ne_any (pc := 5) hX 3 (tgt := 20) rfl (by decide) ?_ ?_
  · refine r_iconst (pc := 20) hX 10 rfl ?_
    exact r_zret (pc := 21) hX 11 hQ rfl rfl ⟨by omega, by omega⟩ (Nat.le_refl 0) (Nat.le_refl 0) ⟨rfl, rfl, rfl, 0, rfl, (by omega)⟩
  · refine t_getI (y := (v 178 14)) (pc := 8) hX 4 rfl rfl rfl fl_X12_200 rfl hG.1 (rfl) ?_
    refine r_iload_n (pc := 12) hX 6 rfl rfl ?_
    first | refine r_icmp_ne (pc := 13) hX 7 (tgt := 20) rfl (by decide) (⟨by omega, by omega⟩) (⟨by omega, by omega⟩) (fun h13 => ?_) (fun h13 => ?_) | refine r_icmp_ne_any (pc := 13) hX 7 (tgt := 20) rfl (by decide) ?_ ?_
    · refine r_iconst (pc := 20) hX 10 rfl ?_
      exact r_zret (pc := 21) hX 11 hQ rfl rfl ⟨by omega, by omega⟩ (Nat.le_refl 0) (Nat.le_refl 0) ⟨rfl, rfl, rfl, 0, rfl, (by omega)⟩
    · refine r_iconst (pc := 16) hX 8 rfl ?_
      refine r_goto (pc := 17) hX 9 (tgt := 21) rfl (by decide) ?_
      exact r_zret (pc := 21) hX 11 hQ rfl rfl ⟨by omega, by omega⟩ (Nat.le_refl 0) (Nat.le_refl 0) ⟨rfl, rfl, rfl, 1, rfl, (by omega)⟩
set_option maxHeartbeats 4000000 in
set_option maxRecDepth 100000 in
theorem c_faultF (g : Gp) (v ρ : Mv) (Z : Mz) (hG : GM ρ Z)   : Ok g 1 0 0 F_m_fault [(2, 178)] v ρ Z (fun o v' ρ' Z' => ρ = ρ' ∧ Z = Z' ∧ Fr [] [0] v v' ∧ ∃ r : Int, o = some (0, r) ∧ (r = v 178 15)) := by
  refine Ok.of mo_m_fault (Nat.le_of_ble_eq_true rfl) ?_
  intro X hX hRm hxn hQ
  show wp g X F_m_fault 0 0 0 [(2, 178)] [] v ρ Z
  refine r_aload_n (pc := 0) hX 0 rfl rfl ?_
  refine r_iconst (pc := 1) hX 1 rfl ?_
  refine r_putI (pc := 2) hX 2 rfl fl_X12_1 rfl (fun _ h => by cases h; rfl) hG.1 (by decide) ?_
  refine t_getI (y := (v 178 15)) (pc := 5) hX 3 rfl rfl rfl fl_X12_207 rfl hG.1 ((up_k (by decide)).trans (rfl)) ?_
  exact r_iret (pc := 9) hX 5 hQ rfl rfl (Nat.le_refl 0) (Nat.le_refl 0) ⟨rfl, rfl, (Fr.rf).fld (k := 0) (by decide), (v 178 15), rfl, (by first | rfl | ((repeat (first | rw [up_k (by decide)] | rw [up_s] | rw [up_r (by decide)])); rfl) | ((repeat (first | rw [up_k (by decide)] | rw [up_s] | rw [up_r (by decide)])); done))⟩
set_option maxHeartbeats 4000000 in
set_option maxRecDepth 100000 in
theorem c_isWordF (g : Gp) (v ρ : Mv) (Z : Mz) (hG : GM ρ Z) (w : Int) (ht : 0 ≤ v 178 11 ∧ v 178 11 ≤ 4) (hw : Hd (v 178 11 = 1 → 0 ≤ v 178 17 ∧ v 178 17 < 9223372036854775807)) (hx : inL w) : Ok g 1 0 0 F_m_isWord [(2, 178), (1, w)] v ρ Z (fun o v' ρ' Z' => ρ = ρ' ∧ Z = Z' ∧ v = v' ∧ ∃ r : Int, o = some (0, r) ∧ ((r = 1 ∧ (v 178 11 = 1 ∧ v 178 17 = w) ∨ r = 0 ∧ ¬ (v 178 11 = 1 ∧ v 178 17 = w)))) := by
  refine Ok.of mo_m_isWord (Nat.le_of_ble_eq_true rfl) ?_
  intro X hX hRm hxn hQ
  show wp g X F_m_isWord 0 0 0 [(2, 178), (1, w), (3, 0)] [] v ρ Z
  refine t_getI (y := (v 178 11)) (pc := 0) hX 0 rfl rfl rfl fl_X12_190 rfl hG.1 (rfl) ?_
  refine r_iconst (pc := 4) hX 2 rfl ?_
  first | refine r_icmp_ne (pc := 5) hX 3 (tgt := 21) rfl (by decide) (⟨by omega, by omega⟩) (⟨by omega, by omega⟩) (fun h5 => ?_) (fun h5 => ?_) | refine r_icmp_ne_any (pc := 5) hX 3 (tgt := 21) rfl (by decide) ?_ ?_
  · refine r_iconst (pc := 21) hX 11 rfl ?_
    exact r_zret (pc := 22) hX 12 hQ rfl rfl ⟨by omega, by omega⟩ (Nat.le_refl 0) (Nat.le_refl 0) ⟨rfl, rfl, rfl, 0, rfl, (by omega)⟩
  · have hwl := Hd.o hw (by omega)
    refine t_getL (y := (v 178 17)) (pc := 8) hX 4 rfl rfl rfl fl_X12_203 rfl hG.1 (rfl) ?_
    refine r_lload_n (pc := 12) hX 6 rfl rfl ?_
    refine r_lcmp (pc := 13) hX 7 rfl (⟨by omega, by omega⟩) (hx) ?_
    have hcm := cmpI_0 (v 178 17) (w)
    have hcr : -2147483648 ≤ cmpI (v 178 17) (w) ∧ cmpI (v 178 17) (w) ≤ 2147483647 := by have h := cmpI_r (v 178 17) (w); exact ⟨by omega, by omega⟩
    refine r_if_ne (pc := 14) hX 8 (tgt := 21) rfl (by decide) (cmpI_in _ _) (fun h14 => ?_) (fun h14 => ?_)
    · rw [Ne, cmpI_eq] at h14
      refine r_iconst (pc := 21) hX 11 rfl ?_
      exact r_zret (pc := 22) hX 12 hQ rfl rfl ⟨by omega, by omega⟩ (Nat.le_refl 0) (Nat.le_refl 0) ⟨rfl, rfl, rfl, 0, rfl, (by omega)⟩
    · rw [Ne, cmpI_eq] at h14
      refine r_iconst (pc := 17) hX 9 rfl ?_
      refine r_goto (pc := 18) hX 10 (tgt := 22) rfl (by decide) ?_
      exact r_zret (pc := 22) hX 12 hQ rfl rfl ⟨by omega, by omega⟩ (Nat.le_refl 0) (Nat.le_refl 0) ⟨rfl, rfl, rfl, 1, rfl, (by omega)⟩
set_option maxHeartbeats 4000000 in
set_option maxRecDepth 100000 in
theorem c_findF (g : Gp) (v ρ : Mv) (Z : Mz) (hG : GM ρ Z) (fr many : Int) (hf : 0 ≤ fr) (hm : 0 ≤ many ∧ fr + many ≤ 20) (hwi : 0 ≤ v 178 17 ∧ v 178 17 < 9223372036854775807) (hnl : Hd (∀ j, 0 ≤ j → j < many → inL (v 183 (fr + j)))) : Ok g 1 0 0 F_m_find [(2, 178), (0, fr), (0, many)] v ρ Z (fun o v' ρ' Z' => ρ = ρ' ∧ Z = Z' ∧ v = v' ∧ ∃ r : Int, o = some (0, r) ∧ (FdP (v 183) (v 178 17) fr many r) ∧ (-1 ≤ r ∧ r < many)) := by
  refine Ok.of mo_m_find (Nat.le_of_ble_eq_true rfl) ?_
  intro X hX hRm hxn hQ
  show wp g X F_m_find 0 0 0 [(2, 178), (0, fr), (0, many), (3, 0)] [] v ρ Z
  refine r_iconst (pc := 0) hX 0 rfl ?_
  refine r_istore_n (ls' := [(2, 178), (0, fr), (0, many), (0, 0)]) (pc := 1) hX 1 rfl (by decide) rfl ?_
  have L2 : ∀ (n2 : Nat) (k : Int) , (0 ≤ k ∧ k ≤ many) → (∀ j, 0 ≤ j → j < k → v 183 (fr + j) ≠ v 178 17) → (many - k).toNat < n2 → wp g X F_m_find 0 0 2 [(2, 178), (0, fr), (0, many), (0, k)] [] v ρ Z := by
    intro n2
    induction n2 with
    | zero => intro k ik il hme2; exact absurd hme2 (Nat.not_lt_zero _)
    | succ n2 ih2 =>
      intro k ik il hme2
      refine r_iload_n (pc := 2) hX 2 rfl rfl ?_
      refine r_iload_n (pc := 3) hX 3 rfl rfl ?_
      first | refine r_icmp_ge (pc := 4) hX 4 (tgt := 31) rfl (by decide) (⟨by omega, by omega⟩) (⟨by omega, by omega⟩) (fun h4 => ?_) (fun h4 => ?_) | refine r_icmp_ge_any (pc := 4) hX 4 (tgt := 31) rfl (by decide) ?_ ?_
      · refine r_iconst (pc := 31) hX 19 rfl ?_
        exact r_iret (pc := 32) hX 20 hQ rfl rfl (Nat.le_refl 0) (Nat.le_refl 0) ⟨rfl, rfl, rfl, (-1), rfl, (Or.inl ⟨rfl, fun j a b => il j a (by omega)⟩), (by omega)⟩
      · refine t_getR (pc := 7) hX 5 rfl rfl rfl fl_X12_43 rfl hG.1 (a_names hG).1 ?_
        refine r_iload_n (pc := 11) hX 7 rfl rfl ?_
        refine r_iload_n (pc := 12) hX 8 rfl rfl ?_
        refine r_iadd (pc := 13) hX 9 rfl ?_
        refine e_lald (y := (v 183 (fr + k))) (pc := 14) hX 10 rfl (a_names hG).2.1 (a_names hG).2.2 (by omega) (by omega) (rfl) ?_
        refine t_getL (y := (v 178 17)) (pc := 15) hX 11 rfl rfl rfl fl_X12_203 rfl hG.1 (rfl) ?_
        refine r_lcmp (pc := 19) hX 13 rfl (Hd.o hnl _ (by omega) (by omega)) (⟨by omega, by omega⟩) ?_
        have hcm := cmpI_0 (v 183 (fr + k)) (v 178 17)
        have hcr : -2147483648 ≤ cmpI (v 183 (fr + k)) (v 178 17) ∧ cmpI (v 183 (fr + k)) (v 178 17) ≤ 2147483647 := by have h := cmpI_r (v 183 (fr + k)) (v 178 17); exact ⟨by omega, by omega⟩
        refine r_if_ne (pc := 20) hX 14 (tgt := 25) rfl (by decide) (cmpI_in _ _) (fun h20 => ?_) (fun h20 => ?_)
        · rw [Ne, cmpI_eq] at h20
          refine r_iinc (ls' := [(2, 178), (0, fr), (0, many), (0, (k + 1))]) (pc := 25) hX 17 rfl rfl (by decide) rfl ?_
          refine r_goto (pc := 28) hX 18 (tgt := 2) rfl (by decide) ?_
          exact (ih2 (k + 1) (by omega) (fun j a b => by
          by_cases e : j = k
          · subst e; exact fun z => h20 z
          · exact il j a (by omega)) (by omega))
        · rw [Ne, cmpI_eq] at h20
          refine r_iload_n (pc := 23) hX 15 rfl rfl ?_
          exact r_iret (pc := 24) hX 16 hQ rfl rfl (Nat.le_refl 0) (Nat.le_refl 0) ⟨rfl, rfl, rfl, k, rfl, (Or.inr ⟨by omega, by omega, hcm.mp (by omega), il⟩), (by omega)⟩
  exact (L2 _ 0 (by omega) (fun j a b => by omega) (Nat.lt_succ_self _))
set_option maxHeartbeats 4000000 in
set_option maxRecDepth 100000 in
theorem c_isNameF (g : Gp) (v ρ : Mv) (Z : Mz) (hG : GM ρ Z)  (ht : 0 ≤ v 178 11 ∧ v 178 11 ≤ 4) (hw : Hd (v 178 11 = 1 → 0 ≤ v 178 17 ∧ v 178 17 < 9223372036854775807)) (hrs : Hd (∀ j, 0 ≤ j → j < 22 → inL (v 184 j))) : Ok g 1 0 0 F_m_isName [(2, 178)] v ρ Z (fun o v' ρ' Z' => ρ = ρ' ∧ Z = Z' ∧ v = v' ∧ ∃ r : Int, o = some (0, r) ∧ ((r = 1 ∧ v 178 11 = 1 ∧ (∀ j, 0 ≤ j → j < 22 → v 184 j ≠ v 178 17) ∨ r = 0 ∧ (v 178 11 = 1 → ∃ j, 0 ≤ j ∧ j < 22 ∧ v 184 j = v 178 17)))) := by
  refine Ok.of mo_m_isName (Nat.le_of_ble_eq_true rfl) ?_
  intro X hX hRm hxn hQ
  show wp g X F_m_isName 0 0 0 [(2, 178), (3, 0), (3, 0)] [] v ρ Z
  refine t_getI (y := (v 178 11)) (pc := 0) hX 0 rfl rfl rfl fl_X12_190 rfl hG.1 (rfl) ?_
  refine r_iconst (pc := 4) hX 2 rfl ?_
  first | refine r_icmp_ne (pc := 5) hX 3 (tgt := 12) rfl (by decide) (⟨by omega, by omega⟩) (⟨by omega, by omega⟩) (fun h5 => ?_) (fun h5 => ?_) | refine r_icmp_ne_any (pc := 5) hX 3 (tgt := 12) rfl (by decide) ?_ ?_
  · refine r_iconst (pc := 12) hX 6 rfl ?_
    refine r_istore_n (ls' := [(2, 178), (0, 0), (3, 0)]) (pc := 13) hX 7 rfl (by decide) rfl ?_
    refine r_iconst (pc := 14) hX 8 rfl ?_
    refine r_istore_n (ls' := [(2, 178), (0, 0), (0, 0)]) (pc := 15) hX 9 rfl (by decide) rfl ?_
    have L16 : ∀ (n16 : Nat) (is i : Int) , (0 ≤ i ∧ i ≤ 22 ∧ 0 ≤ is ∧ is ≤ 1) → ((is = 1 → v 178 11 = 1) ∧ (is = 1 → ∀ j, 0 ≤ j → j < i → v 184 j ≠ v 178 17)) → ((is = 0 → v 178 11 = 1 → ∃ j, 0 ≤ j ∧ j < 22 ∧ v 184 j = v 178 17)) → (22 - i).toNat < n16 → wp g X F_m_isName 0 0 16 [(2, 178), (0, is), (0, i)] [] v ρ Z := by
      intro n16
      induction n16 with
      | zero => intro is i ii ij ik hme16; exact absurd hme16 (Nat.not_lt_zero _)
      | succ n16 ih16 =>
        intro is i ii ij ik hme16
        refine r_iload_n (pc := 16) hX 10 rfl rfl ?_
        refine r_bipush (pc := 17) hX 11 rfl (by decide) ?_
        first | refine r_icmp_ge (pc := 19) hX 12 (tgt := 52) rfl (by decide) (⟨by omega, by omega⟩) (⟨by omega, by omega⟩) (fun h19 => ?_) (fun h19 => ?_) | refine r_icmp_ge_any (pc := 19) hX 12 (tgt := 52) rfl (by decide) ?_ ?_
        · refine r_iload_n (pc := 52) hX 29 rfl rfl ?_
          exact r_zret (pc := 53) hX 30 hQ rfl rfl ⟨by omega, by omega⟩ (Nat.le_refl 0) (Nat.le_refl 0) ⟨rfl, rfl, rfl, is, rfl, (by
        by_cases e : is = 1
        · exact Or.inl ⟨e, ij.1 e, fun j a b => ij.2 e j a (by omega)⟩
        · exact Or.inr ⟨by omega, ik (by omega)⟩)⟩
        · refine r_iload_n (pc := 22) hX 13 rfl rfl ?_
          first | refine r_if_eq (pc := 23) hX 14 (tgt := 44) rfl (by decide) (⟨by omega, by omega⟩) (fun h23 => ?_) (fun h23 => ?_) | refine r_if_eq_any (pc := 23) hX 14 (tgt := 44) rfl (by decide) ?_ ?_
          · refine r_iconst (pc := 44) hX 25 rfl ?_
            refine r_istore_n (ls' := [(2, 178), (0, 0), (0, i)]) (pc := 45) hX 26 rfl (by decide) rfl ?_
            refine r_iinc (ls' := [(2, 178), (0, 0), (0, (i + 1))]) (pc := 46) hX 27 rfl rfl (by decide) rfl ?_
            refine r_goto (pc := 49) hX 28 (tgt := 16) rfl (by decide) ?_
            exact (ih16 0 (i + 1) (by omega) (by first | exact ⟨fun z => absurd z (by decide), fun z => absurd z (by decide)⟩ | exact ⟨fun _ => ij.1 (by omega), fun _ j a b => by
          by_cases e : j = i
          · subst e; exact fun z => h37 z.symm
          · exact ij.2 (by omega) j a (by omega)⟩) (by first | exact fun z => absurd z (by decide) | exact fun _ => ik (by omega) | exact fun _ _ => ⟨i, by omega, by omega, h37.symm⟩) (by omega))
          · have hwl := Hd.o hw (ij.1 (by omega))
            refine t_getL (y := (v 178 17)) (pc := 26) hX 15 rfl rfl rfl fl_X12_203 rfl hG.1 (rfl) ?_
            refine t_getR (pc := 30) hX 17 rfl rfl rfl fl_X12_47 rfl hG.1 (a_reserved hG).1 ?_
            refine r_iload_n (pc := 34) hX 19 rfl rfl ?_
            refine e_lald (y := (v 184 i)) (pc := 35) hX 20 rfl (a_reserved hG).2.1 (a_reserved hG).2.2 (by omega) (by omega) (rfl) ?_
            refine r_lcmp (pc := 36) hX 21 rfl (⟨by omega, by omega⟩) (Hd.o hrs _ (by omega) (by omega)) ?_
            have hcm := cmpI_0 (v 178 17) (v 184 i)
            have hcr : -2147483648 ≤ cmpI (v 178 17) (v 184 i) ∧ cmpI (v 178 17) (v 184 i) ≤ 2147483647 := by have h := cmpI_r (v 178 17) (v 184 i); exact ⟨by omega, by omega⟩
            refine r_if_eq (pc := 37) hX 22 (tgt := 44) rfl (by decide) (cmpI_in _ _) (fun h37 => ?_) (fun h37 => ?_)
            · rw [cmpI_eq] at h37
              refine r_iconst (pc := 44) hX 25 rfl ?_
              refine r_istore_n (ls' := [(2, 178), (0, 0), (0, i)]) (pc := 45) hX 26 rfl (by decide) rfl ?_
              refine r_iinc (ls' := [(2, 178), (0, 0), (0, (i + 1))]) (pc := 46) hX 27 rfl rfl (by decide) rfl ?_
              refine r_goto (pc := 49) hX 28 (tgt := 16) rfl (by decide) ?_
              exact (ih16 0 (i + 1) (by omega) (by first | exact ⟨fun z => absurd z (by decide), fun z => absurd z (by decide)⟩ | exact ⟨fun _ => ij.1 (by omega), fun _ j a b => by
          by_cases e : j = i
          · subst e; exact fun z => h37 z.symm
          · exact ij.2 (by omega) j a (by omega)⟩) (by first | exact fun z => absurd z (by decide) | exact fun _ => ik (by omega) | exact fun _ _ => ⟨i, by omega, by omega, h37.symm⟩) (by omega))
            · rw [cmpI_eq] at h37
              refine r_iconst (pc := 40) hX 23 rfl ?_
              refine r_goto (pc := 41) hX 24 (tgt := 45) rfl (by decide) ?_
              refine r_istore_n (ls' := [(2, 178), (0, 1), (0, i)]) (pc := 45) hX 26 rfl (by decide) rfl ?_
              refine r_iinc (ls' := [(2, 178), (0, 1), (0, (i + 1))]) (pc := 46) hX 27 rfl rfl (by decide) rfl ?_
              refine r_goto (pc := 49) hX 28 (tgt := 16) rfl (by decide) ?_
              exact (ih16 1 (i + 1) (by omega) (by first | exact ⟨fun z => absurd z (by decide), fun z => absurd z (by decide)⟩ | exact ⟨fun _ => ij.1 (by omega), fun _ j a b => by
          by_cases e : j = i
          · subst e; exact fun z => h37 z.symm
          · exact ij.2 (by omega) j a (by omega)⟩) (by first | exact fun z => absurd z (by decide) | exact fun _ => ik (by omega) | exact fun _ _ => ⟨i, by omega, by omega, h37.symm⟩) (by omega))
    exact (L16 _ 0 0 (by omega) (⟨fun z => by omega, fun _ j a b => by omega⟩) (fun z1 z2 => by exfalso; omega) (Nat.lt_succ_self _))
  · refine r_iconst (pc := 8) hX 4 rfl ?_
    refine r_goto (pc := 9) hX 5 (tgt := 13) rfl (by decide) ?_
    refine r_istore_n (ls' := [(2, 178), (0, 1), (3, 0)]) (pc := 13) hX 7 rfl (by decide) rfl ?_
    refine r_iconst (pc := 14) hX 8 rfl ?_
    refine r_istore_n (ls' := [(2, 178), (0, 1), (0, 0)]) (pc := 15) hX 9 rfl (by decide) rfl ?_
    have L16 : ∀ (n16 : Nat) (is i : Int) , (0 ≤ i ∧ i ≤ 22 ∧ 0 ≤ is ∧ is ≤ 1) → ((is = 1 → v 178 11 = 1) ∧ (is = 1 → ∀ j, 0 ≤ j → j < i → v 184 j ≠ v 178 17)) → ((is = 0 → v 178 11 = 1 → ∃ j, 0 ≤ j ∧ j < 22 ∧ v 184 j = v 178 17)) → (22 - i).toNat < n16 → wp g X F_m_isName 0 0 16 [(2, 178), (0, is), (0, i)] [] v ρ Z := by
      intro n16
      induction n16 with
      | zero => intro is i ii ij ik hme16; exact absurd hme16 (Nat.not_lt_zero _)
      | succ n16 ih16 =>
        intro is i ii ij ik hme16
        refine r_iload_n (pc := 16) hX 10 rfl rfl ?_
        refine r_bipush (pc := 17) hX 11 rfl (by decide) ?_
        first | refine r_icmp_ge (pc := 19) hX 12 (tgt := 52) rfl (by decide) (⟨by omega, by omega⟩) (⟨by omega, by omega⟩) (fun h19 => ?_) (fun h19 => ?_) | refine r_icmp_ge_any (pc := 19) hX 12 (tgt := 52) rfl (by decide) ?_ ?_
        · refine r_iload_n (pc := 52) hX 29 rfl rfl ?_
          exact r_zret (pc := 53) hX 30 hQ rfl rfl ⟨by omega, by omega⟩ (Nat.le_refl 0) (Nat.le_refl 0) ⟨rfl, rfl, rfl, is, rfl, (by
        by_cases e : is = 1
        · exact Or.inl ⟨e, ij.1 e, fun j a b => ij.2 e j a (by omega)⟩
        · exact Or.inr ⟨by omega, ik (by omega)⟩)⟩
        · refine r_iload_n (pc := 22) hX 13 rfl rfl ?_
          first | refine r_if_eq (pc := 23) hX 14 (tgt := 44) rfl (by decide) (⟨by omega, by omega⟩) (fun h23 => ?_) (fun h23 => ?_) | refine r_if_eq_any (pc := 23) hX 14 (tgt := 44) rfl (by decide) ?_ ?_
          · refine r_iconst (pc := 44) hX 25 rfl ?_
            refine r_istore_n (ls' := [(2, 178), (0, 0), (0, i)]) (pc := 45) hX 26 rfl (by decide) rfl ?_
            refine r_iinc (ls' := [(2, 178), (0, 0), (0, (i + 1))]) (pc := 46) hX 27 rfl rfl (by decide) rfl ?_
            refine r_goto (pc := 49) hX 28 (tgt := 16) rfl (by decide) ?_
            exact (ih16 0 (i + 1) (by omega) (by first | exact ⟨fun z => absurd z (by decide), fun z => absurd z (by decide)⟩ | exact ⟨fun _ => ij.1 (by omega), fun _ j a b => by
          by_cases e : j = i
          · subst e; exact fun z => h37 z.symm
          · exact ij.2 (by omega) j a (by omega)⟩) (by first | exact fun z => absurd z (by decide) | exact fun _ => ik (by omega) | exact fun _ _ => ⟨i, by omega, by omega, h37.symm⟩) (by omega))
          · have hwl := Hd.o hw (ij.1 (by omega))
            refine t_getL (y := (v 178 17)) (pc := 26) hX 15 rfl rfl rfl fl_X12_203 rfl hG.1 (rfl) ?_
            refine t_getR (pc := 30) hX 17 rfl rfl rfl fl_X12_47 rfl hG.1 (a_reserved hG).1 ?_
            refine r_iload_n (pc := 34) hX 19 rfl rfl ?_
            refine e_lald (y := (v 184 i)) (pc := 35) hX 20 rfl (a_reserved hG).2.1 (a_reserved hG).2.2 (by omega) (by omega) (rfl) ?_
            refine r_lcmp (pc := 36) hX 21 rfl (⟨by omega, by omega⟩) (Hd.o hrs _ (by omega) (by omega)) ?_
            have hcm := cmpI_0 (v 178 17) (v 184 i)
            have hcr : -2147483648 ≤ cmpI (v 178 17) (v 184 i) ∧ cmpI (v 178 17) (v 184 i) ≤ 2147483647 := by have h := cmpI_r (v 178 17) (v 184 i); exact ⟨by omega, by omega⟩
            refine r_if_eq (pc := 37) hX 22 (tgt := 44) rfl (by decide) (cmpI_in _ _) (fun h37 => ?_) (fun h37 => ?_)
            · rw [cmpI_eq] at h37
              refine r_iconst (pc := 44) hX 25 rfl ?_
              refine r_istore_n (ls' := [(2, 178), (0, 0), (0, i)]) (pc := 45) hX 26 rfl (by decide) rfl ?_
              refine r_iinc (ls' := [(2, 178), (0, 0), (0, (i + 1))]) (pc := 46) hX 27 rfl rfl (by decide) rfl ?_
              refine r_goto (pc := 49) hX 28 (tgt := 16) rfl (by decide) ?_
              exact (ih16 0 (i + 1) (by omega) (by first | exact ⟨fun z => absurd z (by decide), fun z => absurd z (by decide)⟩ | exact ⟨fun _ => ij.1 (by omega), fun _ j a b => by
          by_cases e : j = i
          · subst e; exact fun z => h37 z.symm
          · exact ij.2 (by omega) j a (by omega)⟩) (by first | exact fun z => absurd z (by decide) | exact fun _ => ik (by omega) | exact fun _ _ => ⟨i, by omega, by omega, h37.symm⟩) (by omega))
            · rw [cmpI_eq] at h37
              refine r_iconst (pc := 40) hX 23 rfl ?_
              refine r_goto (pc := 41) hX 24 (tgt := 45) rfl (by decide) ?_
              refine r_istore_n (ls' := [(2, 178), (0, 1), (0, i)]) (pc := 45) hX 26 rfl (by decide) rfl ?_
              refine r_iinc (ls' := [(2, 178), (0, 1), (0, (i + 1))]) (pc := 46) hX 27 rfl rfl (by decide) rfl ?_
              refine r_goto (pc := 49) hX 28 (tgt := 16) rfl (by decide) ?_
              exact (ih16 1 (i + 1) (by omega) (by first | exact ⟨fun z => absurd z (by decide), fun z => absurd z (by decide)⟩ | exact ⟨fun _ => ij.1 (by omega), fun _ j a b => by
          by_cases e : j = i
          · subst e; exact fun z => h37 z.symm
          · exact ij.2 (by omega) j a (by omega)⟩) (by first | exact fun z => absurd z (by decide) | exact fun _ => ik (by omega) | exact fun _ _ => ⟨i, by omega, by omega, h37.symm⟩) (by omega))
    exact (L16 _ 1 0 (by omega) (⟨fun z => by omega, fun _ j a b => by omega⟩) (fun z1 z2 => by exfalso; omega) (Nat.lt_succ_self _))
