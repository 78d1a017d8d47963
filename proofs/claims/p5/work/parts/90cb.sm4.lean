set_option maxHeartbeats 4000000 in
set_option maxRecDepth 100000 in
theorem c_sentenceS (g : Gp) (v ρ : Mv) (Z : Mz) (hG : GM ρ Z) {N : Int → Int}  (hS : SInv (v 180)) (hU : UInv (v 180) (v 187) (v 178 25)) (hl : 0 ≤ v 178 2 ∧ v 178 2 ≤ 940) (hn : inR (v 178 14) ∧ 0 ≤ v 178 11 ∧ v 178 11 ≤ 4) (hrs : RsI (v 184)) (hNm : ∀ j, 0 ≤ j → j < v 180 0 → NmW (N (0 + j)) (v 183 (0 + j))) : Ok g 4 0 0 F_m_sentence [(2, 178)] v ρ Z (fun o v' ρ' Z' => ρ = ρ' ∧ Z = Z' ∧ Fr [180, 182, 205] [0, 2, 3, 4, 5, 11, 12, 13, 14, 15, 16, 17, 51, 52, 53, 54, 55] v v' ∧ ∃ r : Int, o = some (0, r) ∧ (SInv (v' 180)) ∧ (UInv (v' 180) (v' 187) (v' 178 25)) ∧ (inR (v' 178 14) ∧ 0 ≤ v' 178 11 ∧ v' 178 11 ≤ 4 ∧ v' 178 2 = 0) ∧ (∀ k, k < 35 → v' 180 k = v 180 k) ∧ (r = sAns (cb (v 178 2) (v 179)) (v 178 2) 200 (fun x => fnd N x 0 (v 180 0).toNat 0)) ∧ (v' 178 15 = (sR (cb (v 178 2) (v 179)) (v 178 2) 200 (fun x => fnd N x 0 (v 180 0).toNat 0) false [] 0 0).1)) := by
  refine Ok.of mo_m_sentence (Nat.le_of_ble_eq_true rfl) ?_
  intro X hX hRm hxn hQ
  show wp g X F_m_sentence 0 0 0 [(2, 178), (3, 0), (3, 0)] [] v ρ Z
  have hcbs := cb_sam (v 178 2) (v 179)
  refine r_aload_n (pc := 0) hX 0 rfl rfl ?_
  refine r_iconst (pc := 1) hX 1 rfl ?_
  refine r_putI (pc := 2) hX 2 rfl fl_X12_1 rfl (fun _ h => by cases h; rfl) hG.1 (by decide) ?_
  refine r_aload_n (pc := 5) hX 3 rfl rfl ?_
  refine r_sipush (pc := 6) hX 4 rfl (by decide) ?_
  refine r_callV (as := [(0, 200)]) (st := []) (K := 12) (pc := 9) hX 5 rfl mo_m_taken ml_X12_266 im_m_taken se_m_taken (c_taken g (up v 178 0 0) ρ Z hG (200) ) rfl rfl rfl hG.1 (by rw [hRm]; exact ⟨by decide, by decide⟩) (by rw [hRm]; exact ⟨by decide, by decide⟩) (Nat.le_of_ble_eq_true rfl) (fun o9 v9 ρ9 Z9 hq9 _ => ?_)
  obtain ⟨rfl, rfl, hfr9, rfl, hq9⟩ := hq9
  try simp only [up_f (show (180 : Int) ≠ 178 by decide), up_k (show (2 : Int) ≠ 0 by decide)] at hq9
  have hSInv_9 : SInv (v9 180) := by rw [hfr9.1 180 (by decide) (by decide), up_f (by decide)]; exact hS
  have hRsI_9 : RsI (v9 184) := by rw [hfr9.1 184 (by decide) (by decide), up_f (by decide)]; exact hrs
  have hk9_11 : v9 178 11 = (v 178 11) := (hfr9.2 11 (by decide)).trans ((up_k (by decide)).trans (rfl))
  have hk9_14 : v9 178 14 = (v 178 14) := (hfr9.2 14 (by decide)).trans ((up_k (by decide)).trans (rfl))
  have hk9_25 : v9 178 25 = (v 178 25) := (hfr9.2 25 (by decide)).trans ((up_k (by decide)).trans (rfl))
  have hk9_51 : v9 178 51 = (v 178 51) := (hfr9.2 51 (by decide)).trans ((up_k (by decide)).trans (rfl))
  have hk9_52 : v9 178 52 = (v 178 52) := (hfr9.2 52 (by decide)).trans ((up_k (by decide)).trans (rfl))
  have hk9_53 : v9 178 53 = (v 178 53) := (hfr9.2 53 (by decide)).trans ((up_k (by decide)).trans (rfl))
  have hk9_55 : v9 178 55 = (v 178 55) := (hfr9.2 55 (by decide)).trans ((up_k (by decide)).trans (rfl))
  have hk9_54 : v9 178 54 = (v 178 54) := (hfr9.2 54 (by decide)).trans ((up_k (by decide)).trans (rfl))
  have hk9_15 : v9 178 15 = (v 178 15) := (hfr9.2 15 (by decide)).trans ((up_k (by decide)).trans (rfl))
  show wp g X F_m_sentence 0 0 12 [(2, 178), (3, 0), (3, 0)] [] v9 ρ Z
  refine r_aload_n (pc := 12) hX 6 rfl rfl ?_
  refine r_iconst (pc := 13) hX 7 rfl ?_
  refine r_putI (pc := 14) hX 8 rfl fl_X12_207 rfl (fun _ h => by cases h; rfl) hG.1 (by decide) ?_
  refine r_aload_n (pc := 17) hX 9 rfl rfl ?_
  refine r_iconst (pc := 18) hX 10 rfl ?_
  refine r_putI (pc := 19) hX 11 rfl fl_X12_490 rfl (fun _ h => by cases h; rfl) hG.1 (by decide) ?_
  refine r_aload_n (pc := 22) hX 12 rfl rfl ?_
  refine r_iconst (pc := 23) hX 13 rfl ?_
  refine r_putI (pc := 24) hX 14 rfl fl_X12_506 rfl (fun _ h => by cases h; rfl) hG.1 (by decide) ?_
  refine r_aload_n (pc := 27) hX 15 rfl rfl ?_
  refine r_iconst (pc := 28) hX 16 rfl ?_
  refine r_putI (pc := 29) hX 17 rfl fl_X12_493 rfl (fun _ h => by cases h; rfl) hG.1 (by decide) ?_
  refine r_aload_n (pc := 32) hX 18 rfl rfl ?_
  refine r_iconst (pc := 33) hX 19 rfl ?_
  refine r_putI (pc := 34) hX 20 rfl fl_X12_500 rfl (fun _ h => by cases h; rfl) hG.1 (by decide) ?_
  refine r_aload_n (pc := 37) hX 21 rfl rfl ?_
  refine r_iconst (pc := 38) hX 22 rfl ?_
  refine r_putZ (pc := 39) hX 23 rfl fl_X12_509 rfl (fun _ h => by cases h; rfl) ⟨by omega, by omega⟩ hG.1 (by decide) ?_
  refine r_aload_n (pc := 42) hX 24 rfl rfl ?_
  refine r_callV (as := []) (st := []) (K := 12) (pc := 43) hX 25 rfl mo_m_go ml_X12_219 im_m_go se_m_go (c_goF g (up (up (up (up (up (up v9 178 15 0) 178 51 0) 178 52 0) 178 53 0) 178 54 1) 178 55 0) ρ Z hG  (by (repeat (first | rw [up_k (by decide)] | rw [up_s] | rw [up_r (by decide)])); omega)) rfl rfl rfl hG.1 (by rw [hRm]; exact ⟨by decide, by decide⟩) (by rw [hRm]; exact ⟨by decide, by decide⟩) (Nat.le_of_ble_eq_true rfl) (fun o43 v43 ρ43 Z43 hq43 _ => ?_)
  obtain ⟨rfl, rfl, hfr43, rfl, hq43⟩ := hq43
  try simp only [up_f (show (179 : Int) ≠ 178 by decide), up_f (show (180 : Int) ≠ 178 by decide), up_k (show (3 : Int) ≠ 15 by decide), up_k (show (3 : Int) ≠ 51 by decide), up_k (show (3 : Int) ≠ 52 by decide), up_k (show (3 : Int) ≠ 53 by decide), up_k (show (3 : Int) ≠ 54 by decide), up_k (show (3 : Int) ≠ 55 by decide), up_k (show (4 : Int) ≠ 15 by decide), up_k (show (4 : Int) ≠ 51 by decide), up_k (show (4 : Int) ≠ 52 by decide), up_k (show (4 : Int) ≠ 53 by decide), up_k (show (4 : Int) ≠ 54 by decide), up_k (show (4 : Int) ≠ 55 by decide), up_k (show (5 : Int) ≠ 15 by decide), up_k (show (5 : Int) ≠ 51 by decide), up_k (show (5 : Int) ≠ 52 by decide), up_k (show (5 : Int) ≠ 53 by decide), up_k (show (5 : Int) ≠ 54 by decide), up_k (show (5 : Int) ≠ 55 by decide)] at hq43
  have hSInv_43 : SInv (v43 180) := by rw [hfr43.1 180 (by decide) (by decide), up_f (by decide), up_f (by decide), up_f (by decide), up_f (by decide), up_f (by decide), up_f (by decide)]; exact hSInv_9
  have hRsI_43 : RsI (v43 184) := by rw [hfr43.1 184 (by decide) (by decide), up_f (by decide), up_f (by decide), up_f (by decide), up_f (by decide), up_f (by decide), up_f (by decide)]; exact hRsI_9
  have hk43_3 : v43 178 3 = (v9 178 3) := (hfr43.2 3 (by decide)).trans ((up_k (by decide)).trans ((up_k (by decide)).trans ((up_k (by decide)).trans ((up_k (by decide)).trans ((up_k (by decide)).trans ((up_k (by decide)).trans (rfl)))))))
  have hk43_5 : v43 178 5 = (v9 178 5) := (hfr43.2 5 (by decide)).trans ((up_k (by decide)).trans ((up_k (by decide)).trans ((up_k (by decide)).trans ((up_k (by decide)).trans ((up_k (by decide)).trans ((up_k (by decide)).trans (rfl)))))))
  have hk43_25 : v43 178 25 = (v9 178 25) := (hfr43.2 25 (by decide)).trans ((up_k (by decide)).trans ((up_k (by decide)).trans ((up_k (by decide)).trans ((up_k (by decide)).trans ((up_k (by decide)).trans ((up_k (by decide)).trans (rfl)))))))
  have hk43_51 : v43 178 51 = 0 := (hfr43.2 51 (by decide)).trans ((up_k (by decide)).trans ((up_k (by decide)).trans ((up_k (by decide)).trans ((up_k (by decide)).trans (up_s _ _ _ _)))))
  have hk43_52 : v43 178 52 = 0 := (hfr43.2 52 (by decide)).trans ((up_k (by decide)).trans ((up_k (by decide)).trans ((up_k (by decide)).trans (up_s _ _ _ _))))
  have hk43_53 : v43 178 53 = 0 := (hfr43.2 53 (by decide)).trans ((up_k (by decide)).trans ((up_k (by decide)).trans (up_s _ _ _ _)))
  have hk43_55 : v43 178 55 = 0 := (hfr43.2 55 (by decide)).trans (up_s _ _ _ _)
  have hk43_2 : v43 178 2 = (v9 178 2) := (hfr43.2 2 (by decide)).trans ((up_k (by decide)).trans ((up_k (by decide)).trans ((up_k (by decide)).trans ((up_k (by decide)).trans ((up_k (by decide)).trans ((up_k (by decide)).trans (rfl)))))))
  have hk43_54 : v43 178 54 = 1 := (hfr43.2 54 (by decide)).trans ((up_k (by decide)).trans (up_s _ _ _ _))
  have hk43_15 : v43 178 15 = 0 := (hfr43.2 15 (by decide)).trans ((up_k (by decide)).trans ((up_k (by decide)).trans ((up_k (by decide)).trans ((up_k (by decide)).trans ((up_k (by decide)).trans (up_s _ _ _ _))))))
  show wp g X F_m_sentence 0 0 46 [(2, 178), (3, 0), (3, 0)] [] v43 ρ Z
  have hT43 : TkM (cb (v 178 2) (v 179)) (v 178 2) 200 v43 0 := by
    have z := tkM_of (F := (cb (v 178 2) (v 179))) (n := (v 178 2)) (m := 200) (v := (up (up (up (up (up (up v9 178 15 0) 178 51 0) 178 52 0) 178 53 0) 178 54 1) 178 55 0)) (v' := v43) (by (repeat (first | rw [up_k (by decide)] | rw [up_s] | rw [up_r (by decide)])); omega) (by (repeat (first | rw [up_k (by decide)] | rw [up_s] | rw [up_r (by decide)])); omega) ⟨by (repeat rw [up_f (by decide)]); rw [hfr9.1 179 (by decide) (by decide), up_f (by decide)]; exact hcbs, by first | ((repeat (first | rw [up_k (by decide)] | rw [up_s] | rw [up_r (by decide)])); done) | ((repeat (first | rw [up_k (by decide)] | rw [up_s] | rw [up_r (by decide)])); omega)⟩ (hfr43.1 179 (by decide) (by decide)) (by (repeat (first | rw [up_k (by decide)] | rw [up_s] | rw [up_r (by decide)])); omega) (by (repeat (first | rw [up_k (by decide)] | rw [up_s] | rw [up_r (by decide)])); omega) (hfr43.2 3 (by decide)) (hfr43.2 5 (by decide)) (hfr43.2 15 (by decide)) hq43.2.1 hq43.2.2.1 hq43.2.2.2.1 hq43.2.2.2.2.1 hq43.2.2.2.2.2
    rw [show (up (up (up (up (up (up v9 178 15 0) 178 51 0) 178 52 0) 178 53 0) 178 54 1) 178 55 0) 178 4 = 0 from by (repeat (first | rw [up_k (by decide)] | rw [up_s] | rw [up_r (by decide)])); omega] at z
    exact z
  replace hq43 := hq43.1
  refine r_iconst (pc := 46) hX 26 rfl ?_
  refine r_istore_n (ls' := [(2, 178), (0, 1), (3, 0)]) (pc := 47) hX 27 rfl (by decide) rfl ?_
  have L48 : ∀ (n48 : Nat) (ok : Int) (v48 : Mv) , (Fr [180, 182, 205] [0, 2, 3, 4, 5, 11, 12, 13, 14, 15, 16, 17, 51, 52, 53, 54, 55] v v48) → (RsI (v48 184)) → (0 ≤ v48 178 4 ∧ v48 178 4 ≤ v48 178 3 ∧ v48 178 3 ≤ 940 ∧ 0 ≤ v48 178 11 ∧ v48 178 11 ≤ 4 ∧ inR (v48 178 5) ∧ inR (v48 178 14)) → (SnI (v48 182) (v48 205) (v48 178 51) (v48 178 53) (v48 178 52) (v48 178 55)) → (v48 180 = v 180) → (v48 178 2 = 0) → (0 ≤ ok ∧ ok ≤ 1) → (SqI (cb (v 178 2) (v 179)) (v 178 2) 200 (fun x => fnd N x 0 (v 180 0).toNat 0) v48 ok) → (2 * (940 - v48 178 4) + ok + min (min 1 (v48 178 11)) (4 - v48 178 11)).toNat < n48 → wp g X F_m_sentence 0 0 48 [(2, 178), (0, ok), (3, 0)] [] v48 ρ Z := by
    intro n48
    induction n48 with
    | zero => intro ok v48 hfr48 hRsI_48 il isn e180 e2 iok iq hme48; exact absurd hme48 (Nat.not_lt_zero _)
    | succ n48 ih48 =>
      intro ok v48 hfr48 hRsI_48 il isn e180 e2 iok iq hme48
      have in_ := isn.nums
      have eu48 : v48 187 = v 187 := hfr48.1 187 (by decide) (by decide)
      have e25 : v48 178 25 = v 178 25 := hfr48.2 25 (by decide)
      have e183 : v48 183 = v 183 := hfr48.1 183 (by decide) (by decide)
      have e184 : v48 184 = v 184 := hfr48.1 184 (by decide) (by decide)
      refine r_iload_n (pc := 48) hX 28 rfl rfl ?_
      first | refine r_if_eq (pc := 49) hX 29 (tgt := 132) rfl (by decide) (⟨by omega, by omega⟩) (fun h49 => ?_) (fun h49 => ?_) | refine r_if_eq_any (pc := 49) hX 29 (tgt := 132) rfl (by decide) ?_ ?_
      · have hdn := iq.done (by omega)
        refine t_getR (pc := 132) hX 71 rfl rfl rfl fl_X12_33 rfl hG.1 (a_s hG).1 ?_
        refine r_bipush (pc := 136) hX 73 rfl (by decide) ?_
        refine t_getI (y := (v48 178 51)) (pc := 138) hX 74 rfl rfl rfl fl_X12_490 rfl hG.1 (rfl) ?_
        refine e_iast (pc := 142) hX 76 rfl (a_s hG).2.1 (a_s hG).2.2 (by decide) (by omega) (by omega) ?_
        refine r_iconst (pc := 143) hX 77 rfl ?_
        refine r_istore_n (ls' := [(2, 178), (0, ok), (0, 0)]) (pc := 144) hX 78 rfl (by decide) rfl ?_
        have L145 : ∀ (n145 : Nat) (i : Int) (v145 : Mv) , (Fr [180, 182, 205] [0, 2, 3, 4, 5, 11, 12, 13, 14, 15, 16, 17, 51, 52, 53, 54, 55] v v145) → (RsI (v145 184)) → (0 ≤ i ∧ i ≤ 3 * v145 178 51) → (SnI (v145 182) (v145 205) (v145 178 51) (v145 178 53) (v145 178 52) (v145 178 55)) → (0 ≤ v145 178 11 ∧ v145 178 11 ≤ 4 ∧ inR (v145 178 14) ∧ v145 178 2 = 0) → (∀ k, k < 57 → v145 180 k = v 180 k) → (v145 180 57 = v145 178 51) → (∀ k, 0 ≤ k → k < i → v145 180 (58 + k) = v145 182 k) → (v145 178 52 = v48 178 52) → (v145 178 15 = 0) → (3 * v145 178 51 - i).toNat < n145 → wp g X F_m_sentence 0 0 145 [(2, 178), (0, ok), (0, i)] [] v145 ρ Z := by
          intro n145
          induction n145 with
          | zero => intro i v145 hfr145 hRsI_145 ii isn jl ia ib ic i52 i15 hme145; exact absurd hme145 (Nat.not_lt_zero _)
          | succ n145 ih145 =>
            intro i v145 hfr145 hRsI_145 ii isn jl ia ib ic i52 i15 hme145
            have in145 := isn.nums
            refine r_iload_n (pc := 145) hX 79 rfl rfl ?_
            refine r_iconst (pc := 146) hX 80 rfl ?_
            refine t_getI (y := (v145 178 51)) (pc := 147) hX 81 rfl rfl rfl fl_X12_490 rfl hG.1 (rfl) ?_
            refine r_imul (pc := 151) hX 83 rfl ?_
            first | refine r_icmp_ge (pc := 152) hX 84 (tgt := 176) rfl (by decide) (⟨by omega, by omega⟩) (⟨by omega, by omega⟩) (fun h152 => ?_) (fun h152 => ?_) | refine r_icmp_ge_any (pc := 152) hX 84 (tgt := 176) rfl (by decide) ?_ ?_
            · refine t_getI (y := (v145 178 52)) (pc := 176) hX 97 rfl rfl rfl fl_X12_506 rfl hG.1 (rfl) ?_
              exact r_iret (pc := 180) hX 99 hQ rfl rfl (Nat.le_refl 0) (Nat.le_refl 0) ⟨rfl, rfl, hfr145, (v145 178 52), rfl, (hS.said ia (isn.cinv ib (fun k a b => ic k a (by omega)))), (by rw [hfr145.1 187 (by decide) (by decide), hfr145.2 25 (by decide)]; exact hU.cg57 hS ia), (by omega), (fun k hk => ia k (by omega)), (by rw [sAns_0 hdn.1]; exact i52), (by rw [hdn.1]; show v145 178 15 = 0; (repeat (first | rw [up_k (by decide)] | rw [up_s] | rw [up_r (by decide)])); exact i15)⟩
            · refine t_getR (pc := 155) hX 85 rfl rfl rfl fl_X12_33 rfl hG.1 (a_s hG).1 ?_
              refine r_bipush (pc := 159) hX 87 rfl (by decide) ?_
              refine r_iload_n (pc := 161) hX 88 rfl rfl ?_
              refine r_iadd (pc := 162) hX 89 rfl ?_
              refine t_getR (pc := 163) hX 90 rfl rfl rfl fl_X12_40 rfl hG.1 (a_read hG).1 ?_
              refine r_iload_n (pc := 167) hX 92 rfl rfl ?_
              refine e_iald (y := (v145 182 i)) (pc := 168) hX 93 rfl (a_read hG).2.1 (a_read hG).2.2 (by omega) (by omega) (rfl) ?_
              refine e_iast (pc := 169) hX 94 rfl (a_s hG).2.1 (a_s hG).2.2 (by decide) (by omega) (by omega) ?_
              refine r_iinc (ls' := [(2, 178), (0, ok), (0, (i + 1))]) (pc := 170) hX 95 rfl rfl (by decide) rfl ?_
              refine r_goto (pc := 173) hX 96 (tgt := 145) rfl (by decide) ?_
              exact (ih145 (i + 1) (up v145 180 (58 + i) (v145 182 i)) ((hfr145).arr (r := 180) (by decide) (by decide)) (by rw [up_f (by decide)]; exact hRsI_145) (by (repeat (first | rw [up_k (by decide)] | rw [up_s] | rw [up_r (by decide)])); omega) (by rw [up_f (show (182 : Int) ≠ 180 by decide), up_f (show (205 : Int) ≠ 180 by decide), up_f (show (178 : Int) ≠ 180 by decide)]; exact isn) (by (repeat (first | rw [up_k (by decide)] | rw [up_s] | rw [up_r (by decide)])); omega) (fun k hk => by rw [up_k (by omega)]; exact ia k hk) (by rw [up_k (by omega), up_r (by decide)]; exact ib) (fun k a b => by
          rw [up_f (show (182 : Int) ≠ 180 by decide)]
          by_cases e : k = i
          · subst e; rw [up_s]
          · rw [up_k (by omega)]; exact ic k a (by omega)) (by (repeat (first | rw [up_k (by decide)] | rw [up_s] | rw [up_r (by decide)])); omega) (by (repeat (first | rw [up_k (by decide)] | rw [up_s] | rw [up_r (by decide)])); omega) (by (repeat (first | rw [up_k (by decide)] | rw [up_s] | rw [up_r (by decide)])); omega))
        exact (L145 _ 0 (up v48 180 57 (v48 178 51)) ((hfr48).arr (r := 180) (by decide) (by decide)) (by rw [up_f (by decide)]; exact hRsI_48) (by (repeat (first | rw [up_k (by decide)] | rw [up_s] | rw [up_r (by decide)])); omega) (by rw [up_f (show (182 : Int) ≠ 180 by decide), up_f (show (205 : Int) ≠ 180 by decide), up_f (show (178 : Int) ≠ 180 by decide)]; exact isn) (by (repeat (first | rw [up_k (by decide)] | rw [up_s] | rw [up_r (by decide)])); omega) (fun k hk => by rw [up_k (by omega), e180]) (by rw [up_s, up_r (by decide)]) (fun k a b => by omega) (by first | exact up_r (by decide) | ((repeat (first | rw [up_k (by decide)] | rw [up_s] | rw [up_r (by decide)])); omega)) (by (repeat (first | rw [up_k (by decide)] | rw [up_s] | rw [up_r (by decide)])); exact hdn.2) (Nat.lt_succ_self _))
      · obtain ⟨Sg, pg, hDg, hTg, heq⟩ := iq.run (by omega)
        have hTk := hTg.2.2.2.2.2.2.1
        refine t_getI (y := (v48 178 55)) (pc := 52) hX 30 rfl rfl rfl fl_X12_509 rfl hG.1 (rfl) ?_
        have L101 : (v48 178 55 = 0 ∨ v48 178 11 ≠ 0) → wp g X F_m_sentence 0 0 101 [(2, 178), (0, ok), (3, 0)] [] v48 ρ Z := by
          intro i101
          refine t_getI (y := (v48 178 55)) (pc := 101) hX 56 rfl rfl rfl fl_X12_509 rfl hG.1 (rfl) ?_
          first | refine r_if_eq (pc := 105) hX 58 (tgt := 118) rfl (by decide) (⟨by omega, by omega⟩) (fun h105 => ?_) (fun h105 => ?_) | refine r_if_eq_any (pc := 105) hX 58 (tgt := 118) rfl (by decide) ?_ ?_
          · have heq0 : sR (cb (v 178 2) (v 179)) (v 178 2) 200 (fun x => fnd N x 0 (v 180 0).toNat 0) false [] 0 0 = sR (cb (v 178 2) (v 179)) (v 178 2) 200 (fun x => fnd N x 0 (v 180 0).toNat 0) false Sg (v48 178 52) pg := by rw [heq, decide_eq_false (show ¬ v48 178 55 = 1 by omega)]
            refine r_aload_n (pc := 118) hX 63 rfl rfl ?_
            refine r_callV (as := []) (st := []) (K := 12) (pc := 119) hX 64 rfl mo_m_operand ml_X12_520 im_m_operand se_m_operand (c_operandS g v48 ρ Z hG  (by (repeat (first | rw [up_k (by decide)] | rw [up_s] | rw [up_r (by decide)])); omega) (hTg) (by rw [e180]; exact hS) (by have z := isn; rw [show v48 178 55 = 0 by omega] at z; exact z) (by omega) (hDg) (by rw [e184]; exact hrs) (by rw [e180, e183]; exact hNm)) rfl rfl rfl hG.1 (by rw [hRm]; exact ⟨by decide, by decide⟩) (by rw [hRm]; exact ⟨by decide, by decide⟩) (Nat.le_of_ble_eq_true rfl) (fun o119 v119 ρ119 Z119 hq119 _ => ?_)
            obtain ⟨rfl, rfl, hfr119, r119, rfl, hq119⟩ := hq119
            have hRsI_119 : RsI (v119 184) := by rw [hfr119.1 184 (by decide) (by decide)]; exact hRsI_48
            have hk119_3 : v119 178 3 = (v48 178 3) := (hfr119.2 3 (by decide)).trans (rfl)
            have hk119_5 : v119 178 5 = (v48 178 5) := (hfr119.2 5 (by decide)).trans (rfl)
            have hk119_25 : v119 178 25 = (v48 178 25) := (hfr119.2 25 (by decide)).trans (rfl)
            have hk119_2 : v119 178 2 = (v48 178 2) := (hfr119.2 2 (by decide)).trans (rfl)
            show wp g X F_m_sentence 0 0 122 [(2, 178), (0, ok), (3, 0)] [(0, r119)] v119 ρ Z
            have hs119 := hq119.2.2
            rw [e180] at hs119
            replace hq119 := And.intro hq119.1 hq119.2.1
            have hB119 : r119 ≠ 0 → SnI (v119 182) (v119 205) (v119 178 51) (v119 178 53) (v119 178 52) (v119 178 55) := fun b => by
              rcases hq119.2 with c | ⟨-, c, -⟩
              · exact absurd c b
              · exact c
            have hG119 : r119 = 0 ∨ r119 = 1 ∧ (v48 178 11 = 1 ∨ v48 178 11 = 3) ∧ (v48 178 4 < v119 178 4 ∨ v119 178 11 = 0 ∨ v119 178 11 = 4) := by
              rcases hq119.2 with c | ⟨a, -, d, c⟩
              · exact Or.inl c
              · exact Or.inr ⟨a, d, c⟩
            replace hq119 := hq119.1
            first | refine r_if_ne (pc := 122) hX 65 (tgt := 48) rfl (by decide) (⟨by omega, by omega⟩) (fun h122 => ?_) (fun h122 => ?_) | refine r_if_ne_any (pc := 122) hX 65 (tgt := 48) rfl (by decide) ?_ ?_
            · exact (ih48 ok v119 ((hfr48).tr hfr119 (by decide) (by decide)) (hRsI_119) (by omega) (by first | exact hA73 | exact hB109 (by omega) | exact hB119 (by omega)) (by first | (rw [hfr73.1 180 (by decide) (by decide), hfr67.1 180 (by decide) (by decide)]; exact e180) | (rw [hfr109.1 180 (by decide) (by decide)]; exact e180) | (rw [hfr119.1 180 (by decide) (by decide)]; exact e180)) (by omega) (by omega) (by first | exact Or.inr ⟨rfl, heq1.trans ((sR_end hl.2 hTg.1 hTg.2.1 (by omega) hnil).trans (by rw [hk73_52, hk67_52])), by rw [hk73_15, hk67_15]; exact hTg.2.2.2.2.1.2⟩ | exact SqI.next heq1 hs109 (by omega) (by omega) | exact SqI.next heq0 hs119 (by omega) (by omega)) (by omega))
            · refine r_iconst (pc := 125) hX 66 rfl ?_
              refine t_getI (y := (v119 178 16)) (pc := 126) hX 67 rfl rfl rfl fl_X12_210 rfl hG.1 (rfl) ?_
              refine r_isub (pc := 130) hX 69 rfl ?_
              exact r_iret (pc := 131) hX 70 hQ rfl rfl (Nat.le_refl 0) (Nat.le_refl 0) ⟨rfl, rfl, (hfr48).tr hfr119 (by decide) (by decide), ((-1) - (v119 178 16)), rfl, (by first | (rw [hfr109.1 180 (by decide) (by decide), e180]; exact hS) | (rw [hfr119.1 180 (by decide) (by decide), e180]; exact hS)), (by first | (rw [hfr109.1 180 (by decide) (by decide), e180, hfr109.1 187 (by decide) (by decide), eu48, hk109_25, e25]; exact hU) | (rw [hfr119.1 180 (by decide) (by decide), e180, hfr119.1 187 (by decide) (by decide), eu48, hk119_25, e25]; exact hU)), (by omega), (fun k _ => by first | rw [hfr109.1 180 (by decide) (by decide), e180] | rw [hfr119.1 180 (by decide) (by decide), e180]), (by first | exact SmP.ans heq1 hs109 (by omega) | exact SmP.ans heq0 hs119 (by omega)), (by first | exact SmP.fa heq1 hs109 (by omega) | exact SmP.fa heq0 hs119 (by omega))⟩
          · have heq1 : sR (cb (v 178 2) (v 179)) (v 178 2) 200 (fun x => fnd N x 0 (v 180 0).toNat 0) false [] 0 0 = sR (cb (v 178 2) (v 179)) (v 178 2) 200 (fun x => fnd N x 0 (v 180 0).toNat 0) true Sg (v48 178 52) pg := by rw [heq, decide_eq_true (show v48 178 55 = 1 by omega)]
            refine r_aload_n (pc := 108) hX 59 rfl rfl ?_
            refine r_callV (as := []) (st := []) (K := 12) (pc := 109) hX 60 rfl mo_m_behind ml_X12_518 im_m_behind se_m_behind (c_behindS (C := (fun x => fnd N x 0 (v 180 0).toNat 0)) g v48 ρ Z hG  (by (repeat (first | rw [up_k (by decide)] | rw [up_s] | rw [up_r (by decide)])); omega) (hTg) (by have z := isn; rw [show v48 178 55 = 1 by omega] at z; exact z) (by omega) (hDg) (by omega)) rfl rfl rfl hG.1 (by rw [hRm]; exact ⟨by decide, by decide⟩) (by rw [hRm]; exact ⟨by decide, by decide⟩) (Nat.le_of_ble_eq_true rfl) (fun o109 v109 ρ109 Z109 hq109 _ => ?_)
            obtain ⟨rfl, rfl, hfr109, r109, rfl, hq109⟩ := hq109
            have hRsI_109 : RsI (v109 184) := by rw [hfr109.1 184 (by decide) (by decide)]; exact hRsI_48
            have hk109_3 : v109 178 3 = (v48 178 3) := (hfr109.2 3 (by decide)).trans (rfl)
            have hk109_5 : v109 178 5 = (v48 178 5) := (hfr109.2 5 (by decide)).trans (rfl)
            have hk109_25 : v109 178 25 = (v48 178 25) := (hfr109.2 25 (by decide)).trans (rfl)
            have hk109_52 : v109 178 52 = (v48 178 52) := (hfr109.2 52 (by decide)).trans (rfl)
            have hk109_2 : v109 178 2 = (v48 178 2) := (hfr109.2 2 (by decide)).trans (rfl)
            show wp g X F_m_sentence 0 0 112 [(2, 178), (0, ok), (3, 0)] [(0, r109)] v109 ρ Z
            have hs109 := hq109.2.2
            replace hq109 := And.intro hq109.1 hq109.2.1
            have hB109 : r109 ≠ 0 → SnI (v109 182) (v109 205) (v109 178 51) (v109 178 53) (v109 178 52) (v109 178 55) := fun b => by
              rcases hq109.2 with c | ⟨-, c, -⟩
              · exact absurd c b
              · exact c
            have hG109 : r109 = 0 ∨ r109 = 1 ∧ (v48 178 11 = 1 ∨ v48 178 11 = 3) ∧ (v48 178 4 < v109 178 4 ∨ v109 178 11 = 0 ∨ v109 178 11 = 4) := by
              rcases hq109.2 with c | ⟨a, -, d, c⟩
              · exact Or.inl c
              · exact Or.inr ⟨a, d, c⟩
            replace hq109 := hq109.1
            first | refine r_if_ne (pc := 112) hX 61 (tgt := 48) rfl (by decide) (⟨by omega, by omega⟩) (fun h112 => ?_) (fun h112 => ?_) | refine r_if_ne_any (pc := 112) hX 61 (tgt := 48) rfl (by decide) ?_ ?_
            · exact (ih48 ok v109 ((hfr48).tr hfr109 (by decide) (by decide)) (hRsI_109) (by omega) (by first | exact hA73 | exact hB109 (by omega) | exact hB119 (by omega)) (by first | (rw [hfr73.1 180 (by decide) (by decide), hfr67.1 180 (by decide) (by decide)]; exact e180) | (rw [hfr109.1 180 (by decide) (by decide)]; exact e180) | (rw [hfr119.1 180 (by decide) (by decide)]; exact e180)) (by omega) (by omega) (by first | exact Or.inr ⟨rfl, heq1.trans ((sR_end hl.2 hTg.1 hTg.2.1 (by omega) hnil).trans (by rw [hk73_52, hk67_52])), by rw [hk73_15, hk67_15]; exact hTg.2.2.2.2.1.2⟩ | exact SqI.next heq1 hs109 (by omega) (by omega) | exact SqI.next heq0 hs119 (by omega) (by omega)) (by omega))
            · refine r_goto (pc := 115) hX 62 (tgt := 125) rfl (by decide) ?_
              refine r_iconst (pc := 125) hX 66 rfl ?_
              refine t_getI (y := (v109 178 16)) (pc := 126) hX 67 rfl rfl rfl fl_X12_210 rfl hG.1 (rfl) ?_
              refine r_isub (pc := 130) hX 69 rfl ?_
              exact r_iret (pc := 131) hX 70 hQ rfl rfl (Nat.le_refl 0) (Nat.le_refl 0) ⟨rfl, rfl, (hfr48).tr hfr109 (by decide) (by decide), ((-1) - (v109 178 16)), rfl, (by first | (rw [hfr109.1 180 (by decide) (by decide), e180]; exact hS) | (rw [hfr119.1 180 (by decide) (by decide), e180]; exact hS)), (by first | (rw [hfr109.1 180 (by decide) (by decide), e180, hfr109.1 187 (by decide) (by decide), eu48, hk109_25, e25]; exact hU) | (rw [hfr119.1 180 (by decide) (by decide), e180, hfr119.1 187 (by decide) (by decide), eu48, hk119_25, e25]; exact hU)), (by omega), (fun k _ => by first | rw [hfr109.1 180 (by decide) (by decide), e180] | rw [hfr119.1 180 (by decide) (by decide), e180]), (by first | exact SmP.ans heq1 hs109 (by omega) | exact SmP.ans heq0 hs119 (by omega)), (by first | exact SmP.fa heq1 hs109 (by omega) | exact SmP.fa heq0 hs119 (by omega))⟩
        first | refine r_if_eq (pc := 56) hX 32 (tgt := 101) rfl (by decide) (⟨by omega, by omega⟩) (fun h56 => ?_) (fun h56 => ?_) | refine r_if_eq_any (pc := 56) hX 32 (tgt := 101) rfl (by decide) ?_ ?_
        · exact (L101  (by omega) )
        · refine t_getI (y := (v48 178 11)) (pc := 59) hX 33 rfl rfl rfl fl_X12_190 rfl hG.1 (rfl) ?_
          first | refine r_if_ne (pc := 63) hX 35 (tgt := 101) rfl (by decide) (⟨by omega, by omega⟩) (fun h63 => ?_) (fun h63 => ?_) | refine r_if_ne_any (pc := 63) hX 35 (tgt := 101) rfl (by decide) ?_ ?_
          · exact (L101  (by omega) )
          · have heq1 : sR (cb (v 178 2) (v 179)) (v 178 2) 200 (fun x => fnd N x 0 (v 180 0).toNat 0) false [] 0 0 = sR (cb (v 178 2) (v 179)) (v 178 2) 200 (fun x => fnd N x 0 (v 180 0).toNat 0) true Sg (v48 178 52) pg := by rw [heq, decide_eq_true (show v48 178 55 = 1 by omega)]
            refine r_aload_n (pc := 66) hX 36 rfl rfl ?_
            refine r_callV (as := []) (st := []) (K := 12) (pc := 67) hX 37 rfl mo_m_nots ml_X12_512 im_m_nots se_m_nots (c_notsS g v48 ρ Z hG  (by have z := isn; rw [show v48 178 55 = 1 by omega] at z; exact z) (hDg)) rfl rfl rfl hG.1 (by rw [hRm]; exact ⟨by decide, by decide⟩) (by rw [hRm]; exact ⟨by decide, by decide⟩) (Nat.le_of_ble_eq_true rfl) (fun o67 v67 ρ67 Z67 hq67 _ => ?_)
            obtain ⟨rfl, rfl, hfr67, rfl, hq67⟩ := hq67
            have hRsI_67 : RsI (v67 184) := by rw [hfr67.1 184 (by decide) (by decide)]; exact hRsI_48
            have hk67_3 : v67 178 3 = (v48 178 3) := (hfr67.2 3 (by decide)).trans (rfl)
            have hk67_4 : v67 178 4 = (v48 178 4) := (hfr67.2 4 (by decide)).trans (rfl)
            have hk67_5 : v67 178 5 = (v48 178 5) := (hfr67.2 5 (by decide)).trans (rfl)
            have hk67_11 : v67 178 11 = (v48 178 11) := (hfr67.2 11 (by decide)).trans (rfl)
            have hk67_14 : v67 178 14 = (v48 178 14) := (hfr67.2 14 (by decide)).trans (rfl)
            have hk67_25 : v67 178 25 = (v48 178 25) := (hfr67.2 25 (by decide)).trans (rfl)
            have hk67_52 : v67 178 52 = (v48 178 52) := (hfr67.2 52 (by decide)).trans (rfl)
            have hk67_55 : v67 178 55 = (v48 178 55) := (hfr67.2 55 (by decide)).trans (rfl)
            have hk67_2 : v67 178 2 = (v48 178 2) := (hfr67.2 2 (by decide)).trans (rfl)
            have hk67_15 : v67 178 15 = (v48 178 15) := (hfr67.2 15 (by decide)).trans (rfl)
            show wp g X F_m_sentence 0 0 70 [(2, 178), (0, ok), (3, 0)] [] v67 ρ Z
            have et67 : v67 205 = v48 205 := hfr67.1 205 (by decide) (by decide)
            have hd67 := hq67.2
            replace hq67 := hq67.1
            rw [← et67, ← hk67_52] at hq67
            rw [← et67] at hd67
            refine r_aload_n (pc := 70) hX 38 rfl rfl ?_
            refine r_bipush (pc := 71) hX 39 rfl (by decide) ?_
            refine r_callV (as := [(0, 22)]) (st := []) (K := 12) (pc := 73) hX 40 rfl mo_m_joins ml_X12_515 im_m_joins se_m_joins (c_joinsS g v67 ρ Z hG (22) (by omega) (hq67) (hd67.1) (hd67.2)) rfl rfl rfl hG.1 (by rw [hRm]; exact ⟨by decide, by decide⟩) (by rw [hRm]; exact ⟨by decide, by decide⟩) (Nat.le_of_ble_eq_true rfl) (fun o73 v73 ρ73 Z73 hq73 _ => ?_)
            obtain ⟨rfl, rfl, hfr73, rfl, hq73⟩ := hq73
            have hRsI_73 : RsI (v73 184) := by rw [hfr73.1 184 (by decide) (by decide)]; exact hRsI_67
            have hk73_3 : v73 178 3 = (v67 178 3) := (hfr73.2 3 (by decide)).trans (rfl)
            have hk73_4 : v73 178 4 = (v67 178 4) := (hfr73.2 4 (by decide)).trans (rfl)
            have hk73_5 : v73 178 5 = (v67 178 5) := (hfr73.2 5 (by decide)).trans (rfl)
            have hk73_11 : v73 178 11 = (v67 178 11) := (hfr73.2 11 (by decide)).trans (rfl)
            have hk73_14 : v73 178 14 = (v67 178 14) := (hfr73.2 14 (by decide)).trans (rfl)
            have hk73_25 : v73 178 25 = (v67 178 25) := (hfr73.2 25 (by decide)).trans (rfl)
            have hk73_52 : v73 178 52 = (v67 178 52) := (hfr73.2 52 (by decide)).trans (rfl)
            have hk73_55 : v73 178 55 = (v67 178 55) := (hfr73.2 55 (by decide)).trans (rfl)
            have hk73_2 : v73 178 2 = (v67 178 2) := (hfr73.2 2 (by decide)).trans (rfl)
            have hk73_54 : v73 178 54 = (v67 178 54) := (hfr73.2 54 (by decide)).trans (rfl)
            have hk73_15 : v73 178 15 = (v67 178 15) := (hfr73.2 15 (by decide)).trans (rfl)
            show wp g X F_m_sentence 0 0 76 [(2, 178), (0, ok), (3, 0)] [] v73 ρ Z
            have et73 : v73 205 = v67 205 := hfr73.1 205 (by decide) (by decide)
            have hA73 := hq73.1
            have ht73 := hq73.2.1 rfl
            have hd73 := hq73.2.2
            clear hq73
            rw [← et73] at hA73 ht73 hd73
            rw [← hk73_52, ← show v73 178 55 = 1 by omega] at hA73
            have in73 := hA73.nums
            have hx73 := hd73.1.1.top hd73.2 ht73
            have hTA := (hTg.fr hfr67 (by decide) (by decide)).fr hfr73 (by decide) (by decide)
            refine t_getI (y := (v73 178 53)) (pc := 76) hX 41 rfl rfl rfl fl_X12_493 rfl hG.1 (rfl) ?_
            first | refine r_if_le (pc := 80) hX 43 (tgt := 96) rfl (by decide) (⟨by omega, by omega⟩) (fun h80 => ?_) (fun h80 => ?_) | refine r_if_le_any (pc := 80) hX 43 (tgt := 96) rfl (by decide) ?_ ?_
            · have hnil : nts Sg = [] := by
                rcases hx73 with ⟨_, y⟩ | ⟨y, _⟩
                · exact y
                · exact absurd y (by omega)
              refine r_iconst (pc := 96) hX 53 rfl ?_
              refine r_istore_n (ls' := [(2, 178), (0, 0), (3, 0)]) (pc := 97) hX 54 rfl (by decide) rfl ?_
              refine r_goto (pc := 98) hX 55 (tgt := 48) rfl (by decide) ?_
              exact (ih48 0 v73 (((hfr48).tr hfr67 (by decide) (by decide)).tr hfr73 (by decide) (by decide)) (hRsI_73) (by omega) (by first | exact hA73 | exact hB109 (by omega) | exact hB119 (by omega)) (by first | (rw [hfr73.1 180 (by decide) (by decide), hfr67.1 180 (by decide) (by decide)]; exact e180) | (rw [hfr109.1 180 (by decide) (by decide)]; exact e180) | (rw [hfr119.1 180 (by decide) (by decide)]; exact e180)) (by omega) (by omega) (by first | exact Or.inr ⟨rfl, heq1.trans ((sR_end hl.2 hTg.1 hTg.2.1 (by omega) hnil).trans (by rw [hk73_52, hk67_52])), by rw [hk73_15, hk67_15]; exact hTg.2.2.2.2.1.2⟩ | exact SqI.next heq1 hs109 (by omega) (by omega) | exact SqI.next heq0 hs119 (by omega) (by omega)) (by omega))
            · refine r_aload_n (pc := 83) hX 44 rfl rfl ?_
              refine r_iconst (pc := 84) hX 45 rfl ?_
              refine r_callV (as := [(0, 1)]) (st := []) (K := 12) (pc := 85) hX 46 rfl mo_m_bad ml_X12_216 im_m_bad se_m_bad (c_badF g v73 ρ Z hG (1) (by omega)) rfl rfl rfl hG.1 (by rw [hRm]; exact ⟨by decide, by decide⟩) (by rw [hRm]; exact ⟨by decide, by decide⟩) (Nat.le_of_ble_eq_true rfl) (fun o85 v85 ρ85 Z85 hq85 _ => ?_)
              obtain ⟨rfl, rfl, hfr85, r85, rfl, hq85⟩ := hq85
              have hRsI_85 : RsI (v85 184) := by rw [hfr85.1 184 (by decide) (by decide)]; exact hRsI_73
              have hk85_3 : v85 178 3 = (v73 178 3) := (hfr85.2 3 (by decide)).trans (rfl)
              have hk85_4 : v85 178 4 = (v73 178 4) := (hfr85.2 4 (by decide)).trans (rfl)
              have hk85_5 : v85 178 5 = (v73 178 5) := (hfr85.2 5 (by decide)).trans (rfl)
              have hk85_11 : v85 178 11 = (v73 178 11) := (hfr85.2 11 (by decide)).trans (rfl)
              have hk85_14 : v85 178 14 = (v73 178 14) := (hfr85.2 14 (by decide)).trans (rfl)
              have hk85_25 : v85 178 25 = (v73 178 25) := (hfr85.2 25 (by decide)).trans (rfl)
              have hk85_51 : v85 178 51 = (v73 178 51) := (hfr85.2 51 (by decide)).trans (rfl)
              have hk85_52 : v85 178 52 = (v73 178 52) := (hfr85.2 52 (by decide)).trans (rfl)
              have hk85_53 : v85 178 53 = (v73 178 53) := (hfr85.2 53 (by decide)).trans (rfl)
              have hk85_55 : v85 178 55 = (v73 178 55) := (hfr85.2 55 (by decide)).trans (rfl)
              have hk85_2 : v85 178 2 = (v73 178 2) := (hfr85.2 2 (by decide)).trans (rfl)
              have hk85_54 : v85 178 54 = (v73 178 54) := (hfr85.2 54 (by decide)).trans (rfl)
              show wp g X F_m_sentence 0 0 88 [(2, 178), (0, ok), (3, 0)] [(0, r85)] v85 ρ Z
              refine r_pop (pc := 88) hX 47 rfl (show (0 : Nat) ≠ 1 by decide) ?_
              refine r_iconst (pc := 89) hX 48 rfl ?_
              refine t_getI (y := (v85 178 16)) (pc := 90) hX 49 rfl rfl rfl fl_X12_210 rfl hG.1 (rfl) ?_
              refine r_isub (pc := 94) hX 51 rfl ?_
              exact r_iret (pc := 95) hX 52 hQ rfl rfl (Nat.le_refl 0) (Nat.le_refl 0) ⟨rfl, rfl, (((hfr48).tr hfr67 (by decide) (by decide)).tr hfr73 (by decide) (by decide)).tr hfr85 (by decide) (by decide), ((-1) - (v85 178 16)), rfl, (by rw [hfr85.1 180 (by decide) (by decide), hfr73.1 180 (by decide) (by decide), hfr67.1 180 (by decide) (by decide), e180]; exact hS), (by rw [hfr85.1 180 (by decide) (by decide), hfr73.1 180 (by decide) (by decide), hfr67.1 180 (by decide) (by decide), e180, hfr85.1 187 (by decide) (by decide), hfr73.1 187 (by decide) (by decide), hfr67.1 187 (by decide) (by decide), eu48, hk85_25, hk73_25, hk67_25, e25]; exact hU), (by omega), (fun k _ => by rw [hfr85.1 180 (by decide) (by decide), hfr73.1 180 (by decide) (by decide), hfr67.1 180 (by decide) (by decide), e180]), (by
        rw [sAns_1 (heq1.trans (sR_endb hl.2 hTg.1 hTg.2.1 (by omega) (by rcases hx73 with ⟨y, _⟩ | ⟨_, S2, y, _⟩; exact absurd y (by omega); rw [y]; exact List.cons_ne_nil _ _))) (by decide), hq85.2.2]
        rw [hTA.2.2.2.2.2.2.2.1]), (by
        rw [heq1.trans (sR_endb hl.2 hTg.1 hTg.2.1 (by omega) (by rcases hx73 with ⟨y, _⟩ | ⟨_, S2, y, _⟩; exact absurd y (by omega); rw [y]; exact List.cons_ne_nil _ _))]
        exact hq85.2.1)⟩
  exact (L48 _ 1 v43 ((((((((((Fr.rf).fld (k := 0) (by decide)).tr hfr9 (by decide) (by decide)).fld (k := 15) (by decide)).fld (k := 51) (by decide)).fld (k := 52) (by decide)).fld (k := 53) (by decide)).fld (k := 54) (by decide)).fld (k := 55) (by decide)).tr hfr43 (by decide) (by decide)) (hRsI_43) (by omega) (by rw [hk43_51, hk43_53, hk43_52, hk43_55]; exact SnI.start) (by rw [hfr43.1 180 (by decide) (by decide)]; (repeat rw [up_f (by decide)]); rw [hfr9.1 180 (by decide) (by decide), up_f (by decide)]) (by omega) (by omega) (Or.inl ⟨rfl, [], 0, ⟨by rw [hk43_53]; exact StS.nil, by rw [hk43_54]; rfl⟩, hT43, by rw [hk43_55, hk43_52]; rfl⟩) (Nat.lt_succ_self _))
