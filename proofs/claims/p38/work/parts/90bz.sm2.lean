set_option maxHeartbeats 4000000 in
set_option maxRecDepth 100000 in
theorem c_behindS (g : Gp) (v ρ : Mv) (Z : Mz) (hG : GM ρ Z) {F C : Int → Int} {n m p : Int} {S : List Bool}  (hL : 0 ≤ v 178 4 ∧ v 178 4 ≤ v 178 3 ∧ v 178 3 ≤ 940 ∧ 0 ≤ v 178 11 ∧ v 178 11 ≤ 4 ∧ inR (v 178 5) ∧ inR (v 178 14)) (hT : TkM F n m v p) (hN : SnI (v 182) (v 205) (v 178 51) (v 178 53) (v 178 52) 1) (hw : v 178 55 = 1) (hD : StD (v 205) (v 178 53) (v 178 54) S) (h0 : v 178 11 ≠ 0) : Ok g 3 0 0 F_m_behind [(2, 178)] v ρ Z (fun o v' ρ' Z' => ρ = ρ' ∧ Z = Z' ∧ Fr [182, 205] [4, 11, 12, 13, 14, 15, 16, 17, 51, 53, 54, 55] v v' ∧ ∃ r : Int, o = some (0, r) ∧ (0 ≤ v' 178 4 ∧ v' 178 4 ≤ v' 178 3 ∧ v' 178 3 ≤ 940 ∧ 0 ≤ v' 178 11 ∧ v' 178 11 ≤ 4 ∧ inR (v' 178 5) ∧ inR (v' 178 14) ∧ v 178 4 ≤ v' 178 4 ∧ v' 178 3 = v 178 3) ∧ ((r = 0 ∨ r = 1 ∧ SnI (v' 182) (v' 205) (v' 178 51) (v' 178 53) (v' 178 52) (v' 178 55) ∧ (v 178 11 = 1 ∨ v 178 11 = 3) ∧ (v 178 4 < v' 178 4 ∨ v' 178 11 = 0 ∨ v' 178 11 = 4))) ∧ (SmP F n m C true S (v 178 52) p v' r)) := by
  refine Ok.of mo_m_behind (Nat.le_of_ble_eq_true rfl) ?_
  intro X hX hRm hxn hQ
  show wp g X F_m_behind 0 0 0 [(2, 178)] [] v ρ Z
  have in_ := hN.nums
  have hT0 := hT
  obtain ⟨hp0, hp1, hn3, hm5, hsm, h4p, h11, h12, h14, h17⟩ := hT0
  refine r_aload_n (pc := 0) hX 0 rfl rfl ?_
  refine r_callV (as := []) (st := []) (K := 12) (pc := 1) hX 1 rfl mo_m_nots ml_X12_512 im_m_nots se_m_nots (c_notsS g v ρ Z hG  (hN) (hD)) rfl rfl rfl hG.1 (by rw [hRm]; exact ⟨by decide, by decide⟩) (by rw [hRm]; exact ⟨by decide, by decide⟩) (Nat.le_of_ble_eq_true rfl) (fun o1 v1 ρ1 Z1 hq1 _ => ?_)
  obtain ⟨rfl, rfl, hfr1, rfl, hq1⟩ := hq1
  have hk1_3 : v1 178 3 = (v 178 3) := (hfr1.2 3 (by decide)).trans (rfl)
  have hk1_4 : v1 178 4 = (v 178 4) := (hfr1.2 4 (by decide)).trans (rfl)
  have hk1_5 : v1 178 5 = (v 178 5) := (hfr1.2 5 (by decide)).trans (rfl)
  have hk1_11 : v1 178 11 = (v 178 11) := (hfr1.2 11 (by decide)).trans (rfl)
  have hk1_14 : v1 178 14 = (v 178 14) := (hfr1.2 14 (by decide)).trans (rfl)
  have hk1_25 : v1 178 25 = (v 178 25) := (hfr1.2 25 (by decide)).trans (rfl)
  have hk1_52 : v1 178 52 = (v 178 52) := (hfr1.2 52 (by decide)).trans (rfl)
  have hk1_55 : v1 178 55 = (v 178 55) := (hfr1.2 55 (by decide)).trans (rfl)
  have hk1_2 : v1 178 2 = (v 178 2) := (hfr1.2 2 (by decide)).trans (rfl)
  show wp g X F_m_behind 0 0 4 [(2, 178)] [] v1 ρ Z
  have et1 : v1 205 = v 205 := hfr1.1 205 (by decide) (by decide)
  have hd1 := hq1.2
  replace hq1 := hq1.1
  rw [← et1, ← hk1_52] at hq1
  rw [← et1] at hd1
  have hT1 : TkM F n m v1 p := hT.fr hfr1 (by decide) (by decide)
  refine r_aload_n (pc := 4) hX 2 rfl rfl ?_
  refine r_ldc2 (y := 6385252) (pc := 5) hX 3 rfl kl_X12_154 (by decide) ?_
  refine r_callV (as := [(1, 6385252)]) (st := []) (K := 12) (pc := 8) hX 4 rfl mo_m_isWord ml_X12_247 im_m_isWord se_m_isWord (c_isWordT g v1 ρ Z hG (6385252) (hT1) (by (repeat (first | rw [up_k (by decide)] | rw [up_s] | rw [up_r (by decide)])); omega) (by decide)) rfl rfl rfl hG.1 (by rw [hRm]; exact ⟨by decide, by decide⟩) (by rw [hRm]; exact ⟨by decide, by decide⟩) (Nat.le_of_ble_eq_true rfl) (fun o8 v8 ρ8 Z8 hq8 _ => ?_)
  obtain ⟨rfl, rfl, rfl, r8, rfl, hq8⟩ := hq8
  show wp g X F_m_behind 0 0 11 [(2, 178)] [(0, r8)] v1 ρ Z
  have hk8 := ky_of hT1 12 (by decide) (by decide) hq8
  have hz8 : r8 = 0 ∨ r8 = 1 ∧ v1 178 11 = 1 := by omega
  replace hq8 := Hd.i hq8
  first | refine r_if_ne (pc := 11) hX 5 (tgt := 24) rfl (by decide) (⟨by omega, by omega⟩) (fun h11 => ?_) (fun h11 => ?_) | refine r_if_ne_any (pc := 11) hX 5 (tgt := 24) rfl (by decide) ?_ ?_
  · refine r_aload_n (pc := 24) hX 10 rfl rfl ?_
    refine r_aload_n (pc := 25) hX 11 rfl rfl ?_
    refine r_ldc2 (y := 6385252) (pc := 26) hX 12 rfl kl_X12_154 (by decide) ?_
    refine r_callV (as := [(1, 6385252)]) (st := [(2, 178)]) (K := 12) (pc := 29) hX 13 rfl mo_m_isWord ml_X12_247 im_m_isWord se_m_isWord (c_isWordT g v1 ρ Z hG (6385252) (hT1) (by (repeat (first | rw [up_k (by decide)] | rw [up_s] | rw [up_r (by decide)])); omega) (by decide)) rfl rfl rfl hG.1 (by rw [hRm]; exact ⟨by decide, by decide⟩) (by rw [hRm]; exact ⟨by decide, by decide⟩) (Nat.le_of_ble_eq_true rfl) (fun o29 v29 ρ29 Z29 hq29 _ => ?_)
    obtain ⟨rfl, rfl, rfl, r29, rfl, hq29⟩ := hq29
    show wp g X F_m_behind 0 0 32 [(2, 178)] [(0, r29), (2, 178)] v1 ρ Z
    have hk29 := ky_of hT1 12 (by decide) (by decide) hq29
    have hz29 : r29 = 0 ∨ r29 = 1 ∧ v1 178 11 = 1 := by omega
    replace hq29 := Hd.i hq29
    first | refine r_if_eq (pc := 32) hX 14 (tgt := 40) rfl (by decide) (⟨by omega, by omega⟩) (fun h32 => ?_) (fun h32 => ?_) | refine r_if_eq_any (pc := 32) hX 14 (tgt := 40) rfl (by decide) ?_ ?_
    · refine r_bipush (pc := 40) hX 17 rfl (by decide) ?_
      refine r_callV (as := [(0, 22)]) (st := []) (K := 12) (pc := 42) hX 18 rfl mo_m_joins ml_X12_515 im_m_joins se_m_joins (c_joinsS g v1 ρ Z hG (22) (by omega) (hq1) (hd1.1) (hd1.2)) rfl rfl rfl hG.1 (by rw [hRm]; exact ⟨by decide, by decide⟩) (by rw [hRm]; exact ⟨by decide, by decide⟩) (Nat.le_of_ble_eq_true rfl) (fun o42 v42 ρ42 Z42 hq42 _ => ?_)
      obtain ⟨rfl, rfl, hfr42, rfl, hq42⟩ := hq42
      have hk42_3 : v42 178 3 = (v1 178 3) := (hfr42.2 3 (by decide)).trans (rfl)
      have hk42_4 : v42 178 4 = (v1 178 4) := (hfr42.2 4 (by decide)).trans (rfl)
      have hk42_5 : v42 178 5 = (v1 178 5) := (hfr42.2 5 (by decide)).trans (rfl)
      have hk42_11 : v42 178 11 = (v1 178 11) := (hfr42.2 11 (by decide)).trans (rfl)
      have hk42_14 : v42 178 14 = (v1 178 14) := (hfr42.2 14 (by decide)).trans (rfl)
      have hk42_25 : v42 178 25 = (v1 178 25) := (hfr42.2 25 (by decide)).trans (rfl)
      have hk42_52 : v42 178 52 = (v1 178 52) := (hfr42.2 52 (by decide)).trans (rfl)
      have hk42_55 : v42 178 55 = (v1 178 55) := (hfr42.2 55 (by decide)).trans (rfl)
      have hk42_2 : v42 178 2 = (v1 178 2) := (hfr42.2 2 (by decide)).trans (rfl)
      have hk42_54 : v42 178 54 = (v1 178 54) := (hfr42.2 54 (by decide)).trans (rfl)
      show wp g X F_m_behind 0 0 45 [(2, 178)] [] v42 ρ Z
      have et42 : v42 205 = v1 205 := hfr42.1 205 (by decide) (by decide)
      have hs42 := hq42.1
      have hd42 := hq42.2.2
      clear hq42
      rw [← et42, ← hk42_52] at hs42
      rw [← et42, ← hk42_54] at hd42
      have in42 := hs42.nums
      have hT42 : TkM F n m v42 p := hT1.fr hfr42 (by decide) (by decide)
      refine t_getR (pc := 45) hX 19 rfl rfl rfl fl_X12_114 rfl hG.1 (a_stack hG).1 ?_
      refine t_getI (y := (v42 178 53)) (pc := 49) hX 21 rfl rfl rfl fl_X12_493 rfl hG.1 (rfl) ?_
      refine r_aload_n (pc := 53) hX 23 rfl rfl ?_
      refine r_ldc2 (y := 6385252) (pc := 54) hX 24 rfl kl_X12_154 (by decide) ?_
      refine r_callV (as := [(1, 6385252)]) (st := [(0, (v42 178 53)), (2, 205)]) (K := 12) (pc := 57) hX 25 rfl mo_m_isWord ml_X12_247 im_m_isWord se_m_isWord (c_isWordT g v42 ρ Z hG (6385252) (hT42) (by (repeat (first | rw [up_k (by decide)] | rw [up_s] | rw [up_r (by decide)])); omega) (by decide)) rfl rfl rfl hG.1 (by rw [hRm]; exact ⟨by decide, by decide⟩) (by rw [hRm]; exact ⟨by decide, by decide⟩) (Nat.le_of_ble_eq_true rfl) (fun o57 v57 ρ57 Z57 hq57 _ => ?_)
      obtain ⟨rfl, rfl, rfl, r57, rfl, hq57⟩ := hq57
      show wp g X F_m_behind 0 0 60 [(2, 178)] [(0, r57), (0, (v42 178 53)), (2, 205)] v42 ρ Z
      have hk57 := ky_of hT42 12 (by decide) (by decide) hq57
      replace hq57 := Hd.i hq57
      first | refine r_if_eq (pc := 60) hX 26 (tgt := 68) rfl (by decide) (⟨by omega, by omega⟩) (fun h60 => ?_) (fun h60 => ?_) | refine r_if_eq_any (pc := 60) hX 26 (tgt := 68) rfl (by decide) ?_ ?_
      · refine r_bipush (pc := 68) hX 29 rfl (by decide) ?_
        refine e_iast (pc := 70) hX 30 rfl (a_stack hG).2.1 (a_stack hG).2.2 (by decide) (by omega) (by omega) ?_
        refine r_aload_n (pc := 71) hX 31 rfl rfl ?_
        refine r_dup (pc := 72) hX 32 rfl (show (2 : Nat) ≠ 1 by decide) ?_
        refine e_getI (y := (v42 178 53)) (pc := 73) hX 33 rfl fl_X12_493 rfl hG.1 ((up_r (by decide)).trans (rfl)) ?_
        refine r_iconst (pc := 76) hX 34 rfl ?_
        refine r_iadd (pc := 77) hX 35 rfl ?_
        refine r_putI (pc := 78) hX 36 rfl fl_X12_493 rfl (fun _ h => by cases h; rfl) hG.1 (by decide) ?_
        refine r_aload_n (pc := 81) hX 37 rfl rfl ?_
        refine r_iconst (pc := 82) hX 38 rfl ?_
        refine r_putZ (pc := 83) hX 39 rfl fl_X12_509 rfl (fun _ h => by cases h; rfl) ⟨by omega, by omega⟩ hG.1 (by decide) ?_
        refine r_aload_n (pc := 86) hX 40 rfl rfl ?_
        refine r_callV (as := []) (st := []) (K := 12) (pc := 87) hX 41 rfl mo_m_go ml_X12_219 im_m_go se_m_go (c_goT g (up (up (up v42 205 (v42 178 53) 22) 178 53 ((v42 178 53) + 1)) 178 55 0) ρ Z hG  (by (repeat (first | rw [up_k (by decide)] | rw [up_s] | rw [up_r (by decide)])); omega) (((hT42.arr (by decide) (by decide)).fld (by decide)).fld (by decide))) rfl rfl rfl hG.1 (by rw [hRm]; exact ⟨by decide, by decide⟩) (by rw [hRm]; exact ⟨by decide, by decide⟩) (Nat.le_of_ble_eq_true rfl) (fun o87 v87 ρ87 Z87 hq87 _ => ?_)
        obtain ⟨rfl, rfl, hfr87, rfl, hq87⟩ := hq87
        try simp only [up_f (show (178 : Int) ≠ 205 by decide), up_f (show (180 : Int) ≠ 178 by decide), up_f (show (180 : Int) ≠ 205 by decide), up_k (show (3 : Int) ≠ 53 by decide), up_k (show (3 : Int) ≠ 55 by decide), up_k (show (4 : Int) ≠ 53 by decide), up_k (show (4 : Int) ≠ 55 by decide)] at hq87
        have hk87_3 : v87 178 3 = (v42 178 3) := (hfr87.2 3 (by decide)).trans ((up_k (by decide)).trans ((up_k (by decide)).trans ((up_r (by decide)).trans (rfl))))
        have hk87_5 : v87 178 5 = (v42 178 5) := (hfr87.2 5 (by decide)).trans ((up_k (by decide)).trans ((up_k (by decide)).trans ((up_r (by decide)).trans (rfl))))
        have hk87_25 : v87 178 25 = (v42 178 25) := (hfr87.2 25 (by decide)).trans ((up_k (by decide)).trans ((up_k (by decide)).trans ((up_r (by decide)).trans (rfl))))
        have hk87_51 : v87 178 51 = (v42 178 51) := (hfr87.2 51 (by decide)).trans ((up_k (by decide)).trans ((up_k (by decide)).trans ((up_r (by decide)).trans (rfl))))
        have hk87_52 : v87 178 52 = (v42 178 52) := (hfr87.2 52 (by decide)).trans ((up_k (by decide)).trans ((up_k (by decide)).trans ((up_r (by decide)).trans (rfl))))
        have hk87_53 : v87 178 53 = ((v42 178 53) + 1) := (hfr87.2 53 (by decide)).trans ((up_k (by decide)).trans (up_s _ _ _ _))
        have hk87_55 : v87 178 55 = 0 := (hfr87.2 55 (by decide)).trans (up_s _ _ _ _)
        have hk87_2 : v87 178 2 = (v42 178 2) := (hfr87.2 2 (by decide)).trans ((up_k (by decide)).trans ((up_k (by decide)).trans ((up_r (by decide)).trans (rfl))))
        have hk87_54 : v87 178 54 = (v42 178 54) := (hfr87.2 54 (by decide)).trans ((up_k (by decide)).trans ((up_k (by decide)).trans ((up_r (by decide)).trans (rfl))))
        show wp g X F_m_behind 0 0 90 [(2, 178)] [] v87 ρ Z
        have er87 : v87 182 = v42 182 := by rw [hfr87.1 182 (by decide) (by decide)]; (repeat rw [up_f (by decide)])
        have hu87 : ∀ k, 0 ≤ k → k < v42 178 53 → v87 205 k = v42 205 k := fun k a b => by rw [hfr87.1 205 (by decide) (by decide)]; (repeat rw [up_f (by decide)]); rw [up_k (by omega)]
        have ha87 : v87 205 (v42 178 53) = 21 ∨ v87 205 (v42 178 53) = 22 := by rw [hfr87.1 205 (by decide) (by decide)]; (repeat rw [up_f (by decide)]); rw [up_s]; first | exact Or.inl rfl | exact Or.inr rfl
        have hg87 := hT42.adv hq87.2 (by omega)
        have hst87 : StD (v87 205) (v87 178 53) (v87 178 54) (nts S) := by
          rw [hk87_53, hk87_54]
          refine ⟨(hd42.1.1.cg hu87).jn ?_ ha87, hd42.1.2⟩
          by_cases z0 : v42 178 53 = 0
          · exact Or.inl z0
          · rw [hu87 _ (by omega) (by omega)]; exact hd42.2
        refine r_iconst (pc := 90) hX 42 rfl ?_
        exact r_zret (pc := 91) hX 43 hQ rfl rfl ⟨by omega, by omega⟩ (Nat.le_refl 0) (Nat.le_refl 0) ⟨rfl, rfl, ((((((Fr.rf).tr hfr1 (by decide) (by decide)).tr hfr42 (by decide) (by decide)).arr (r := 205) (by decide) (by decide)).fld (k := 53) (by decide)).fld (k := 55) (by decide)).tr hfr87 (by decide) (by decide), 1, rfl, (by (repeat (first | rw [up_k (by decide)] | rw [up_s] | rw [up_r (by decide)])); omega), (Or.inr ⟨rfl, by rw [hk87_51, hk87_53, hk87_52, hk87_55, er87]; exact hs42.op hu87 rfl ha87, by omega, by omega⟩), (SmP.mk0 (S2 := nts S) (p2 := tp F n m p) (o2 := v 178 52) hst87 hq87.2 (by omega) (by omega) (sR_join (by omega) hp0 hp1 (by omega)))⟩
      · refine r_bipush (pc := 63) hX 27 rfl (by decide) ?_
        refine r_goto (pc := 65) hX 28 (tgt := 70) rfl (by decide) ?_
        refine e_iast (pc := 70) hX 30 rfl (a_stack hG).2.1 (a_stack hG).2.2 (by decide) (by omega) (by omega) ?_
        refine r_aload_n (pc := 71) hX 31 rfl rfl ?_
        refine r_dup (pc := 72) hX 32 rfl (show (2 : Nat) ≠ 1 by decide) ?_
        refine e_getI (y := (v42 178 53)) (pc := 73) hX 33 rfl fl_X12_493 rfl hG.1 ((up_r (by decide)).trans (rfl)) ?_
        refine r_iconst (pc := 76) hX 34 rfl ?_
        refine r_iadd (pc := 77) hX 35 rfl ?_
        refine r_putI (pc := 78) hX 36 rfl fl_X12_493 rfl (fun _ h => by cases h; rfl) hG.1 (by decide) ?_
        refine r_aload_n (pc := 81) hX 37 rfl rfl ?_
        refine r_iconst (pc := 82) hX 38 rfl ?_
        refine r_putZ (pc := 83) hX 39 rfl fl_X12_509 rfl (fun _ h => by cases h; rfl) ⟨by omega, by omega⟩ hG.1 (by decide) ?_
        refine r_aload_n (pc := 86) hX 40 rfl rfl ?_
        refine r_callV (as := []) (st := []) (K := 12) (pc := 87) hX 41 rfl mo_m_go ml_X12_219 im_m_go se_m_go (c_goT g (up (up (up v42 205 (v42 178 53) 21) 178 53 ((v42 178 53) + 1)) 178 55 0) ρ Z hG  (by (repeat (first | rw [up_k (by decide)] | rw [up_s] | rw [up_r (by decide)])); omega) (((hT42.arr (by decide) (by decide)).fld (by decide)).fld (by decide))) rfl rfl rfl hG.1 (by rw [hRm]; exact ⟨by decide, by decide⟩) (by rw [hRm]; exact ⟨by decide, by decide⟩) (Nat.le_of_ble_eq_true rfl) (fun o87 v87 ρ87 Z87 hq87 _ => ?_)
        obtain ⟨rfl, rfl, hfr87, rfl, hq87⟩ := hq87
        try simp only [up_f (show (178 : Int) ≠ 205 by decide), up_f (show (180 : Int) ≠ 178 by decide), up_f (show (180 : Int) ≠ 205 by decide), up_k (show (3 : Int) ≠ 53 by decide), up_k (show (3 : Int) ≠ 55 by decide), up_k (show (4 : Int) ≠ 53 by decide), up_k (show (4 : Int) ≠ 55 by decide)] at hq87
        have hk87_3 : v87 178 3 = (v42 178 3) := (hfr87.2 3 (by decide)).trans ((up_k (by decide)).trans ((up_k (by decide)).trans ((up_r (by decide)).trans (rfl))))
        have hk87_5 : v87 178 5 = (v42 178 5) := (hfr87.2 5 (by decide)).trans ((up_k (by decide)).trans ((up_k (by decide)).trans ((up_r (by decide)).trans (rfl))))
        have hk87_25 : v87 178 25 = (v42 178 25) := (hfr87.2 25 (by decide)).trans ((up_k (by decide)).trans ((up_k (by decide)).trans ((up_r (by decide)).trans (rfl))))
        have hk87_51 : v87 178 51 = (v42 178 51) := (hfr87.2 51 (by decide)).trans ((up_k (by decide)).trans ((up_k (by decide)).trans ((up_r (by decide)).trans (rfl))))
        have hk87_52 : v87 178 52 = (v42 178 52) := (hfr87.2 52 (by decide)).trans ((up_k (by decide)).trans ((up_k (by decide)).trans ((up_r (by decide)).trans (rfl))))
        have hk87_53 : v87 178 53 = ((v42 178 53) + 1) := (hfr87.2 53 (by decide)).trans ((up_k (by decide)).trans (up_s _ _ _ _))
        have hk87_55 : v87 178 55 = 0 := (hfr87.2 55 (by decide)).trans (up_s _ _ _ _)
        have hk87_2 : v87 178 2 = (v42 178 2) := (hfr87.2 2 (by decide)).trans ((up_k (by decide)).trans ((up_k (by decide)).trans ((up_r (by decide)).trans (rfl))))
        have hk87_54 : v87 178 54 = (v42 178 54) := (hfr87.2 54 (by decide)).trans ((up_k (by decide)).trans ((up_k (by decide)).trans ((up_r (by decide)).trans (rfl))))
        show wp g X F_m_behind 0 0 90 [(2, 178)] [] v87 ρ Z
        have er87 : v87 182 = v42 182 := by rw [hfr87.1 182 (by decide) (by decide)]; (repeat rw [up_f (by decide)])
        have hu87 : ∀ k, 0 ≤ k → k < v42 178 53 → v87 205 k = v42 205 k := fun k a b => by rw [hfr87.1 205 (by decide) (by decide)]; (repeat rw [up_f (by decide)]); rw [up_k (by omega)]
        have ha87 : v87 205 (v42 178 53) = 21 ∨ v87 205 (v42 178 53) = 22 := by rw [hfr87.1 205 (by decide) (by decide)]; (repeat rw [up_f (by decide)]); rw [up_s]; first | exact Or.inl rfl | exact Or.inr rfl
        have hg87 := hT42.adv hq87.2 (by omega)
        have hst87 : StD (v87 205) (v87 178 53) (v87 178 54) (nts S) := by
          rw [hk87_53, hk87_54]
          refine ⟨(hd42.1.1.cg hu87).jn ?_ ha87, hd42.1.2⟩
          by_cases z0 : v42 178 53 = 0
          · exact Or.inl z0
          · rw [hu87 _ (by omega) (by omega)]; exact hd42.2
        refine r_iconst (pc := 90) hX 42 rfl ?_
        exact r_zret (pc := 91) hX 43 hQ rfl rfl ⟨by omega, by omega⟩ (Nat.le_refl 0) (Nat.le_refl 0) ⟨rfl, rfl, ((((((Fr.rf).tr hfr1 (by decide) (by decide)).tr hfr42 (by decide) (by decide)).arr (r := 205) (by decide) (by decide)).fld (k := 53) (by decide)).fld (k := 55) (by decide)).tr hfr87 (by decide) (by decide), 1, rfl, (by (repeat (first | rw [up_k (by decide)] | rw [up_s] | rw [up_r (by decide)])); omega), (Or.inr ⟨rfl, by rw [hk87_51, hk87_53, hk87_52, hk87_55, er87]; exact hs42.op hu87 rfl ha87, by omega, by omega⟩), (SmP.mk0 (S2 := nts S) (p2 := tp F n m p) (o2 := v 178 52) hst87 hq87.2 (by omega) (by omega) (sR_join (by omega) hp0 hp1 (by omega)))⟩
    · refine r_bipush (pc := 35) hX 15 rfl (by decide) ?_
      refine r_goto (pc := 37) hX 16 (tgt := 42) rfl (by decide) ?_
      refine r_callV (as := [(0, 21)]) (st := []) (K := 12) (pc := 42) hX 18 rfl mo_m_joins ml_X12_515 im_m_joins se_m_joins (c_joinsS g v1 ρ Z hG (21) (by omega) (hq1) (hd1.1) (hd1.2)) rfl rfl rfl hG.1 (by rw [hRm]; exact ⟨by decide, by decide⟩) (by rw [hRm]; exact ⟨by decide, by decide⟩) (Nat.le_of_ble_eq_true rfl) (fun o42 v42 ρ42 Z42 hq42 _ => ?_)
      obtain ⟨rfl, rfl, hfr42, rfl, hq42⟩ := hq42
      have hk42_3 : v42 178 3 = (v1 178 3) := (hfr42.2 3 (by decide)).trans (rfl)
      have hk42_4 : v42 178 4 = (v1 178 4) := (hfr42.2 4 (by decide)).trans (rfl)
      have hk42_5 : v42 178 5 = (v1 178 5) := (hfr42.2 5 (by decide)).trans (rfl)
      have hk42_11 : v42 178 11 = (v1 178 11) := (hfr42.2 11 (by decide)).trans (rfl)
      have hk42_14 : v42 178 14 = (v1 178 14) := (hfr42.2 14 (by decide)).trans (rfl)
      have hk42_25 : v42 178 25 = (v1 178 25) := (hfr42.2 25 (by decide)).trans (rfl)
      have hk42_52 : v42 178 52 = (v1 178 52) := (hfr42.2 52 (by decide)).trans (rfl)
      have hk42_55 : v42 178 55 = (v1 178 55) := (hfr42.2 55 (by decide)).trans (rfl)
      have hk42_2 : v42 178 2 = (v1 178 2) := (hfr42.2 2 (by decide)).trans (rfl)
      have hk42_54 : v42 178 54 = (v1 178 54) := (hfr42.2 54 (by decide)).trans (rfl)
      show wp g X F_m_behind 0 0 45 [(2, 178)] [] v42 ρ Z
      have et42 : v42 205 = v1 205 := hfr42.1 205 (by decide) (by decide)
      have hs42 := hq42.1
      have hd42 := hq42.2.2
      clear hq42
      rw [← et42, ← hk42_52] at hs42
      rw [← et42, ← hk42_54] at hd42
      have in42 := hs42.nums
      have hT42 : TkM F n m v42 p := hT1.fr hfr42 (by decide) (by decide)
      refine t_getR (pc := 45) hX 19 rfl rfl rfl fl_X12_114 rfl hG.1 (a_stack hG).1 ?_
      refine t_getI (y := (v42 178 53)) (pc := 49) hX 21 rfl rfl rfl fl_X12_493 rfl hG.1 (rfl) ?_
      refine r_aload_n (pc := 53) hX 23 rfl rfl ?_
      refine r_ldc2 (y := 6385252) (pc := 54) hX 24 rfl kl_X12_154 (by decide) ?_
      refine r_callV (as := [(1, 6385252)]) (st := [(0, (v42 178 53)), (2, 205)]) (K := 12) (pc := 57) hX 25 rfl mo_m_isWord ml_X12_247 im_m_isWord se_m_isWord (c_isWordT g v42 ρ Z hG (6385252) (hT42) (by (repeat (first | rw [up_k (by decide)] | rw [up_s] | rw [up_r (by decide)])); omega) (by decide)) rfl rfl rfl hG.1 (by rw [hRm]; exact ⟨by decide, by decide⟩) (by rw [hRm]; exact ⟨by decide, by decide⟩) (Nat.le_of_ble_eq_true rfl) (fun o57 v57 ρ57 Z57 hq57 _ => ?_)
      obtain ⟨rfl, rfl, rfl, r57, rfl, hq57⟩ := hq57
      show wp g X F_m_behind 0 0 60 [(2, 178)] [(0, r57), (0, (v42 178 53)), (2, 205)] v42 ρ Z
      have hk57 := ky_of hT42 12 (by decide) (by decide) hq57
      replace hq57 := Hd.i hq57
      first | refine r_if_eq (pc := 60) hX 26 (tgt := 68) rfl (by decide) (⟨by omega, by omega⟩) (fun h60 => ?_) (fun h60 => ?_) | refine r_if_eq_any (pc := 60) hX 26 (tgt := 68) rfl (by decide) ?_ ?_
      · refine r_bipush (pc := 68) hX 29 rfl (by decide) ?_
        refine e_iast (pc := 70) hX 30 rfl (a_stack hG).2.1 (a_stack hG).2.2 (by decide) (by omega) (by omega) ?_
        refine r_aload_n (pc := 71) hX 31 rfl rfl ?_
        refine r_dup (pc := 72) hX 32 rfl (show (2 : Nat) ≠ 1 by decide) ?_
        refine e_getI (y := (v42 178 53)) (pc := 73) hX 33 rfl fl_X12_493 rfl hG.1 ((up_r (by decide)).trans (rfl)) ?_
        refine r_iconst (pc := 76) hX 34 rfl ?_
        refine r_iadd (pc := 77) hX 35 rfl ?_
        refine r_putI (pc := 78) hX 36 rfl fl_X12_493 rfl (fun _ h => by cases h; rfl) hG.1 (by decide) ?_
        refine r_aload_n (pc := 81) hX 37 rfl rfl ?_
        refine r_iconst (pc := 82) hX 38 rfl ?_
        refine r_putZ (pc := 83) hX 39 rfl fl_X12_509 rfl (fun _ h => by cases h; rfl) ⟨by omega, by omega⟩ hG.1 (by decide) ?_
        refine r_aload_n (pc := 86) hX 40 rfl rfl ?_
        refine r_callV (as := []) (st := []) (K := 12) (pc := 87) hX 41 rfl mo_m_go ml_X12_219 im_m_go se_m_go (c_goT g (up (up (up v42 205 (v42 178 53) 22) 178 53 ((v42 178 53) + 1)) 178 55 0) ρ Z hG  (by (repeat (first | rw [up_k (by decide)] | rw [up_s] | rw [up_r (by decide)])); omega) (((hT42.arr (by decide) (by decide)).fld (by decide)).fld (by decide))) rfl rfl rfl hG.1 (by rw [hRm]; exact ⟨by decide, by decide⟩) (by rw [hRm]; exact ⟨by decide, by decide⟩) (Nat.le_of_ble_eq_true rfl) (fun o87 v87 ρ87 Z87 hq87 _ => ?_)
        obtain ⟨rfl, rfl, hfr87, rfl, hq87⟩ := hq87
        try simp only [up_f (show (178 : Int) ≠ 205 by decide), up_f (show (180 : Int) ≠ 178 by decide), up_f (show (180 : Int) ≠ 205 by decide), up_k (show (3 : Int) ≠ 53 by decide), up_k (show (3 : Int) ≠ 55 by decide), up_k (show (4 : Int) ≠ 53 by decide), up_k (show (4 : Int) ≠ 55 by decide)] at hq87
        have hk87_3 : v87 178 3 = (v42 178 3) := (hfr87.2 3 (by decide)).trans ((up_k (by decide)).trans ((up_k (by decide)).trans ((up_r (by decide)).trans (rfl))))
        have hk87_5 : v87 178 5 = (v42 178 5) := (hfr87.2 5 (by decide)).trans ((up_k (by decide)).trans ((up_k (by decide)).trans ((up_r (by decide)).trans (rfl))))
        have hk87_25 : v87 178 25 = (v42 178 25) := (hfr87.2 25 (by decide)).trans ((up_k (by decide)).trans ((up_k (by decide)).trans ((up_r (by decide)).trans (rfl))))
        have hk87_51 : v87 178 51 = (v42 178 51) := (hfr87.2 51 (by decide)).trans ((up_k (by decide)).trans ((up_k (by decide)).trans ((up_r (by decide)).trans (rfl))))
        have hk87_52 : v87 178 52 = (v42 178 52) := (hfr87.2 52 (by decide)).trans ((up_k (by decide)).trans ((up_k (by decide)).trans ((up_r (by decide)).trans (rfl))))
        have hk87_53 : v87 178 53 = ((v42 178 53) + 1) := (hfr87.2 53 (by decide)).trans ((up_k (by decide)).trans (up_s _ _ _ _))
        have hk87_55 : v87 178 55 = 0 := (hfr87.2 55 (by decide)).trans (up_s _ _ _ _)
        have hk87_2 : v87 178 2 = (v42 178 2) := (hfr87.2 2 (by decide)).trans ((up_k (by decide)).trans ((up_k (by decide)).trans ((up_r (by decide)).trans (rfl))))
        have hk87_54 : v87 178 54 = (v42 178 54) := (hfr87.2 54 (by decide)).trans ((up_k (by decide)).trans ((up_k (by decide)).trans ((up_r (by decide)).trans (rfl))))
        show wp g X F_m_behind 0 0 90 [(2, 178)] [] v87 ρ Z
        have er87 : v87 182 = v42 182 := by rw [hfr87.1 182 (by decide) (by decide)]; (repeat rw [up_f (by decide)])
        have hu87 : ∀ k, 0 ≤ k → k < v42 178 53 → v87 205 k = v42 205 k := fun k a b => by rw [hfr87.1 205 (by decide) (by decide)]; (repeat rw [up_f (by decide)]); rw [up_k (by omega)]
        have ha87 : v87 205 (v42 178 53) = 21 ∨ v87 205 (v42 178 53) = 22 := by rw [hfr87.1 205 (by decide) (by decide)]; (repeat rw [up_f (by decide)]); rw [up_s]; first | exact Or.inl rfl | exact Or.inr rfl
        have hg87 := hT42.adv hq87.2 (by omega)
        have hst87 : StD (v87 205) (v87 178 53) (v87 178 54) (nts S) := by
          rw [hk87_53, hk87_54]
          refine ⟨(hd42.1.1.cg hu87).jn ?_ ha87, hd42.1.2⟩
          by_cases z0 : v42 178 53 = 0
          · exact Or.inl z0
          · rw [hu87 _ (by omega) (by omega)]; exact hd42.2
        refine r_iconst (pc := 90) hX 42 rfl ?_
        exact r_zret (pc := 91) hX 43 hQ rfl rfl ⟨by omega, by omega⟩ (Nat.le_refl 0) (Nat.le_refl 0) ⟨rfl, rfl, ((((((Fr.rf).tr hfr1 (by decide) (by decide)).tr hfr42 (by decide) (by decide)).arr (r := 205) (by decide) (by decide)).fld (k := 53) (by decide)).fld (k := 55) (by decide)).tr hfr87 (by decide) (by decide), 1, rfl, (by (repeat (first | rw [up_k (by decide)] | rw [up_s] | rw [up_r (by decide)])); omega), (Or.inr ⟨rfl, by rw [hk87_51, hk87_53, hk87_52, hk87_55, er87]; exact hs42.op hu87 rfl ha87, by omega, by omega⟩), (SmP.mk0 (S2 := nts S) (p2 := tp F n m p) (o2 := v 178 52) hst87 hq87.2 (by omega) (by omega) (sR_join (by omega) hp0 hp1 (by omega)))⟩
      · refine r_bipush (pc := 63) hX 27 rfl (by decide) ?_
        refine r_goto (pc := 65) hX 28 (tgt := 70) rfl (by decide) ?_
        refine e_iast (pc := 70) hX 30 rfl (a_stack hG).2.1 (a_stack hG).2.2 (by decide) (by omega) (by omega) ?_
        refine r_aload_n (pc := 71) hX 31 rfl rfl ?_
        refine r_dup (pc := 72) hX 32 rfl (show (2 : Nat) ≠ 1 by decide) ?_
        refine e_getI (y := (v42 178 53)) (pc := 73) hX 33 rfl fl_X12_493 rfl hG.1 ((up_r (by decide)).trans (rfl)) ?_
        refine r_iconst (pc := 76) hX 34 rfl ?_
        refine r_iadd (pc := 77) hX 35 rfl ?_
        refine r_putI (pc := 78) hX 36 rfl fl_X12_493 rfl (fun _ h => by cases h; rfl) hG.1 (by decide) ?_
        refine r_aload_n (pc := 81) hX 37 rfl rfl ?_
        refine r_iconst (pc := 82) hX 38 rfl ?_
        refine r_putZ (pc := 83) hX 39 rfl fl_X12_509 rfl (fun _ h => by cases h; rfl) ⟨by omega, by omega⟩ hG.1 (by decide) ?_
        refine r_aload_n (pc := 86) hX 40 rfl rfl ?_
        refine r_callV (as := []) (st := []) (K := 12) (pc := 87) hX 41 rfl mo_m_go ml_X12_219 im_m_go se_m_go (c_goT g (up (up (up v42 205 (v42 178 53) 21) 178 53 ((v42 178 53) + 1)) 178 55 0) ρ Z hG  (by (repeat (first | rw [up_k (by decide)] | rw [up_s] | rw [up_r (by decide)])); omega) (((hT42.arr (by decide) (by decide)).fld (by decide)).fld (by decide))) rfl rfl rfl hG.1 (by rw [hRm]; exact ⟨by decide, by decide⟩) (by rw [hRm]; exact ⟨by decide, by decide⟩) (Nat.le_of_ble_eq_true rfl) (fun o87 v87 ρ87 Z87 hq87 _ => ?_)
        obtain ⟨rfl, rfl, hfr87, rfl, hq87⟩ := hq87
        try simp only [up_f (show (178 : Int) ≠ 205 by decide), up_f (show (180 : Int) ≠ 178 by decide), up_f (show (180 : Int) ≠ 205 by decide), up_k (show (3 : Int) ≠ 53 by decide), up_k (show (3 : Int) ≠ 55 by decide), up_k (show (4 : Int) ≠ 53 by decide), up_k (show (4 : Int) ≠ 55 by decide)] at hq87
        have hk87_3 : v87 178 3 = (v42 178 3) := (hfr87.2 3 (by decide)).trans ((up_k (by decide)).trans ((up_k (by decide)).trans ((up_r (by decide)).trans (rfl))))
        have hk87_5 : v87 178 5 = (v42 178 5) := (hfr87.2 5 (by decide)).trans ((up_k (by decide)).trans ((up_k (by decide)).trans ((up_r (by decide)).trans (rfl))))
        have hk87_25 : v87 178 25 = (v42 178 25) := (hfr87.2 25 (by decide)).trans ((up_k (by decide)).trans ((up_k (by decide)).trans ((up_r (by decide)).trans (rfl))))
        have hk87_51 : v87 178 51 = (v42 178 51) := (hfr87.2 51 (by decide)).trans ((up_k (by decide)).trans ((up_k (by decide)).trans ((up_r (by decide)).trans (rfl))))
        have hk87_52 : v87 178 52 = (v42 178 52) := (hfr87.2 52 (by decide)).trans ((up_k (by decide)).trans ((up_k (by decide)).trans ((up_r (by decide)).trans (rfl))))
        have hk87_53 : v87 178 53 = ((v42 178 53) + 1) := (hfr87.2 53 (by decide)).trans ((up_k (by decide)).trans (up_s _ _ _ _))
        have hk87_55 : v87 178 55 = 0 := (hfr87.2 55 (by decide)).trans (up_s _ _ _ _)
        have hk87_2 : v87 178 2 = (v42 178 2) := (hfr87.2 2 (by decide)).trans ((up_k (by decide)).trans ((up_k (by decide)).trans ((up_r (by decide)).trans (rfl))))
        have hk87_54 : v87 178 54 = (v42 178 54) := (hfr87.2 54 (by decide)).trans ((up_k (by decide)).trans ((up_k (by decide)).trans ((up_r (by decide)).trans (rfl))))
        show wp g X F_m_behind 0 0 90 [(2, 178)] [] v87 ρ Z
        have er87 : v87 182 = v42 182 := by rw [hfr87.1 182 (by decide) (by decide)]; (repeat rw [up_f (by decide)])
        have hu87 : ∀ k, 0 ≤ k → k < v42 178 53 → v87 205 k = v42 205 k := fun k a b => by rw [hfr87.1 205 (by decide) (by decide)]; (repeat rw [up_f (by decide)]); rw [up_k (by omega)]
        have ha87 : v87 205 (v42 178 53) = 21 ∨ v87 205 (v42 178 53) = 22 := by rw [hfr87.1 205 (by decide) (by decide)]; (repeat rw [up_f (by decide)]); rw [up_s]; first | exact Or.inl rfl | exact Or.inr rfl
        have hg87 := hT42.adv hq87.2 (by omega)
        have hst87 : StD (v87 205) (v87 178 53) (v87 178 54) (nts S) := by
          rw [hk87_53, hk87_54]
          refine ⟨(hd42.1.1.cg hu87).jn ?_ ha87, hd42.1.2⟩
          by_cases z0 : v42 178 53 = 0
          · exact Or.inl z0
          · rw [hu87 _ (by omega) (by omega)]; exact hd42.2
        refine r_iconst (pc := 90) hX 42 rfl ?_
        exact r_zret (pc := 91) hX 43 hQ rfl rfl ⟨by omega, by omega⟩ (Nat.le_refl 0) (Nat.le_refl 0) ⟨rfl, rfl, ((((((Fr.rf).tr hfr1 (by decide) (by decide)).tr hfr42 (by decide) (by decide)).arr (r := 205) (by decide) (by decide)).fld (k := 53) (by decide)).fld (k := 55) (by decide)).tr hfr87 (by decide) (by decide), 1, rfl, (by (repeat (first | rw [up_k (by decide)] | rw [up_s] | rw [up_r (by decide)])); omega), (Or.inr ⟨rfl, by rw [hk87_51, hk87_53, hk87_52, hk87_55, er87]; exact hs42.op hu87 rfl ha87, by omega, by omega⟩), (SmP.mk0 (S2 := nts S) (p2 := tp F n m p) (o2 := v 178 52) hst87 hq87.2 (by omega) (by omega) (sR_join (by omega) hp0 hp1 (by omega)))⟩
  · refine r_aload_n (pc := 14) hX 6 rfl rfl ?_
    refine r_ldc2 (y := 28530) (pc := 15) hX 7 rfl kl_X12_152 (by decide) ?_
    refine r_callV (as := [(1, 28530)]) (st := []) (K := 12) (pc := 18) hX 8 rfl mo_m_isWord ml_X12_247 im_m_isWord se_m_isWord (c_isWordT g v1 ρ Z hG (28530) (hT1) (by (repeat (first | rw [up_k (by decide)] | rw [up_s] | rw [up_r (by decide)])); omega) (by decide)) rfl rfl rfl hG.1 (by rw [hRm]; exact ⟨by decide, by decide⟩) (by rw [hRm]; exact ⟨by decide, by decide⟩) (Nat.le_of_ble_eq_true rfl) (fun o18 v18 ρ18 Z18 hq18 _ => ?_)
    obtain ⟨rfl, rfl, rfl, r18, rfl, hq18⟩ := hq18
    show wp g X F_m_behind 0 0 21 [(2, 178)] [(0, r18)] v1 ρ Z
    have hk18 := ky_of hT1 11 (by decide) (by decide) hq18
    have hz18 : r18 = 0 ∨ r18 = 1 ∧ v1 178 11 = 1 := by omega
    replace hq18 := Hd.i hq18
    first | refine r_if_eq (pc := 21) hX 9 (tgt := 92) rfl (by decide) (⟨by omega, by omega⟩) (fun h21 => ?_) (fun h21 => ?_) | refine r_if_eq_any (pc := 21) hX 9 (tgt := 92) rfl (by decide) ?_ ?_
    · refine r_aload_n (pc := 92) hX 44 rfl rfl ?_
      refine r_bipush (pc := 93) hX 45 rfl (by decide) ?_
      refine r_callV (as := [(0, 22)]) (st := []) (K := 12) (pc := 95) hX 46 rfl mo_m_joins ml_X12_515 im_m_joins se_m_joins (c_joinsS g v1 ρ Z hG (22) (by omega) (hq1) (hd1.1) (hd1.2)) rfl rfl rfl hG.1 (by rw [hRm]; exact ⟨by decide, by decide⟩) (by rw [hRm]; exact ⟨by decide, by decide⟩) (Nat.le_of_ble_eq_true rfl) (fun o95 v95 ρ95 Z95 hq95 _ => ?_)
      obtain ⟨rfl, rfl, hfr95, rfl, hq95⟩ := hq95
      have hk95_3 : v95 178 3 = (v1 178 3) := (hfr95.2 3 (by decide)).trans (rfl)
      have hk95_4 : v95 178 4 = (v1 178 4) := (hfr95.2 4 (by decide)).trans (rfl)
      have hk95_5 : v95 178 5 = (v1 178 5) := (hfr95.2 5 (by decide)).trans (rfl)
      have hk95_11 : v95 178 11 = (v1 178 11) := (hfr95.2 11 (by decide)).trans (rfl)
      have hk95_14 : v95 178 14 = (v1 178 14) := (hfr95.2 14 (by decide)).trans (rfl)
      have hk95_25 : v95 178 25 = (v1 178 25) := (hfr95.2 25 (by decide)).trans (rfl)
      have hk95_52 : v95 178 52 = (v1 178 52) := (hfr95.2 52 (by decide)).trans (rfl)
      have hk95_55 : v95 178 55 = (v1 178 55) := (hfr95.2 55 (by decide)).trans (rfl)
      have hk95_2 : v95 178 2 = (v1 178 2) := (hfr95.2 2 (by decide)).trans (rfl)
      have hk95_54 : v95 178 54 = (v1 178 54) := (hfr95.2 54 (by decide)).trans (rfl)
      show wp g X F_m_behind 0 0 98 [(2, 178)] [] v95 ρ Z
      have et95 : v95 205 = v1 205 := hfr95.1 205 (by decide) (by decide)
      have hs95 := hq95.1
      have ht95 := hq95.2.1 rfl
      have hd95 := hq95.2.2
      clear hq95
      rw [← et95] at ht95 hs95 hd95
      rw [← hk95_52] at hs95
      rw [← hk95_54] at hd95
      have in95 := hs95.nums
      have hT95 : TkM F n m v95 p := hT1.fr hfr95 (by decide) (by decide)
      have hx95 := hd95.1.1.top hd95.2 ht95
      refine r_aload_n (pc := 98) hX 47 rfl rfl ?_
      refine r_bipush (pc := 99) hX 48 rfl (by decide) ?_
      refine r_callV (as := [(0, 41)]) (st := []) (K := 12) (pc := 101) hX 49 rfl mo_m_isSign ml_X12_213 im_m_isSign se_m_isSign (c_isSignT g v95 ρ Z hG (41) (hT95) (by (repeat (first | rw [up_k (by decide)] | rw [up_s] | rw [up_r (by decide)])); omega) (by omega) (by omega)) rfl rfl rfl hG.1 (by rw [hRm]; exact ⟨by decide, by decide⟩) (by rw [hRm]; exact ⟨by decide, by decide⟩) (Nat.le_of_ble_eq_true rfl) (fun o101 v101 ρ101 Z101 hq101 _ => ?_)
      obtain ⟨rfl, rfl, rfl, r101, rfl, hq101⟩ := hq101
      show wp g X F_m_behind 0 0 104 [(2, 178)] [(0, r101)] v95 ρ Z
      have hm101 := hq101
      have hz101 : r101 = 0 ∨ r101 = 1 ∧ tk F n m p = 3 := by
        rcases hq101 with ⟨a, b⟩ | ⟨a, -⟩
        · exact Or.inr ⟨a, (of_decide_eq_true b).1⟩
        · exact Or.inl a
      replace hq101 : 0 ≤ r101 ∧ r101 ≤ 1 := by omega
      first | refine r_if_eq (pc := 104) hX 50 (tgt := 114) rfl (by decide) (⟨by omega, by omega⟩) (fun h104 => ?_) (fun h104 => ?_) | refine r_if_eq_any (pc := 104) hX 50 (tgt := 114) rfl (by decide) ?_ ?_
      · refine r_aload_n (pc := 114) hX 54 rfl rfl ?_
        refine r_iconst (pc := 115) hX 55 rfl ?_
        refine r_callV (as := [(0, 1)]) (st := []) (K := 12) (pc := 116) hX 56 rfl mo_m_bad ml_X12_216 im_m_bad se_m_bad (c_badF g v95 ρ Z hG (1) (by omega)) rfl rfl rfl hG.1 (by rw [hRm]; exact ⟨by decide, by decide⟩) (by rw [hRm]; exact ⟨by decide, by decide⟩) (Nat.le_of_ble_eq_true rfl) (fun o116 v116 ρ116 Z116 hq116 _ => ?_)
        obtain ⟨rfl, rfl, hfr116, r116, rfl, hq116⟩ := hq116
        have hk116_3 : v116 178 3 = (v95 178 3) := (hfr116.2 3 (by decide)).trans (rfl)
        have hk116_4 : v116 178 4 = (v95 178 4) := (hfr116.2 4 (by decide)).trans (rfl)
        have hk116_5 : v116 178 5 = (v95 178 5) := (hfr116.2 5 (by decide)).trans (rfl)
        have hk116_11 : v116 178 11 = (v95 178 11) := (hfr116.2 11 (by decide)).trans (rfl)
        have hk116_14 : v116 178 14 = (v95 178 14) := (hfr116.2 14 (by decide)).trans (rfl)
        have hk116_25 : v116 178 25 = (v95 178 25) := (hfr116.2 25 (by decide)).trans (rfl)
        have hk116_51 : v116 178 51 = (v95 178 51) := (hfr116.2 51 (by decide)).trans (rfl)
        have hk116_52 : v116 178 52 = (v95 178 52) := (hfr116.2 52 (by decide)).trans (rfl)
        have hk116_53 : v116 178 53 = (v95 178 53) := (hfr116.2 53 (by decide)).trans (rfl)
        have hk116_55 : v116 178 55 = (v95 178 55) := (hfr116.2 55 (by decide)).trans (rfl)
        have hk116_2 : v116 178 2 = (v95 178 2) := (hfr116.2 2 (by decide)).trans (rfl)
        have hk116_54 : v116 178 54 = (v95 178 54) := (hfr116.2 54 (by decide)).trans (rfl)
        show wp g X F_m_behind 0 0 119 [(2, 178)] [(0, r116)] v116 ρ Z
        exact r_zret (pc := 119) hX 57 hQ rfl rfl ⟨by omega, by omega⟩ (Nat.le_refl 0) (Nat.le_refl 0) ⟨rfl, rfl, (((Fr.rf).tr hfr1 (by decide) (by decide)).tr hfr95 (by decide) (by decide)).tr hfr116 (by decide) (by decide), r116, rfl, (by (repeat (first | rw [up_k (by decide)] | rw [up_s] | rw [up_r (by decide)])); omega), (Or.inl (by omega)), (by
        rw [hq116.1]
        refine SmP.bad (p2 := p) hq116.2.1 (hq116.2.2.trans hT95.2.2.2.2.2.2.2.1) (by decide) (sR_badt (by omega) hp0 hp1 (by omega) (by omega) ?_)
        rintro ⟨z1, z2⟩
        rcases hm101 with ⟨a, -⟩ | ⟨-, b⟩
        · rcases hx95 with ⟨-, y⟩ | ⟨y, -⟩
          · exact z2 y
          · omega
        · rw [b] at z1; exact absurd z1 (by decide))⟩
      · refine t_getI (y := (v95 178 53)) (pc := 107) hX 51 rfl rfl rfl fl_X12_493 rfl hG.1 (rfl) ?_
        first | refine r_if_ne (pc := 111) hX 53 (tgt := 120) rfl (by decide) (⟨by omega, by omega⟩) (fun h111 => ?_) (fun h111 => ?_) | refine r_if_ne_any (pc := 111) hX 53 (tgt := 120) rfl (by decide) ?_ ?_
        · refine r_aload_n (pc := 120) hX 58 rfl rfl ?_
          refine r_dup (pc := 121) hX 59 rfl (show (2 : Nat) ≠ 1 by decide) ?_
          refine e_getI (y := (v95 178 53)) (pc := 122) hX 60 rfl fl_X12_493 rfl hG.1 (rfl) ?_
          refine r_iconst (pc := 125) hX 61 rfl ?_
          refine r_isub (pc := 126) hX 62 rfl ?_
          refine r_putI (pc := 127) hX 63 rfl fl_X12_493 rfl (fun _ h => by cases h; rfl) hG.1 (by decide) ?_
          refine r_aload_n (pc := 130) hX 64 rfl rfl ?_
          refine r_dup (pc := 131) hX 65 rfl (show (2 : Nat) ≠ 1 by decide) ?_
          refine e_getI (y := (v95 178 54)) (pc := 132) hX 66 rfl fl_X12_500 rfl hG.1 ((up_k (by decide)).trans (rfl)) ?_
          refine r_iconst (pc := 135) hX 67 rfl ?_
          refine r_isub (pc := 136) hX 68 rfl ?_
          refine r_putI (pc := 137) hX 69 rfl fl_X12_500 rfl (fun _ h => by cases h; rfl) hG.1 (by decide) ?_
          refine r_aload_n (pc := 140) hX 70 rfl rfl ?_
          refine r_callV (as := []) (st := []) (K := 12) (pc := 141) hX 71 rfl mo_m_go ml_X12_219 im_m_go se_m_go (c_goT g (up (up v95 178 53 ((v95 178 53) - 1)) 178 54 ((v95 178 54) - 1)) ρ Z hG  (by (repeat (first | rw [up_k (by decide)] | rw [up_s] | rw [up_r (by decide)])); omega) ((hT95.fld (by decide)).fld (by decide))) rfl rfl rfl hG.1 (by rw [hRm]; exact ⟨by decide, by decide⟩) (by rw [hRm]; exact ⟨by decide, by decide⟩) (Nat.le_of_ble_eq_true rfl) (fun o141 v141 ρ141 Z141 hq141 _ => ?_)
          obtain ⟨rfl, rfl, hfr141, rfl, hq141⟩ := hq141
          try simp only [up_f (show (180 : Int) ≠ 178 by decide), up_k (show (3 : Int) ≠ 53 by decide), up_k (show (3 : Int) ≠ 54 by decide), up_k (show (4 : Int) ≠ 53 by decide), up_k (show (4 : Int) ≠ 54 by decide)] at hq141
          have hk141_3 : v141 178 3 = (v95 178 3) := (hfr141.2 3 (by decide)).trans ((up_k (by decide)).trans ((up_k (by decide)).trans (rfl)))
          have hk141_5 : v141 178 5 = (v95 178 5) := (hfr141.2 5 (by decide)).trans ((up_k (by decide)).trans ((up_k (by decide)).trans (rfl)))
          have hk141_25 : v141 178 25 = (v95 178 25) := (hfr141.2 25 (by decide)).trans ((up_k (by decide)).trans ((up_k (by decide)).trans (rfl)))
          have hk141_51 : v141 178 51 = (v95 178 51) := (hfr141.2 51 (by decide)).trans ((up_k (by decide)).trans ((up_k (by decide)).trans (rfl)))
          have hk141_52 : v141 178 52 = (v95 178 52) := (hfr141.2 52 (by decide)).trans ((up_k (by decide)).trans ((up_k (by decide)).trans (rfl)))
          have hk141_53 : v141 178 53 = ((v95 178 53) - 1) := (hfr141.2 53 (by decide)).trans ((up_k (by decide)).trans (up_s _ _ _ _))
          have hk141_55 : v141 178 55 = (v95 178 55) := (hfr141.2 55 (by decide)).trans ((up_k (by decide)).trans ((up_k (by decide)).trans (rfl)))
          have hk141_2 : v141 178 2 = (v95 178 2) := (hfr141.2 2 (by decide)).trans ((up_k (by decide)).trans ((up_k (by decide)).trans (rfl)))
          have hk141_54 : v141 178 54 = ((v95 178 54) - 1) := (hfr141.2 54 (by decide)).trans (up_s _ _ _ _)
          show wp g X F_m_behind 0 0 144 [(2, 178)] [] v141 ρ Z
          have er141 : v141 182 = v95 182 := by rw [hfr141.1 182 (by decide) (by decide)]; (repeat rw [up_f (by decide)])
          have et141 : v141 205 = v95 205 := by rw [hfr141.1 205 (by decide) (by decide)]; (repeat rw [up_f (by decide)])
          have hg141 := hT95.adv hq141.2 (by omega)
          refine r_iconst (pc := 144) hX 72 rfl ?_
          exact r_zret (pc := 145) hX 73 hQ rfl rfl ⟨by omega, by omega⟩ (Nat.le_refl 0) (Nat.le_refl 0) ⟨rfl, rfl, (((((Fr.rf).tr hfr1 (by decide) (by decide)).tr hfr95 (by decide) (by decide)).fld (k := 53) (by decide)).fld (k := 54) (by decide)).tr hfr141 (by decide) (by decide), 1, rfl, (by (repeat (first | rw [up_k (by decide)] | rw [up_s] | rw [up_r (by decide)])); omega), (Or.inr ⟨rfl, by rw [hk141_51, hk141_53, hk141_52, show v141 178 55 = 1 by omega, er141, et141]; exact hs95.shut (by omega) (by omega), by omega, by omega⟩), (by
        rcases hx95 with ⟨y, -⟩ | ⟨y, S2, e2, z2⟩
        · exact absurd y (by omega)
        · rcases hm101 with ⟨-, b⟩ | ⟨a, -⟩
          · have hl := hd95.1.2
            rw [e2, List.length_cons] at hl
            refine SmP.mk1 (S2 := S2) (p2 := tp F n m p) (o2 := v 178 52) ⟨by rw [hk141_53, et141]; exact z2, by rw [hk141_54]; omega⟩ hq141.2 (by omega) (by omega) ?_
            rw [sR_shut (by omega) hp0 hp1 b (by rw [e2]; exact List.cons_ne_nil _ _), e2]
            rfl
          · exact absurd a (by omega))⟩
        · refine r_aload_n (pc := 114) hX 54 rfl rfl ?_
          refine r_iconst (pc := 115) hX 55 rfl ?_
          refine r_callV (as := [(0, 1)]) (st := []) (K := 12) (pc := 116) hX 56 rfl mo_m_bad ml_X12_216 im_m_bad se_m_bad (c_badF g v95 ρ Z hG (1) (by omega)) rfl rfl rfl hG.1 (by rw [hRm]; exact ⟨by decide, by decide⟩) (by rw [hRm]; exact ⟨by decide, by decide⟩) (Nat.le_of_ble_eq_true rfl) (fun o116 v116 ρ116 Z116 hq116 _ => ?_)
          obtain ⟨rfl, rfl, hfr116, r116, rfl, hq116⟩ := hq116
          have hk116_3 : v116 178 3 = (v95 178 3) := (hfr116.2 3 (by decide)).trans (rfl)
          have hk116_4 : v116 178 4 = (v95 178 4) := (hfr116.2 4 (by decide)).trans (rfl)
          have hk116_5 : v116 178 5 = (v95 178 5) := (hfr116.2 5 (by decide)).trans (rfl)
          have hk116_11 : v116 178 11 = (v95 178 11) := (hfr116.2 11 (by decide)).trans (rfl)
          have hk116_14 : v116 178 14 = (v95 178 14) := (hfr116.2 14 (by decide)).trans (rfl)
          have hk116_25 : v116 178 25 = (v95 178 25) := (hfr116.2 25 (by decide)).trans (rfl)
          have hk116_51 : v116 178 51 = (v95 178 51) := (hfr116.2 51 (by decide)).trans (rfl)
          have hk116_52 : v116 178 52 = (v95 178 52) := (hfr116.2 52 (by decide)).trans (rfl)
          have hk116_53 : v116 178 53 = (v95 178 53) := (hfr116.2 53 (by decide)).trans (rfl)
          have hk116_55 : v116 178 55 = (v95 178 55) := (hfr116.2 55 (by decide)).trans (rfl)
          have hk116_2 : v116 178 2 = (v95 178 2) := (hfr116.2 2 (by decide)).trans (rfl)
          have hk116_54 : v116 178 54 = (v95 178 54) := (hfr116.2 54 (by decide)).trans (rfl)
          show wp g X F_m_behind 0 0 119 [(2, 178)] [(0, r116)] v116 ρ Z
          exact r_zret (pc := 119) hX 57 hQ rfl rfl ⟨by omega, by omega⟩ (Nat.le_refl 0) (Nat.le_refl 0) ⟨rfl, rfl, (((Fr.rf).tr hfr1 (by decide) (by decide)).tr hfr95 (by decide) (by decide)).tr hfr116 (by decide) (by decide), r116, rfl, (by (repeat (first | rw [up_k (by decide)] | rw [up_s] | rw [up_r (by decide)])); omega), (Or.inl (by omega)), (by
        rw [hq116.1]
        refine SmP.bad (p2 := p) hq116.2.1 (hq116.2.2.trans hT95.2.2.2.2.2.2.2.1) (by decide) (sR_badt (by omega) hp0 hp1 (by omega) (by omega) ?_)
        rintro ⟨z1, z2⟩
        rcases hm101 with ⟨a, -⟩ | ⟨-, b⟩
        · rcases hx95 with ⟨-, y⟩ | ⟨y, -⟩
          · exact z2 y
          · omega
        · rw [b] at z1; exact absurd z1 (by decide))⟩
    · refine r_aload_n (pc := 24) hX 10 rfl rfl ?_
      refine r_aload_n (pc := 25) hX 11 rfl rfl ?_
      refine r_ldc2 (y := 6385252) (pc := 26) hX 12 rfl kl_X12_154 (by decide) ?_
      refine r_callV (as := [(1, 6385252)]) (st := [(2, 178)]) (K := 12) (pc := 29) hX 13 rfl mo_m_isWord ml_X12_247 im_m_isWord se_m_isWord (c_isWordT g v1 ρ Z hG (6385252) (hT1) (by (repeat (first | rw [up_k (by decide)] | rw [up_s] | rw [up_r (by decide)])); omega) (by decide)) rfl rfl rfl hG.1 (by rw [hRm]; exact ⟨by decide, by decide⟩) (by rw [hRm]; exact ⟨by decide, by decide⟩) (Nat.le_of_ble_eq_true rfl) (fun o29 v29 ρ29 Z29 hq29 _ => ?_)
      obtain ⟨rfl, rfl, rfl, r29, rfl, hq29⟩ := hq29
      show wp g X F_m_behind 0 0 32 [(2, 178)] [(0, r29), (2, 178)] v1 ρ Z
      have hk29 := ky_of hT1 12 (by decide) (by decide) hq29
      have hz29 : r29 = 0 ∨ r29 = 1 ∧ v1 178 11 = 1 := by omega
      replace hq29 := Hd.i hq29
      first | refine r_if_eq (pc := 32) hX 14 (tgt := 40) rfl (by decide) (⟨by omega, by omega⟩) (fun h32 => ?_) (fun h32 => ?_) | refine r_if_eq_any (pc := 32) hX 14 (tgt := 40) rfl (by decide) ?_ ?_
      · refine r_bipush (pc := 40) hX 17 rfl (by decide) ?_
        refine r_callV (as := [(0, 22)]) (st := []) (K := 12) (pc := 42) hX 18 rfl mo_m_joins ml_X12_515 im_m_joins se_m_joins (c_joinsS g v1 ρ Z hG (22) (by omega) (hq1) (hd1.1) (hd1.2)) rfl rfl rfl hG.1 (by rw [hRm]; exact ⟨by decide, by decide⟩) (by rw [hRm]; exact ⟨by decide, by decide⟩) (Nat.le_of_ble_eq_true rfl) (fun o42 v42 ρ42 Z42 hq42 _ => ?_)
        obtain ⟨rfl, rfl, hfr42, rfl, hq42⟩ := hq42
        have hk42_3 : v42 178 3 = (v1 178 3) := (hfr42.2 3 (by decide)).trans (rfl)
        have hk42_4 : v42 178 4 = (v1 178 4) := (hfr42.2 4 (by decide)).trans (rfl)
        have hk42_5 : v42 178 5 = (v1 178 5) := (hfr42.2 5 (by decide)).trans (rfl)
        have hk42_11 : v42 178 11 = (v1 178 11) := (hfr42.2 11 (by decide)).trans (rfl)
        have hk42_14 : v42 178 14 = (v1 178 14) := (hfr42.2 14 (by decide)).trans (rfl)
        have hk42_25 : v42 178 25 = (v1 178 25) := (hfr42.2 25 (by decide)).trans (rfl)
        have hk42_52 : v42 178 52 = (v1 178 52) := (hfr42.2 52 (by decide)).trans (rfl)
        have hk42_55 : v42 178 55 = (v1 178 55) := (hfr42.2 55 (by decide)).trans (rfl)
        have hk42_2 : v42 178 2 = (v1 178 2) := (hfr42.2 2 (by decide)).trans (rfl)
        have hk42_54 : v42 178 54 = (v1 178 54) := (hfr42.2 54 (by decide)).trans (rfl)
        show wp g X F_m_behind 0 0 45 [(2, 178)] [] v42 ρ Z
        have et42 : v42 205 = v1 205 := hfr42.1 205 (by decide) (by decide)
        have hs42 := hq42.1
        have hd42 := hq42.2.2
        clear hq42
        rw [← et42, ← hk42_52] at hs42
        rw [← et42, ← hk42_54] at hd42
        have in42 := hs42.nums
        have hT42 : TkM F n m v42 p := hT1.fr hfr42 (by decide) (by decide)
        refine t_getR (pc := 45) hX 19 rfl rfl rfl fl_X12_114 rfl hG.1 (a_stack hG).1 ?_
        refine t_getI (y := (v42 178 53)) (pc := 49) hX 21 rfl rfl rfl fl_X12_493 rfl hG.1 (rfl) ?_
        refine r_aload_n (pc := 53) hX 23 rfl rfl ?_
        refine r_ldc2 (y := 6385252) (pc := 54) hX 24 rfl kl_X12_154 (by decide) ?_
        refine r_callV (as := [(1, 6385252)]) (st := [(0, (v42 178 53)), (2, 205)]) (K := 12) (pc := 57) hX 25 rfl mo_m_isWord ml_X12_247 im_m_isWord se_m_isWord (c_isWordT g v42 ρ Z hG (6385252) (hT42) (by (repeat (first | rw [up_k (by decide)] | rw [up_s] | rw [up_r (by decide)])); omega) (by decide)) rfl rfl rfl hG.1 (by rw [hRm]; exact ⟨by decide, by decide⟩) (by rw [hRm]; exact ⟨by decide, by decide⟩) (Nat.le_of_ble_eq_true rfl) (fun o57 v57 ρ57 Z57 hq57 _ => ?_)
        obtain ⟨rfl, rfl, rfl, r57, rfl, hq57⟩ := hq57
        show wp g X F_m_behind 0 0 60 [(2, 178)] [(0, r57), (0, (v42 178 53)), (2, 205)] v42 ρ Z
        have hk57 := ky_of hT42 12 (by decide) (by decide) hq57
        replace hq57 := Hd.i hq57
        first | refine r_if_eq (pc := 60) hX 26 (tgt := 68) rfl (by decide) (⟨by omega, by omega⟩) (fun h60 => ?_) (fun h60 => ?_) | refine r_if_eq_any (pc := 60) hX 26 (tgt := 68) rfl (by decide) ?_ ?_
        · refine r_bipush (pc := 68) hX 29 rfl (by decide) ?_
          refine e_iast (pc := 70) hX 30 rfl (a_stack hG).2.1 (a_stack hG).2.2 (by decide) (by omega) (by omega) ?_
          refine r_aload_n (pc := 71) hX 31 rfl rfl ?_
          refine r_dup (pc := 72) hX 32 rfl (show (2 : Nat) ≠ 1 by decide) ?_
          refine e_getI (y := (v42 178 53)) (pc := 73) hX 33 rfl fl_X12_493 rfl hG.1 ((up_r (by decide)).trans (rfl)) ?_
          refine r_iconst (pc := 76) hX 34 rfl ?_
          refine r_iadd (pc := 77) hX 35 rfl ?_
          refine r_putI (pc := 78) hX 36 rfl fl_X12_493 rfl (fun _ h => by cases h; rfl) hG.1 (by decide) ?_
          refine r_aload_n (pc := 81) hX 37 rfl rfl ?_
          refine r_iconst (pc := 82) hX 38 rfl ?_
          refine r_putZ (pc := 83) hX 39 rfl fl_X12_509 rfl (fun _ h => by cases h; rfl) ⟨by omega, by omega⟩ hG.1 (by decide) ?_
          refine r_aload_n (pc := 86) hX 40 rfl rfl ?_
          refine r_callV (as := []) (st := []) (K := 12) (pc := 87) hX 41 rfl mo_m_go ml_X12_219 im_m_go se_m_go (c_goT g (up (up (up v42 205 (v42 178 53) 22) 178 53 ((v42 178 53) + 1)) 178 55 0) ρ Z hG  (by (repeat (first | rw [up_k (by decide)] | rw [up_s] | rw [up_r (by decide)])); omega) (((hT42.arr (by decide) (by decide)).fld (by decide)).fld (by decide))) rfl rfl rfl hG.1 (by rw [hRm]; exact ⟨by decide, by decide⟩) (by rw [hRm]; exact ⟨by decide, by decide⟩) (Nat.le_of_ble_eq_true rfl) (fun o87 v87 ρ87 Z87 hq87 _ => ?_)
          obtain ⟨rfl, rfl, hfr87, rfl, hq87⟩ := hq87
          try simp only [up_f (show (178 : Int) ≠ 205 by decide), up_f (show (180 : Int) ≠ 178 by decide), up_f (show (180 : Int) ≠ 205 by decide), up_k (show (3 : Int) ≠ 53 by decide), up_k (show (3 : Int) ≠ 55 by decide), up_k (show (4 : Int) ≠ 53 by decide), up_k (show (4 : Int) ≠ 55 by decide)] at hq87
          have hk87_3 : v87 178 3 = (v42 178 3) := (hfr87.2 3 (by decide)).trans ((up_k (by decide)).trans ((up_k (by decide)).trans ((up_r (by decide)).trans (rfl))))
          have hk87_5 : v87 178 5 = (v42 178 5) := (hfr87.2 5 (by decide)).trans ((up_k (by decide)).trans ((up_k (by decide)).trans ((up_r (by decide)).trans (rfl))))
          have hk87_25 : v87 178 25 = (v42 178 25) := (hfr87.2 25 (by decide)).trans ((up_k (by decide)).trans ((up_k (by decide)).trans ((up_r (by decide)).trans (rfl))))
          have hk87_51 : v87 178 51 = (v42 178 51) := (hfr87.2 51 (by decide)).trans ((up_k (by decide)).trans ((up_k (by decide)).trans ((up_r (by decide)).trans (rfl))))
          have hk87_52 : v87 178 52 = (v42 178 52) := (hfr87.2 52 (by decide)).trans ((up_k (by decide)).trans ((up_k (by decide)).trans ((up_r (by decide)).trans (rfl))))
          have hk87_53 : v87 178 53 = ((v42 178 53) + 1) := (hfr87.2 53 (by decide)).trans ((up_k (by decide)).trans (up_s _ _ _ _))
          have hk87_55 : v87 178 55 = 0 := (hfr87.2 55 (by decide)).trans (up_s _ _ _ _)
          have hk87_2 : v87 178 2 = (v42 178 2) := (hfr87.2 2 (by decide)).trans ((up_k (by decide)).trans ((up_k (by decide)).trans ((up_r (by decide)).trans (rfl))))
          have hk87_54 : v87 178 54 = (v42 178 54) := (hfr87.2 54 (by decide)).trans ((up_k (by decide)).trans ((up_k (by decide)).trans ((up_r (by decide)).trans (rfl))))
          show wp g X F_m_behind 0 0 90 [(2, 178)] [] v87 ρ Z
          have er87 : v87 182 = v42 182 := by rw [hfr87.1 182 (by decide) (by decide)]; (repeat rw [up_f (by decide)])
          have hu87 : ∀ k, 0 ≤ k → k < v42 178 53 → v87 205 k = v42 205 k := fun k a b => by rw [hfr87.1 205 (by decide) (by decide)]; (repeat rw [up_f (by decide)]); rw [up_k (by omega)]
          have ha87 : v87 205 (v42 178 53) = 21 ∨ v87 205 (v42 178 53) = 22 := by rw [hfr87.1 205 (by decide) (by decide)]; (repeat rw [up_f (by decide)]); rw [up_s]; first | exact Or.inl rfl | exact Or.inr rfl
          have hg87 := hT42.adv hq87.2 (by omega)
          have hst87 : StD (v87 205) (v87 178 53) (v87 178 54) (nts S) := by
            rw [hk87_53, hk87_54]
            refine ⟨(hd42.1.1.cg hu87).jn ?_ ha87, hd42.1.2⟩
            by_cases z0 : v42 178 53 = 0
            · exact Or.inl z0
            · rw [hu87 _ (by omega) (by omega)]; exact hd42.2
          refine r_iconst (pc := 90) hX 42 rfl ?_
          exact r_zret (pc := 91) hX 43 hQ rfl rfl ⟨by omega, by omega⟩ (Nat.le_refl 0) (Nat.le_refl 0) ⟨rfl, rfl, ((((((Fr.rf).tr hfr1 (by decide) (by decide)).tr hfr42 (by decide) (by decide)).arr (r := 205) (by decide) (by decide)).fld (k := 53) (by decide)).fld (k := 55) (by decide)).tr hfr87 (by decide) (by decide), 1, rfl, (by (repeat (first | rw [up_k (by decide)] | rw [up_s] | rw [up_r (by decide)])); omega), (Or.inr ⟨rfl, by rw [hk87_51, hk87_53, hk87_52, hk87_55, er87]; exact hs42.op hu87 rfl ha87, by omega, by omega⟩), (SmP.mk0 (S2 := nts S) (p2 := tp F n m p) (o2 := v 178 52) hst87 hq87.2 (by omega) (by omega) (sR_join (by omega) hp0 hp1 (by omega)))⟩
        · refine r_bipush (pc := 63) hX 27 rfl (by decide) ?_
          refine r_goto (pc := 65) hX 28 (tgt := 70) rfl (by decide) ?_
          refine e_iast (pc := 70) hX 30 rfl (a_stack hG).2.1 (a_stack hG).2.2 (by decide) (by omega) (by omega) ?_
          refine r_aload_n (pc := 71) hX 31 rfl rfl ?_
          refine r_dup (pc := 72) hX 32 rfl (show (2 : Nat) ≠ 1 by decide) ?_
          refine e_getI (y := (v42 178 53)) (pc := 73) hX 33 rfl fl_X12_493 rfl hG.1 ((up_r (by decide)).trans (rfl)) ?_
          refine r_iconst (pc := 76) hX 34 rfl ?_
          refine r_iadd (pc := 77) hX 35 rfl ?_
          refine r_putI (pc := 78) hX 36 rfl fl_X12_493 rfl (fun _ h => by cases h; rfl) hG.1 (by decide) ?_
          refine r_aload_n (pc := 81) hX 37 rfl rfl ?_
          refine r_iconst (pc := 82) hX 38 rfl ?_
          refine r_putZ (pc := 83) hX 39 rfl fl_X12_509 rfl (fun _ h => by cases h; rfl) ⟨by omega, by omega⟩ hG.1 (by decide) ?_
          refine r_aload_n (pc := 86) hX 40 rfl rfl ?_
          refine r_callV (as := []) (st := []) (K := 12) (pc := 87) hX 41 rfl mo_m_go ml_X12_219 im_m_go se_m_go (c_goT g (up (up (up v42 205 (v42 178 53) 21) 178 53 ((v42 178 53) + 1)) 178 55 0) ρ Z hG  (by (repeat (first | rw [up_k (by decide)] | rw [up_s] | rw [up_r (by decide)])); omega) (((hT42.arr (by decide) (by decide)).fld (by decide)).fld (by decide))) rfl rfl rfl hG.1 (by rw [hRm]; exact ⟨by decide, by decide⟩) (by rw [hRm]; exact ⟨by decide, by decide⟩) (Nat.le_of_ble_eq_true rfl) (fun o87 v87 ρ87 Z87 hq87 _ => ?_)
          obtain ⟨rfl, rfl, hfr87, rfl, hq87⟩ := hq87
          try simp only [up_f (show (178 : Int) ≠ 205 by decide), up_f (show (180 : Int) ≠ 178 by decide), up_f (show (180 : Int) ≠ 205 by decide), up_k (show (3 : Int) ≠ 53 by decide), up_k (show (3 : Int) ≠ 55 by decide), up_k (show (4 : Int) ≠ 53 by decide), up_k (show (4 : Int) ≠ 55 by decide)] at hq87
          have hk87_3 : v87 178 3 = (v42 178 3) := (hfr87.2 3 (by decide)).trans ((up_k (by decide)).trans ((up_k (by decide)).trans ((up_r (by decide)).trans (rfl))))
          have hk87_5 : v87 178 5 = (v42 178 5) := (hfr87.2 5 (by decide)).trans ((up_k (by decide)).trans ((up_k (by decide)).trans ((up_r (by decide)).trans (rfl))))
          have hk87_25 : v87 178 25 = (v42 178 25) := (hfr87.2 25 (by decide)).trans ((up_k (by decide)).trans ((up_k (by decide)).trans ((up_r (by decide)).trans (rfl))))
          have hk87_51 : v87 178 51 = (v42 178 51) := (hfr87.2 51 (by decide)).trans ((up_k (by decide)).trans ((up_k (by decide)).trans ((up_r (by decide)).trans (rfl))))
          have hk87_52 : v87 178 52 = (v42 178 52) := (hfr87.2 52 (by decide)).trans ((up_k (by decide)).trans ((up_k (by decide)).trans ((up_r (by decide)).trans (rfl))))
          have hk87_53 : v87 178 53 = ((v42 178 53) + 1) := (hfr87.2 53 (by decide)).trans ((up_k (by decide)).trans (up_s _ _ _ _))
          have hk87_55 : v87 178 55 = 0 := (hfr87.2 55 (by decide)).trans (up_s _ _ _ _)
          have hk87_2 : v87 178 2 = (v42 178 2) := (hfr87.2 2 (by decide)).trans ((up_k (by decide)).trans ((up_k (by decide)).trans ((up_r (by decide)).trans (rfl))))
          have hk87_54 : v87 178 54 = (v42 178 54) := (hfr87.2 54 (by decide)).trans ((up_k (by decide)).trans ((up_k (by decide)).trans ((up_r (by decide)).trans (rfl))))
          show wp g X F_m_behind 0 0 90 [(2, 178)] [] v87 ρ Z
          have er87 : v87 182 = v42 182 := by rw [hfr87.1 182 (by decide) (by decide)]; (repeat rw [up_f (by decide)])
          have hu87 : ∀ k, 0 ≤ k → k < v42 178 53 → v87 205 k = v42 205 k := fun k a b => by rw [hfr87.1 205 (by decide) (by decide)]; (repeat rw [up_f (by decide)]); rw [up_k (by omega)]
          have ha87 : v87 205 (v42 178 53) = 21 ∨ v87 205 (v42 178 53) = 22 := by rw [hfr87.1 205 (by decide) (by decide)]; (repeat rw [up_f (by decide)]); rw [up_s]; first | exact Or.inl rfl | exact Or.inr rfl
          have hg87 := hT42.adv hq87.2 (by omega)
          have hst87 : StD (v87 205) (v87 178 53) (v87 178 54) (nts S) := by
            rw [hk87_53, hk87_54]
            refine ⟨(hd42.1.1.cg hu87).jn ?_ ha87, hd42.1.2⟩
            by_cases z0 : v42 178 53 = 0
            · exact Or.inl z0
            · rw [hu87 _ (by omega) (by omega)]; exact hd42.2
          refine r_iconst (pc := 90) hX 42 rfl ?_
          exact r_zret (pc := 91) hX 43 hQ rfl rfl ⟨by omega, by omega⟩ (Nat.le_refl 0) (Nat.le_refl 0) ⟨rfl, rfl, ((((((Fr.rf).tr hfr1 (by decide) (by decide)).tr hfr42 (by decide) (by decide)).arr (r := 205) (by decide) (by decide)).fld (k := 53) (by decide)).fld (k := 55) (by decide)).tr hfr87 (by decide) (by decide), 1, rfl, (by (repeat (first | rw [up_k (by decide)] | rw [up_s] | rw [up_r (by decide)])); omega), (Or.inr ⟨rfl, by rw [hk87_51, hk87_53, hk87_52, hk87_55, er87]; exact hs42.op hu87 rfl ha87, by omega, by omega⟩), (SmP.mk0 (S2 := nts S) (p2 := tp F n m p) (o2 := v 178 52) hst87 hq87.2 (by omega) (by omega) (sR_join (by omega) hp0 hp1 (by omega)))⟩
      · refine r_bipush (pc := 35) hX 15 rfl (by decide) ?_
        refine r_goto (pc := 37) hX 16 (tgt := 42) rfl (by decide) ?_
        refine r_callV (as := [(0, 21)]) (st := []) (K := 12) (pc := 42) hX 18 rfl mo_m_joins ml_X12_515 im_m_joins se_m_joins (c_joinsS g v1 ρ Z hG (21) (by omega) (hq1) (hd1.1) (hd1.2)) rfl rfl rfl hG.1 (by rw [hRm]; exact ⟨by decide, by decide⟩) (by rw [hRm]; exact ⟨by decide, by decide⟩) (Nat.le_of_ble_eq_true rfl) (fun o42 v42 ρ42 Z42 hq42 _ => ?_)
        obtain ⟨rfl, rfl, hfr42, rfl, hq42⟩ := hq42
        have hk42_3 : v42 178 3 = (v1 178 3) := (hfr42.2 3 (by decide)).trans (rfl)
        have hk42_4 : v42 178 4 = (v1 178 4) := (hfr42.2 4 (by decide)).trans (rfl)
        have hk42_5 : v42 178 5 = (v1 178 5) := (hfr42.2 5 (by decide)).trans (rfl)
        have hk42_11 : v42 178 11 = (v1 178 11) := (hfr42.2 11 (by decide)).trans (rfl)
        have hk42_14 : v42 178 14 = (v1 178 14) := (hfr42.2 14 (by decide)).trans (rfl)
        have hk42_25 : v42 178 25 = (v1 178 25) := (hfr42.2 25 (by decide)).trans (rfl)
        have hk42_52 : v42 178 52 = (v1 178 52) := (hfr42.2 52 (by decide)).trans (rfl)
        have hk42_55 : v42 178 55 = (v1 178 55) := (hfr42.2 55 (by decide)).trans (rfl)
        have hk42_2 : v42 178 2 = (v1 178 2) := (hfr42.2 2 (by decide)).trans (rfl)
        have hk42_54 : v42 178 54 = (v1 178 54) := (hfr42.2 54 (by decide)).trans (rfl)
        show wp g X F_m_behind 0 0 45 [(2, 178)] [] v42 ρ Z
        have et42 : v42 205 = v1 205 := hfr42.1 205 (by decide) (by decide)
        have hs42 := hq42.1
        have hd42 := hq42.2.2
        clear hq42
        rw [← et42, ← hk42_52] at hs42
        rw [← et42, ← hk42_54] at hd42
        have in42 := hs42.nums
        have hT42 : TkM F n m v42 p := hT1.fr hfr42 (by decide) (by decide)
        refine t_getR (pc := 45) hX 19 rfl rfl rfl fl_X12_114 rfl hG.1 (a_stack hG).1 ?_
        refine t_getI (y := (v42 178 53)) (pc := 49) hX 21 rfl rfl rfl fl_X12_493 rfl hG.1 (rfl) ?_
        refine r_aload_n (pc := 53) hX 23 rfl rfl ?_
        refine r_ldc2 (y := 6385252) (pc := 54) hX 24 rfl kl_X12_154 (by decide) ?_
        refine r_callV (as := [(1, 6385252)]) (st := [(0, (v42 178 53)), (2, 205)]) (K := 12) (pc := 57) hX 25 rfl mo_m_isWord ml_X12_247 im_m_isWord se_m_isWord (c_isWordT g v42 ρ Z hG (6385252) (hT42) (by (repeat (first | rw [up_k (by decide)] | rw [up_s] | rw [up_r (by decide)])); omega) (by decide)) rfl rfl rfl hG.1 (by rw [hRm]; exact ⟨by decide, by decide⟩) (by rw [hRm]; exact ⟨by decide, by decide⟩) (Nat.le_of_ble_eq_true rfl) (fun o57 v57 ρ57 Z57 hq57 _ => ?_)
        obtain ⟨rfl, rfl, rfl, r57, rfl, hq57⟩ := hq57
        show wp g X F_m_behind 0 0 60 [(2, 178)] [(0, r57), (0, (v42 178 53)), (2, 205)] v42 ρ Z
        have hk57 := ky_of hT42 12 (by decide) (by decide) hq57
        replace hq57 := Hd.i hq57
        first | refine r_if_eq (pc := 60) hX 26 (tgt := 68) rfl (by decide) (⟨by omega, by omega⟩) (fun h60 => ?_) (fun h60 => ?_) | refine r_if_eq_any (pc := 60) hX 26 (tgt := 68) rfl (by decide) ?_ ?_
        · refine r_bipush (pc := 68) hX 29 rfl (by decide) ?_
          refine e_iast (pc := 70) hX 30 rfl (a_stack hG).2.1 (a_stack hG).2.2 (by decide) (by omega) (by omega) ?_
          refine r_aload_n (pc := 71) hX 31 rfl rfl ?_
          refine r_dup (pc := 72) hX 32 rfl (show (2 : Nat) ≠ 1 by decide) ?_
          refine e_getI (y := (v42 178 53)) (pc := 73) hX 33 rfl fl_X12_493 rfl hG.1 ((up_r (by decide)).trans (rfl)) ?_
          refine r_iconst (pc := 76) hX 34 rfl ?_
          refine r_iadd (pc := 77) hX 35 rfl ?_
          refine r_putI (pc := 78) hX 36 rfl fl_X12_493 rfl (fun _ h => by cases h; rfl) hG.1 (by decide) ?_
          refine r_aload_n (pc := 81) hX 37 rfl rfl ?_
          refine r_iconst (pc := 82) hX 38 rfl ?_
          refine r_putZ (pc := 83) hX 39 rfl fl_X12_509 rfl (fun _ h => by cases h; rfl) ⟨by omega, by omega⟩ hG.1 (by decide) ?_
          refine r_aload_n (pc := 86) hX 40 rfl rfl ?_
          refine r_callV (as := []) (st := []) (K := 12) (pc := 87) hX 41 rfl mo_m_go ml_X12_219 im_m_go se_m_go (c_goT g (up (up (up v42 205 (v42 178 53) 22) 178 53 ((v42 178 53) + 1)) 178 55 0) ρ Z hG  (by (repeat (first | rw [up_k (by decide)] | rw [up_s] | rw [up_r (by decide)])); omega) (((hT42.arr (by decide) (by decide)).fld (by decide)).fld (by decide))) rfl rfl rfl hG.1 (by rw [hRm]; exact ⟨by decide, by decide⟩) (by rw [hRm]; exact ⟨by decide, by decide⟩) (Nat.le_of_ble_eq_true rfl) (fun o87 v87 ρ87 Z87 hq87 _ => ?_)
          obtain ⟨rfl, rfl, hfr87, rfl, hq87⟩ := hq87
          try simp only [up_f (show (178 : Int) ≠ 205 by decide), up_f (show (180 : Int) ≠ 178 by decide), up_f (show (180 : Int) ≠ 205 by decide), up_k (show (3 : Int) ≠ 53 by decide), up_k (show (3 : Int) ≠ 55 by decide), up_k (show (4 : Int) ≠ 53 by decide), up_k (show (4 : Int) ≠ 55 by decide)] at hq87
          have hk87_3 : v87 178 3 = (v42 178 3) := (hfr87.2 3 (by decide)).trans ((up_k (by decide)).trans ((up_k (by decide)).trans ((up_r (by decide)).trans (rfl))))
          have hk87_5 : v87 178 5 = (v42 178 5) := (hfr87.2 5 (by decide)).trans ((up_k (by decide)).trans ((up_k (by decide)).trans ((up_r (by decide)).trans (rfl))))
          have hk87_25 : v87 178 25 = (v42 178 25) := (hfr87.2 25 (by decide)).trans ((up_k (by decide)).trans ((up_k (by decide)).trans ((up_r (by decide)).trans (rfl))))
          have hk87_51 : v87 178 51 = (v42 178 51) := (hfr87.2 51 (by decide)).trans ((up_k (by decide)).trans ((up_k (by decide)).trans ((up_r (by decide)).trans (rfl))))
          have hk87_52 : v87 178 52 = (v42 178 52) := (hfr87.2 52 (by decide)).trans ((up_k (by decide)).trans ((up_k (by decide)).trans ((up_r (by decide)).trans (rfl))))
          have hk87_53 : v87 178 53 = ((v42 178 53) + 1) := (hfr87.2 53 (by decide)).trans ((up_k (by decide)).trans (up_s _ _ _ _))
          have hk87_55 : v87 178 55 = 0 := (hfr87.2 55 (by decide)).trans (up_s _ _ _ _)
          have hk87_2 : v87 178 2 = (v42 178 2) := (hfr87.2 2 (by decide)).trans ((up_k (by decide)).trans ((up_k (by decide)).trans ((up_r (by decide)).trans (rfl))))
          have hk87_54 : v87 178 54 = (v42 178 54) := (hfr87.2 54 (by decide)).trans ((up_k (by decide)).trans ((up_k (by decide)).trans ((up_r (by decide)).trans (rfl))))
          show wp g X F_m_behind 0 0 90 [(2, 178)] [] v87 ρ Z
          have er87 : v87 182 = v42 182 := by rw [hfr87.1 182 (by decide) (by decide)]; (repeat rw [up_f (by decide)])
          have hu87 : ∀ k, 0 ≤ k → k < v42 178 53 → v87 205 k = v42 205 k := fun k a b => by rw [hfr87.1 205 (by decide) (by decide)]; (repeat rw [up_f (by decide)]); rw [up_k (by omega)]
          have ha87 : v87 205 (v42 178 53) = 21 ∨ v87 205 (v42 178 53) = 22 := by rw [hfr87.1 205 (by decide) (by decide)]; (repeat rw [up_f (by decide)]); rw [up_s]; first | exact Or.inl rfl | exact Or.inr rfl
          have hg87 := hT42.adv hq87.2 (by omega)
          have hst87 : StD (v87 205) (v87 178 53) (v87 178 54) (nts S) := by
            rw [hk87_53, hk87_54]
            refine ⟨(hd42.1.1.cg hu87).jn ?_ ha87, hd42.1.2⟩
            by_cases z0 : v42 178 53 = 0
            · exact Or.inl z0
            · rw [hu87 _ (by omega) (by omega)]; exact hd42.2
          refine r_iconst (pc := 90) hX 42 rfl ?_
          exact r_zret (pc := 91) hX 43 hQ rfl rfl ⟨by omega, by omega⟩ (Nat.le_refl 0) (Nat.le_refl 0) ⟨rfl, rfl, ((((((Fr.rf).tr hfr1 (by decide) (by decide)).tr hfr42 (by decide) (by decide)).arr (r := 205) (by decide) (by decide)).fld (k := 53) (by decide)).fld (k := 55) (by decide)).tr hfr87 (by decide) (by decide), 1, rfl, (by (repeat (first | rw [up_k (by decide)] | rw [up_s] | rw [up_r (by decide)])); omega), (Or.inr ⟨rfl, by rw [hk87_51, hk87_53, hk87_52, hk87_55, er87]; exact hs42.op hu87 rfl ha87, by omega, by omega⟩), (SmP.mk0 (S2 := nts S) (p2 := tp F n m p) (o2 := v 178 52) hst87 hq87.2 (by omega) (by omega) (sR_join (by omega) hp0 hp1 (by omega)))⟩
        · refine r_bipush (pc := 63) hX 27 rfl (by decide) ?_
          refine r_goto (pc := 65) hX 28 (tgt := 70) rfl (by decide) ?_
          refine e_iast (pc := 70) hX 30 rfl (a_stack hG).2.1 (a_stack hG).2.2 (by decide) (by omega) (by omega) ?_
          refine r_aload_n (pc := 71) hX 31 rfl rfl ?_
          refine r_dup (pc := 72) hX 32 rfl (show (2 : Nat) ≠ 1 by decide) ?_
          refine e_getI (y := (v42 178 53)) (pc := 73) hX 33 rfl fl_X12_493 rfl hG.1 ((up_r (by decide)).trans (rfl)) ?_
          refine r_iconst (pc := 76) hX 34 rfl ?_
          refine r_iadd (pc := 77) hX 35 rfl ?_
          refine r_putI (pc := 78) hX 36 rfl fl_X12_493 rfl (fun _ h => by cases h; rfl) hG.1 (by decide) ?_
          refine r_aload_n (pc := 81) hX 37 rfl rfl ?_
          refine r_iconst (pc := 82) hX 38 rfl ?_
          refine r_putZ (pc := 83) hX 39 rfl fl_X12_509 rfl (fun _ h => by cases h; rfl) ⟨by omega, by omega⟩ hG.1 (by decide) ?_
          refine r_aload_n (pc := 86) hX 40 rfl rfl ?_
          refine r_callV (as := []) (st := []) (K := 12) (pc := 87) hX 41 rfl mo_m_go ml_X12_219 im_m_go se_m_go (c_goT g (up (up (up v42 205 (v42 178 53) 21) 178 53 ((v42 178 53) + 1)) 178 55 0) ρ Z hG  (by (repeat (first | rw [up_k (by decide)] | rw [up_s] | rw [up_r (by decide)])); omega) (((hT42.arr (by decide) (by decide)).fld (by decide)).fld (by decide))) rfl rfl rfl hG.1 (by rw [hRm]; exact ⟨by decide, by decide⟩) (by rw [hRm]; exact ⟨by decide, by decide⟩) (Nat.le_of_ble_eq_true rfl) (fun o87 v87 ρ87 Z87 hq87 _ => ?_)
          obtain ⟨rfl, rfl, hfr87, rfl, hq87⟩ := hq87
          try simp only [up_f (show (178 : Int) ≠ 205 by decide), up_f (show (180 : Int) ≠ 178 by decide), up_f (show (180 : Int) ≠ 205 by decide), up_k (show (3 : Int) ≠ 53 by decide), up_k (show (3 : Int) ≠ 55 by decide), up_k (show (4 : Int) ≠ 53 by decide), up_k (show (4 : Int) ≠ 55 by decide)] at hq87
          have hk87_3 : v87 178 3 = (v42 178 3) := (hfr87.2 3 (by decide)).trans ((up_k (by decide)).trans ((up_k (by decide)).trans ((up_r (by decide)).trans (rfl))))
          have hk87_5 : v87 178 5 = (v42 178 5) := (hfr87.2 5 (by decide)).trans ((up_k (by decide)).trans ((up_k (by decide)).trans ((up_r (by decide)).trans (rfl))))
          have hk87_25 : v87 178 25 = (v42 178 25) := (hfr87.2 25 (by decide)).trans ((up_k (by decide)).trans ((up_k (by decide)).trans ((up_r (by decide)).trans (rfl))))
          have hk87_51 : v87 178 51 = (v42 178 51) := (hfr87.2 51 (by decide)).trans ((up_k (by decide)).trans ((up_k (by decide)).trans ((up_r (by decide)).trans (rfl))))
          have hk87_52 : v87 178 52 = (v42 178 52) := (hfr87.2 52 (by decide)).trans ((up_k (by decide)).trans ((up_k (by decide)).trans ((up_r (by decide)).trans (rfl))))
          have hk87_53 : v87 178 53 = ((v42 178 53) + 1) := (hfr87.2 53 (by decide)).trans ((up_k (by decide)).trans (up_s _ _ _ _))
          have hk87_55 : v87 178 55 = 0 := (hfr87.2 55 (by decide)).trans (up_s _ _ _ _)
          have hk87_2 : v87 178 2 = (v42 178 2) := (hfr87.2 2 (by decide)).trans ((up_k (by decide)).trans ((up_k (by decide)).trans ((up_r (by decide)).trans (rfl))))
          have hk87_54 : v87 178 54 = (v42 178 54) := (hfr87.2 54 (by decide)).trans ((up_k (by decide)).trans ((up_k (by decide)).trans ((up_r (by decide)).trans (rfl))))
          show wp g X F_m_behind 0 0 90 [(2, 178)] [] v87 ρ Z
          have er87 : v87 182 = v42 182 := by rw [hfr87.1 182 (by decide) (by decide)]; (repeat rw [up_f (by decide)])
          have hu87 : ∀ k, 0 ≤ k → k < v42 178 53 → v87 205 k = v42 205 k := fun k a b => by rw [hfr87.1 205 (by decide) (by decide)]; (repeat rw [up_f (by decide)]); rw [up_k (by omega)]
          have ha87 : v87 205 (v42 178 53) = 21 ∨ v87 205 (v42 178 53) = 22 := by rw [hfr87.1 205 (by decide) (by decide)]; (repeat rw [up_f (by decide)]); rw [up_s]; first | exact Or.inl rfl | exact Or.inr rfl
          have hg87 := hT42.adv hq87.2 (by omega)
          have hst87 : StD (v87 205) (v87 178 53) (v87 178 54) (nts S) := by
            rw [hk87_53, hk87_54]
            refine ⟨(hd42.1.1.cg hu87).jn ?_ ha87, hd42.1.2⟩
            by_cases z0 : v42 178 53 = 0
            · exact Or.inl z0
            · rw [hu87 _ (by omega) (by omega)]; exact hd42.2
          refine r_iconst (pc := 90) hX 42 rfl ?_
          exact r_zret (pc := 91) hX 43 hQ rfl rfl ⟨by omega, by omega⟩ (Nat.le_refl 0) (Nat.le_refl 0) ⟨rfl, rfl, ((((((Fr.rf).tr hfr1 (by decide) (by decide)).tr hfr42 (by decide) (by decide)).arr (r := 205) (by decide) (by decide)).fld (k := 53) (by decide)).fld (k := 55) (by decide)).tr hfr87 (by decide) (by decide), 1, rfl, (by (repeat (first | rw [up_k (by decide)] | rw [up_s] | rw [up_r (by decide)])); omega), (Or.inr ⟨rfl, by rw [hk87_51, hk87_53, hk87_52, hk87_55, er87]; exact hs42.op hu87 rfl ha87, by omega, by omega⟩), (SmP.mk0 (S2 := nts S) (p2 := tp F n m p) (o2 := v 178 52) hst87 hq87.2 (by omega) (by omega) (sR_join (by omega) hp0 hp1 (by omega)))⟩
