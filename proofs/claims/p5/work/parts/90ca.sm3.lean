set_option maxHeartbeats 4000000 in
set_option maxRecDepth 100000 in
theorem c_operandS (g : Gp) (v ρ : Mv) (Z : Mz) (hG : GM ρ Z) {F N : Int → Int} {n m p : Int} {S : List Bool}  (hL : 0 ≤ v 178 4 ∧ v 178 4 ≤ v 178 3 ∧ v 178 3 ≤ 940 ∧ 0 ≤ v 178 11 ∧ v 178 11 ≤ 4 ∧ inR (v 178 5) ∧ inR (v 178 14)) (hT : TkM F n m v p) (hS : SInv (v 180)) (hN : SnI (v 182) (v 205) (v 178 51) (v 178 53) (v 178 52) 0) (hw : v 178 55 = 0) (hD : StD (v 205) (v 178 53) (v 178 54) S) (hrs : RsI (v 184)) (hNm : ∀ j, 0 ≤ j → j < v 180 0 → NmW (N (0 + j)) (v 183 (0 + j))) : Ok g 3 0 0 F_m_operand [(2, 178)] v ρ Z (fun o v' ρ' Z' => ρ = ρ' ∧ Z = Z' ∧ Fr [182, 205] [4, 11, 12, 13, 14, 15, 16, 17, 51, 52, 53, 54, 55] v v' ∧ ∃ r : Int, o = some (0, r) ∧ (0 ≤ v' 178 4 ∧ v' 178 4 ≤ v' 178 3 ∧ v' 178 3 ≤ 940 ∧ 0 ≤ v' 178 11 ∧ v' 178 11 ≤ 4 ∧ inR (v' 178 5) ∧ inR (v' 178 14) ∧ v 178 4 ≤ v' 178 4 ∧ v' 178 3 = v 178 3) ∧ ((r = 0 ∨ r = 1 ∧ SnI (v' 182) (v' 205) (v' 178 51) (v' 178 53) (v' 178 52) (v' 178 55) ∧ (v 178 11 = 1 ∨ v 178 11 = 3) ∧ (v 178 4 < v' 178 4 ∨ v' 178 11 = 0 ∨ v' 178 11 = 4))) ∧ (SmP F n m (fun x => fnd N x 0 (v 180 0).toNat 0) false S (v 178 52) p v' r)) := by
  refine Ok.of mo_m_operand (Nat.le_of_ble_eq_true rfl) ?_
  intro X hX hRm hxn hQ
  show wp g X F_m_operand 0 0 0 [(2, 178), (3, 0), (3, 0), (3, 0), (3, 0)] [] v ρ Z
  have in_ := hN.nums
  have hb0 := hS.c0
  have hT0 := hT
  obtain ⟨hp0, hp1, hn3, hm5, hsm, h4p, h11, h12, h14, h17⟩ := hT0
  have hl1 := hD.2
  have hl2 := hD.1.len
  refine r_aload_n (pc := 0) hX 0 rfl rfl ?_
  refine r_ldc2 (y := 7237492) (pc := 1) hX 1 rfl kl_X12_156 (by decide) ?_
  refine r_callV (as := [(1, 7237492)]) (st := []) (K := 12) (pc := 4) hX 2 rfl mo_m_isWord ml_X12_247 im_m_isWord se_m_isWord (c_isWordT g v ρ Z hG (7237492) (hT) (by (repeat (first | rw [up_k (by decide)] | rw [up_s] | rw [up_r (by decide)])); omega) (by decide)) rfl rfl rfl hG.1 (by rw [hRm]; exact ⟨by decide, by decide⟩) (by rw [hRm]; exact ⟨by decide, by decide⟩) (Nat.le_of_ble_eq_true rfl) (fun o4 v4 ρ4 Z4 hq4 _ => ?_)
  obtain ⟨rfl, rfl, rfl, r4, rfl, hq4⟩ := hq4
  show wp g X F_m_operand 0 0 7 [(2, 178), (3, 0), (3, 0), (3, 0), (3, 0)] [(0, r4)] v ρ Z
  have hk4 := ky_of hT 13 (by decide) (by decide) hq4
  have hz4 : r4 = 0 ∨ r4 = 1 ∧ v 178 11 = 1 := by omega
  replace hq4 := Hd.i hq4
  refine r_istore_n (ls' := [(2, 178), (0, r4), (3, 0), (3, 0), (3, 0)]) (pc := 7) hX 3 rfl (by decide) rfl ?_
  refine r_aload_n (pc := 8) hX 4 rfl rfl ?_
  refine r_bipush (pc := 9) hX 5 rfl (by decide) ?_
  refine r_callV (as := [(0, 40)]) (st := []) (K := 12) (pc := 11) hX 6 rfl mo_m_isSign ml_X12_213 im_m_isSign se_m_isSign (c_isSignT g v ρ Z hG (40) (hT) (by (repeat (first | rw [up_k (by decide)] | rw [up_s] | rw [up_r (by decide)])); omega) (by (repeat (first | rw [up_k (by decide)] | rw [up_s] | rw [up_r (by decide)])); omega) (by omega)) rfl rfl rfl hG.1 (by rw [hRm]; exact ⟨by decide, by decide⟩) (by rw [hRm]; exact ⟨by decide, by decide⟩) (Nat.le_of_ble_eq_true rfl) (fun o11 v11 ρ11 Z11 hq11 _ => ?_)
  obtain ⟨rfl, rfl, rfl, r11, rfl, hq11⟩ := hq11
  show wp g X F_m_operand 0 0 14 [(2, 178), (0, r4), (3, 0), (3, 0), (3, 0)] [(0, r11)] v ρ Z
  have hm11 := hq11
  have hz11 : r11 = 0 ∨ r11 = 1 ∧ tk F n m p = 3 := by
    rcases hq11 with ⟨a, b⟩ | ⟨a, -⟩
    · exact Or.inr ⟨a, (of_decide_eq_true b).1⟩
    · exact Or.inl a
  replace hq11 : 0 ≤ r11 ∧ r11 ≤ 1 := by omega
  replace hm11 := Hd.i hm11
  refine r_istore_n (ls' := [(2, 178), (0, r4), (0, r11), (3, 0), (3, 0)]) (pc := 14) hX 7 rfl (by decide) rfl ?_
  refine r_aload_n (pc := 15) hX 8 rfl rfl ?_
  refine r_callV (as := []) (st := []) (K := 12) (pc := 16) hX 9 rfl mo_m_leafOf ml_X12_503 im_m_leafOf se_m_leafOf (c_leafOfS g v ρ Z hG  (hT) (by (repeat (first | rw [up_k (by decide)] | rw [up_s] | rw [up_r (by decide)])); omega)) rfl rfl rfl hG.1 (by rw [hRm]; exact ⟨by decide, by decide⟩) (by rw [hRm]; exact ⟨by decide, by decide⟩) (Nat.le_of_ble_eq_true rfl) (fun o16 v16 ρ16 Z16 hq16 _ => ?_)
  obtain ⟨rfl, rfl, rfl, r16, rfl, hq16⟩ := hq16
  show wp g X F_m_operand 0 0 19 [(2, 178), (0, r4), (0, r11), (3, 0), (3, 0)] [(0, r16)] v ρ Z
  have hk16 := hq16
  have hz16 : r16 = -1 ∨ 0 ≤ r16 ∧ r16 ≤ 7 ∧ tk F n m p = 1 := by
    by_cases z : r16 = -1
    · exact Or.inl z
    · exact Or.inr ⟨by omega, by omega, ky_1 (by omega)⟩
  have hj16 : (r16 < 3 → 0 ≤ r16 → ky F n m p = 14 ∨ ky F n m p = 15 ∨ ky F n m p = 17) ∧ (r16 = 3 → ky F n m p = 16) ∧ (3 < r16 → 18 ≤ ky F n m p ∧ ky F n m p ≤ 21) ∧ (r16 = -1 → ¬ (14 ≤ ky F n m p ∧ ky F n m p ≤ 21)) := by omega
  clear hk16
  replace hq16 : -1 ≤ r16 ∧ r16 ≤ 7 := by omega
  refine r_istore_n (ls' := [(2, 178), (0, r4), (0, r11), (0, r16), (3, 0)]) (pc := 19) hX 10 rfl (by decide) rfl ?_
  refine r_iload_n (pc := 20) hX 11 rfl rfl ?_
  have L38 : ((v 178 11 = 1 ∨ v 178 11 = 3) ∧ (r4 ≠ 0 ∨ r11 ≠ 0 ∨ 0 ≤ r16)) → wp g X F_m_operand 0 0 38 [(2, 178), (0, r4), (0, r11), (0, r16), (3, 0)] [] v ρ Z := by
    intro i38
    refine t_getI (y := (v 178 52)) (pc := 38) hX 21 rfl rfl rfl fl_X12_506 rfl hG.1 (rfl) ?_
    refine r_bipush (pc := 42) hX 23 rfl (by decide) ?_
    have L56 : (20 ≤ v 178 52 ∨ 8 ≤ S.length) → wp g X F_m_operand 0 0 56 [(2, 178), (0, r4), (0, r11), (0, r16), (3, 0)] [] v ρ Z := by
      intro i56
      refine r_aload_n (pc := 56) hX 29 rfl rfl ?_
      refine r_iconst (pc := 57) hX 30 rfl ?_
      refine r_callV (as := [(0, 4)]) (st := []) (K := 12) (pc := 58) hX 31 rfl mo_m_bad ml_X12_216 im_m_bad se_m_bad (c_badF g v ρ Z hG (4) (by omega)) rfl rfl rfl hG.1 (by rw [hRm]; exact ⟨by decide, by decide⟩) (by rw [hRm]; exact ⟨by decide, by decide⟩) (Nat.le_of_ble_eq_true rfl) (fun o58 v58 ρ58 Z58 hq58 _ => ?_)
      obtain ⟨rfl, rfl, hfr58, r58, rfl, hq58⟩ := hq58
      have hSInv_58 : SInv (v58 180) := by rw [hfr58.1 180 (by decide) (by decide)]; exact hS
      have hRsI_58 : RsI (v58 184) := by rw [hfr58.1 184 (by decide) (by decide)]; exact hrs
      have hk58_3 : v58 178 3 = (v 178 3) := (hfr58.2 3 (by decide)).trans (rfl)
      have hk58_4 : v58 178 4 = (v 178 4) := (hfr58.2 4 (by decide)).trans (rfl)
      have hk58_5 : v58 178 5 = (v 178 5) := (hfr58.2 5 (by decide)).trans (rfl)
      have hk58_11 : v58 178 11 = (v 178 11) := (hfr58.2 11 (by decide)).trans (rfl)
      have hk58_14 : v58 178 14 = (v 178 14) := (hfr58.2 14 (by decide)).trans (rfl)
      have hk58_25 : v58 178 25 = (v 178 25) := (hfr58.2 25 (by decide)).trans (rfl)
      have hk58_51 : v58 178 51 = (v 178 51) := (hfr58.2 51 (by decide)).trans (rfl)
      have hk58_52 : v58 178 52 = (v 178 52) := (hfr58.2 52 (by decide)).trans (rfl)
      have hk58_53 : v58 178 53 = (v 178 53) := (hfr58.2 53 (by decide)).trans (rfl)
      have hk58_55 : v58 178 55 = (v 178 55) := (hfr58.2 55 (by decide)).trans (rfl)
      have hk58_2 : v58 178 2 = (v 178 2) := (hfr58.2 2 (by decide)).trans (rfl)
      have hk58_54 : v58 178 54 = (v 178 54) := (hfr58.2 54 (by decide)).trans (rfl)
      have hk58_12 : v58 178 12 = (v 178 12) := (hfr58.2 12 (by decide)).trans (rfl)
      show wp g X F_m_operand 0 0 61 [(2, 178), (0, r4), (0, r11), (0, r16), (3, 0)] [(0, r58)] v58 ρ Z
      replace hm11 := Hd.o hm11
      exact r_zret (pc := 61) hX 32 hQ rfl rfl ⟨by omega, by omega⟩ (Nat.le_refl 0) (Nat.le_refl 0) ⟨rfl, rfl, (Fr.rf).tr hfr58 (by decide) (by decide), r58, rfl, (by (repeat (first | rw [up_k (by decide)] | rw [up_s] | rw [up_r (by decide)])); omega), (Or.inl (by omega)), (by
        rw [hq58.1]
        refine SmP.bad (p2 := p) hq58.2.1 (hq58.2.2.trans h12) (by decide) (sR_many (by omega) hp0 hp1 ?_ i56)
        rcases hm11 with ⟨-, b⟩ | ⟨a, -⟩
        · exact Or.inl b
        · exact Or.inr (by omega))⟩
    first | refine r_icmp_eq (pc := 44) hX 24 (tgt := 56) rfl (by decide) (⟨by omega, by omega⟩) (⟨by omega, by omega⟩) (fun h44 => ?_) (fun h44 => ?_) | refine r_icmp_eq_any (pc := 44) hX 24 (tgt := 56) rfl (by decide) ?_ ?_
    · exact (L56  (by have hl := hD.2; omega) )
    · refine t_getI (y := (v 178 54)) (pc := 47) hX 25 rfl rfl rfl fl_X12_500 rfl hG.1 (rfl) ?_
      refine r_bipush (pc := 51) hX 27 rfl (by decide) ?_
      first | refine r_icmp_le (pc := 53) hX 28 (tgt := 62) rfl (by decide) (⟨by omega, by omega⟩) (⟨by omega, by omega⟩) (fun h53 => ?_) (fun h53 => ?_) | refine r_icmp_le_any (pc := 53) hX 28 (tgt := 62) rfl (by decide) ?_ ?_
      · refine r_aload_n (pc := 62) hX 33 rfl rfl ?_
        refine r_dup (pc := 63) hX 34 rfl (show (2 : Nat) ≠ 1 by decide) ?_
        refine e_getI (y := (v 178 52)) (pc := 64) hX 35 rfl fl_X12_506 rfl hG.1 (rfl) ?_
        refine r_iconst (pc := 67) hX 36 rfl ?_
        refine r_iadd (pc := 68) hX 37 rfl ?_
        refine r_putI (pc := 69) hX 38 rfl fl_X12_506 rfl (fun _ h => by cases h; rfl) hG.1 (by decide) ?_
        refine r_aload_n (pc := 72) hX 39 rfl rfl ?_
        refine r_callV (as := []) (st := []) (K := 12) (pc := 73) hX 40 rfl mo_m_go ml_X12_219 im_m_go se_m_go (c_goT g (up v 178 52 ((v 178 52) + 1)) ρ Z hG  (by (repeat (first | rw [up_k (by decide)] | rw [up_s] | rw [up_r (by decide)])); omega) (hT.fld (by decide))) rfl rfl rfl hG.1 (by rw [hRm]; exact ⟨by decide, by decide⟩) (by rw [hRm]; exact ⟨by decide, by decide⟩) (Nat.le_of_ble_eq_true rfl) (fun o73 v73 ρ73 Z73 hq73 _ => ?_)
        obtain ⟨rfl, rfl, hfr73, rfl, hq73⟩ := hq73
        try simp only [up_f (show (180 : Int) ≠ 178 by decide), up_k (show (3 : Int) ≠ 52 by decide), up_k (show (4 : Int) ≠ 52 by decide)] at hq73
        have hSInv_73 : SInv (v73 180) := by rw [hfr73.1 180 (by decide) (by decide), up_f (by decide)]; exact hS
        have hRsI_73 : RsI (v73 184) := by rw [hfr73.1 184 (by decide) (by decide), up_f (by decide)]; exact hrs
        have hk73_3 : v73 178 3 = (v 178 3) := (hfr73.2 3 (by decide)).trans ((up_k (by decide)).trans (rfl))
        have hk73_5 : v73 178 5 = (v 178 5) := (hfr73.2 5 (by decide)).trans ((up_k (by decide)).trans (rfl))
        have hk73_25 : v73 178 25 = (v 178 25) := (hfr73.2 25 (by decide)).trans ((up_k (by decide)).trans (rfl))
        have hk73_51 : v73 178 51 = (v 178 51) := (hfr73.2 51 (by decide)).trans ((up_k (by decide)).trans (rfl))
        have hk73_52 : v73 178 52 = ((v 178 52) + 1) := (hfr73.2 52 (by decide)).trans (up_s _ _ _ _)
        have hk73_53 : v73 178 53 = (v 178 53) := (hfr73.2 53 (by decide)).trans ((up_k (by decide)).trans (rfl))
        have hk73_55 : v73 178 55 = (v 178 55) := (hfr73.2 55 (by decide)).trans ((up_k (by decide)).trans (rfl))
        have hk73_2 : v73 178 2 = (v 178 2) := (hfr73.2 2 (by decide)).trans ((up_k (by decide)).trans (rfl))
        have hk73_54 : v73 178 54 = (v 178 54) := (hfr73.2 54 (by decide)).trans ((up_k (by decide)).trans (rfl))
        show wp g X F_m_operand 0 0 76 [(2, 178), (0, r4), (0, r11), (0, r16), (3, 0)] [] v73 ρ Z
        have hs73 : SnI (v73 182) (v73 205) (v73 178 51) (v73 178 53) (v 178 52) 0 := by
          rw [hk73_51, hk73_53, hfr73.1 182 (by decide) (by decide), hfr73.1 205 (by decide) (by decide)]; (repeat rw [up_f (by decide)]); exact hN
        have in73 := hs73.nums
        have hT73 := hq73.2
        have hg73 := hT.adv hq73.2 (by omega)
        have hS8 : S.length < 8 := by have hl := hD.2; omega
        have hst73 : StD (v73 205) (v73 178 53) (v73 178 54) S := by
          rw [hk73_53, hk73_54, hfr73.1 205 (by decide) (by decide)]; (repeat rw [up_f (by decide)])
          exact hD
        refine r_iload_n (pc := 76) hX 41 rfl rfl ?_
        have L84 : ((r4 = 1 ∨ r11 = 1)) → wp g X F_m_operand 0 0 84 [(2, 178), (0, r4), (0, r11), (0, r16), (3, 0)] [] v73 ρ Z := by
          intro i84
          refine t_getR (pc := 84) hX 45 rfl rfl rfl fl_X12_114 rfl hG.1 (a_stack hG).1 ?_
          refine t_getI (y := (v73 178 53)) (pc := 88) hX 47 rfl rfl rfl fl_X12_493 rfl hG.1 (rfl) ?_
          refine r_iload_n (pc := 92) hX 49 rfl rfl ?_
          first | refine r_if_eq (pc := 93) hX 50 (tgt := 101) rfl (by decide) (⟨by omega, by omega⟩) (fun h93 => ?_) (fun h93 => ?_) | refine r_if_eq_any (pc := 93) hX 50 (tgt := 101) rfl (by decide) ?_ ?_
          · refine r_bipush (pc := 101) hX 53 rfl (by decide) ?_
            refine e_iast (pc := 103) hX 54 rfl (a_stack hG).2.1 (a_stack hG).2.2 (by decide) (by omega) (by omega) ?_
            refine r_aload_n (pc := 104) hX 55 rfl rfl ?_
            refine r_dup (pc := 105) hX 56 rfl (show (2 : Nat) ≠ 1 by decide) ?_
            refine e_getI (y := (v73 178 53)) (pc := 106) hX 57 rfl fl_X12_493 rfl hG.1 ((up_r (by decide)).trans (rfl)) ?_
            refine r_iconst (pc := 109) hX 58 rfl ?_
            refine r_iadd (pc := 110) hX 59 rfl ?_
            refine r_putI (pc := 111) hX 60 rfl fl_X12_493 rfl (fun _ h => by cases h; rfl) hG.1 (by decide) ?_
            refine r_aload_n (pc := 114) hX 61 rfl rfl ?_
            refine r_dup (pc := 115) hX 62 rfl (show (2 : Nat) ≠ 1 by decide) ?_
            refine e_getI (y := (v73 178 54)) (pc := 116) hX 63 rfl fl_X12_500 rfl hG.1 ((up_k (by decide)).trans ((up_r (by decide)).trans (rfl))) ?_
            refine r_iconst (pc := 119) hX 64 rfl ?_
            refine r_iadd (pc := 120) hX 65 rfl ?_
            refine r_putI (pc := 121) hX 66 rfl fl_X12_500 rfl (fun _ h => by cases h; rfl) hG.1 (by decide) ?_
            refine r_iconst (pc := 124) hX 67 rfl ?_
            replace hm11 := Hd.o hm11
            show wp g X F_m_operand 0 0 125 [(2, 178), (0, r4), (0, r11), (0, r16), (3, 0)] [(0, 1)] (up (up (up v73 205 (v73 178 53) 23) 178 53 ((v73 178 53) + 1)) 178 54 ((v73 178 54) + 1)) ρ Z
            exact r_zret (pc := 125) hX 68 hQ rfl rfl ⟨by omega, by omega⟩ (Nat.le_refl 0) (Nat.le_refl 0) ⟨rfl, rfl, (((((Fr.rf).fld (k := 52) (by decide)).tr hfr73 (by decide) (by decide)).arr (r := 205) (by decide) (by decide)).fld (k := 53) (by decide)).fld (k := 54) (by decide), 1, rfl, (by (repeat (first | rw [up_k (by decide)] | rw [up_s] | rw [up_r (by decide)])); omega), (Or.inr ⟨rfl, by
        rw [show (up (up (up v73 205 (v73 178 53) 23) 178 53 ((v73 178 53) + 1)) 178 54 ((v73 178 54) + 1)) 182 = v73 182 from by (repeat rw [up_f (by decide)]), show (up (up (up v73 205 (v73 178 53) 23) 178 53 ((v73 178 53) + 1)) 178 54 ((v73 178 54) + 1)) 178 51 = v73 178 51 from by (repeat (first | rw [up_k (by decide)] | rw [up_s] | rw [up_r (by decide)])), show (up (up (up v73 205 (v73 178 53) 23) 178 53 ((v73 178 53) + 1)) 178 54 ((v73 178 54) + 1)) 178 53 = v73 178 53 + 1 from by (repeat (first | rw [up_k (by decide)] | rw [up_s] | rw [up_r (by decide)])), show (up (up (up v73 205 (v73 178 53) 23) 178 53 ((v73 178 53) + 1)) 178 54 ((v73 178 54) + 1)) 178 52 = v 178 52 + 1 from by (repeat (first | rw [up_k (by decide)] | rw [up_s] | rw [up_r (by decide)])); exact hk73_52, show (up (up (up v73 205 (v73 178 53) 23) 178 53 ((v73 178 53) + 1)) 178 54 ((v73 178 54) + 1)) 178 55 = 0 from by (repeat (first | rw [up_k (by decide)] | rw [up_s] | rw [up_r (by decide)])); omega]
        exact hs73.push (by omega) (fun k a b => by (repeat rw [up_f (by decide)]); rw [up_k (by omega)]) rfl (by (repeat rw [up_f (by decide)]); rw [up_s]; first | exact Or.inl rfl | exact Or.inr rfl), by omega, by (repeat (first | rw [up_k (by decide)] | rw [up_s] | rw [up_r (by decide)])); omega⟩), (by
        have hl := hst73.2
        first
        | (have hm0 : mk F n m p 40 = false := by
            rcases hm11 with ⟨a, -⟩ | ⟨-, b⟩
            · exact absurd a (by omega)
            · exact b
           refine SmP.mk0 (S2 := false :: S) (p2 := tp F n m p) (o2 := v 178 52 + 1) ⟨?_, ?_⟩ (((hT73.arr (by decide) (by decide)).fld (by decide)).fld (by decide)) (by (repeat (first | rw [up_k (by decide)] | rw [up_s] | rw [up_r (by decide)])); omega) (by (repeat (first | rw [up_k (by decide)] | rw [up_s] | rw [up_r (by decide)])); omega) (sR_not (by omega) hp0 hp1 hm0 (by omega) (by omega) hS8)
           · (repeat (first | rw [up_k (by decide)] | rw [up_s] | rw [up_r (by decide)])); (repeat rw [up_f (by decide)]); exact StS.no (hst73.1.cg fun k a b => up_k (by omega)) (up_s _ _ _ _)
           · (repeat (first | rw [up_k (by decide)] | rw [up_s] | rw [up_r (by decide)])); rw [List.length_cons]; omega)
        | (have hmt : mk F n m p 40 = true := by
            rcases hm11 with ⟨-, b⟩ | ⟨a, -⟩
            · exact b
            · exact absurd a (by omega)
           refine SmP.mk0 (S2 := true :: S) (p2 := tp F n m p) (o2 := v 178 52 + 1) ⟨?_, ?_⟩ (((hT73.arr (by decide) (by decide)).fld (by decide)).fld (by decide)) (by (repeat (first | rw [up_k (by decide)] | rw [up_s] | rw [up_r (by decide)])); omega) (by (repeat (first | rw [up_k (by decide)] | rw [up_s] | rw [up_r (by decide)])); omega) (sR_open (by omega) hp0 hp1 hmt (by omega) hS8)
           · (repeat (first | rw [up_k (by decide)] | rw [up_s] | rw [up_r (by decide)])); (repeat rw [up_f (by decide)]); exact StS.op (hst73.1.cg fun k a b => up_k (by omega)) (up_s _ _ _ _)
           · (repeat (first | rw [up_k (by decide)] | rw [up_s] | rw [up_r (by decide)])); rw [List.length_cons]; omega))⟩
          · refine r_bipush (pc := 96) hX 51 rfl (by decide) ?_
            refine r_goto (pc := 98) hX 52 (tgt := 103) rfl (by decide) ?_
            refine e_iast (pc := 103) hX 54 rfl (a_stack hG).2.1 (a_stack hG).2.2 (by decide) (by omega) (by omega) ?_
            refine r_aload_n (pc := 104) hX 55 rfl rfl ?_
            refine r_dup (pc := 105) hX 56 rfl (show (2 : Nat) ≠ 1 by decide) ?_
            refine e_getI (y := (v73 178 53)) (pc := 106) hX 57 rfl fl_X12_493 rfl hG.1 ((up_r (by decide)).trans (rfl)) ?_
            refine r_iconst (pc := 109) hX 58 rfl ?_
            refine r_iadd (pc := 110) hX 59 rfl ?_
            refine r_putI (pc := 111) hX 60 rfl fl_X12_493 rfl (fun _ h => by cases h; rfl) hG.1 (by decide) ?_
            refine r_aload_n (pc := 114) hX 61 rfl rfl ?_
            refine r_dup (pc := 115) hX 62 rfl (show (2 : Nat) ≠ 1 by decide) ?_
            refine e_getI (y := (v73 178 54)) (pc := 116) hX 63 rfl fl_X12_500 rfl hG.1 ((up_k (by decide)).trans ((up_r (by decide)).trans (rfl))) ?_
            refine r_iconst (pc := 119) hX 64 rfl ?_
            refine r_iadd (pc := 120) hX 65 rfl ?_
            refine r_putI (pc := 121) hX 66 rfl fl_X12_500 rfl (fun _ h => by cases h; rfl) hG.1 (by decide) ?_
            refine r_iconst (pc := 124) hX 67 rfl ?_
            replace hm11 := Hd.o hm11
            show wp g X F_m_operand 0 0 125 [(2, 178), (0, r4), (0, r11), (0, r16), (3, 0)] [(0, 1)] (up (up (up v73 205 (v73 178 53) 20) 178 53 ((v73 178 53) + 1)) 178 54 ((v73 178 54) + 1)) ρ Z
            exact r_zret (pc := 125) hX 68 hQ rfl rfl ⟨by omega, by omega⟩ (Nat.le_refl 0) (Nat.le_refl 0) ⟨rfl, rfl, (((((Fr.rf).fld (k := 52) (by decide)).tr hfr73 (by decide) (by decide)).arr (r := 205) (by decide) (by decide)).fld (k := 53) (by decide)).fld (k := 54) (by decide), 1, rfl, (by (repeat (first | rw [up_k (by decide)] | rw [up_s] | rw [up_r (by decide)])); omega), (Or.inr ⟨rfl, by
        rw [show (up (up (up v73 205 (v73 178 53) 20) 178 53 ((v73 178 53) + 1)) 178 54 ((v73 178 54) + 1)) 182 = v73 182 from by (repeat rw [up_f (by decide)]), show (up (up (up v73 205 (v73 178 53) 20) 178 53 ((v73 178 53) + 1)) 178 54 ((v73 178 54) + 1)) 178 51 = v73 178 51 from by (repeat (first | rw [up_k (by decide)] | rw [up_s] | rw [up_r (by decide)])), show (up (up (up v73 205 (v73 178 53) 20) 178 53 ((v73 178 53) + 1)) 178 54 ((v73 178 54) + 1)) 178 53 = v73 178 53 + 1 from by (repeat (first | rw [up_k (by decide)] | rw [up_s] | rw [up_r (by decide)])), show (up (up (up v73 205 (v73 178 53) 20) 178 53 ((v73 178 53) + 1)) 178 54 ((v73 178 54) + 1)) 178 52 = v 178 52 + 1 from by (repeat (first | rw [up_k (by decide)] | rw [up_s] | rw [up_r (by decide)])); exact hk73_52, show (up (up (up v73 205 (v73 178 53) 20) 178 53 ((v73 178 53) + 1)) 178 54 ((v73 178 54) + 1)) 178 55 = 0 from by (repeat (first | rw [up_k (by decide)] | rw [up_s] | rw [up_r (by decide)])); omega]
        exact hs73.push (by omega) (fun k a b => by (repeat rw [up_f (by decide)]); rw [up_k (by omega)]) rfl (by (repeat rw [up_f (by decide)]); rw [up_s]; first | exact Or.inl rfl | exact Or.inr rfl), by omega, by (repeat (first | rw [up_k (by decide)] | rw [up_s] | rw [up_r (by decide)])); omega⟩), (by
        have hl := hst73.2
        first
        | (have hm0 : mk F n m p 40 = false := by
            rcases hm11 with ⟨a, -⟩ | ⟨-, b⟩
            · exact absurd a (by omega)
            · exact b
           refine SmP.mk0 (S2 := false :: S) (p2 := tp F n m p) (o2 := v 178 52 + 1) ⟨?_, ?_⟩ (((hT73.arr (by decide) (by decide)).fld (by decide)).fld (by decide)) (by (repeat (first | rw [up_k (by decide)] | rw [up_s] | rw [up_r (by decide)])); omega) (by (repeat (first | rw [up_k (by decide)] | rw [up_s] | rw [up_r (by decide)])); omega) (sR_not (by omega) hp0 hp1 hm0 (by omega) (by omega) hS8)
           · (repeat (first | rw [up_k (by decide)] | rw [up_s] | rw [up_r (by decide)])); (repeat rw [up_f (by decide)]); exact StS.no (hst73.1.cg fun k a b => up_k (by omega)) (up_s _ _ _ _)
           · (repeat (first | rw [up_k (by decide)] | rw [up_s] | rw [up_r (by decide)])); rw [List.length_cons]; omega)
        | (have hmt : mk F n m p 40 = true := by
            rcases hm11 with ⟨-, b⟩ | ⟨a, -⟩
            · exact b
            · exact absurd a (by omega)
           refine SmP.mk0 (S2 := true :: S) (p2 := tp F n m p) (o2 := v 178 52 + 1) ⟨?_, ?_⟩ (((hT73.arr (by decide) (by decide)).fld (by decide)).fld (by decide)) (by (repeat (first | rw [up_k (by decide)] | rw [up_s] | rw [up_r (by decide)])); omega) (by (repeat (first | rw [up_k (by decide)] | rw [up_s] | rw [up_r (by decide)])); omega) (sR_open (by omega) hp0 hp1 hmt (by omega) hS8)
           · (repeat (first | rw [up_k (by decide)] | rw [up_s] | rw [up_r (by decide)])); (repeat rw [up_f (by decide)]); exact StS.op (hst73.1.cg fun k a b => up_k (by omega)) (up_s _ _ _ _)
           · (repeat (first | rw [up_k (by decide)] | rw [up_s] | rw [up_r (by decide)])); rw [List.length_cons]; omega))⟩
        first | refine r_if_ne (pc := 77) hX 42 (tgt := 84) rfl (by decide) (⟨by omega, by omega⟩) (fun h77 => ?_) (fun h77 => ?_) | refine r_if_ne_any (pc := 77) hX 42 (tgt := 84) rfl (by decide) ?_ ?_
        · exact (L84  (by omega) )
        · refine r_iload_n (pc := 80) hX 43 rfl rfl ?_
          first | refine r_if_eq (pc := 81) hX 44 (tgt := 126) rfl (by decide) (⟨by omega, by omega⟩) (fun h81 => ?_) (fun h81 => ?_) | refine r_if_eq_any (pc := 81) hX 44 (tgt := 126) rfl (by decide) ?_ ?_
          · replace hm11 := Hd.o hm11
            have hm0 : mk F n m p 40 = false := by
              rcases hm11 with ⟨a, -⟩ | ⟨-, b⟩
              · exact absurd a (by omega)
              · exact b
            have htk : tk F n m p = 1 := by omega
            have ht1 : v 178 11 = 1 := by omega
            have hr16 : 0 ≤ r16 := by omega
            replace hz4 := Hd.i hz4
            replace hz11 := Hd.i hz11
            replace hz16 := Hd.i hz16
            replace hk4 := Hd.i hk4
            replace i38 := Hd.i i38
            replace hm11 := Hd.i hm11
            replace hj16 := Hd.i hj16
            refine r_aload_n (pc := 126) hX 69 rfl rfl ?_
            refine r_iconst (pc := 127) hX 70 rfl ?_
            refine r_putZ (pc := 128) hX 71 rfl fl_X12_509 rfl (fun _ h => by cases h; rfl) ⟨by omega, by omega⟩ hG.1 (by decide) ?_
            refine r_iload_n (pc := 131) hX 72 rfl rfl ?_
            refine r_iconst (pc := 132) hX 73 rfl ?_
            first | refine r_icmp_ge (pc := 133) hX 74 (tgt := 145) rfl (by decide) (⟨by omega, by omega⟩) (⟨by omega, by omega⟩) (fun h133 => ?_) (fun h133 => ?_) | refine r_icmp_ge_any (pc := 133) hX 74 (tgt := 145) rfl (by decide) ?_ ?_
            · refine r_iload_n (pc := 145) hX 82 rfl rfl ?_
              refine r_iconst (pc := 146) hX 83 rfl ?_
              first | refine r_icmp_ne (pc := 147) hX 84 (tgt := 201) rfl (by decide) (⟨by omega, by omega⟩) (⟨by omega, by omega⟩) (fun h147 => ?_) (fun h147 => ?_) | refine r_icmp_ne_any (pc := 147) hX 84 (tgt := 201) rfl (by decide) ?_ ?_
              · have hky := (Hd.o hj16).2.2.1 (by omega)
                have ht73 := hT73.2.2.2.2.2.2.1
                have hv73 := hT73.2.2.2.2.2.2.2.2.1
                refine t_getI (y := (v73 178 11)) (pc := 201) hX 115 rfl rfl rfl fl_X12_190 rfl hG.1 ((up_k (by decide)).trans (rfl)) ?_
                refine r_iconst (pc := 205) hX 117 rfl ?_
                have L227 : (¬ (tk F n m (tp F n m p) = 3 ∧ 60 ≤ tv F n (tp F n m p) ∧ tv F n (tp F n m p) ≤ 62)) → wp g X F_m_operand 0 0 227 [(2, 178), (0, r4), (0, r11), (0, r16), (3, 0)] [] (up v73 178 55 1) ρ Z := by
                  intro i227
                  refine r_aload_n (pc := 227) hX 127 rfl rfl ?_
                  refine r_iconst (pc := 228) hX 128 rfl ?_
                  refine r_callV (as := [(0, 1)]) (st := []) (K := 12) (pc := 229) hX 129 rfl mo_m_bad ml_X12_216 im_m_bad se_m_bad (c_badF g (up v73 178 55 1) ρ Z hG (1) (by omega)) rfl rfl rfl hG.1 (by rw [hRm]; exact ⟨by decide, by decide⟩) (by rw [hRm]; exact ⟨by decide, by decide⟩) (Nat.le_of_ble_eq_true rfl) (fun o229 v229 ρ229 Z229 hq229 _ => ?_)
                  obtain ⟨rfl, rfl, hfr229, r229, rfl, hq229⟩ := hq229
                  try simp only [up_f (show (180 : Int) ≠ 178 by decide), up_k (show (12 : Int) ≠ 55 by decide)] at hq229
                  have hSInv_229 : SInv (v229 180) := by rw [hfr229.1 180 (by decide) (by decide), up_f (by decide)]; exact hSInv_73
                  have hRsI_229 : RsI (v229 184) := by rw [hfr229.1 184 (by decide) (by decide), up_f (by decide)]; exact hRsI_73
                  have hk229_3 : v229 178 3 = (v73 178 3) := (hfr229.2 3 (by decide)).trans ((up_k (by decide)).trans (rfl))
                  have hk229_4 : v229 178 4 = (v73 178 4) := (hfr229.2 4 (by decide)).trans ((up_k (by decide)).trans (rfl))
                  have hk229_5 : v229 178 5 = (v73 178 5) := (hfr229.2 5 (by decide)).trans ((up_k (by decide)).trans (rfl))
                  have hk229_11 : v229 178 11 = (v73 178 11) := (hfr229.2 11 (by decide)).trans ((up_k (by decide)).trans (rfl))
                  have hk229_14 : v229 178 14 = (v73 178 14) := (hfr229.2 14 (by decide)).trans ((up_k (by decide)).trans (rfl))
                  have hk229_25 : v229 178 25 = (v73 178 25) := (hfr229.2 25 (by decide)).trans ((up_k (by decide)).trans (rfl))
                  have hk229_51 : v229 178 51 = (v73 178 51) := (hfr229.2 51 (by decide)).trans ((up_k (by decide)).trans (rfl))
                  have hk229_52 : v229 178 52 = (v73 178 52) := (hfr229.2 52 (by decide)).trans ((up_k (by decide)).trans (rfl))
                  have hk229_53 : v229 178 53 = (v73 178 53) := (hfr229.2 53 (by decide)).trans ((up_k (by decide)).trans (rfl))
                  have hk229_55 : v229 178 55 = 1 := (hfr229.2 55 (by decide)).trans (up_s _ _ _ _)
                  have hk229_2 : v229 178 2 = (v73 178 2) := (hfr229.2 2 (by decide)).trans ((up_k (by decide)).trans (rfl))
                  have hk229_54 : v229 178 54 = (v73 178 54) := (hfr229.2 54 (by decide)).trans ((up_k (by decide)).trans (rfl))
                  have hk229_12 : v229 178 12 = (v73 178 12) := (hfr229.2 12 (by decide)).trans ((up_k (by decide)).trans (rfl))
                  show wp g X F_m_operand 0 0 232 [(2, 178), (0, r4), (0, r11), (0, r16), (3, 0)] [(0, r229)] v229 ρ Z
                  exact r_zret (pc := 232) hX 130 hQ rfl rfl ⟨by omega, by omega⟩ (Nat.le_refl 0) (Nat.le_refl 0) ⟨rfl, rfl, ((((Fr.rf).fld (k := 52) (by decide)).tr hfr73 (by decide) (by decide)).fld (k := 55) (by decide)).tr hfr229 (by decide) (by decide), r229, rfl, (by (repeat (first | rw [up_k (by decide)] | rw [up_s] | rw [up_r (by decide)])); omega), (Or.inl (by omega)), (by
        rw [hq229.1]
        exact SmP.bad (p2 := tp F n m p) hq229.2.1 (hq229.2.2.trans hT73.2.2.2.2.2.2.2.1) (by decide) (sR_l0 (by omega) hp0 hp1 hm0 (by omega) (by omega) hS8 (sLeaf_c1 (by omega) i227) (by decide)))⟩
                first | refine r_icmp_ne (pc := 206) hX 118 (tgt := 227) rfl (by decide) (⟨by omega, by omega⟩) (⟨by omega, by omega⟩) (fun h206 => ?_) (fun h206 => ?_) | refine r_icmp_ne_any (pc := 206) hX 118 (tgt := 227) rfl (by decide) ?_ ?_
                · exact (L227  (by
          rintro ⟨a, b, c⟩
          have z := hv73 (by omega)
          omega) )
                · refine t_getI (y := (v73 178 14)) (pc := 209) hX 119 rfl rfl rfl fl_X12_200 rfl hG.1 ((up_k (by decide)).trans (rfl)) ?_
                  refine r_bipush (pc := 213) hX 121 rfl (by decide) ?_
                  first | refine r_icmp_lt (pc := 215) hX 122 (tgt := 227) rfl (by decide) (⟨by omega, by omega⟩) (⟨by omega, by omega⟩) (fun h215 => ?_) (fun h215 => ?_) | refine r_icmp_lt_any (pc := 215) hX 122 (tgt := 227) rfl (by decide) ?_ ?_
                  · exact (L227  (by
          rintro ⟨a, b, c⟩
          have z := hv73 (by omega)
          omega) )
                  · refine t_getI (y := (v73 178 14)) (pc := 218) hX 123 rfl rfl rfl fl_X12_200 rfl hG.1 ((up_k (by decide)).trans (rfl)) ?_
                    refine r_bipush (pc := 222) hX 125 rfl (by decide) ?_
                    first | refine r_icmp_le (pc := 224) hX 126 (tgt := 233) rfl (by decide) (⟨by omega, by omega⟩) (⟨by omega, by omega⟩) (fun h224 => ?_) (fun h224 => ?_) | refine r_icmp_le_any (pc := 224) hX 126 (tgt := 233) rfl (by decide) ?_ ?_
                    · refine t_getI (y := (v73 178 14)) (pc := 233) hX 131 rfl rfl rfl fl_X12_200 rfl hG.1 ((up_k (by decide)).trans (rfl)) ?_
                      refine r_istore (ls' := [(2, 178), (0, r4), (0, r11), (0, r16), (0, (v73 178 14))]) (pc := 237) hX 133 rfl (by decide) rfl ?_
                      refine r_aload_n (pc := 239) hX 134 rfl rfl ?_
                      have hc240 : tk F n m (tp F n m p) = 3 ∧ 60 ≤ tv F n (tp F n m p) ∧ tv F n (tp F n m p) ≤ 62 := by
                        have z := hv73 (by omega)
                        omega
                      refine r_callV (as := []) (st := []) (K := 12) (pc := 240) hX 135 rfl mo_m_go ml_X12_219 im_m_go se_m_go (c_goT g (up v73 178 55 1) ρ Z hG  (by (repeat (first | rw [up_k (by decide)] | rw [up_s] | rw [up_r (by decide)])); omega) (hT73.fld (by decide))) rfl rfl rfl hG.1 (by rw [hRm]; exact ⟨by decide, by decide⟩) (by rw [hRm]; exact ⟨by decide, by decide⟩) (Nat.le_of_ble_eq_true rfl) (fun o240 v240 ρ240 Z240 hq240 _ => ?_)
                      obtain ⟨rfl, rfl, hfr240, rfl, hq240⟩ := hq240
                      try simp only [up_f (show (180 : Int) ≠ 178 by decide), up_k (show (3 : Int) ≠ 55 by decide), up_k (show (4 : Int) ≠ 55 by decide)] at hq240
                      have hSInv_240 : SInv (v240 180) := by rw [hfr240.1 180 (by decide) (by decide), up_f (by decide)]; exact hSInv_73
                      have hRsI_240 : RsI (v240 184) := by rw [hfr240.1 184 (by decide) (by decide), up_f (by decide)]; exact hRsI_73
                      have hk240_3 : v240 178 3 = (v73 178 3) := (hfr240.2 3 (by decide)).trans ((up_k (by decide)).trans (rfl))
                      have hk240_5 : v240 178 5 = (v73 178 5) := (hfr240.2 5 (by decide)).trans ((up_k (by decide)).trans (rfl))
                      have hk240_25 : v240 178 25 = (v73 178 25) := (hfr240.2 25 (by decide)).trans ((up_k (by decide)).trans (rfl))
                      have hk240_51 : v240 178 51 = (v73 178 51) := (hfr240.2 51 (by decide)).trans ((up_k (by decide)).trans (rfl))
                      have hk240_52 : v240 178 52 = (v73 178 52) := (hfr240.2 52 (by decide)).trans ((up_k (by decide)).trans (rfl))
                      have hk240_53 : v240 178 53 = (v73 178 53) := (hfr240.2 53 (by decide)).trans ((up_k (by decide)).trans (rfl))
                      have hk240_55 : v240 178 55 = 1 := (hfr240.2 55 (by decide)).trans (up_s _ _ _ _)
                      have hk240_2 : v240 178 2 = (v73 178 2) := (hfr240.2 2 (by decide)).trans ((up_k (by decide)).trans (rfl))
                      have hk240_54 : v240 178 54 = (v73 178 54) := (hfr240.2 54 (by decide)).trans ((up_k (by decide)).trans (rfl))
                      show wp g X F_m_operand 0 0 243 [(2, 178), (0, r4), (0, r11), (0, r16), (0, (v73 178 14))] [] v240 ρ Z
                      have hs240 : SnI (v240 182) (v240 205) (v240 178 51) (v240 178 53) (v 178 52) 0 := by
                        rw [hk240_51, hk240_53, hfr240.1 182 (by decide) (by decide), hfr240.1 205 (by decide) (by decide)]; (repeat rw [up_f (by decide)]); exact hs73
                      have in240 := hs240.nums
                      have hst240 : StD (v240 205) (v240 178 53) (v240 178 54) S := by
                        rw [hk240_53, hk240_54, hfr240.1 205 (by decide) (by decide)]; (repeat rw [up_f (by decide)])
                        exact hst73
                      have hT240 := hq240.2
                      have ht240 := hT240.2.2.2.2.2.2.1
                      refine t_getI (y := (v240 178 11)) (pc := 243) hX 136 rfl rfl rfl fl_X12_190 rfl hG.1 (rfl) ?_
                      refine r_iconst (pc := 247) hX 138 rfl ?_
                      first | refine r_icmp_eq (pc := 248) hX 139 (tgt := 257) rfl (by decide) (⟨by omega, by omega⟩) (⟨by omega, by omega⟩) (fun h248 => ?_) (fun h248 => ?_) | refine r_icmp_eq_any (pc := 248) hX 139 (tgt := 257) rfl (by decide) ?_ ?_
                      · refine r_aload_n (pc := 257) hX 144 rfl rfl ?_
                        refine r_iload_n (pc := 258) hX 145 rfl rfl ?_
                        refine r_iload (pc := 259) hX 146 rfl rfl ?_
                        refine t_getI (y := (v240 178 14)) (pc := 261) hX 147 rfl rfl rfl fl_X12_200 rfl hG.1 (rfl) ?_
                        refine r_callV (as := [(0, r16), (0, (v73 178 14)), (0, (v240 178 14))]) (st := []) (K := 12) (pc := 265) hX 149 rfl mo_m_code ml_X12_496 im_m_code se_m_code (c_code g v240 ρ Z hG (r16) ((v73 178 14)) ((v240 178 14)) (by (repeat (first | rw [up_k (by decide)] | rw [up_s] | rw [up_r (by decide)])); omega)) rfl rfl rfl hG.1 (by rw [hRm]; exact ⟨by decide, by decide⟩) (by rw [hRm]; exact ⟨by decide, by decide⟩) (Nat.le_of_ble_eq_true rfl) (fun o265 v265 ρ265 Z265 hq265 _ => ?_)
                        obtain ⟨rfl, rfl, hfr265, rfl, hq265⟩ := hq265
                        have hSInv_265 : SInv (v265 180) := by rw [hfr265.1 180 (by decide) (by decide)]; exact hSInv_240
                        have hRsI_265 : RsI (v265 184) := by rw [hfr265.1 184 (by decide) (by decide)]; exact hRsI_240
                        have hk265_3 : v265 178 3 = (v240 178 3) := (hfr265.2 3 (by decide)).trans (rfl)
                        have hk265_4 : v265 178 4 = (v240 178 4) := (hfr265.2 4 (by decide)).trans (rfl)
                        have hk265_5 : v265 178 5 = (v240 178 5) := (hfr265.2 5 (by decide)).trans (rfl)
                        have hk265_11 : v265 178 11 = (v240 178 11) := (hfr265.2 11 (by decide)).trans (rfl)
                        have hk265_14 : v265 178 14 = (v240 178 14) := (hfr265.2 14 (by decide)).trans (rfl)
                        have hk265_25 : v265 178 25 = (v240 178 25) := (hfr265.2 25 (by decide)).trans (rfl)
                        have hk265_52 : v265 178 52 = (v240 178 52) := (hfr265.2 52 (by decide)).trans (rfl)
                        have hk265_53 : v265 178 53 = (v240 178 53) := (hfr265.2 53 (by decide)).trans (rfl)
                        have hk265_55 : v265 178 55 = (v240 178 55) := (hfr265.2 55 (by decide)).trans (rfl)
                        have hk265_2 : v265 178 2 = (v240 178 2) := (hfr265.2 2 (by decide)).trans (rfl)
                        have hk265_54 : v265 178 54 = (v240 178 54) := (hfr265.2 54 (by decide)).trans (rfl)
                        have hk265_12 : v265 178 12 = (v240 178 12) := (hfr265.2 12 (by decide)).trans (rfl)
                        show wp g X F_m_operand 0 0 268 [(2, 178), (0, r4), (0, r11), (0, r16), (0, (v73 178 14))] [] v265 ρ Z
                        have hs265 : SnI (v265 182) (v265 205) (v265 178 51) (v265 178 53) (v265 178 52) (v265 178 55) := by
                          rw [hq265.1, hk265_53, hk265_52, hk265_55, show v265 205 = v240 205 from by rw [hfr265.1 205 (by decide) (by decide)]; (repeat rw [up_f (by decide)])]
                          rw [hk240_52, hk73_52, hk240_55]; exact hs240.leaf (by omega) hq265.2.2 hq265.2.1 (by omega)
                        have hst265 : StD (v265 205) (v265 178 53) (v265 178 54) S := by
                          rw [hk265_53, hk265_54, hfr265.1 205 (by decide) (by decide)]; (repeat rw [up_f (by decide)])
                          exact hst240
                        have hT265 : TkM F n m v265 (tp F n m (tp F n m p)) := hT240.fr hfr265 (by decide) (by decide)
                        refine r_aload_n (pc := 268) hX 150 rfl rfl ?_
                        refine r_callV (as := []) (st := []) (K := 12) (pc := 269) hX 151 rfl mo_m_go ml_X12_219 im_m_go se_m_go (c_goT g v265 ρ Z hG  (by (repeat (first | rw [up_k (by decide)] | rw [up_s] | rw [up_r (by decide)])); omega) (hT265)) rfl rfl rfl hG.1 (by rw [hRm]; exact ⟨by decide, by decide⟩) (by rw [hRm]; exact ⟨by decide, by decide⟩) (Nat.le_of_ble_eq_true rfl) (fun o269 v269 ρ269 Z269 hq269 _ => ?_)
                        obtain ⟨rfl, rfl, hfr269, rfl, hq269⟩ := hq269
                        have hSInv_269 : SInv (v269 180) := by rw [hfr269.1 180 (by decide) (by decide)]; exact hSInv_265
                        have hRsI_269 : RsI (v269 184) := by rw [hfr269.1 184 (by decide) (by decide)]; exact hRsI_265
                        have hk269_3 : v269 178 3 = (v265 178 3) := (hfr269.2 3 (by decide)).trans (rfl)
                        have hk269_5 : v269 178 5 = (v265 178 5) := (hfr269.2 5 (by decide)).trans (rfl)
                        have hk269_25 : v269 178 25 = (v265 178 25) := (hfr269.2 25 (by decide)).trans (rfl)
                        have hk269_51 : v269 178 51 = (v265 178 51) := (hfr269.2 51 (by decide)).trans (rfl)
                        have hk269_52 : v269 178 52 = (v265 178 52) := (hfr269.2 52 (by decide)).trans (rfl)
                        have hk269_53 : v269 178 53 = (v265 178 53) := (hfr269.2 53 (by decide)).trans (rfl)
                        have hk269_55 : v269 178 55 = (v265 178 55) := (hfr269.2 55 (by decide)).trans (rfl)
                        have hk269_2 : v269 178 2 = (v265 178 2) := (hfr269.2 2 (by decide)).trans (rfl)
                        have hk269_54 : v269 178 54 = (v265 178 54) := (hfr269.2 54 (by decide)).trans (rfl)
                        show wp g X F_m_operand 0 0 272 [(2, 178), (0, r4), (0, r11), (0, r16), (0, (v73 178 14))] [] v269 ρ Z
                        have hs269 : SnI (v269 182) (v269 205) (v269 178 51) (v269 178 53) (v269 178 52) (v269 178 55) := by rw [hk269_51, hk269_53, hk269_52, hk269_55, hfr269.1 182 (by decide) (by decide), hfr269.1 205 (by decide) (by decide)]; exact hs265
                        have hst269 : StD (v269 205) (v269 178 53) (v269 178 54) S := by
                          rw [hk269_53, hk269_54, hfr269.1 205 (by decide) (by decide)]; (repeat rw [up_f (by decide)])
                          exact hst265
                        refine r_iconst (pc := 272) hX 152 rfl ?_
                        exact r_zret (pc := 273) hX 153 hQ rfl rfl ⟨by omega, by omega⟩ (Nat.le_refl 0) (Nat.le_refl 0) ⟨rfl, rfl, ((((((Fr.rf).fld (k := 52) (by decide)).tr hfr73 (by decide) (by decide)).fld (k := 55) (by decide)).tr hfr240 (by decide) (by decide)).tr hfr265 (by decide) (by decide)).tr hfr269 (by decide) (by decide), 1, rfl, (by (repeat (first | rw [up_k (by decide)] | rw [up_s] | rw [up_r (by decide)])); omega), (Or.inr ⟨rfl, hs269, by omega, by omega⟩), (SmP.mk1 (S2 := S) (p2 := tp F n m (tp F n m (tp F n m p))) (o2 := v 178 52 + 1) hst269 hq269.2 (by omega) (by omega) (sR_l1 (by omega) hp0 hp1 hm0 (by omega) (by omega) hS8 (sLeaf_c0 (by omega) hc240 (by omega))))⟩
                      · refine r_aload_n (pc := 251) hX 140 rfl rfl ?_
                        refine r_iconst (pc := 252) hX 141 rfl ?_
                        refine r_callV (as := [(0, 1)]) (st := []) (K := 12) (pc := 253) hX 142 rfl mo_m_bad ml_X12_216 im_m_bad se_m_bad (c_badF g v240 ρ Z hG (1) (by omega)) rfl rfl rfl hG.1 (by rw [hRm]; exact ⟨by decide, by decide⟩) (by rw [hRm]; exact ⟨by decide, by decide⟩) (Nat.le_of_ble_eq_true rfl) (fun o253 v253 ρ253 Z253 hq253 _ => ?_)
                        obtain ⟨rfl, rfl, hfr253, r253, rfl, hq253⟩ := hq253
                        have hSInv_253 : SInv (v253 180) := by rw [hfr253.1 180 (by decide) (by decide)]; exact hSInv_240
                        have hRsI_253 : RsI (v253 184) := by rw [hfr253.1 184 (by decide) (by decide)]; exact hRsI_240
                        have hk253_3 : v253 178 3 = (v240 178 3) := (hfr253.2 3 (by decide)).trans (rfl)
                        have hk253_4 : v253 178 4 = (v240 178 4) := (hfr253.2 4 (by decide)).trans (rfl)
                        have hk253_5 : v253 178 5 = (v240 178 5) := (hfr253.2 5 (by decide)).trans (rfl)
                        have hk253_11 : v253 178 11 = (v240 178 11) := (hfr253.2 11 (by decide)).trans (rfl)
                        have hk253_14 : v253 178 14 = (v240 178 14) := (hfr253.2 14 (by decide)).trans (rfl)
                        have hk253_25 : v253 178 25 = (v240 178 25) := (hfr253.2 25 (by decide)).trans (rfl)
                        have hk253_51 : v253 178 51 = (v240 178 51) := (hfr253.2 51 (by decide)).trans (rfl)
                        have hk253_52 : v253 178 52 = (v240 178 52) := (hfr253.2 52 (by decide)).trans (rfl)
                        have hk253_53 : v253 178 53 = (v240 178 53) := (hfr253.2 53 (by decide)).trans (rfl)
                        have hk253_55 : v253 178 55 = (v240 178 55) := (hfr253.2 55 (by decide)).trans (rfl)
                        have hk253_2 : v253 178 2 = (v240 178 2) := (hfr253.2 2 (by decide)).trans (rfl)
                        have hk253_54 : v253 178 54 = (v240 178 54) := (hfr253.2 54 (by decide)).trans (rfl)
                        have hk253_12 : v253 178 12 = (v240 178 12) := (hfr253.2 12 (by decide)).trans (rfl)
                        show wp g X F_m_operand 0 0 256 [(2, 178), (0, r4), (0, r11), (0, r16), (0, (v73 178 14))] [(0, r253)] v253 ρ Z
                        exact r_zret (pc := 256) hX 143 hQ rfl rfl ⟨by omega, by omega⟩ (Nat.le_refl 0) (Nat.le_refl 0) ⟨rfl, rfl, (((((Fr.rf).fld (k := 52) (by decide)).tr hfr73 (by decide) (by decide)).fld (k := 55) (by decide)).tr hfr240 (by decide) (by decide)).tr hfr253 (by decide) (by decide), r253, rfl, (by (repeat (first | rw [up_k (by decide)] | rw [up_s] | rw [up_r (by decide)])); omega), (Or.inl (by omega)), (by
        rw [hq253.1]
        exact SmP.bad (p2 := tp F n m (tp F n m p)) hq253.2.1 (hq253.2.2.trans hT240.2.2.2.2.2.2.2.1) (by decide) (sR_l0 (by omega) hp0 hp1 hm0 (by omega) (by omega) hS8 (sLeaf_c2 (by omega) hc240 (by omega)) (by decide)))⟩
                    · exact (L227  (by
          rintro ⟨a, b, c⟩
          have z := hv73 (by omega)
          omega) )
              · have hky := (Hd.o hj16).2.1 (by omega)
                refine r_aload_n (pc := 150) hX 85 rfl rfl ?_
                refine r_callV (as := []) (st := []) (K := 12) (pc := 151) hX 86 rfl mo_m_isName ml_X12_233 im_m_isName se_m_isName (c_isNameT g (up v73 178 55 1) ρ Z hG  (hT73.fld (by decide)) (by rw [up_f (by decide)]; exact hRsI_73) (by (repeat (first | rw [up_k (by decide)] | rw [up_s] | rw [up_r (by decide)])); omega)) rfl rfl rfl hG.1 (by rw [hRm]; exact ⟨by decide, by decide⟩) (by rw [hRm]; exact ⟨by decide, by decide⟩) (Nat.le_of_ble_eq_true rfl) (fun o151 v151 ρ151 Z151 hq151 _ => ?_)
                obtain ⟨rfl, rfl, rfl, r151, rfl, hq151⟩ := hq151
                try simp only [up_f (show (180 : Int) ≠ 178 by decide), up_k (show (11 : Int) ≠ 55 by decide)] at hq151
                show wp g X F_m_operand 0 0 154 [(2, 178), (0, r4), (0, r11), (0, r16), (3, 0)] [(0, r151)] (up v73 178 55 1) ρ Z
                have hn151 := hq151
                have hz151 : r151 = 0 ∨ r151 = 1 ∧ v73 178 11 = 1 := by
                  rcases hq151 with ⟨a, -, b⟩ | ⟨a, -⟩
                  · exact Or.inr ⟨a, by first | exact b | (have z := b; rw [up_k (by decide)] at z; exact z)⟩
                  · exact Or.inl a
                replace hq151 : 0 ≤ r151 ∧ r151 ≤ 1 := by omega
                replace hn151 := Hd.i hn151
                first | refine r_if_ne (pc := 154) hX 87 (tgt := 163) rfl (by decide) (⟨by omega, by omega⟩) (fun h154 => ?_) (fun h154 => ?_) | refine r_if_ne_any (pc := 154) hX 87 (tgt := 163) rfl (by decide) ?_ ?_
                · refine r_aload_n (pc := 163) hX 92 rfl rfl ?_
                  refine r_iconst (pc := 164) hX 93 rfl ?_
                  refine t_getR (pc := 165) hX 94 rfl rfl rfl fl_X12_33 rfl hG.1 (a_s hG).1 ?_
                  refine r_iconst (pc := 169) hX 96 rfl ?_
                  refine e_iald (y := (v73 180 0)) (pc := 170) hX 97 rfl (a_s hG).2.1 (a_s hG).2.2 (by omega) (by omega) ((up_r (by decide)).trans (rfl)) ?_
                  have hb170 := hSInv_73.c0
                  have hnm : nm F n m (tp F n m p) = true := by
                    rcases Hd.o hn151 with ⟨-, b, -⟩ | ⟨a, -⟩
                    · exact b
                    · exact absurd a (by omega)
                  have hnw := hT73.nw (by omega)
                  have e183 : up v73 178 55 1 183 = v 183 := by (repeat rw [up_f (by decide)]); rw [hfr73.1 183 (by decide) (by decide), up_f (by decide)]
                  have e183b : v73 183 = v 183 := by rw [hfr73.1 183 (by decide) (by decide), up_f (by decide)]
                  have e180b : v73 180 = v 180 := by rw [hfr73.1 180 (by decide) (by decide), up_f (by decide)]
                  have e1800 : v73 180 0 = v 180 0 := by rw [e180b]
                  refine r_callV (as := [(0, 0), (0, (v73 180 0))]) (st := []) (K := 12) (pc := 171) hX 98 rfl mo_m_find ml_X12_237 im_m_find se_m_find (c_findF g (up v73 178 55 1) ρ Z hG (0) ((v73 180 0)) (by omega) (by omega) (by (repeat (first | rw [up_k (by decide)] | rw [up_s] | rw [up_r (by decide)])); exact hnw.2) (Hd.i (by rw [e183]; exact fun j a b => ⟨by have := (hNm j a (by omega)).2; omega, by have := (hNm j a (by omega)).2; omega⟩))) rfl rfl rfl hG.1 (by rw [hRm]; exact ⟨by decide, by decide⟩) (by rw [hRm]; exact ⟨by decide, by decide⟩) (Nat.le_of_ble_eq_true rfl) (fun o171 v171 ρ171 Z171 hq171 _ => ?_)
                  obtain ⟨rfl, rfl, rfl, r171, rfl, hq171⟩ := hq171
                  try simp only [up_f (show (180 : Int) ≠ 178 by decide), up_f (show (183 : Int) ≠ 178 by decide), up_k (show (17 : Int) ≠ 55 by decide)] at hq171
                  show wp g X F_m_operand 0 0 174 [(2, 178), (0, r4), (0, r11), (0, r16), (3, 0)] [(0, r171)] (up v73 178 55 1) ρ Z
                  have ef171 : r171 = fnd N (tn F n (tp F n m p)) 0 (v 180 0).toNat 0 := by
                    have z := hq171.1
                    rw [e183b, e180b] at z
                    exact z.fd hb0.1 hNm hnw.1
                  replace hq171 := hq171.2
                  refine r_istore (ls' := [(2, 178), (0, r4), (0, r11), (0, r16), (0, r171)]) (pc := 174) hX 99 rfl (by decide) rfl ?_
                  refine r_iload (pc := 176) hX 100 rfl rfl ?_
                  first | refine r_if_ge (pc := 178) hX 101 (tgt := 187) rfl (by decide) (⟨by omega, by omega⟩) (fun h178 => ?_) (fun h178 => ?_) | refine r_if_ge_any (pc := 178) hX 101 (tgt := 187) rfl (by decide) ?_ ?_
                  · refine r_aload_n (pc := 187) hX 106 rfl rfl ?_
                    refine r_iload_n (pc := 188) hX 107 rfl rfl ?_
                    refine r_iconst (pc := 189) hX 108 rfl ?_
                    refine r_iload (pc := 190) hX 109 rfl rfl ?_
                    refine r_callV (as := [(0, r16), (0, 0), (0, r171)]) (st := []) (K := 12) (pc := 192) hX 110 rfl mo_m_code ml_X12_496 im_m_code se_m_code (c_code g (up v73 178 55 1) ρ Z hG (r16) (0) (r171) (by (repeat (first | rw [up_k (by decide)] | rw [up_s] | rw [up_r (by decide)])); omega)) rfl rfl rfl hG.1 (by rw [hRm]; exact ⟨by decide, by decide⟩) (by rw [hRm]; exact ⟨by decide, by decide⟩) (Nat.le_of_ble_eq_true rfl) (fun o192 v192 ρ192 Z192 hq192 _ => ?_)
                    obtain ⟨rfl, rfl, hfr192, rfl, hq192⟩ := hq192
                    try simp only [up_f (show (180 : Int) ≠ 178 by decide), up_f (show (182 : Int) ≠ 178 by decide), up_k (show (51 : Int) ≠ 55 by decide)] at hq192
                    have hSInv_192 : SInv (v192 180) := by rw [hfr192.1 180 (by decide) (by decide), up_f (by decide)]; exact hSInv_73
                    have hRsI_192 : RsI (v192 184) := by rw [hfr192.1 184 (by decide) (by decide), up_f (by decide)]; exact hRsI_73
                    have hk192_3 : v192 178 3 = (v73 178 3) := (hfr192.2 3 (by decide)).trans ((up_k (by decide)).trans (rfl))
                    have hk192_4 : v192 178 4 = (v73 178 4) := (hfr192.2 4 (by decide)).trans ((up_k (by decide)).trans (rfl))
                    have hk192_5 : v192 178 5 = (v73 178 5) := (hfr192.2 5 (by decide)).trans ((up_k (by decide)).trans (rfl))
                    have hk192_11 : v192 178 11 = (v73 178 11) := (hfr192.2 11 (by decide)).trans ((up_k (by decide)).trans (rfl))
                    have hk192_14 : v192 178 14 = (v73 178 14) := (hfr192.2 14 (by decide)).trans ((up_k (by decide)).trans (rfl))
                    have hk192_25 : v192 178 25 = (v73 178 25) := (hfr192.2 25 (by decide)).trans ((up_k (by decide)).trans (rfl))
                    have hk192_52 : v192 178 52 = (v73 178 52) := (hfr192.2 52 (by decide)).trans ((up_k (by decide)).trans (rfl))
                    have hk192_53 : v192 178 53 = (v73 178 53) := (hfr192.2 53 (by decide)).trans ((up_k (by decide)).trans (rfl))
                    have hk192_55 : v192 178 55 = 1 := (hfr192.2 55 (by decide)).trans (up_s _ _ _ _)
                    have hk192_2 : v192 178 2 = (v73 178 2) := (hfr192.2 2 (by decide)).trans ((up_k (by decide)).trans (rfl))
                    have hk192_54 : v192 178 54 = (v73 178 54) := (hfr192.2 54 (by decide)).trans ((up_k (by decide)).trans (rfl))
                    have hk192_12 : v192 178 12 = (v73 178 12) := (hfr192.2 12 (by decide)).trans ((up_k (by decide)).trans (rfl))
                    show wp g X F_m_operand 0 0 195 [(2, 178), (0, r4), (0, r11), (0, r16), (0, r171)] [] v192 ρ Z
                    have hs192 : SnI (v192 182) (v192 205) (v192 178 51) (v192 178 53) (v192 178 52) (v192 178 55) := by
                      rw [hq192.1, hk192_53, hk192_52, hk192_55, show v192 205 = v73 205 from by rw [hfr192.1 205 (by decide) (by decide)]; (repeat rw [up_f (by decide)])]
                      rw [hk73_52]; exact hs73.leaf (by omega) hq192.2.2 hq192.2.1 (by omega)
                    have hst192 : StD (v192 205) (v192 178 53) (v192 178 54) S := by
                      rw [hk192_53, hk192_54, hfr192.1 205 (by decide) (by decide)]; (repeat rw [up_f (by decide)])
                      exact hst73
                    have hT192 : TkM F n m v192 (tp F n m p) := (hT73.fld (by decide)).fr hfr192 (by decide) (by decide)
                    refine r_aload_n (pc := 195) hX 111 rfl rfl ?_
                    refine r_callV (as := []) (st := []) (K := 12) (pc := 196) hX 112 rfl mo_m_go ml_X12_219 im_m_go se_m_go (c_goT g v192 ρ Z hG  (by (repeat (first | rw [up_k (by decide)] | rw [up_s] | rw [up_r (by decide)])); omega) (hT192)) rfl rfl rfl hG.1 (by rw [hRm]; exact ⟨by decide, by decide⟩) (by rw [hRm]; exact ⟨by decide, by decide⟩) (Nat.le_of_ble_eq_true rfl) (fun o196 v196 ρ196 Z196 hq196 _ => ?_)
                    obtain ⟨rfl, rfl, hfr196, rfl, hq196⟩ := hq196
                    have hSInv_196 : SInv (v196 180) := by rw [hfr196.1 180 (by decide) (by decide)]; exact hSInv_192
                    have hRsI_196 : RsI (v196 184) := by rw [hfr196.1 184 (by decide) (by decide)]; exact hRsI_192
                    have hk196_3 : v196 178 3 = (v192 178 3) := (hfr196.2 3 (by decide)).trans (rfl)
                    have hk196_5 : v196 178 5 = (v192 178 5) := (hfr196.2 5 (by decide)).trans (rfl)
                    have hk196_25 : v196 178 25 = (v192 178 25) := (hfr196.2 25 (by decide)).trans (rfl)
                    have hk196_51 : v196 178 51 = (v192 178 51) := (hfr196.2 51 (by decide)).trans (rfl)
                    have hk196_52 : v196 178 52 = (v192 178 52) := (hfr196.2 52 (by decide)).trans (rfl)
                    have hk196_53 : v196 178 53 = (v192 178 53) := (hfr196.2 53 (by decide)).trans (rfl)
                    have hk196_55 : v196 178 55 = (v192 178 55) := (hfr196.2 55 (by decide)).trans (rfl)
                    have hk196_2 : v196 178 2 = (v192 178 2) := (hfr196.2 2 (by decide)).trans (rfl)
                    have hk196_54 : v196 178 54 = (v192 178 54) := (hfr196.2 54 (by decide)).trans (rfl)
                    show wp g X F_m_operand 0 0 199 [(2, 178), (0, r4), (0, r11), (0, r16), (0, r171)] [] v196 ρ Z
                    have hs196 : SnI (v196 182) (v196 205) (v196 178 51) (v196 178 53) (v196 178 52) (v196 178 55) := by rw [hk196_51, hk196_53, hk196_52, hk196_55, hfr196.1 182 (by decide) (by decide), hfr196.1 205 (by decide) (by decide)]; exact hs192
                    have hst196 : StD (v196 205) (v196 178 53) (v196 178 54) S := by
                      rw [hk196_53, hk196_54, hfr196.1 205 (by decide) (by decide)]; (repeat rw [up_f (by decide)])
                      exact hst192
                    refine r_iconst (pc := 199) hX 113 rfl ?_
                    exact r_zret (pc := 200) hX 114 hQ rfl rfl ⟨by omega, by omega⟩ (Nat.le_refl 0) (Nat.le_refl 0) ⟨rfl, rfl, (((((Fr.rf).fld (k := 52) (by decide)).tr hfr73 (by decide) (by decide)).fld (k := 55) (by decide)).tr hfr192 (by decide) (by decide)).tr hfr196 (by decide) (by decide), 1, rfl, (by (repeat (first | rw [up_k (by decide)] | rw [up_s] | rw [up_r (by decide)])); omega), (Or.inr ⟨rfl, hs196, by omega, by omega⟩), (SmP.mk1 (S2 := S) (p2 := tp F n m (tp F n m p)) (o2 := v 178 52 + 1) hst196 hq196.2 (by omega) (by omega) (sR_l1 (by omega) hp0 hp1 hm0 (by omega) (by omega) hS8 (sLeaf_h0 (by omega) hnm (by show fnd N (tn F n (tp F n m p)) 0 (v 180 0).toNat 0 ≠ -1; omega))))⟩
                  · refine r_aload_n (pc := 181) hX 102 rfl rfl ?_
                    refine r_iconst (pc := 182) hX 103 rfl ?_
                    refine r_callV (as := [(0, 3)]) (st := []) (K := 12) (pc := 183) hX 104 rfl mo_m_bad ml_X12_216 im_m_bad se_m_bad (c_badF g (up v73 178 55 1) ρ Z hG (3) (by omega)) rfl rfl rfl hG.1 (by rw [hRm]; exact ⟨by decide, by decide⟩) (by rw [hRm]; exact ⟨by decide, by decide⟩) (Nat.le_of_ble_eq_true rfl) (fun o183 v183 ρ183 Z183 hq183 _ => ?_)
                    obtain ⟨rfl, rfl, hfr183, r183, rfl, hq183⟩ := hq183
                    try simp only [up_f (show (180 : Int) ≠ 178 by decide), up_k (show (12 : Int) ≠ 55 by decide)] at hq183
                    have hSInv_183 : SInv (v183 180) := by rw [hfr183.1 180 (by decide) (by decide), up_f (by decide)]; exact hSInv_73
                    have hRsI_183 : RsI (v183 184) := by rw [hfr183.1 184 (by decide) (by decide), up_f (by decide)]; exact hRsI_73
                    have hk183_3 : v183 178 3 = (v73 178 3) := (hfr183.2 3 (by decide)).trans ((up_k (by decide)).trans (rfl))
                    have hk183_4 : v183 178 4 = (v73 178 4) := (hfr183.2 4 (by decide)).trans ((up_k (by decide)).trans (rfl))
                    have hk183_5 : v183 178 5 = (v73 178 5) := (hfr183.2 5 (by decide)).trans ((up_k (by decide)).trans (rfl))
                    have hk183_11 : v183 178 11 = (v73 178 11) := (hfr183.2 11 (by decide)).trans ((up_k (by decide)).trans (rfl))
                    have hk183_14 : v183 178 14 = (v73 178 14) := (hfr183.2 14 (by decide)).trans ((up_k (by decide)).trans (rfl))
                    have hk183_25 : v183 178 25 = (v73 178 25) := (hfr183.2 25 (by decide)).trans ((up_k (by decide)).trans (rfl))
                    have hk183_51 : v183 178 51 = (v73 178 51) := (hfr183.2 51 (by decide)).trans ((up_k (by decide)).trans (rfl))
                    have hk183_52 : v183 178 52 = (v73 178 52) := (hfr183.2 52 (by decide)).trans ((up_k (by decide)).trans (rfl))
                    have hk183_53 : v183 178 53 = (v73 178 53) := (hfr183.2 53 (by decide)).trans ((up_k (by decide)).trans (rfl))
                    have hk183_55 : v183 178 55 = 1 := (hfr183.2 55 (by decide)).trans (up_s _ _ _ _)
                    have hk183_2 : v183 178 2 = (v73 178 2) := (hfr183.2 2 (by decide)).trans ((up_k (by decide)).trans (rfl))
                    have hk183_54 : v183 178 54 = (v73 178 54) := (hfr183.2 54 (by decide)).trans ((up_k (by decide)).trans (rfl))
                    have hk183_12 : v183 178 12 = (v73 178 12) := (hfr183.2 12 (by decide)).trans ((up_k (by decide)).trans (rfl))
                    show wp g X F_m_operand 0 0 186 [(2, 178), (0, r4), (0, r11), (0, r16), (0, r171)] [(0, r183)] v183 ρ Z
                    exact r_zret (pc := 186) hX 105 hQ rfl rfl ⟨by omega, by omega⟩ (Nat.le_refl 0) (Nat.le_refl 0) ⟨rfl, rfl, ((((Fr.rf).fld (k := 52) (by decide)).tr hfr73 (by decide) (by decide)).fld (k := 55) (by decide)).tr hfr183 (by decide) (by decide), r183, rfl, (by (repeat (first | rw [up_k (by decide)] | rw [up_s] | rw [up_r (by decide)])); omega), (Or.inl (by omega)), (by
        rw [hq183.1]
        exact SmP.bad (p2 := tp F n m p) hq183.2.1 (hq183.2.2.trans hT73.2.2.2.2.2.2.2.1) (by decide) (sR_l0 (by omega) hp0 hp1 hm0 (by omega) (by omega) hS8 (sLeaf_h3 (by omega) hnm (by show fnd N (tn F n (tp F n m p)) 0 (v 180 0).toNat 0 = -1; omega)) (by decide)))⟩
                · refine r_aload_n (pc := 157) hX 88 rfl rfl ?_
                  refine r_iconst (pc := 158) hX 89 rfl ?_
                  refine r_callV (as := [(0, 1)]) (st := []) (K := 12) (pc := 159) hX 90 rfl mo_m_bad ml_X12_216 im_m_bad se_m_bad (c_badF g (up v73 178 55 1) ρ Z hG (1) (by omega)) rfl rfl rfl hG.1 (by rw [hRm]; exact ⟨by decide, by decide⟩) (by rw [hRm]; exact ⟨by decide, by decide⟩) (Nat.le_of_ble_eq_true rfl) (fun o159 v159 ρ159 Z159 hq159 _ => ?_)
                  obtain ⟨rfl, rfl, hfr159, r159, rfl, hq159⟩ := hq159
                  try simp only [up_f (show (180 : Int) ≠ 178 by decide), up_k (show (12 : Int) ≠ 55 by decide)] at hq159
                  have hSInv_159 : SInv (v159 180) := by rw [hfr159.1 180 (by decide) (by decide), up_f (by decide)]; exact hSInv_73
                  have hRsI_159 : RsI (v159 184) := by rw [hfr159.1 184 (by decide) (by decide), up_f (by decide)]; exact hRsI_73
                  have hk159_3 : v159 178 3 = (v73 178 3) := (hfr159.2 3 (by decide)).trans ((up_k (by decide)).trans (rfl))
                  have hk159_4 : v159 178 4 = (v73 178 4) := (hfr159.2 4 (by decide)).trans ((up_k (by decide)).trans (rfl))
                  have hk159_5 : v159 178 5 = (v73 178 5) := (hfr159.2 5 (by decide)).trans ((up_k (by decide)).trans (rfl))
                  have hk159_11 : v159 178 11 = (v73 178 11) := (hfr159.2 11 (by decide)).trans ((up_k (by decide)).trans (rfl))
                  have hk159_14 : v159 178 14 = (v73 178 14) := (hfr159.2 14 (by decide)).trans ((up_k (by decide)).trans (rfl))
                  have hk159_25 : v159 178 25 = (v73 178 25) := (hfr159.2 25 (by decide)).trans ((up_k (by decide)).trans (rfl))
                  have hk159_51 : v159 178 51 = (v73 178 51) := (hfr159.2 51 (by decide)).trans ((up_k (by decide)).trans (rfl))
                  have hk159_52 : v159 178 52 = (v73 178 52) := (hfr159.2 52 (by decide)).trans ((up_k (by decide)).trans (rfl))
                  have hk159_53 : v159 178 53 = (v73 178 53) := (hfr159.2 53 (by decide)).trans ((up_k (by decide)).trans (rfl))
                  have hk159_55 : v159 178 55 = 1 := (hfr159.2 55 (by decide)).trans (up_s _ _ _ _)
                  have hk159_2 : v159 178 2 = (v73 178 2) := (hfr159.2 2 (by decide)).trans ((up_k (by decide)).trans (rfl))
                  have hk159_54 : v159 178 54 = (v73 178 54) := (hfr159.2 54 (by decide)).trans ((up_k (by decide)).trans (rfl))
                  have hk159_12 : v159 178 12 = (v73 178 12) := (hfr159.2 12 (by decide)).trans ((up_k (by decide)).trans (rfl))
                  show wp g X F_m_operand 0 0 162 [(2, 178), (0, r4), (0, r11), (0, r16), (3, 0)] [(0, r159)] v159 ρ Z
                  replace hn151 := Hd.o hn151
                  exact r_zret (pc := 162) hX 91 hQ rfl rfl ⟨by omega, by omega⟩ (Nat.le_refl 0) (Nat.le_refl 0) ⟨rfl, rfl, ((((Fr.rf).fld (k := 52) (by decide)).tr hfr73 (by decide) (by decide)).fld (k := 55) (by decide)).tr hfr159 (by decide) (by decide), r159, rfl, (by (repeat (first | rw [up_k (by decide)] | rw [up_s] | rw [up_r (by decide)])); omega), (Or.inl (by omega)), (by
        rw [hq159.1]
        refine SmP.bad (p2 := tp F n m p) hq159.2.1 (hq159.2.2.trans hT73.2.2.2.2.2.2.2.1) (by decide) (sR_l0 (by omega) hp0 hp1 hm0 (by omega) (by omega) hS8 (sLeaf_h1 (by omega) ?_) (by decide))
        rcases hn151 with ⟨a, -⟩ | ⟨-, b⟩
        · exact absurd a (by omega)
        · exact b)⟩
            · have hky := (Hd.o hj16).1 (by omega) hr16
              refine r_aload_n (pc := 136) hX 75 rfl rfl ?_
              refine r_iload_n (pc := 137) hX 76 rfl rfl ?_
              refine r_iconst (pc := 138) hX 77 rfl ?_
              refine r_iconst (pc := 139) hX 78 rfl ?_
              refine r_callV (as := [(0, r16), (0, 0), (0, 0)]) (st := []) (K := 12) (pc := 140) hX 79 rfl mo_m_code ml_X12_496 im_m_code se_m_code (c_code g (up v73 178 55 1) ρ Z hG (r16) (0) (0) (by (repeat (first | rw [up_k (by decide)] | rw [up_s] | rw [up_r (by decide)])); omega)) rfl rfl rfl hG.1 (by rw [hRm]; exact ⟨by decide, by decide⟩) (by rw [hRm]; exact ⟨by decide, by decide⟩) (Nat.le_of_ble_eq_true rfl) (fun o140 v140 ρ140 Z140 hq140 _ => ?_)
              obtain ⟨rfl, rfl, hfr140, rfl, hq140⟩ := hq140
              try simp only [up_f (show (180 : Int) ≠ 178 by decide), up_f (show (182 : Int) ≠ 178 by decide), up_k (show (51 : Int) ≠ 55 by decide)] at hq140
              have hSInv_140 : SInv (v140 180) := by rw [hfr140.1 180 (by decide) (by decide), up_f (by decide)]; exact hSInv_73
              have hRsI_140 : RsI (v140 184) := by rw [hfr140.1 184 (by decide) (by decide), up_f (by decide)]; exact hRsI_73
              have hk140_3 : v140 178 3 = (v73 178 3) := (hfr140.2 3 (by decide)).trans ((up_k (by decide)).trans (rfl))
              have hk140_4 : v140 178 4 = (v73 178 4) := (hfr140.2 4 (by decide)).trans ((up_k (by decide)).trans (rfl))
              have hk140_5 : v140 178 5 = (v73 178 5) := (hfr140.2 5 (by decide)).trans ((up_k (by decide)).trans (rfl))
              have hk140_11 : v140 178 11 = (v73 178 11) := (hfr140.2 11 (by decide)).trans ((up_k (by decide)).trans (rfl))
              have hk140_14 : v140 178 14 = (v73 178 14) := (hfr140.2 14 (by decide)).trans ((up_k (by decide)).trans (rfl))
              have hk140_25 : v140 178 25 = (v73 178 25) := (hfr140.2 25 (by decide)).trans ((up_k (by decide)).trans (rfl))
              have hk140_52 : v140 178 52 = (v73 178 52) := (hfr140.2 52 (by decide)).trans ((up_k (by decide)).trans (rfl))
              have hk140_53 : v140 178 53 = (v73 178 53) := (hfr140.2 53 (by decide)).trans ((up_k (by decide)).trans (rfl))
              have hk140_55 : v140 178 55 = 1 := (hfr140.2 55 (by decide)).trans (up_s _ _ _ _)
              have hk140_2 : v140 178 2 = (v73 178 2) := (hfr140.2 2 (by decide)).trans ((up_k (by decide)).trans (rfl))
              have hk140_54 : v140 178 54 = (v73 178 54) := (hfr140.2 54 (by decide)).trans ((up_k (by decide)).trans (rfl))
              have hk140_12 : v140 178 12 = (v73 178 12) := (hfr140.2 12 (by decide)).trans ((up_k (by decide)).trans (rfl))
              show wp g X F_m_operand 0 0 143 [(2, 178), (0, r4), (0, r11), (0, r16), (3, 0)] [] v140 ρ Z
              have hs140 : SnI (v140 182) (v140 205) (v140 178 51) (v140 178 53) (v140 178 52) (v140 178 55) := by
                rw [hq140.1, hk140_53, hk140_52, hk140_55, show v140 205 = v73 205 from by rw [hfr140.1 205 (by decide) (by decide)]; (repeat rw [up_f (by decide)])]
                rw [hk73_52]; exact hs73.leaf (by omega) hq140.2.2 hq140.2.1 (by omega)
              have hst140 : StD (v140 205) (v140 178 53) (v140 178 54) S := by
                rw [hk140_53, hk140_54, hfr140.1 205 (by decide) (by decide)]; (repeat rw [up_f (by decide)])
                exact hst73
              have hT140 : TkM F n m v140 (tp F n m p) := (hT73.fld (by decide)).fr hfr140 (by decide) (by decide)
              refine r_iconst (pc := 143) hX 80 rfl ?_
              exact r_zret (pc := 144) hX 81 hQ rfl rfl ⟨by omega, by omega⟩ (Nat.le_refl 0) (Nat.le_refl 0) ⟨rfl, rfl, ((((Fr.rf).fld (k := 52) (by decide)).tr hfr73 (by decide) (by decide)).fld (k := 55) (by decide)).tr hfr140 (by decide) (by decide), 1, rfl, (by (repeat (first | rw [up_k (by decide)] | rw [up_s] | rw [up_r (by decide)])); omega), (Or.inr ⟨rfl, hs140, by omega, by omega⟩), (SmP.mk1 (S2 := S) (p2 := tp F n m p) (o2 := v 178 52 + 1) hst140 hT140 (by omega) (by omega) (sR_l1 (by omega) hp0 hp1 hm0 (by omega) (by omega) hS8 (sLeaf_0 (by omega))))⟩
          · exact (L84  (by omega) )
      · exact (L56  (by have hl := hD.2; omega) )
  first | refine r_if_ne (pc := 21) hX 12 (tgt := 38) rfl (by decide) (⟨by omega, by omega⟩) (fun h21 => ?_) (fun h21 => ?_) | refine r_if_ne_any (pc := 21) hX 12 (tgt := 38) rfl (by decide) ?_ ?_
  · exact (L38  (by omega) )
  · refine r_iload_n (pc := 24) hX 13 rfl rfl ?_
    first | refine r_if_ne (pc := 25) hX 14 (tgt := 38) rfl (by decide) (⟨by omega, by omega⟩) (fun h25 => ?_) (fun h25 => ?_) | refine r_if_ne_any (pc := 25) hX 14 (tgt := 38) rfl (by decide) ?_ ?_
    · exact (L38  (by omega) )
    · refine r_iload_n (pc := 28) hX 15 rfl rfl ?_
      first | refine r_if_ge (pc := 29) hX 16 (tgt := 38) rfl (by decide) (⟨by omega, by omega⟩) (fun h29 => ?_) (fun h29 => ?_) | refine r_if_ge_any (pc := 29) hX 16 (tgt := 38) rfl (by decide) ?_ ?_
      · exact (L38  (by omega) )
      · refine r_aload_n (pc := 32) hX 17 rfl rfl ?_
        refine r_iconst (pc := 33) hX 18 rfl ?_
        refine r_callV (as := [(0, 1)]) (st := []) (K := 12) (pc := 34) hX 19 rfl mo_m_bad ml_X12_216 im_m_bad se_m_bad (c_badF g v ρ Z hG (1) (by omega)) rfl rfl rfl hG.1 (by rw [hRm]; exact ⟨by decide, by decide⟩) (by rw [hRm]; exact ⟨by decide, by decide⟩) (Nat.le_of_ble_eq_true rfl) (fun o34 v34 ρ34 Z34 hq34 _ => ?_)
        obtain ⟨rfl, rfl, hfr34, r34, rfl, hq34⟩ := hq34
        have hSInv_34 : SInv (v34 180) := by rw [hfr34.1 180 (by decide) (by decide)]; exact hS
        have hRsI_34 : RsI (v34 184) := by rw [hfr34.1 184 (by decide) (by decide)]; exact hrs
        have hk34_3 : v34 178 3 = (v 178 3) := (hfr34.2 3 (by decide)).trans (rfl)
        have hk34_4 : v34 178 4 = (v 178 4) := (hfr34.2 4 (by decide)).trans (rfl)
        have hk34_5 : v34 178 5 = (v 178 5) := (hfr34.2 5 (by decide)).trans (rfl)
        have hk34_11 : v34 178 11 = (v 178 11) := (hfr34.2 11 (by decide)).trans (rfl)
        have hk34_14 : v34 178 14 = (v 178 14) := (hfr34.2 14 (by decide)).trans (rfl)
        have hk34_25 : v34 178 25 = (v 178 25) := (hfr34.2 25 (by decide)).trans (rfl)
        have hk34_51 : v34 178 51 = (v 178 51) := (hfr34.2 51 (by decide)).trans (rfl)
        have hk34_52 : v34 178 52 = (v 178 52) := (hfr34.2 52 (by decide)).trans (rfl)
        have hk34_53 : v34 178 53 = (v 178 53) := (hfr34.2 53 (by decide)).trans (rfl)
        have hk34_55 : v34 178 55 = (v 178 55) := (hfr34.2 55 (by decide)).trans (rfl)
        have hk34_2 : v34 178 2 = (v 178 2) := (hfr34.2 2 (by decide)).trans (rfl)
        have hk34_54 : v34 178 54 = (v 178 54) := (hfr34.2 54 (by decide)).trans (rfl)
        have hk34_12 : v34 178 12 = (v 178 12) := (hfr34.2 12 (by decide)).trans (rfl)
        show wp g X F_m_operand 0 0 37 [(2, 178), (0, r4), (0, r11), (0, r16), (3, 0)] [(0, r34)] v34 ρ Z
        replace hm11 := Hd.o hm11
        have hm0 : mk F n m p 40 = false := by
          rcases hm11 with ⟨a, -⟩ | ⟨-, b⟩
          · exact absurd a (by omega)
          · exact b
        exact r_zret (pc := 37) hX 20 hQ rfl rfl ⟨by omega, by omega⟩ (Nat.le_refl 0) (Nat.le_refl 0) ⟨rfl, rfl, (Fr.rf).tr hfr34 (by decide) (by decide), r34, rfl, (by (repeat (first | rw [up_k (by decide)] | rw [up_s] | rw [up_r (by decide)])); omega), (Or.inl (by omega)), (by
        rw [hq34.1]
        exact SmP.bad (p2 := p) hq34.2.1 (hq34.2.2.trans h12) (by decide) (sR_bad (by omega) hp0 hp1 hm0 (by omega)))⟩
