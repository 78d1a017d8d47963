set_option maxHeartbeats 4000000 in
set_option maxRecDepth 100000 in
theorem c_goF (g : Gp) (v ρ : Mv) (Z : Mz) (hG : GM ρ Z)  (hL : 0 ≤ v 178 4 ∧ v 178 4 ≤ v 178 3 ∧ v 178 3 ≤ 940 ∧ 0 ≤ v 178 11 ∧ v 178 11 ≤ 4 ∧ inR (v 178 5) ∧ inR (v 178 14)) : Ok g 2 0 0 F_m_go [(2, 178)] v ρ Z (fun o v' ρ' Z' => ρ = ρ' ∧ Z = Z' ∧ Fr [] [4, 11, 12, 13, 14, 17] v v' ∧ o = none ∧ (0 ≤ v' 178 4 ∧ v' 178 4 ≤ v' 178 3 ∧ v' 178 3 ≤ 940 ∧ 0 ≤ v' 178 11 ∧ v' 178 11 ≤ 4 ∧ inR (v' 178 5) ∧ inR (v' 178 14) ∧ v 178 4 ≤ v' 178 4 ∧ v' 178 3 = v 178 3 ∧ (v 178 4 < v' 178 4 ∨ v' 178 11 = 0 ∨ v' 178 11 = 4)) ∧ (v' 178 4 = tp (v 179) (v 178 3) (v 178 5) (v 178 4)) ∧ (v' 178 11 = tk (v 179) (v 178 3) (v 178 5) (v 178 4)) ∧ (v' 178 12 = ta (v 179) (v 178 3) (v 178 5) (v 178 4)) ∧ ((v' 178 11 = 2 ∨ v' 178 11 = 3 → v' 178 14 = tv (v 179) (v 178 3) (v 178 4))) ∧ ((v' 178 11 = 1 → v' 178 17 = tw (v 179) (v 178 3) (v 178 4)))) := by
  refine Ok.of mo_m_go (Nat.le_of_ble_eq_true rfl) ?_
  intro X hX hRm hxn hQ
  show wp g X F_m_go 0 0 0 [(2, 178), (3, 0), (3, 0), (3, 0)] [] v ρ Z
  have L0 : ∀ (n0 : Nat) (v0 : Mv) , (Fr [] [4, 11, 12, 13, 14, 17] v v0) → (0 ≤ v0 178 4 ∧ v0 178 4 ≤ v0 178 3 ∧ v0 178 3 ≤ 940 ∧ 0 ≤ v0 178 11 ∧ v0 178 11 ≤ 4 ∧ inR (v0 178 5) ∧ inR (v0 178 14)) → (v 178 4 ≤ v0 178 4 ∧ v0 178 3 = v 178 3 ∧ v0 178 5 = v 178 5) → (v0 179 = v 179) → (fs bB (v 179) (v 178 3) (v0 178 4) = tq (v 179) (v 178 3) (v 178 4)) → (940 - v0 178 4).toNat < n0 → wp g X F_m_go 0 0 0 [(2, 178), (3, 0), (3, 0), (3, 0)] [] v0 ρ Z := by
    intro n0
    induction n0 with
    | zero => intro v0 hfr0 il ip e9 ff hme0; exact absurd hme0 (Nat.not_lt_zero _)
    | succ n0 ih0 =>
      intro v0 hfr0 il ip e9 ff hme0
      refine r_aload_n (pc := 0) hX 0 rfl rfl ?_
      refine r_callV (as := []) (st := []) (K := 12) (pc := 1) hX 1 rfl mo_m_peek ml_X12_180 im_m_peek se_m_peek (c_peekX g v0 ρ Z hG  (by (repeat (first | rw [up_k (by decide)] | rw [up_s] | rw [up_r (by decide)])); omega) (by (repeat (first | rw [up_k (by decide)] | rw [up_s] | rw [up_r (by decide)])); omega)) rfl rfl rfl hG.1 (by rw [hRm]; exact ⟨by decide, by decide⟩) (by rw [hRm]; exact ⟨by decide, by decide⟩) (Nat.le_of_ble_eq_true rfl) (fun o1 v1 ρ1 Z1 hq1 _ => ?_)
      obtain ⟨rfl, rfl, rfl, r1, rfl, hq1⟩ := hq1
      show wp g X F_m_go 0 0 4 [(2, 178), (3, 0), (3, 0), (3, 0)] [(0, r1)] v0 ρ Z
      obtain ⟨hq1, hb1⟩ := hq1
      rw [e9] at hq1
      replace hq1 := Hd.i hq1
      refine r_bipush (pc := 4) hX 2 rfl (by decide) ?_
      have L18 : (v0 178 4 < v0 178 3) → (Hd (v 179 (v0 178 4) % 256 = 32 ∨ v 179 (v0 178 4) % 256 = 10)) → wp g X F_m_go 0 0 18 [(2, 178), (3, 0), (3, 0), (3, 0)] [] v0 ρ Z := by
        intro i18 b18
        refine r_aload_n (pc := 18) hX 8 rfl rfl ?_
        refine r_dup (pc := 19) hX 9 rfl (show (2 : Nat) ≠ 1 by decide) ?_
        refine e_getI (y := (v0 178 4)) (pc := 20) hX 10 rfl fl_X12_21 rfl hG.1 (rfl) ?_
        refine r_iconst (pc := 23) hX 11 rfl ?_
        refine r_iadd (pc := 24) hX 12 rfl ?_
        refine r_putI (pc := 25) hX 13 rfl fl_X12_21 rfl (fun _ h => by cases h; rfl) hG.1 (by decide) ?_
        refine r_goto (pc := 28) hX 14 (tgt := 0) rfl (by decide) ?_
        exact (ih0  (up v0 178 4 ((v0 178 4) + 1)) ((hfr0).fld (k := 4) (by decide)) (by (repeat (first | rw [up_k (by decide)] | rw [up_s] | rw [up_r (by decide)])); omega) (by (repeat (first | rw [up_k (by decide)] | rw [up_s] | rw [up_r (by decide)])); omega) (by (repeat rw [up_f (by decide)]); exact e9) (by (repeat (first | rw [up_k (by decide)] | rw [up_s] | rw [up_r (by decide)])); rw [← fs_step (by omega) (bB_iff.mpr (Hd.o b18))]; exact ff) (by (repeat (first | rw [up_k (by decide)] | rw [up_s] | rw [up_r (by decide)])); omega))
      first | refine r_icmp_eq (pc := 6) hX 3 (tgt := 18) rfl (by decide) (⟨by omega, by omega⟩) (⟨by omega, by omega⟩) (fun h6 => ?_) (fun h6 => ?_) | refine r_icmp_eq_any (pc := 6) hX 3 (tgt := 18) rfl (by decide) ?_ ?_
      · exact (L18  (by first | (have ahq10 := Hd.o hq10; omega) | (have ahq1 := Hd.o hq1; omega)) (Hd.i (by first | (have ahq10 := Hd.o hq10; omega) | (have ahq1 := Hd.o hq1; omega))) )
      · refine r_aload_n (pc := 9) hX 4 rfl rfl ?_
        refine r_callV (as := []) (st := []) (K := 12) (pc := 10) hX 5 rfl mo_m_peek ml_X12_180 im_m_peek se_m_peek (c_peekX g v0 ρ Z hG  (by (repeat (first | rw [up_k (by decide)] | rw [up_s] | rw [up_r (by decide)])); omega) (by (repeat (first | rw [up_k (by decide)] | rw [up_s] | rw [up_r (by decide)])); omega)) rfl rfl rfl hG.1 (by rw [hRm]; exact ⟨by decide, by decide⟩) (by rw [hRm]; exact ⟨by decide, by decide⟩) (Nat.le_of_ble_eq_true rfl) (fun o10 v10 ρ10 Z10 hq10 _ => ?_)
        obtain ⟨rfl, rfl, rfl, r10, rfl, hq10⟩ := hq10
        show wp g X F_m_go 0 0 13 [(2, 178), (3, 0), (3, 0), (3, 0)] [(0, r10)] v0 ρ Z
        obtain ⟨hq10, hb10⟩ := hq10
        rw [e9] at hq10
        replace hq10 := Hd.i hq10
        refine r_bipush (pc := 13) hX 6 rfl (by decide) ?_
        first | refine r_icmp_ne (pc := 15) hX 7 (tgt := 31) rfl (by decide) (⟨by omega, by omega⟩) (⟨by omega, by omega⟩) (fun h15 => ?_) (fun h15 => ?_) | refine r_icmp_ne_any (pc := 15) hX 7 (tgt := 31) rfl (by decide) ?_ ?_
        · have hqe : tq (v 179) (v 178 3) (v 178 4) = v0 178 4 := by
            rw [← ff]
            exact fs_stop (fun z => by have z1 := z.1; have z2 := bB_iff.mp z.2; have ahq1 := Hd.o hq1; have ahq10 := Hd.o hq10; omega)
          clear hq1 hq10
          refine r_aload_n (pc := 31) hX 15 rfl rfl ?_
          refine t_getI (y := (v0 178 4)) (pc := 32) hX 16 rfl rfl rfl fl_X12_21 rfl hG.1 (rfl) ?_
          refine r_putI (pc := 36) hX 18 rfl fl_X12_184 rfl (fun _ h => by cases h; rfl) hG.1 (by decide) ?_
          refine r_aload_n (pc := 39) hX 19 rfl rfl ?_
          refine r_iconst (pc := 40) hX 20 rfl ?_
          refine r_putI (pc := 41) hX 21 rfl fl_X12_187 rfl (fun _ h => by cases h; rfl) hG.1 (by decide) ?_
          refine t_getI (y := (v0 178 3)) (pc := 44) hX 22 rfl rfl rfl fl_X12_18 rfl hG.1 ((up_k (by decide)).trans ((up_k (by decide)).trans (rfl))) ?_
          refine t_getI (y := (v0 178 5)) (pc := 48) hX 24 rfl rfl rfl fl_X12_24 rfl hG.1 ((up_k (by decide)).trans ((up_k (by decide)).trans (rfl))) ?_
          have L80 : (¬ (v 178 5 < v 178 3 ∧ v 178 5 ≤ v0 178 4)) → wp g X F_m_go 0 0 80 [(2, 178), (3, 0), (3, 0), (3, 0)] [] (up (up v0 178 12 (v0 178 4)) 178 13 0) ρ Z := by
            intro hlm
            refine r_aload_n (pc := 80) hX 40 rfl rfl ?_
            refine r_callV (as := []) (st := []) (K := 12) (pc := 81) hX 41 rfl mo_m_peek ml_X12_180 im_m_peek se_m_peek (c_peekX g (up (up v0 178 12 (v0 178 4)) 178 13 0) ρ Z hG  (by (repeat (first | rw [up_k (by decide)] | rw [up_s] | rw [up_r (by decide)])); omega) (by (repeat (first | rw [up_k (by decide)] | rw [up_s] | rw [up_r (by decide)])); omega)) rfl rfl rfl hG.1 (by rw [hRm]; exact ⟨by decide, by decide⟩) (by rw [hRm]; exact ⟨by decide, by decide⟩) (Nat.le_of_ble_eq_true rfl) (fun o81 v81 ρ81 Z81 hq81 _ => ?_)
            obtain ⟨rfl, rfl, rfl, r81, rfl, hq81⟩ := hq81
            try simp only [up_f (show (179 : Int) ≠ 178 by decide), up_f (show (180 : Int) ≠ 178 by decide), up_k (show (3 : Int) ≠ 12 by decide), up_k (show (3 : Int) ≠ 13 by decide), up_k (show (4 : Int) ≠ 12 by decide), up_k (show (4 : Int) ≠ 13 by decide)] at hq81
            show wp g X F_m_go 0 0 84 [(2, 178), (3, 0), (3, 0), (3, 0)] [(0, r81)] (up (up v0 178 12 (v0 178 4)) 178 13 0) ρ Z
            obtain ⟨hq81, hb81⟩ := hq81
            (repeat (first | rw [up_k (by decide)] at hq81 | rw [up_s] at hq81 | rw [up_r (by decide)] at hq81))
            rw [e9] at hq81
            replace hq81 := Hd.i hq81
            refine r_istore_n (ls' := [(2, 178), (0, r81), (3, 0), (3, 0)]) (pc := 84) hX 42 rfl (by decide) rfl ?_
            refine r_iload_n (pc := 85) hX 43 rfl rfl ?_
            first | refine r_if_ge (pc := 86) hX 44 (tgt := 95) rfl (by decide) (⟨by omega, by omega⟩) (fun h86 => ?_) (fun h86 => ?_) | refine r_if_ge_any (pc := 86) hX 44 (tgt := 95) rfl (by decide) ?_ ?_
            · refine r_iload_n (pc := 95) hX 49 rfl rfl ?_
              refine r_callS (as := [(0, r81)]) (st := []) (pc := 96) hX 50 rfl mo_m_isSmall ml_X12_193 stt_m_isSmall (c_isSmall g (up (up v0 178 12 (v0 178 4)) 178 13 0) ρ Z hG (r81) (by omega)) rfl (by rw [hRm]; exact ⟨by decide, by decide⟩) (by rw [hRm]; exact ⟨by decide, by decide⟩) (Nat.le_of_ble_eq_true rfl) (fun o96 v96 ρ96 Z96 hq96 _ => ?_)
              obtain ⟨rfl, rfl, rfl, r96, rfl, hq96⟩ := hq96
              try simp only [up_f (show (180 : Int) ≠ 178 by decide)] at hq96
              show wp g X F_m_go 0 0 99 [(2, 178), (0, r81), (3, 0), (3, 0)] [(0, r96)] (up (up v0 178 12 (v0 178 4)) 178 13 0) ρ Z
              have hb96 : 0 ≤ r96 ∧ r96 ≤ 1 := by omega
              replace hq96 := Hd.i hq96
              have L164 : (Hd (97 ≤ r81 ∧ r81 ≤ 122 ∨ 48 ≤ r81 ∧ r81 ≤ 57)) → wp g X F_m_go 0 0 164 [(2, 178), (0, r81), (3, 0), (3, 0)] [] (up (up v0 178 12 (v0 178 4)) 178 13 0) ρ Z := by
                intro i164
                have hc0 : r81 = v 179 (v0 178 4) % 256 := by have ahq81 := Hd.o hq81; have ai164 := Hd.o i164; omega
                have hlt0 : v0 178 4 < v 178 3 := by have ahq81 := Hd.o hq81; have ai164 := Hd.o i164; omega
                obtain ⟨hTk, hTa, hTp, hTv⟩ := tk_run (f := v 179) (n := v 178 3) (m := v 178 5) (p := v 178 4) (by rw [hqe]; omega) (by rw [hqe]; omega) (by rw [hqe]; exact bG_iff.mpr (by have ai164 := Hd.o i164; omega))
                rw [hqe] at hTk hTa hTv
                refine r_iload_n (pc := 164) hX 85 rfl rfl ?_
                refine r_callS (as := [(0, r81)]) (st := []) (pc := 165) hX 86 rfl mo_m_isSmall ml_X12_193 stt_m_isSmall (c_isSmall g (up (up v0 178 12 (v0 178 4)) 178 13 0) ρ Z hG (r81) (by omega)) rfl (by rw [hRm]; exact ⟨by decide, by decide⟩) (by rw [hRm]; exact ⟨by decide, by decide⟩) (Nat.le_of_ble_eq_true rfl) (fun o165 v165 ρ165 Z165 hq165 _ => ?_)
                obtain ⟨rfl, rfl, rfl, r165, rfl, hq165⟩ := hq165
                try simp only [up_f (show (180 : Int) ≠ 178 by decide)] at hq165
                show wp g X F_m_go 0 0 168 [(2, 178), (0, r81), (3, 0), (3, 0)] [(0, r165)] (up (up v0 178 12 (v0 178 4)) 178 13 0) ρ Z
                have hb165 : 0 ≤ r165 ∧ r165 ≤ 1 := by omega
                replace hq165 := Hd.i hq165
                refine r_istore_n (ls' := [(2, 178), (0, r81), (0, r165), (3, 0)]) (pc := 168) hX 87 rfl (by decide) rfl ?_
                refine r_iconst (pc := 169) hX 88 rfl ?_
                refine r_istore_n (ls' := [(2, 178), (0, r81), (0, r165), (0, 1)]) (pc := 170) hX 89 rfl (by decide) rfl ?_
                refine r_aload_n (pc := 171) hX 90 rfl rfl ?_
                refine r_lconst (pc := 172) hX 91 rfl ?_
                show wp g X F_m_go 0 0 173 [(2, 178), (0, r81), (0, r165), (0, 1)] [(1, 0), (2, 178)] (up (up v0 178 12 (v0 178 4)) 178 13 0) ρ Z
                refine r_putL (pc := 173) hX 92 rfl fl_X12_203 rfl (fun _ h => by cases h; rfl) hG.1 (by decide) ?_
                refine r_aload_n (pc := 176) hX 93 rfl rfl ?_
                refine r_iconst (pc := 177) hX 94 rfl ?_
                refine r_putI (pc := 178) hX 95 rfl fl_X12_200 rfl (fun _ h => by cases h; rfl) hG.1 (by decide) ?_
                have L181 : ∀ (n181 : Nat) (ok : Int) (v181 : Mv) , (Fr [] [4, 11, 12, 13, 14, 17] v v181) → (0 ≤ v181 178 4 ∧ v181 178 4 ≤ v181 178 3 ∧ v181 178 3 ≤ 940 ∧ 0 ≤ v181 178 11 ∧ v181 178 11 ≤ 4 ∧ inR (v181 178 5) ∧ inR (v181 178 14)) → (v0 178 4 ≤ v181 178 4 ∧ v181 178 3 = v 178 3 ∧ v181 178 5 = v 178 5 ∧ v181 178 13 = v181 178 4 - v0 178 4 ∧ v181 178 12 = v0 178 4 ∧ 0 ≤ ok ∧ ok ≤ 1) → (v181 179 = v 179) → (Hd (v0 178 4 < v181 178 4 ∨ v181 178 4 < v181 178 3 ∧ (97 ≤ v 179 (v181 178 4) % 256 ∧ v 179 (v181 178 4) % 256 ≤ 122 ∨ 48 ≤ v 179 (v181 178 4) % 256 ∧ v 179 (v181 178 4) % 256 ≤ 57))) → (fs bG (v 179) (v 178 3) (v181 178 4) = te (v 179) (v 178 3) (v 178 4)) → (Hd (ok = 1 ↔ (r165 = 1 ∧ cntL (v 179) (v0 178 4) (v181 178 4 - v0 178 4).toNat = v181 178 4 - v0 178 4 ∨ r165 = 0 ∧ cntL (v 179) (v0 178 4) (v181 178 4 - v0 178 4).toNat = 0))) → (Hd (v181 178 4 - v0 178 4 ≤ 7 → v181 178 17 = n256 (v 179) (v0 178 4) (v181 178 4 - v0 178 4).toNat)) → (Hd (v181 178 4 - v0 178 4 ≤ 2 → v181 178 14 = n10 (v 179) (v0 178 4) (v181 178 4 - v0 178 4).toNat)) → (Hd ((v181 178 13 = 0 → v181 178 14 = 0) ∧ (v181 178 13 ≤ 1 → -48 ≤ v181 178 14 ∧ v181 178 14 ≤ 207))) → (-1000 ≤ v181 178 14 ∧ v181 178 14 ≤ 3000) → (940 - v181 178 4).toNat < n181 → wp g X F_m_go 0 0 181 [(2, 178), (0, r81), (0, r165), (0, ok)] [] v181 ρ Z := by
                  intro n181
                  induction n181 with
                  | zero => intro ok v181 hfr181 jl jp je js jf jc jw jn jm jm2 hme181; exact absurd hme181 (Nat.not_lt_zero _)
                  | succ n181 ih181 =>
                    intro ok v181 hfr181 jl jp je js jf jc jw jn jm jm2 hme181
                    refine r_aload_n (pc := 181) hX 96 rfl rfl ?_
                    refine r_callV (as := []) (st := []) (K := 12) (pc := 182) hX 97 rfl mo_m_peek ml_X12_180 im_m_peek se_m_peek (c_peekX g v181 ρ Z hG  (by (repeat (first | rw [up_k (by decide)] | rw [up_s] | rw [up_r (by decide)])); omega) (by (repeat (first | rw [up_k (by decide)] | rw [up_s] | rw [up_r (by decide)])); omega)) rfl rfl rfl hG.1 (by rw [hRm]; exact ⟨by decide, by decide⟩) (by rw [hRm]; exact ⟨by decide, by decide⟩) (Nat.le_of_ble_eq_true rfl) (fun o182 v182 ρ182 Z182 hq182 _ => ?_)
                    obtain ⟨rfl, rfl, rfl, r182, rfl, hq182⟩ := hq182
                    show wp g X F_m_go 0 0 185 [(2, 178), (0, r81), (0, r165), (0, ok)] [(0, r182)] v181 ρ Z
                    obtain ⟨hq182, hb182⟩ := hq182
                    rw [je] at hq182
                    replace hq182 := Hd.i hq182
                    refine r_callS (as := [(0, r182)]) (st := []) (pc := 185) hX 98 rfl mo_m_isSmall ml_X12_193 stt_m_isSmall (c_isSmall g v181 ρ Z hG (r182) (by omega)) rfl (by rw [hRm]; exact ⟨by decide, by decide⟩) (by rw [hRm]; exact ⟨by decide, by decide⟩) (Nat.le_of_ble_eq_true rfl) (fun o185 v185 ρ185 Z185 hq185 _ => ?_)
                    obtain ⟨rfl, rfl, rfl, r185, rfl, hq185⟩ := hq185
                    show wp g X F_m_go 0 0 188 [(2, 178), (0, r81), (0, r165), (0, ok)] [(0, r185)] v181 ρ Z
                    have hb185 : 0 ≤ r185 ∧ r185 ≤ 1 := by omega
                    replace hq185 := Hd.i hq185
                    have L201 : (v181 178 4 < v181 178 3) → (Hd (97 ≤ v 179 (v181 178 4) % 256 ∧ v 179 (v181 178 4) % 256 ≤ 122 ∨ 48 ≤ v 179 (v181 178 4) % 256 ∧ v 179 (v181 178 4) % 256 ≤ 57)) → wp g X F_m_go 0 0 201 [(2, 178), (0, r81), (0, r165), (0, ok)] [] v181 ρ Z := by
                      intro k201 g201
                      refine r_iload_n (pc := 201) hX 104 rfl rfl ?_
                      have L221 : ∀ (okn : Int) , (0 ≤ okn ∧ okn ≤ 1) → (Hd (okn = 1 ↔ ok = 1 ∧ (r165 = 1 ∧ (97 ≤ v 179 (v181 178 4) % 256 ∧ v 179 (v181 178 4) % 256 ≤ 122) ∨ r165 = 0 ∧ ¬ (97 ≤ v 179 (v181 178 4) % 256 ∧ v 179 (v181 178 4) % 256 ≤ 122)))) → wp g X F_m_go 0 0 221 [(2, 178), (0, r81), (0, r165), (3, 0)] [(0, okn)] v181 ρ Z := by
                        intro okn iok iok2
                        refine r_istore_n (ls' := [(2, 178), (0, r81), (0, r165), (0, okn)]) (pc := 221) hX 114 rfl (by decide) rfl ?_
                        refine t_getI (y := (v181 178 13)) (pc := 222) hX 115 rfl rfl rfl fl_X12_187 rfl hG.1 (rfl) ?_
                        refine r_bipush (pc := 226) hX 117 rfl (by decide) ?_
                        have L248 : ∀ (v248 : Mv) , (Fr [] [4, 11, 12, 13, 14, 17] v v248) → (v248 178 3 = v181 178 3) → (v248 178 4 = v181 178 4) → (v248 178 5 = v181 178 5) → (v248 178 11 = v181 178 11) → (v248 178 12 = v181 178 12) → (v248 178 13 = v181 178 13) → (v248 178 14 = v181 178 14) → (v248 179 = v 179) → (Hd (v181 178 4 - v0 178 4 ≤ 6 → v248 178 17 = n256 (v 179) (v0 178 4) (v181 178 4 + 1 - v0 178 4).toNat)) → wp g X F_m_go 0 0 248 [(2, 178), (0, r81), (0, r165), (0, okn)] [] v248 ρ Z := by
                          intro v248 hfr248 e3 e4 e5 e11 e12 e13 e14 e9b ew
                          refine t_getI (y := (v248 178 13)) (pc := 248) hX 129 rfl rfl rfl fl_X12_187 rfl hG.1 (rfl) ?_
                          refine r_iconst (pc := 252) hX 131 rfl ?_
                          have L275 : ∀ (v275 : Mv) , (Fr [] [4, 11, 12, 13, 14, 17] v v275) → (v275 178 3 = v181 178 3) → (v275 178 4 = v181 178 4) → (v275 178 5 = v181 178 5) → (v275 178 11 = v181 178 11) → (v275 178 12 = v181 178 12) → (v275 178 13 = v181 178 13) → (v275 179 = v 179) → (v275 178 17 = v248 178 17) → (Hd (v181 178 4 - v0 178 4 ≤ 1 → v275 178 14 = n10 (v 179) (v0 178 4) (v181 178 4 + 1 - v0 178 4).toNat)) → (-1000 ≤ v275 178 14 ∧ v275 178 14 ≤ 3000) → (Hd (v275 178 13 = 0 → -48 ≤ v275 178 14 ∧ v275 178 14 ≤ 207)) → wp g X F_m_go 0 0 275 [(2, 178), (0, r81), (0, r165), (0, okn)] [] v275 ρ Z := by
                            intro v275 hfr275 f3 f4 f5 f11 f12 f13 f9 fw fnn fn fn2
                            refine r_aload_n (pc := 275) hX 144 rfl rfl ?_
                            refine r_dup (pc := 276) hX 145 rfl (show (2 : Nat) ≠ 1 by decide) ?_
                            refine e_getI (y := (v275 178 13)) (pc := 277) hX 146 rfl fl_X12_187 rfl hG.1 (rfl) ?_
                            refine r_iconst (pc := 280) hX 147 rfl ?_
                            refine r_iadd (pc := 281) hX 148 rfl ?_
                            refine r_putI (pc := 282) hX 149 rfl fl_X12_187 rfl (fun _ h => by cases h; rfl) hG.1 (by decide) ?_
                            refine r_aload_n (pc := 285) hX 150 rfl rfl ?_
                            refine r_dup (pc := 286) hX 151 rfl (show (2 : Nat) ≠ 1 by decide) ?_
                            refine e_getI (y := (v275 178 4)) (pc := 287) hX 152 rfl fl_X12_21 rfl hG.1 ((up_k (by decide)).trans (rfl)) ?_
                            refine r_iconst (pc := 290) hX 153 rfl ?_
                            refine r_iadd (pc := 291) hX 154 rfl ?_
                            refine r_putI (pc := 292) hX 155 rfl fl_X12_21 rfl (fun _ h => by cases h; rfl) hG.1 (by decide) ?_
                            refine r_goto (pc := 295) hX 156 (tgt := 181) rfl (by decide) ?_
                            exact (ih181 okn (up (up v275 178 13 ((v275 178 13) + 1)) 178 4 ((v275 178 4) + 1)) (((hfr275).fld (k := 13) (by decide)).fld (k := 4) (by decide)) (by (repeat (first | rw [up_k (by decide)] | rw [up_s] | rw [up_r (by decide)])); omega) (by (repeat (first | rw [up_k (by decide)] | rw [up_s] | rw [up_r (by decide)])); omega) (by (repeat rw [up_f (by decide)]); exact f9) (Hd.i (by left; (repeat (first | rw [up_k (by decide)] | rw [up_s] | rw [up_r (by decide)])); omega)) (by (repeat (first | rw [up_k (by decide)] | rw [up_s] | rw [up_r (by decide)])); rw [f4, ← fs_step (by omega) (bG_iff.mpr (Hd.o g201))]; exact jf) (Hd.i (by (repeat (first | rw [up_k (by decide)] | rw [up_s] | rw [up_r (by decide)])); rw [f4, cntL_s (by omega)]; have hcb := cntL_bd (v 179) (v0 178 4) (v181 178 4 - v0 178 4).toNat; have ajc := Hd.o jc; have aiok2 := Hd.o iok2; by_cases hb : bL (v 179 (v181 178 4) % 256) = true; (rw [if_pos hb]; have hb2 := bL_iff.mp hb; omega); (rw [if_neg hb]; have hb2 : ¬ (97 ≤ v 179 (v181 178 4) % 256 ∧ v 179 (v181 178 4) % 256 ≤ 122) := fun q => hb (bL_iff.mpr q); omega))) (Hd.i (by (repeat (first | rw [up_k (by decide)] | rw [up_s] | rw [up_r (by decide)])); rw [f4, fw]; exact fun z => Hd.o ew (by omega))) (Hd.i (by (repeat (first | rw [up_k (by decide)] | rw [up_s] | rw [up_r (by decide)])); rw [f4]; exact fun z => Hd.o fnn (by omega))) (Hd.i (by have afn2 := Hd.o fn2; (repeat (first | rw [up_k (by decide)] | rw [up_s] | rw [up_r (by decide)])); omega)) (by (repeat (first | rw [up_k (by decide)] | rw [up_s] | rw [up_r (by decide)])); omega) (by (repeat (first | rw [up_k (by decide)] | rw [up_s] | rw [up_r (by decide)])); omega))
                          first | refine r_icmp_ge (pc := 253) hX 132 (tgt := 275) rfl (by decide) (⟨by omega, by omega⟩) (⟨by omega, by omega⟩) (fun h253 => ?_) (fun h253 => ?_) | refine r_icmp_ge_any (pc := 253) hX 132 (tgt := 275) rfl (by decide) ?_ ?_
                          · exact (L275  v248 (hfr248) ((rfl).trans (by omega)) ((rfl).trans (by omega)) ((rfl).trans (by omega)) ((rfl).trans (by omega)) ((rfl).trans (by omega)) ((rfl).trans (by omega)) (by (repeat rw [up_f (by decide)]); exact e9b) (by first | rfl | ((repeat (first | rw [up_k (by decide)] | rw [up_s] | rw [up_r (by decide)])); done) | ((repeat (first | rw [up_k (by decide)] | rw [up_s] | rw [up_r (by decide)])); rfl)) (Hd.i (fun z => by first | (exfalso; omega) | ((repeat (first | rw [up_k (by decide)] | rw [up_s] | rw [up_r (by decide)])); rw [n10_s (by omega), ← Hd.o jn (by omega)]; have ahq265 := Hd.o hq265; omega))) (by have ajm := Hd.o jm; (repeat (first | rw [up_k (by decide)] | rw [up_s] | rw [up_r (by decide)])); omega) (Hd.i (by have ajm := Hd.o jm; (repeat (first | rw [up_k (by decide)] | rw [up_s] | rw [up_r (by decide)])); omega)) )
                          · have hjm := Hd.o jm
                            have hjn : -48 ≤ v248 178 14 ∧ v248 178 14 ≤ 207 := by omega
                            clear hjm
                            refine r_aload_n (pc := 256) hX 133 rfl rfl ?_
                            refine r_bipush (pc := 257) hX 134 rfl (by decide) ?_
                            refine t_getI (y := (v248 178 14)) (pc := 259) hX 135 rfl rfl rfl fl_X12_200 rfl hG.1 (rfl) ?_
                            refine r_imul (pc := 263) hX 137 rfl ?_
                            refine r_aload_n (pc := 264) hX 138 rfl rfl ?_
                            refine r_callV (as := []) (st := [(0, (10 * (v248 178 14))), (2, 178)]) (K := 12) (pc := 265) hX 139 rfl mo_m_peek ml_X12_180 im_m_peek se_m_peek (c_peekX g v248 ρ Z hG  (by (repeat (first | rw [up_k (by decide)] | rw [up_s] | rw [up_r (by decide)])); omega) (by (repeat (first | rw [up_k (by decide)] | rw [up_s] | rw [up_r (by decide)])); omega)) rfl rfl rfl hG.1 (by rw [hRm]; exact ⟨by decide, by decide⟩) (by rw [hRm]; exact ⟨by decide, by decide⟩) (Nat.le_of_ble_eq_true rfl) (fun o265 v265 ρ265 Z265 hq265 _ => ?_)
                            obtain ⟨rfl, rfl, rfl, r265, rfl, hq265⟩ := hq265
                            show wp g X F_m_go 0 0 268 [(2, 178), (0, r81), (0, r165), (0, okn)] [(0, r265), (0, (10 * (v248 178 14))), (2, 178)] v248 ρ Z
                            obtain ⟨hq265, hb265⟩ := hq265
                            rw [e9b, e4] at hq265
                            replace hq265 := Hd.i hq265
                            have hc265 : 0 ≤ r265 := by have ahq265 := Hd.o hq265; omega
                            refine r_iadd (pc := 268) hX 140 rfl ?_
                            refine r_bipush (pc := 269) hX 141 rfl (by decide) ?_
                            refine r_isub (pc := 271) hX 142 rfl ?_
                            refine r_putI (pc := 272) hX 143 rfl fl_X12_200 rfl (fun _ h => by cases h; rfl) hG.1 (by decide) ?_
                            exact (L275  (up v248 178 14 (((10 * (v248 178 14)) + r265) - 48)) ((hfr248).fld (k := 14) (by decide)) (((up_k (by decide)).trans (rfl)).trans (by omega)) (((up_k (by decide)).trans (rfl)).trans (by omega)) (((up_k (by decide)).trans (rfl)).trans (by omega)) (((up_k (by decide)).trans (rfl)).trans (by omega)) (((up_k (by decide)).trans (rfl)).trans (by omega)) (((up_k (by decide)).trans (rfl)).trans (by omega)) (by (repeat rw [up_f (by decide)]); exact e9b) (by first | rfl | ((repeat (first | rw [up_k (by decide)] | rw [up_s] | rw [up_r (by decide)])); done) | ((repeat (first | rw [up_k (by decide)] | rw [up_s] | rw [up_r (by decide)])); rfl)) (Hd.i (fun z => by first | (exfalso; omega) | ((repeat (first | rw [up_k (by decide)] | rw [up_s] | rw [up_r (by decide)])); rw [n10_s (by omega), ← Hd.o jn (by omega)]; have ahq265 := Hd.o hq265; omega))) (by have ajm := Hd.o jm; (repeat (first | rw [up_k (by decide)] | rw [up_s] | rw [up_r (by decide)])); omega) (Hd.i (by have ajm := Hd.o jm; (repeat (first | rw [up_k (by decide)] | rw [up_s] | rw [up_r (by decide)])); omega)) )
                        first | refine r_icmp_ge (pc := 228) hX 118 (tgt := 248) rfl (by decide) (⟨by omega, by omega⟩) (⟨by omega, by omega⟩) (fun h228 => ?_) (fun h228 => ?_) | refine r_icmp_ge_any (pc := 228) hX 118 (tgt := 248) rfl (by decide) ?_ ?_
                        · exact (L248  v181 (hfr181) ((rfl).trans (by omega)) ((rfl).trans (by omega)) ((rfl).trans (by omega)) ((rfl).trans (by omega)) ((rfl).trans (by omega)) ((rfl).trans (by omega)) ((rfl).trans (by omega)) (by (repeat rw [up_f (by decide)]); exact je) (Hd.i (fun z => by first | (exfalso; omega) | ((repeat (first | rw [up_k (by decide)] | rw [up_s] | rw [up_r (by decide)])); rw [n256_s (by omega), ← Hd.o jw (by omega)]; have ahq240 := Hd.o hq240; omega))) )
                        · refine r_aload_n (pc := 231) hX 119 rfl rfl ?_
                          refine t_getL (y := (v181 178 17)) (pc := 232) hX 120 rfl rfl rfl fl_X12_203 rfl hG.1 (rfl) ?_
                          refine r_bipush (pc := 236) hX 122 rfl (by decide) ?_
                          have hwb := n256_6 (f := v 179) (q := v0 178 4) (k := (v181 178 4 - v0 178 4).toNat) (by omega)
                          rw [← Hd.o jw (by omega)] at hwb
                          refine r_lshl8 (pc := 238) hX 123 rfl (⟨by omega, by omega⟩) ?_
                          refine r_aload_n (pc := 239) hX 124 rfl rfl ?_
                          refine r_callV (as := []) (st := [(1, ((v181 178 17) * 256)), (2, 178)]) (K := 12) (pc := 240) hX 125 rfl mo_m_peek ml_X12_180 im_m_peek se_m_peek (c_peekX g v181 ρ Z hG  (by (repeat (first | rw [up_k (by decide)] | rw [up_s] | rw [up_r (by decide)])); omega) (by (repeat (first | rw [up_k (by decide)] | rw [up_s] | rw [up_r (by decide)])); omega)) rfl rfl rfl hG.1 (by rw [hRm]; exact ⟨by decide, by decide⟩) (by rw [hRm]; exact ⟨by decide, by decide⟩) (Nat.le_of_ble_eq_true rfl) (fun o240 v240 ρ240 Z240 hq240 _ => ?_)
                          obtain ⟨rfl, rfl, rfl, r240, rfl, hq240⟩ := hq240
                          show wp g X F_m_go 0 0 243 [(2, 178), (0, r81), (0, r165), (0, okn)] [(0, r240), (1, ((v181 178 17) * 256)), (2, 178)] v181 ρ Z
                          obtain ⟨hq240, hb240⟩ := hq240
                          rw [je] at hq240
                          replace hq240 := Hd.i hq240
                          have hc240 : 0 ≤ r240 := by have ahq240 := Hd.o hq240; omega
                          refine r_i2l (pc := 243) hX 126 rfl ⟨by omega, by omega⟩ ?_
                          refine r_lor8 (pc := 244) hX 127 rfl (⟨by omega, by omega⟩) (⟨by omega, by omega⟩) ?_
                          refine r_putL (pc := 245) hX 128 rfl fl_X12_203 rfl (fun _ h => by cases h; rfl) hG.1 (by decide) ?_
                          exact (L248  (up v181 178 17 (((v181 178 17) * 256) + r240)) ((hfr181).fld (k := 17) (by decide)) (((up_k (by decide)).trans (rfl)).trans (by omega)) (((up_k (by decide)).trans (rfl)).trans (by omega)) (((up_k (by decide)).trans (rfl)).trans (by omega)) (((up_k (by decide)).trans (rfl)).trans (by omega)) (((up_k (by decide)).trans (rfl)).trans (by omega)) (((up_k (by decide)).trans (rfl)).trans (by omega)) (((up_k (by decide)).trans (rfl)).trans (by omega)) (by (repeat rw [up_f (by decide)]); exact je) (Hd.i (fun z => by first | (exfalso; omega) | ((repeat (first | rw [up_k (by decide)] | rw [up_s] | rw [up_r (by decide)])); rw [n256_s (by omega), ← Hd.o jw (by omega)]; have ahq240 := Hd.o hq240; omega))) )
                      first | refine r_if_eq (pc := 202) hX 105 (tgt := 220) rfl (by decide) (⟨by omega, by omega⟩) (fun h202 => ?_) (fun h202 => ?_) | refine r_if_eq_any (pc := 202) hX 105 (tgt := 220) rfl (by decide) ?_ ?_
                      · refine r_iconst (pc := 220) hX 113 rfl ?_
                        refine r_wk (ls' := [(2, 178), (0, r81), (0, r165), (3, 0)]) ⟨Or.inr rfl, Or.inr rfl, Or.inr rfl, Or.inl rfl, trivial⟩ ?_
                        exact (L221 0 (by omega) (Hd.i (by first | (have ahq206 := Hd.o hq206; have ahq209 := Hd.o hq209; omega) | (omega))) )
                      · refine r_aload_n (pc := 205) hX 106 rfl rfl ?_
                        refine r_callV (as := []) (st := []) (K := 12) (pc := 206) hX 107 rfl mo_m_peek ml_X12_180 im_m_peek se_m_peek (c_peekX g v181 ρ Z hG  (by (repeat (first | rw [up_k (by decide)] | rw [up_s] | rw [up_r (by decide)])); omega) (by (repeat (first | rw [up_k (by decide)] | rw [up_s] | rw [up_r (by decide)])); omega)) rfl rfl rfl hG.1 (by rw [hRm]; exact ⟨by decide, by decide⟩) (by rw [hRm]; exact ⟨by decide, by decide⟩) (Nat.le_of_ble_eq_true rfl) (fun o206 v206 ρ206 Z206 hq206 _ => ?_)
                        obtain ⟨rfl, rfl, rfl, r206, rfl, hq206⟩ := hq206
                        show wp g X F_m_go 0 0 209 [(2, 178), (0, r81), (0, r165), (0, ok)] [(0, r206)] v181 ρ Z
                        obtain ⟨hq206, hb206⟩ := hq206
                        rw [je] at hq206
                        replace hq206 := Hd.i hq206
                        refine r_callS (as := [(0, r206)]) (st := []) (pc := 209) hX 108 rfl mo_m_isSmall ml_X12_193 stt_m_isSmall (c_isSmall g v181 ρ Z hG (r206) (by omega)) rfl (by rw [hRm]; exact ⟨by decide, by decide⟩) (by rw [hRm]; exact ⟨by decide, by decide⟩) (Nat.le_of_ble_eq_true rfl) (fun o209 v209 ρ209 Z209 hq209 _ => ?_)
                        obtain ⟨rfl, rfl, rfl, r209, rfl, hq209⟩ := hq209
                        show wp g X F_m_go 0 0 212 [(2, 178), (0, r81), (0, r165), (0, ok)] [(0, r209)] v181 ρ Z
                        have hb209 : 0 ≤ r209 ∧ r209 ≤ 1 := by omega
                        replace hq209 := Hd.i hq209
                        refine r_iload_n (pc := 212) hX 109 rfl rfl ?_
                        first | refine r_icmp_ne (pc := 213) hX 110 (tgt := 220) rfl (by decide) (⟨by omega, by omega⟩) (⟨by omega, by omega⟩) (fun h213 => ?_) (fun h213 => ?_) | refine r_icmp_ne_any (pc := 213) hX 110 (tgt := 220) rfl (by decide) ?_ ?_
                        · refine r_iconst (pc := 220) hX 113 rfl ?_
                          refine r_wk (ls' := [(2, 178), (0, r81), (0, r165), (3, 0)]) ⟨Or.inr rfl, Or.inr rfl, Or.inr rfl, Or.inl rfl, trivial⟩ ?_
                          exact (L221 0 (by omega) (Hd.i (by first | (have ahq206 := Hd.o hq206; have ahq209 := Hd.o hq209; omega) | (omega))) )
                        · refine r_iconst (pc := 216) hX 111 rfl ?_
                          refine r_goto (pc := 217) hX 112 (tgt := 221) rfl (by decide) ?_
                          refine r_wk (ls' := [(2, 178), (0, r81), (0, r165), (3, 0)]) ⟨Or.inr rfl, Or.inr rfl, Or.inr rfl, Or.inl rfl, trivial⟩ ?_
                          exact (L221 1 (by omega) (Hd.i (by first | (have ahq206 := Hd.o hq206; have ahq209 := Hd.o hq209; omega) | (omega))) )
                    first | refine r_if_ne (pc := 188) hX 99 (tgt := 201) rfl (by decide) (⟨by omega, by omega⟩) (fun h188 => ?_) (fun h188 => ?_) | refine r_if_ne_any (pc := 188) hX 99 (tgt := 201) rfl (by decide) ?_ ?_
                    · exact (L201  (by first | (have ahq192 := Hd.o hq192; have ahq195 := Hd.o hq195; omega) | (have ahq182 := Hd.o hq182; have ahq185 := Hd.o hq185; omega)) (Hd.i (by first | (have ahq192 := Hd.o hq192; have ahq195 := Hd.o hq195; omega) | (have ahq182 := Hd.o hq182; have ahq185 := Hd.o hq185; omega))) )
                    · refine r_aload_n (pc := 191) hX 100 rfl rfl ?_
                      refine r_callV (as := []) (st := []) (K := 12) (pc := 192) hX 101 rfl mo_m_peek ml_X12_180 im_m_peek se_m_peek (c_peekX g v181 ρ Z hG  (by (repeat (first | rw [up_k (by decide)] | rw [up_s] | rw [up_r (by decide)])); omega) (by (repeat (first | rw [up_k (by decide)] | rw [up_s] | rw [up_r (by decide)])); omega)) rfl rfl rfl hG.1 (by rw [hRm]; exact ⟨by decide, by decide⟩) (by rw [hRm]; exact ⟨by decide, by decide⟩) (Nat.le_of_ble_eq_true rfl) (fun o192 v192 ρ192 Z192 hq192 _ => ?_)
                      obtain ⟨rfl, rfl, rfl, r192, rfl, hq192⟩ := hq192
                      show wp g X F_m_go 0 0 195 [(2, 178), (0, r81), (0, r165), (0, ok)] [(0, r192)] v181 ρ Z
                      obtain ⟨hq192, hb192⟩ := hq192
                      rw [je] at hq192
                      replace hq192 := Hd.i hq192
                      refine r_callS (as := [(0, r192)]) (st := []) (pc := 195) hX 102 rfl mo_m_isDigit ml_X12_197 stt_m_isDigit (c_isDigit g v181 ρ Z hG (r192) (by omega)) rfl (by rw [hRm]; exact ⟨by decide, by decide⟩) (by rw [hRm]; exact ⟨by decide, by decide⟩) (Nat.le_of_ble_eq_true rfl) (fun o195 v195 ρ195 Z195 hq195 _ => ?_)
                      obtain ⟨rfl, rfl, rfl, r195, rfl, hq195⟩ := hq195
                      show wp g X F_m_go 0 0 198 [(2, 178), (0, r81), (0, r165), (0, ok)] [(0, r195)] v181 ρ Z
                      have hb195 : 0 ≤ r195 ∧ r195 ≤ 1 := by omega
                      replace hq195 := Hd.i hq195
                      first | refine r_if_eq (pc := 198) hX 103 (tgt := 298) rfl (by decide) (⟨by omega, by omega⟩) (fun h198 => ?_) (fun h198 => ?_) | refine r_if_eq_any (pc := 198) hX 103 (tgt := 298) rfl (by decide) ?_ ?_
                      · have hst : ¬ (v181 178 4 < v 178 3 ∧ (97 ≤ v 179 (v181 178 4) % 256 ∧ v 179 (v181 178 4) % 256 ≤ 122 ∨ 48 ≤ v 179 (v181 178 4) % 256 ∧ v 179 (v181 178 4) % 256 ≤ 57)) := by have ahq182 := Hd.o hq182; have ahq185 := Hd.o hq185; have ahq192 := Hd.o hq192; have ahq195 := Hd.o hq195; omega
                        have hte : te (v 179) (v 178 3) (v 178 4) = v181 178 4 := by
                          rw [← jf]
                          exact fs_stop (fun z => hst ⟨z.1, bG_iff.mp z.2⟩)
                        rw [hte] at hTp hTv
                        have htw : tw (v 179) (v 178 3) (v 178 4) = n256 (v 179) (v0 178 4) (v181 178 4 - v0 178 4).toNat := by
                          unfold tw
                          rw [hte, hqe]
                        have hlt : v0 178 4 < v181 178 4 := by have ajs := Hd.o js; omega
                        have hrk := rk_ref (f := v 179) (n := v 178 3) (q := v0 178 4) (a := v181 178 4) (r := r165) (by unfold te at hte; rw [hqe] at hte; exact hte) hlt (by have ahq165 := Hd.o hq165; omega)
                        rw [← hTk] at hrk
                        replace hrk := Hd.i hrk
                        clear hst
                        refine r_aload_n (pc := 298) hX 157 rfl rfl ?_
                        refine r_iload_n (pc := 299) hX 158 rfl rfl ?_
                        first | refine r_if_eq (pc := 300) hX 159 (tgt := 320) rfl (by decide) (⟨by omega, by omega⟩) (fun h300 => ?_) (fun h300 => ?_) | refine r_if_eq_any (pc := 300) hX 159 (tgt := 320) rfl (by decide) ?_ ?_
                        · refine r_iconst (pc := 320) hX 168 rfl ?_
                          refine r_goto (pc := 321) hX 169 (tgt := 333) rfl (by decide) ?_
                          refine r_putI (pc := 333) hX 175 rfl fl_X12_190 rfl (fun _ h => by cases h; rfl) hG.1 (by decide) ?_
                          show wp g X F_m_go 0 0 336 [(2, 178), (0, r81), (0, r165), (0, ok)] [] (up v181 178 11 4) ρ Z
                          exact r_vret (pc := 336) hX 176 hQ rfl rfl (Nat.le_refl 0) (Nat.le_refl 0) ⟨rfl, rfl, (hfr181).fld (k := 11) (by decide), rfl, (by (repeat (first | rw [up_k (by decide)] | rw [up_s] | rw [up_r (by decide)])); omega), (by (repeat (first | rw [up_k (by decide)] | rw [up_s] | rw [up_r (by decide)])); rw [hTp]), (by (repeat (first | rw [up_k (by decide)] | rw [up_s] | rw [up_r (by decide)])); first | (rw [hTk]; done) | (have ahrk := Hd.o hrk; have ajc := Hd.o jc; omega)), (by (repeat (first | rw [up_k (by decide)] | rw [up_s] | rw [up_r (by decide)])); first | (rw [hTa]; done) | (rw [hTa]; omega)), (by (repeat (first | rw [up_k (by decide)] | rw [up_s] | rw [up_r (by decide)])); first | (intro z; exfalso; omega) | (intro z; rw [hTv]; omega) | (intro z; rw [hTv]; exact Hd.o jn (by omega))), (by (repeat (first | rw [up_k (by decide)] | rw [up_s] | rw [up_r (by decide)])); first | (intro z; exfalso; omega) | (intro z; rw [htw]; exact Hd.o jw (by omega)))⟩
                        · refine t_getI (y := (v181 178 13)) (pc := 303) hX 160 rfl rfl rfl fl_X12_187 rfl hG.1 (rfl) ?_
                          refine r_iload_n (pc := 307) hX 162 rfl rfl ?_
                          first | refine r_if_eq (pc := 308) hX 163 (tgt := 316) rfl (by decide) (⟨by omega, by omega⟩) (fun h308 => ?_) (fun h308 => ?_) | refine r_if_eq_any (pc := 308) hX 163 (tgt := 316) rfl (by decide) ?_ ?_
                          · refine r_iconst (pc := 316) hX 166 rfl ?_
                            first | refine r_icmp_le (pc := 317) hX 167 (tgt := 324) rfl (by decide) (⟨by omega, by omega⟩) (⟨by omega, by omega⟩) (fun h317 => ?_) (fun h317 => ?_) | refine r_icmp_le_any (pc := 317) hX 167 (tgt := 324) rfl (by decide) ?_ ?_
                            · refine r_iload_n (pc := 324) hX 170 rfl rfl ?_
                              first | refine r_if_eq (pc := 325) hX 171 (tgt := 332) rfl (by decide) (⟨by omega, by omega⟩) (fun h325 => ?_) (fun h325 => ?_) | refine r_if_eq_any (pc := 325) hX 171 (tgt := 332) rfl (by decide) ?_ ?_
                              · refine r_iconst (pc := 332) hX 174 rfl ?_
                                refine r_putI (pc := 333) hX 175 rfl fl_X12_190 rfl (fun _ h => by cases h; rfl) hG.1 (by decide) ?_
                                show wp g X F_m_go 0 0 336 [(2, 178), (0, r81), (0, r165), (0, ok)] [] (up v181 178 11 2) ρ Z
                                exact r_vret (pc := 336) hX 176 hQ rfl rfl (Nat.le_refl 0) (Nat.le_refl 0) ⟨rfl, rfl, (hfr181).fld (k := 11) (by decide), rfl, (by (repeat (first | rw [up_k (by decide)] | rw [up_s] | rw [up_r (by decide)])); omega), (by (repeat (first | rw [up_k (by decide)] | rw [up_s] | rw [up_r (by decide)])); rw [hTp]), (by (repeat (first | rw [up_k (by decide)] | rw [up_s] | rw [up_r (by decide)])); first | (rw [hTk]; done) | (have ahrk := Hd.o hrk; have ajc := Hd.o jc; omega)), (by (repeat (first | rw [up_k (by decide)] | rw [up_s] | rw [up_r (by decide)])); first | (rw [hTa]; done) | (rw [hTa]; omega)), (by (repeat (first | rw [up_k (by decide)] | rw [up_s] | rw [up_r (by decide)])); first | (intro z; exfalso; omega) | (intro z; rw [hTv]; omega) | (intro z; rw [hTv]; exact Hd.o jn (by omega))), (by (repeat (first | rw [up_k (by decide)] | rw [up_s] | rw [up_r (by decide)])); first | (intro z; exfalso; omega) | (intro z; rw [htw]; exact Hd.o jw (by omega)))⟩
                              · refine r_iconst (pc := 328) hX 172 rfl ?_
                                refine r_goto (pc := 329) hX 173 (tgt := 333) rfl (by decide) ?_
                                refine r_putI (pc := 333) hX 175 rfl fl_X12_190 rfl (fun _ h => by cases h; rfl) hG.1 (by decide) ?_
                                show wp g X F_m_go 0 0 336 [(2, 178), (0, r81), (0, r165), (0, ok)] [] (up v181 178 11 1) ρ Z
                                exact r_vret (pc := 336) hX 176 hQ rfl rfl (Nat.le_refl 0) (Nat.le_refl 0) ⟨rfl, rfl, (hfr181).fld (k := 11) (by decide), rfl, (by (repeat (first | rw [up_k (by decide)] | rw [up_s] | rw [up_r (by decide)])); omega), (by (repeat (first | rw [up_k (by decide)] | rw [up_s] | rw [up_r (by decide)])); rw [hTp]), (by (repeat (first | rw [up_k (by decide)] | rw [up_s] | rw [up_r (by decide)])); first | (rw [hTk]; done) | (have ahrk := Hd.o hrk; have ajc := Hd.o jc; omega)), (by (repeat (first | rw [up_k (by decide)] | rw [up_s] | rw [up_r (by decide)])); first | (rw [hTa]; done) | (rw [hTa]; omega)), (by (repeat (first | rw [up_k (by decide)] | rw [up_s] | rw [up_r (by decide)])); first | (intro z; exfalso; omega) | (intro z; rw [hTv]; omega) | (intro z; rw [hTv]; exact Hd.o jn (by omega))), (by (repeat (first | rw [up_k (by decide)] | rw [up_s] | rw [up_r (by decide)])); first | (intro z; exfalso; omega) | (intro z; rw [htw]; exact Hd.o jw (by omega)))⟩
                            · refine r_iconst (pc := 320) hX 168 rfl ?_
                              refine r_goto (pc := 321) hX 169 (tgt := 333) rfl (by decide) ?_
                              refine r_putI (pc := 333) hX 175 rfl fl_X12_190 rfl (fun _ h => by cases h; rfl) hG.1 (by decide) ?_
                              show wp g X F_m_go 0 0 336 [(2, 178), (0, r81), (0, r165), (0, ok)] [] (up v181 178 11 4) ρ Z
                              exact r_vret (pc := 336) hX 176 hQ rfl rfl (Nat.le_refl 0) (Nat.le_refl 0) ⟨rfl, rfl, (hfr181).fld (k := 11) (by decide), rfl, (by (repeat (first | rw [up_k (by decide)] | rw [up_s] | rw [up_r (by decide)])); omega), (by (repeat (first | rw [up_k (by decide)] | rw [up_s] | rw [up_r (by decide)])); rw [hTp]), (by (repeat (first | rw [up_k (by decide)] | rw [up_s] | rw [up_r (by decide)])); first | (rw [hTk]; done) | (have ahrk := Hd.o hrk; have ajc := Hd.o jc; omega)), (by (repeat (first | rw [up_k (by decide)] | rw [up_s] | rw [up_r (by decide)])); first | (rw [hTa]; done) | (rw [hTa]; omega)), (by (repeat (first | rw [up_k (by decide)] | rw [up_s] | rw [up_r (by decide)])); first | (intro z; exfalso; omega) | (intro z; rw [hTv]; omega) | (intro z; rw [hTv]; exact Hd.o jn (by omega))), (by (repeat (first | rw [up_k (by decide)] | rw [up_s] | rw [up_r (by decide)])); first | (intro z; exfalso; omega) | (intro z; rw [htw]; exact Hd.o jw (by omega)))⟩
                          · refine r_bipush (pc := 311) hX 164 rfl (by decide) ?_
                            refine r_goto (pc := 313) hX 165 (tgt := 317) rfl (by decide) ?_
                            first | refine r_icmp_le (pc := 317) hX 167 (tgt := 324) rfl (by decide) (⟨by omega, by omega⟩) (⟨by omega, by omega⟩) (fun h317 => ?_) (fun h317 => ?_) | refine r_icmp_le_any (pc := 317) hX 167 (tgt := 324) rfl (by decide) ?_ ?_
                            · refine r_iload_n (pc := 324) hX 170 rfl rfl ?_
                              first | refine r_if_eq (pc := 325) hX 171 (tgt := 332) rfl (by decide) (⟨by omega, by omega⟩) (fun h325 => ?_) (fun h325 => ?_) | refine r_if_eq_any (pc := 325) hX 171 (tgt := 332) rfl (by decide) ?_ ?_
                              · refine r_iconst (pc := 332) hX 174 rfl ?_
                                refine r_putI (pc := 333) hX 175 rfl fl_X12_190 rfl (fun _ h => by cases h; rfl) hG.1 (by decide) ?_
                                show wp g X F_m_go 0 0 336 [(2, 178), (0, r81), (0, r165), (0, ok)] [] (up v181 178 11 2) ρ Z
                                exact r_vret (pc := 336) hX 176 hQ rfl rfl (Nat.le_refl 0) (Nat.le_refl 0) ⟨rfl, rfl, (hfr181).fld (k := 11) (by decide), rfl, (by (repeat (first | rw [up_k (by decide)] | rw [up_s] | rw [up_r (by decide)])); omega), (by (repeat (first | rw [up_k (by decide)] | rw [up_s] | rw [up_r (by decide)])); rw [hTp]), (by (repeat (first | rw [up_k (by decide)] | rw [up_s] | rw [up_r (by decide)])); first | (rw [hTk]; done) | (have ahrk := Hd.o hrk; have ajc := Hd.o jc; omega)), (by (repeat (first | rw [up_k (by decide)] | rw [up_s] | rw [up_r (by decide)])); first | (rw [hTa]; done) | (rw [hTa]; omega)), (by (repeat (first | rw [up_k (by decide)] | rw [up_s] | rw [up_r (by decide)])); first | (intro z; exfalso; omega) | (intro z; rw [hTv]; omega) | (intro z; rw [hTv]; exact Hd.o jn (by omega))), (by (repeat (first | rw [up_k (by decide)] | rw [up_s] | rw [up_r (by decide)])); first | (intro z; exfalso; omega) | (intro z; rw [htw]; exact Hd.o jw (by omega)))⟩
                              · refine r_iconst (pc := 328) hX 172 rfl ?_
                                refine r_goto (pc := 329) hX 173 (tgt := 333) rfl (by decide) ?_
                                refine r_putI (pc := 333) hX 175 rfl fl_X12_190 rfl (fun _ h => by cases h; rfl) hG.1 (by decide) ?_
                                show wp g X F_m_go 0 0 336 [(2, 178), (0, r81), (0, r165), (0, ok)] [] (up v181 178 11 1) ρ Z
                                exact r_vret (pc := 336) hX 176 hQ rfl rfl (Nat.le_refl 0) (Nat.le_refl 0) ⟨rfl, rfl, (hfr181).fld (k := 11) (by decide), rfl, (by (repeat (first | rw [up_k (by decide)] | rw [up_s] | rw [up_r (by decide)])); omega), (by (repeat (first | rw [up_k (by decide)] | rw [up_s] | rw [up_r (by decide)])); rw [hTp]), (by (repeat (first | rw [up_k (by decide)] | rw [up_s] | rw [up_r (by decide)])); first | (rw [hTk]; done) | (have ahrk := Hd.o hrk; have ajc := Hd.o jc; omega)), (by (repeat (first | rw [up_k (by decide)] | rw [up_s] | rw [up_r (by decide)])); first | (rw [hTa]; done) | (rw [hTa]; omega)), (by (repeat (first | rw [up_k (by decide)] | rw [up_s] | rw [up_r (by decide)])); first | (intro z; exfalso; omega) | (intro z; rw [hTv]; omega) | (intro z; rw [hTv]; exact Hd.o jn (by omega))), (by (repeat (first | rw [up_k (by decide)] | rw [up_s] | rw [up_r (by decide)])); first | (intro z; exfalso; omega) | (intro z; rw [htw]; exact Hd.o jw (by omega)))⟩
                            · refine r_iconst (pc := 320) hX 168 rfl ?_
                              refine r_goto (pc := 321) hX 169 (tgt := 333) rfl (by decide) ?_
                              refine r_putI (pc := 333) hX 175 rfl fl_X12_190 rfl (fun _ h => by cases h; rfl) hG.1 (by decide) ?_
                              show wp g X F_m_go 0 0 336 [(2, 178), (0, r81), (0, r165), (0, ok)] [] (up v181 178 11 4) ρ Z
                              exact r_vret (pc := 336) hX 176 hQ rfl rfl (Nat.le_refl 0) (Nat.le_refl 0) ⟨rfl, rfl, (hfr181).fld (k := 11) (by decide), rfl, (by (repeat (first | rw [up_k (by decide)] | rw [up_s] | rw [up_r (by decide)])); omega), (by (repeat (first | rw [up_k (by decide)] | rw [up_s] | rw [up_r (by decide)])); rw [hTp]), (by (repeat (first | rw [up_k (by decide)] | rw [up_s] | rw [up_r (by decide)])); first | (rw [hTk]; done) | (have ahrk := Hd.o hrk; have ajc := Hd.o jc; omega)), (by (repeat (first | rw [up_k (by decide)] | rw [up_s] | rw [up_r (by decide)])); first | (rw [hTa]; done) | (rw [hTa]; omega)), (by (repeat (first | rw [up_k (by decide)] | rw [up_s] | rw [up_r (by decide)])); first | (intro z; exfalso; omega) | (intro z; rw [hTv]; omega) | (intro z; rw [hTv]; exact Hd.o jn (by omega))), (by (repeat (first | rw [up_k (by decide)] | rw [up_s] | rw [up_r (by decide)])); first | (intro z; exfalso; omega) | (intro z; rw [htw]; exact Hd.o jw (by omega)))⟩
                      · exact (L201  (by first | (have ahq192 := Hd.o hq192; have ahq195 := Hd.o hq195; omega) | (have ahq182 := Hd.o hq182; have ahq185 := Hd.o hq185; omega)) (Hd.i (by first | (have ahq192 := Hd.o hq192; have ahq195 := Hd.o hq195; omega) | (have ahq182 := Hd.o hq182; have ahq185 := Hd.o hq185; omega))) )
                exact (L181 _ 1 (up (up (up (up v0 178 12 (v0 178 4)) 178 13 0) 178 17 0) 178 14 0) (((((hfr0).fld (k := 12) (by decide)).fld (k := 13) (by decide)).fld (k := 17) (by decide)).fld (k := 14) (by decide)) (by (repeat (first | rw [up_k (by decide)] | rw [up_s] | rw [up_r (by decide)])); omega) (by (repeat (first | rw [up_k (by decide)] | rw [up_s] | rw [up_r (by decide)])); omega) (by (repeat rw [up_f (by decide)]); exact e9) (Hd.i (by (repeat (first | rw [up_k (by decide)] | rw [up_s] | rw [up_r (by decide)])); have ai164 := Hd.o i164; omega)) (by (repeat (first | rw [up_k (by decide)] | rw [up_s] | rw [up_r (by decide)])); unfold te; rw [hqe]) (Hd.i (by (repeat (first | rw [up_k (by decide)] | rw [up_s] | rw [up_r (by decide)])); rw [show (v0 178 4 - v0 178 4).toNat = 0 by omega]; show (1 = 1 ↔ (r165 = 1 ∧ (0 : Int) = _ ∨ r165 = 0 ∧ (0 : Int) = 0)); omega)) (Hd.i (by (repeat (first | rw [up_k (by decide)] | rw [up_s] | rw [up_r (by decide)])); rw [show (v0 178 4 - v0 178 4).toNat = 0 by omega]; exact fun _ => rfl)) (Hd.i (by (repeat (first | rw [up_k (by decide)] | rw [up_s] | rw [up_r (by decide)])); rw [show (v0 178 4 - v0 178 4).toNat = 0 by omega]; exact fun _ => rfl)) (Hd.i (by (repeat (first | rw [up_k (by decide)] | rw [up_s] | rw [up_r (by decide)])); omega)) (by (repeat (first | rw [up_k (by decide)] | rw [up_s] | rw [up_r (by decide)])); omega) (Nat.lt_succ_self _))
              first | refine r_if_ne (pc := 99) hX 51 (tgt := 164) rfl (by decide) (⟨by omega, by omega⟩) (fun h99 => ?_) (fun h99 => ?_) | refine r_if_ne_any (pc := 99) hX 51 (tgt := 164) rfl (by decide) ?_ ?_
              · exact (L164  (Hd.i (by first | (have ahq103 := Hd.o hq103; omega) | (have ahq96 := Hd.o hq96; omega))) )
              · refine r_iload_n (pc := 102) hX 52 rfl rfl ?_
                refine r_callS (as := [(0, r81)]) (st := []) (pc := 103) hX 53 rfl mo_m_isDigit ml_X12_197 stt_m_isDigit (c_isDigit g (up (up v0 178 12 (v0 178 4)) 178 13 0) ρ Z hG (r81) (by omega)) rfl (by rw [hRm]; exact ⟨by decide, by decide⟩) (by rw [hRm]; exact ⟨by decide, by decide⟩) (Nat.le_of_ble_eq_true rfl) (fun o103 v103 ρ103 Z103 hq103 _ => ?_)
                obtain ⟨rfl, rfl, rfl, r103, rfl, hq103⟩ := hq103
                try simp only [up_f (show (180 : Int) ≠ 178 by decide)] at hq103
                show wp g X F_m_go 0 0 106 [(2, 178), (0, r81), (3, 0), (3, 0)] [(0, r103)] (up (up v0 178 12 (v0 178 4)) 178 13 0) ρ Z
                have hb103 : 0 ≤ r103 ∧ r103 ≤ 1 := by omega
                replace hq103 := Hd.i hq103
                first | refine r_if_ne (pc := 106) hX 54 (tgt := 164) rfl (by decide) (⟨by omega, by omega⟩) (fun h106 => ?_) (fun h106 => ?_) | refine r_if_ne_any (pc := 106) hX 54 (tgt := 164) rfl (by decide) ?_ ?_
                · exact (L164  (Hd.i (by first | (have ahq103 := Hd.o hq103; omega) | (have ahq96 := Hd.o hq96; omega))) )
                · have hlt0 : v0 178 4 < v 178 3 := by have ahq81 := Hd.o hq81; omega
                  have hc0 : r81 = v 179 (v0 178 4) % 256 := by have ahq81 := Hd.o hq81; omega
                  obtain ⟨hTk, hTa, hTp, hTv⟩ := tk_sg (f := v 179) (n := v 178 3) (m := v 178 5) (p := v 178 4) (by rw [hqe]; omega) (by rw [hqe]; have ahq81 := Hd.o hq81; omega) (by rw [hqe]; exact fun z => by have z2 := bG_iff.mp z; have ahq96 := Hd.o hq96; have ahq103 := Hd.o hq103; omega)
                  rw [hqe] at hTk hTa hTp hTv
                  refine r_aload_n (pc := 109) hX 55 rfl rfl ?_
                  refine r_iload_n (pc := 110) hX 56 rfl rfl ?_
                  refine r_bipush (pc := 111) hX 57 rfl (by decide) ?_
                  first | refine r_icmp_eq (pc := 113) hX 58 (tgt := 140) rfl (by decide) (⟨by omega, by omega⟩) (⟨by omega, by omega⟩) (fun h113 => ?_) (fun h113 => ?_) | refine r_icmp_eq_any (pc := 113) hX 58 (tgt := 140) rfl (by decide) ?_ ?_
                  · replace hTk := hTk.trans (if_pos (bM_iff.mpr (by omega)))
                    refine r_iconst (pc := 140) hX 71 rfl ?_
                    refine r_goto (pc := 141) hX 72 (tgt := 145) rfl (by decide) ?_
                    refine r_putI (pc := 145) hX 74 rfl fl_X12_190 rfl (fun _ h => by cases h; rfl) hG.1 (by decide) ?_
                    refine r_aload_n (pc := 148) hX 75 rfl rfl ?_
                    refine r_iload_n (pc := 149) hX 76 rfl rfl ?_
                    refine r_putI (pc := 150) hX 77 rfl fl_X12_200 rfl (fun _ h => by cases h; rfl) hG.1 (by decide) ?_
                    refine r_aload_n (pc := 153) hX 78 rfl rfl ?_
                    refine r_dup (pc := 154) hX 79 rfl (show (2 : Nat) ≠ 1 by decide) ?_
                    refine e_getI (y := (v0 178 4)) (pc := 155) hX 80 rfl fl_X12_21 rfl hG.1 ((up_k (by decide)).trans ((up_k (by decide)).trans ((up_k (by decide)).trans ((up_k (by decide)).trans (rfl))))) ?_
                    refine r_iconst (pc := 158) hX 81 rfl ?_
                    refine r_iadd (pc := 159) hX 82 rfl ?_
                    refine r_putI (pc := 160) hX 83 rfl fl_X12_21 rfl (fun _ h => by cases h; rfl) hG.1 (by decide) ?_
                    show wp g X F_m_go 0 0 163 [(2, 178), (0, r81), (3, 0), (3, 0)] [] (up (up (up (up (up v0 178 12 (v0 178 4)) 178 13 0) 178 11 3) 178 14 r81) 178 4 ((v0 178 4) + 1)) ρ Z
                    exact r_vret (pc := 163) hX 84 hQ rfl rfl (Nat.le_refl 0) (Nat.le_refl 0) ⟨rfl, rfl, (((((hfr0).fld (k := 12) (by decide)).fld (k := 13) (by decide)).fld (k := 11) (by decide)).fld (k := 14) (by decide)).fld (k := 4) (by decide), rfl, (by (repeat (first | rw [up_k (by decide)] | rw [up_s] | rw [up_r (by decide)])); omega), (by (repeat (first | rw [up_k (by decide)] | rw [up_s] | rw [up_r (by decide)])); rw [hTp]), (by (repeat (first | rw [up_k (by decide)] | rw [up_s] | rw [up_r (by decide)])); first | (rw [hTk]; done) | (have ahrk := Hd.o hrk; have ajc := Hd.o jc; omega)), (by (repeat (first | rw [up_k (by decide)] | rw [up_s] | rw [up_r (by decide)])); first | (rw [hTa]; done) | (rw [hTa]; omega)), (by (repeat (first | rw [up_k (by decide)] | rw [up_s] | rw [up_r (by decide)])); first | (intro z; exfalso; omega) | (intro z; rw [hTv]; omega) | (intro z; rw [hTv]; exact Hd.o jn (by omega))), (by (repeat (first | rw [up_k (by decide)] | rw [up_s] | rw [up_r (by decide)])); first | (intro z; exfalso; omega) | (intro z; rw [htw]; exact Hd.o jw (by omega)))⟩
                  · refine r_iload_n (pc := 116) hX 59 rfl rfl ?_
                    refine r_bipush (pc := 117) hX 60 rfl (by decide) ?_
                    first | refine r_icmp_eq (pc := 119) hX 61 (tgt := 140) rfl (by decide) (⟨by omega, by omega⟩) (⟨by omega, by omega⟩) (fun h119 => ?_) (fun h119 => ?_) | refine r_icmp_eq_any (pc := 119) hX 61 (tgt := 140) rfl (by decide) ?_ ?_
                    · replace hTk := hTk.trans (if_pos (bM_iff.mpr (by omega)))
                      refine r_iconst (pc := 140) hX 71 rfl ?_
                      refine r_goto (pc := 141) hX 72 (tgt := 145) rfl (by decide) ?_
                      refine r_putI (pc := 145) hX 74 rfl fl_X12_190 rfl (fun _ h => by cases h; rfl) hG.1 (by decide) ?_
                      refine r_aload_n (pc := 148) hX 75 rfl rfl ?_
                      refine r_iload_n (pc := 149) hX 76 rfl rfl ?_
                      refine r_putI (pc := 150) hX 77 rfl fl_X12_200 rfl (fun _ h => by cases h; rfl) hG.1 (by decide) ?_
                      refine r_aload_n (pc := 153) hX 78 rfl rfl ?_
                      refine r_dup (pc := 154) hX 79 rfl (show (2 : Nat) ≠ 1 by decide) ?_
                      refine e_getI (y := (v0 178 4)) (pc := 155) hX 80 rfl fl_X12_21 rfl hG.1 ((up_k (by decide)).trans ((up_k (by decide)).trans ((up_k (by decide)).trans ((up_k (by decide)).trans (rfl))))) ?_
                      refine r_iconst (pc := 158) hX 81 rfl ?_
                      refine r_iadd (pc := 159) hX 82 rfl ?_
                      refine r_putI (pc := 160) hX 83 rfl fl_X12_21 rfl (fun _ h => by cases h; rfl) hG.1 (by decide) ?_
                      show wp g X F_m_go 0 0 163 [(2, 178), (0, r81), (3, 0), (3, 0)] [] (up (up (up (up (up v0 178 12 (v0 178 4)) 178 13 0) 178 11 3) 178 14 r81) 178 4 ((v0 178 4) + 1)) ρ Z
                      exact r_vret (pc := 163) hX 84 hQ rfl rfl (Nat.le_refl 0) (Nat.le_refl 0) ⟨rfl, rfl, (((((hfr0).fld (k := 12) (by decide)).fld (k := 13) (by decide)).fld (k := 11) (by decide)).fld (k := 14) (by decide)).fld (k := 4) (by decide), rfl, (by (repeat (first | rw [up_k (by decide)] | rw [up_s] | rw [up_r (by decide)])); omega), (by (repeat (first | rw [up_k (by decide)] | rw [up_s] | rw [up_r (by decide)])); rw [hTp]), (by (repeat (first | rw [up_k (by decide)] | rw [up_s] | rw [up_r (by decide)])); first | (rw [hTk]; done) | (have ahrk := Hd.o hrk; have ajc := Hd.o jc; omega)), (by (repeat (first | rw [up_k (by decide)] | rw [up_s] | rw [up_r (by decide)])); first | (rw [hTa]; done) | (rw [hTa]; omega)), (by (repeat (first | rw [up_k (by decide)] | rw [up_s] | rw [up_r (by decide)])); first | (intro z; exfalso; omega) | (intro z; rw [hTv]; omega) | (intro z; rw [hTv]; exact Hd.o jn (by omega))), (by (repeat (first | rw [up_k (by decide)] | rw [up_s] | rw [up_r (by decide)])); first | (intro z; exfalso; omega) | (intro z; rw [htw]; exact Hd.o jw (by omega)))⟩
                    · refine r_iload_n (pc := 122) hX 62 rfl rfl ?_
                      refine r_bipush (pc := 123) hX 63 rfl (by decide) ?_
                      first | refine r_icmp_eq (pc := 125) hX 64 (tgt := 140) rfl (by decide) (⟨by omega, by omega⟩) (⟨by omega, by omega⟩) (fun h125 => ?_) (fun h125 => ?_) | refine r_icmp_eq_any (pc := 125) hX 64 (tgt := 140) rfl (by decide) ?_ ?_
                      · replace hTk := hTk.trans (if_pos (bM_iff.mpr (by omega)))
                        refine r_iconst (pc := 140) hX 71 rfl ?_
                        refine r_goto (pc := 141) hX 72 (tgt := 145) rfl (by decide) ?_
                        refine r_putI (pc := 145) hX 74 rfl fl_X12_190 rfl (fun _ h => by cases h; rfl) hG.1 (by decide) ?_
                        refine r_aload_n (pc := 148) hX 75 rfl rfl ?_
                        refine r_iload_n (pc := 149) hX 76 rfl rfl ?_
                        refine r_putI (pc := 150) hX 77 rfl fl_X12_200 rfl (fun _ h => by cases h; rfl) hG.1 (by decide) ?_
                        refine r_aload_n (pc := 153) hX 78 rfl rfl ?_
                        refine r_dup (pc := 154) hX 79 rfl (show (2 : Nat) ≠ 1 by decide) ?_
                        refine e_getI (y := (v0 178 4)) (pc := 155) hX 80 rfl fl_X12_21 rfl hG.1 ((up_k (by decide)).trans ((up_k (by decide)).trans ((up_k (by decide)).trans ((up_k (by decide)).trans (rfl))))) ?_
                        refine r_iconst (pc := 158) hX 81 rfl ?_
                        refine r_iadd (pc := 159) hX 82 rfl ?_
                        refine r_putI (pc := 160) hX 83 rfl fl_X12_21 rfl (fun _ h => by cases h; rfl) hG.1 (by decide) ?_
                        show wp g X F_m_go 0 0 163 [(2, 178), (0, r81), (3, 0), (3, 0)] [] (up (up (up (up (up v0 178 12 (v0 178 4)) 178 13 0) 178 11 3) 178 14 r81) 178 4 ((v0 178 4) + 1)) ρ Z
                        exact r_vret (pc := 163) hX 84 hQ rfl rfl (Nat.le_refl 0) (Nat.le_refl 0) ⟨rfl, rfl, (((((hfr0).fld (k := 12) (by decide)).fld (k := 13) (by decide)).fld (k := 11) (by decide)).fld (k := 14) (by decide)).fld (k := 4) (by decide), rfl, (by (repeat (first | rw [up_k (by decide)] | rw [up_s] | rw [up_r (by decide)])); omega), (by (repeat (first | rw [up_k (by decide)] | rw [up_s] | rw [up_r (by decide)])); rw [hTp]), (by (repeat (first | rw [up_k (by decide)] | rw [up_s] | rw [up_r (by decide)])); first | (rw [hTk]; done) | (have ahrk := Hd.o hrk; have ajc := Hd.o jc; omega)), (by (repeat (first | rw [up_k (by decide)] | rw [up_s] | rw [up_r (by decide)])); first | (rw [hTa]; done) | (rw [hTa]; omega)), (by (repeat (first | rw [up_k (by decide)] | rw [up_s] | rw [up_r (by decide)])); first | (intro z; exfalso; omega) | (intro z; rw [hTv]; omega) | (intro z; rw [hTv]; exact Hd.o jn (by omega))), (by (repeat (first | rw [up_k (by decide)] | rw [up_s] | rw [up_r (by decide)])); first | (intro z; exfalso; omega) | (intro z; rw [htw]; exact Hd.o jw (by omega)))⟩
                      · refine r_iload_n (pc := 128) hX 65 rfl rfl ?_
                        refine r_bipush (pc := 129) hX 66 rfl (by decide) ?_
                        first | refine r_icmp_lt (pc := 131) hX 67 (tgt := 144) rfl (by decide) (⟨by omega, by omega⟩) (⟨by omega, by omega⟩) (fun h131 => ?_) (fun h131 => ?_) | refine r_icmp_lt_any (pc := 131) hX 67 (tgt := 144) rfl (by decide) ?_ ?_
                        · replace hTk := hTk.trans (if_neg (fun z => by have z2 := bM_iff.mp z; omega))
                          refine r_iconst (pc := 144) hX 73 rfl ?_
                          refine r_putI (pc := 145) hX 74 rfl fl_X12_190 rfl (fun _ h => by cases h; rfl) hG.1 (by decide) ?_
                          refine r_aload_n (pc := 148) hX 75 rfl rfl ?_
                          refine r_iload_n (pc := 149) hX 76 rfl rfl ?_
                          refine r_putI (pc := 150) hX 77 rfl fl_X12_200 rfl (fun _ h => by cases h; rfl) hG.1 (by decide) ?_
                          refine r_aload_n (pc := 153) hX 78 rfl rfl ?_
                          refine r_dup (pc := 154) hX 79 rfl (show (2 : Nat) ≠ 1 by decide) ?_
                          refine e_getI (y := (v0 178 4)) (pc := 155) hX 80 rfl fl_X12_21 rfl hG.1 ((up_k (by decide)).trans ((up_k (by decide)).trans ((up_k (by decide)).trans ((up_k (by decide)).trans (rfl))))) ?_
                          refine r_iconst (pc := 158) hX 81 rfl ?_
                          refine r_iadd (pc := 159) hX 82 rfl ?_
                          refine r_putI (pc := 160) hX 83 rfl fl_X12_21 rfl (fun _ h => by cases h; rfl) hG.1 (by decide) ?_
                          show wp g X F_m_go 0 0 163 [(2, 178), (0, r81), (3, 0), (3, 0)] [] (up (up (up (up (up v0 178 12 (v0 178 4)) 178 13 0) 178 11 4) 178 14 r81) 178 4 ((v0 178 4) + 1)) ρ Z
                          exact r_vret (pc := 163) hX 84 hQ rfl rfl (Nat.le_refl 0) (Nat.le_refl 0) ⟨rfl, rfl, (((((hfr0).fld (k := 12) (by decide)).fld (k := 13) (by decide)).fld (k := 11) (by decide)).fld (k := 14) (by decide)).fld (k := 4) (by decide), rfl, (by (repeat (first | rw [up_k (by decide)] | rw [up_s] | rw [up_r (by decide)])); omega), (by (repeat (first | rw [up_k (by decide)] | rw [up_s] | rw [up_r (by decide)])); rw [hTp]), (by (repeat (first | rw [up_k (by decide)] | rw [up_s] | rw [up_r (by decide)])); first | (rw [hTk]; done) | (have ahrk := Hd.o hrk; have ajc := Hd.o jc; omega)), (by (repeat (first | rw [up_k (by decide)] | rw [up_s] | rw [up_r (by decide)])); first | (rw [hTa]; done) | (rw [hTa]; omega)), (by (repeat (first | rw [up_k (by decide)] | rw [up_s] | rw [up_r (by decide)])); first | (intro z; exfalso; omega) | (intro z; rw [hTv]; omega) | (intro z; rw [hTv]; exact Hd.o jn (by omega))), (by (repeat (first | rw [up_k (by decide)] | rw [up_s] | rw [up_r (by decide)])); first | (intro z; exfalso; omega) | (intro z; rw [htw]; exact Hd.o jw (by omega)))⟩
                        · refine r_iload_n (pc := 134) hX 68 rfl rfl ?_
                          refine r_bipush (pc := 135) hX 69 rfl (by decide) ?_
                          first | refine r_icmp_gt (pc := 137) hX 70 (tgt := 144) rfl (by decide) (⟨by omega, by omega⟩) (⟨by omega, by omega⟩) (fun h137 => ?_) (fun h137 => ?_) | refine r_icmp_gt_any (pc := 137) hX 70 (tgt := 144) rfl (by decide) ?_ ?_
                          · replace hTk := hTk.trans (if_neg (fun z => by have z2 := bM_iff.mp z; omega))
                            refine r_iconst (pc := 144) hX 73 rfl ?_
                            refine r_putI (pc := 145) hX 74 rfl fl_X12_190 rfl (fun _ h => by cases h; rfl) hG.1 (by decide) ?_
                            refine r_aload_n (pc := 148) hX 75 rfl rfl ?_
                            refine r_iload_n (pc := 149) hX 76 rfl rfl ?_
                            refine r_putI (pc := 150) hX 77 rfl fl_X12_200 rfl (fun _ h => by cases h; rfl) hG.1 (by decide) ?_
                            refine r_aload_n (pc := 153) hX 78 rfl rfl ?_
                            refine r_dup (pc := 154) hX 79 rfl (show (2 : Nat) ≠ 1 by decide) ?_
                            refine e_getI (y := (v0 178 4)) (pc := 155) hX 80 rfl fl_X12_21 rfl hG.1 ((up_k (by decide)).trans ((up_k (by decide)).trans ((up_k (by decide)).trans ((up_k (by decide)).trans (rfl))))) ?_
                            refine r_iconst (pc := 158) hX 81 rfl ?_
                            refine r_iadd (pc := 159) hX 82 rfl ?_
                            refine r_putI (pc := 160) hX 83 rfl fl_X12_21 rfl (fun _ h => by cases h; rfl) hG.1 (by decide) ?_
                            show wp g X F_m_go 0 0 163 [(2, 178), (0, r81), (3, 0), (3, 0)] [] (up (up (up (up (up v0 178 12 (v0 178 4)) 178 13 0) 178 11 4) 178 14 r81) 178 4 ((v0 178 4) + 1)) ρ Z
                            exact r_vret (pc := 163) hX 84 hQ rfl rfl (Nat.le_refl 0) (Nat.le_refl 0) ⟨rfl, rfl, (((((hfr0).fld (k := 12) (by decide)).fld (k := 13) (by decide)).fld (k := 11) (by decide)).fld (k := 14) (by decide)).fld (k := 4) (by decide), rfl, (by (repeat (first | rw [up_k (by decide)] | rw [up_s] | rw [up_r (by decide)])); omega), (by (repeat (first | rw [up_k (by decide)] | rw [up_s] | rw [up_r (by decide)])); rw [hTp]), (by (repeat (first | rw [up_k (by decide)] | rw [up_s] | rw [up_r (by decide)])); first | (rw [hTk]; done) | (have ahrk := Hd.o hrk; have ajc := Hd.o jc; omega)), (by (repeat (first | rw [up_k (by decide)] | rw [up_s] | rw [up_r (by decide)])); first | (rw [hTa]; done) | (rw [hTa]; omega)), (by (repeat (first | rw [up_k (by decide)] | rw [up_s] | rw [up_r (by decide)])); first | (intro z; exfalso; omega) | (intro z; rw [hTv]; omega) | (intro z; rw [hTv]; exact Hd.o jn (by omega))), (by (repeat (first | rw [up_k (by decide)] | rw [up_s] | rw [up_r (by decide)])); first | (intro z; exfalso; omega) | (intro z; rw [htw]; exact Hd.o jw (by omega)))⟩
                          · replace hTk := hTk.trans (if_pos (bM_iff.mpr (by omega)))
                            refine r_iconst (pc := 140) hX 71 rfl ?_
                            refine r_goto (pc := 141) hX 72 (tgt := 145) rfl (by decide) ?_
                            refine r_putI (pc := 145) hX 74 rfl fl_X12_190 rfl (fun _ h => by cases h; rfl) hG.1 (by decide) ?_
                            refine r_aload_n (pc := 148) hX 75 rfl rfl ?_
                            refine r_iload_n (pc := 149) hX 76 rfl rfl ?_
                            refine r_putI (pc := 150) hX 77 rfl fl_X12_200 rfl (fun _ h => by cases h; rfl) hG.1 (by decide) ?_
                            refine r_aload_n (pc := 153) hX 78 rfl rfl ?_
                            refine r_dup (pc := 154) hX 79 rfl (show (2 : Nat) ≠ 1 by decide) ?_
                            refine e_getI (y := (v0 178 4)) (pc := 155) hX 80 rfl fl_X12_21 rfl hG.1 ((up_k (by decide)).trans ((up_k (by decide)).trans ((up_k (by decide)).trans ((up_k (by decide)).trans (rfl))))) ?_
                            refine r_iconst (pc := 158) hX 81 rfl ?_
                            refine r_iadd (pc := 159) hX 82 rfl ?_
                            refine r_putI (pc := 160) hX 83 rfl fl_X12_21 rfl (fun _ h => by cases h; rfl) hG.1 (by decide) ?_
                            show wp g X F_m_go 0 0 163 [(2, 178), (0, r81), (3, 0), (3, 0)] [] (up (up (up (up (up v0 178 12 (v0 178 4)) 178 13 0) 178 11 3) 178 14 r81) 178 4 ((v0 178 4) + 1)) ρ Z
                            exact r_vret (pc := 163) hX 84 hQ rfl rfl (Nat.le_refl 0) (Nat.le_refl 0) ⟨rfl, rfl, (((((hfr0).fld (k := 12) (by decide)).fld (k := 13) (by decide)).fld (k := 11) (by decide)).fld (k := 14) (by decide)).fld (k := 4) (by decide), rfl, (by (repeat (first | rw [up_k (by decide)] | rw [up_s] | rw [up_r (by decide)])); omega), (by (repeat (first | rw [up_k (by decide)] | rw [up_s] | rw [up_r (by decide)])); rw [hTp]), (by (repeat (first | rw [up_k (by decide)] | rw [up_s] | rw [up_r (by decide)])); first | (rw [hTk]; done) | (have ahrk := Hd.o hrk; have ajc := Hd.o jc; omega)), (by (repeat (first | rw [up_k (by decide)] | rw [up_s] | rw [up_r (by decide)])); first | (rw [hTa]; done) | (rw [hTa]; omega)), (by (repeat (first | rw [up_k (by decide)] | rw [up_s] | rw [up_r (by decide)])); first | (intro z; exfalso; omega) | (intro z; rw [hTv]; omega) | (intro z; rw [hTv]; exact Hd.o jn (by omega))), (by (repeat (first | rw [up_k (by decide)] | rw [up_s] | rw [up_r (by decide)])); first | (intro z; exfalso; omega) | (intro z; rw [htw]; exact Hd.o jw (by omega)))⟩
            · obtain ⟨hTk, hTa, hTp⟩ := tk_end (f := v 179) (n := v 178 3) (m := v 178 5) (p := v 178 4) (by rw [hqe]; omega) (by rw [hqe]; have ahq81 := Hd.o hq81; omega)
              rw [hqe] at hTa hTp
              refine r_aload_n (pc := 89) hX 45 rfl rfl ?_
              refine r_iconst (pc := 90) hX 46 rfl ?_
              refine r_putI (pc := 91) hX 47 rfl fl_X12_190 rfl (fun _ h => by cases h; rfl) hG.1 (by decide) ?_
              show wp g X F_m_go 0 0 94 [(2, 178), (0, r81), (3, 0), (3, 0)] [] (up (up (up v0 178 12 (v0 178 4)) 178 13 0) 178 11 0) ρ Z
              exact r_vret (pc := 94) hX 48 hQ rfl rfl (Nat.le_refl 0) (Nat.le_refl 0) ⟨rfl, rfl, (((hfr0).fld (k := 12) (by decide)).fld (k := 13) (by decide)).fld (k := 11) (by decide), rfl, (by (repeat (first | rw [up_k (by decide)] | rw [up_s] | rw [up_r (by decide)])); omega), (by (repeat (first | rw [up_k (by decide)] | rw [up_s] | rw [up_r (by decide)])); rw [hTp]), (by (repeat (first | rw [up_k (by decide)] | rw [up_s] | rw [up_r (by decide)])); first | (rw [hTk]; done) | (have ahrk := Hd.o hrk; have ajc := Hd.o jc; omega)), (by (repeat (first | rw [up_k (by decide)] | rw [up_s] | rw [up_r (by decide)])); first | (rw [hTa]; done) | (rw [hTa]; omega)), (by (repeat (first | rw [up_k (by decide)] | rw [up_s] | rw [up_r (by decide)])); first | (intro z; exfalso; omega) | (intro z; rw [hTv]; omega) | (intro z; rw [hTv]; exact Hd.o jn (by omega))), (by (repeat (first | rw [up_k (by decide)] | rw [up_s] | rw [up_r (by decide)])); first | (intro z; exfalso; omega) | (intro z; rw [htw]; exact Hd.o jw (by omega)))⟩
          first | refine r_icmp_le (pc := 52) hX 26 (tgt := 80) rfl (by decide) (⟨by omega, by omega⟩) (⟨by omega, by omega⟩) (fun h52 => ?_) (fun h52 => ?_) | refine r_icmp_le_any (pc := 52) hX 26 (tgt := 80) rfl (by decide) ?_ ?_
          · exact (L80  (by omega) )
          · refine t_getI (y := (v0 178 4)) (pc := 55) hX 27 rfl rfl rfl fl_X12_21 rfl hG.1 ((up_k (by decide)).trans ((up_k (by decide)).trans (rfl))) ?_
            refine t_getI (y := (v0 178 5)) (pc := 59) hX 29 rfl rfl rfl fl_X12_24 rfl hG.1 ((up_k (by decide)).trans ((up_k (by decide)).trans (rfl))) ?_
            first | refine r_icmp_lt (pc := 63) hX 31 (tgt := 80) rfl (by decide) (⟨by omega, by omega⟩) (⟨by omega, by omega⟩) (fun h63 => ?_) (fun h63 => ?_) | refine r_icmp_lt_any (pc := 63) hX 31 (tgt := 80) rfl (by decide) ?_ ?_
            · exact (L80  (by omega) )
            · obtain ⟨hTk, hTa, hTp⟩ := tk_lim (f := v 179) (n := v 178 3) (m := v 178 5) (p := v 178 4) (by rw [hqe]; omega)
              rw [hqe] at hTp
              refine r_aload_n (pc := 66) hX 32 rfl rfl ?_
              refine t_getI (y := (v0 178 5)) (pc := 67) hX 33 rfl rfl rfl fl_X12_24 rfl hG.1 ((up_k (by decide)).trans ((up_k (by decide)).trans (rfl))) ?_
              refine r_putI (pc := 71) hX 35 rfl fl_X12_184 rfl (fun _ h => by cases h; rfl) hG.1 (by decide) ?_
              refine r_aload_n (pc := 74) hX 36 rfl rfl ?_
              refine r_iconst (pc := 75) hX 37 rfl ?_
              refine r_putI (pc := 76) hX 38 rfl fl_X12_190 rfl (fun _ h => by cases h; rfl) hG.1 (by decide) ?_
              show wp g X F_m_go 0 0 79 [(2, 178), (3, 0), (3, 0), (3, 0)] [] (up (up (up (up v0 178 12 (v0 178 4)) 178 13 0) 178 12 (v0 178 5)) 178 11 4) ρ Z
              exact r_vret (pc := 79) hX 39 hQ rfl rfl (Nat.le_refl 0) (Nat.le_refl 0) ⟨rfl, rfl, ((((hfr0).fld (k := 12) (by decide)).fld (k := 13) (by decide)).fld (k := 12) (by decide)).fld (k := 11) (by decide), rfl, (by (repeat (first | rw [up_k (by decide)] | rw [up_s] | rw [up_r (by decide)])); omega), (by (repeat (first | rw [up_k (by decide)] | rw [up_s] | rw [up_r (by decide)])); rw [hTp]), (by (repeat (first | rw [up_k (by decide)] | rw [up_s] | rw [up_r (by decide)])); first | (rw [hTk]; done) | (have ahrk := Hd.o hrk; have ajc := Hd.o jc; omega)), (by (repeat (first | rw [up_k (by decide)] | rw [up_s] | rw [up_r (by decide)])); first | (rw [hTa]; done) | (rw [hTa]; omega)), (by (repeat (first | rw [up_k (by decide)] | rw [up_s] | rw [up_r (by decide)])); first | (intro z; exfalso; omega) | (intro z; rw [hTv]; omega) | (intro z; rw [hTv]; exact Hd.o jn (by omega))), (by (repeat (first | rw [up_k (by decide)] | rw [up_s] | rw [up_r (by decide)])); first | (intro z; exfalso; omega) | (intro z; rw [htw]; exact Hd.o jw (by omega)))⟩
        · exact (L18  (by first | (have ahq10 := Hd.o hq10; omega) | (have ahq1 := Hd.o hq1; omega)) (Hd.i (by first | (have ahq10 := Hd.o hq10; omega) | (have ahq1 := Hd.o hq1; omega))) )
  exact (L0 _  v (Fr.rf) (hL) (by omega) (rfl) (rfl) (Nat.lt_succ_self _))
