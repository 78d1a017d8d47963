set_option maxHeartbeats 4000000 in
set_option maxRecDepth 100000 in
theorem c_X5_read (g : Gp) (ω : Rw) (v ρ : Mv) (Z : Mz) (hH : HT ω v ρ Z) (t : Int) (ht : ω t = 4)  : Ok g 10 12 59 F_X5_read [(2, t)] v ρ Z (fun o9 v' ρ' Z' => ∃ ω' : Rw, OmX Z.2.2 ω ω' ∧ ZzX Z.2.2 Z Z' ∧ FrB Z.2.2 ω [2, 4, 5, 6, 7, 8, 9, 10, 11, 13, 14] v v' ∧ FrB Z.2.2 ω [4] ρ ρ' ∧ HT ω' v' ρ' Z' ∧ ∃ r : Int, o9 = some (2, r) ∧ (r < 0 ∨ ω' r = 5)) := by
  refine Ok.of mo_X5_read (Nat.le_of_ble_eq_true rfl) ?_
  intro X hX hRm hxn hQ
  show wp g X F_X5_read 0 0 0 [(2, t), (3, 0), (3, 0)] [] v ρ Z
  refine r_aload_n (pc := 0) hX 0 rfl rfl ?_
  obtain ⟨nA, hnA⟩ : ∃ z : Int, Z.2.2 = z := ⟨_, rfl⟩
  have hn4 : 4 ≤ nA := by have z1 := hH.g4 ht (by decide); have z2 := hH.lt ht (by decide); omega
  refine r_newX (K := 4) (q := (RX4, TX4, 15)) (n := nA) hX 1 hnA rfl rfl cl_X5_15 in_X4 iz_X4 hn4 (by rw [hRm]; exact Nat.le_of_ble_eq_true rfl) (by rw [hRm]; exact Nat.le_of_ble_eq_true rfl) (fun vA ρA ZA halA => ?_)
  have hHA : HT ω vA ρA ZA := hH.al hnA hn4 halA
  have hzA : ω nA = 0 := hH.z0 (by omega)
  refine r_dup (pc := 4) hX 2 rfl (show (2 : Nat) ≠ 1 by decide) ?_
  refine r_callI (as := []) (st := [(2, nA), (2, t)]) (pc := 5) hX 3 rfl mo_X4_init rfl rfl ml_X5_17 im_X4_init (c_X4_init g ω vA ρA ZA hHA nA hzA halA.2.1 halA.2.2.1 hn4 (nA + 1) halA.1 (by omega) halA.2.2.2.1 halA.2.2.2.2.1) rfl (by omega) (by rw [hRm]; exact ⟨Nat.le_of_ble_eq_true rfl, Nat.le_of_ble_eq_true rfl⟩) (by rw [hRm]; exact ⟨Nat.le_of_ble_eq_true rfl, Nat.le_of_ble_eq_true rfl⟩) (Nat.le_of_ble_eq_true rfl) (fun o9 v3 ρ3 Z3 hq3 _ => ?_)
  obtain ⟨rfl, hn3, ω3, hct3, hT3, hH3⟩ := hq3
  have hq3 : ∀ q, q < nA → ω3 q = ω q ∧ v3 q = v q ∧ ρ3 q = ρ q ∧ Z3.1 q = Z.1 q ∧ Z3.2.1 q = Z.2.1 q := fun q hq => by
    obtain ⟨b0, b1, b2, b3, b4⟩ := hct3 q (by omega) (by omega)
    obtain ⟨a1, a2, a3, a4⟩ := halA.2.2.2.2.2 q (by omega)
    exact ⟨b0, b1.trans a1, b2.trans a2, b3.trans a3, b4.trans a4⟩
  have hom3 : OmX Z.2.2 ω ω3 := fun r hr => (hq3 r (by omega)).1
  have hzz3 : ZzX Z.2.2 Z Z3 := ⟨by omega, fun q hq => ⟨(hq3 q (by omega)).2.2.2.1, (hq3 q (by omega)).2.2.2.2⟩⟩
  have hfv3 : FrB Z.2.2 ω [2, 4, 5, 6, 7, 8, 9, 10, 11, 13, 14] v v3 := (FrB.rf).al (fun q hq => (hq3 q (by omega)).2.1)
  have hfr3 : FrB Z.2.2 ω [4] ρ ρ3 := (FrB.rf).al (fun q hq => (hq3 q (by omega)).2.2.1)
  replace ht : ω3 t = 4 := ((hq3 t (by have z1 := hH.lt ht (by decide); omega)).1).trans ht
  show wp g X F_X5_read 12 59 8 [(2, t), (3, 0), (3, 0)] [(2, nA), (2, t)] v3 ρ3 Z3
  refine r_putR (pc := 8) hX 4 rfl fl_X5_18 rfl (fun _ h => by cases h; rfl) (hH3.kd ht (by decide)) (hH3.g4 ht (by decide)) ?_
  have hH_8 : HT ω3 v3 (up ρ3 t 1 nA) Z3 := hH3.uf ht rfl hT3 rfl
  show wp g X F_X5_read 12 59 11 [(2, t), (3, 0), (3, 0)] [] v3 (up ρ3 t 1 nA) Z3
  refine r_aload_n (pc := 11) hX 5 rfl rfl ?_
  refine r_iconst (pc := 12) hX 6 rfl ?_
  refine r_putZ (pc := 13) hX 7 rfl fl_X5_22 rfl (fun _ h => by cases h; rfl) ⟨by omega, by omega⟩ (hH_8.kd ht (by decide)) (hH_8.g4 ht (by decide)) ?_
  have hH_13 : HT ω3 (up v3 t 2 0) (up ρ3 t 1 nA) Z3 := hH_8.upR ht (by decide) rfl (by omega) (by omega)
  show wp g X F_X5_read 12 59 16 [(2, t), (3, 0), (3, 0)] [] (up v3 t 2 0) (up ρ3 t 1 nA) Z3
  refine r_aload_n (pc := 16) hX 8 rfl rfl ?_
  refine r_iconst (pc := 17) hX 9 rfl ?_
  refine r_putZ (pc := 18) hX 10 rfl fl_X5_26 rfl (fun _ h => by cases h; rfl) ⟨by omega, by omega⟩ (hH_13.kd ht (by decide)) (hH_13.g4 ht (by decide)) ?_
  have hH_18 : HT ω3 (up (up v3 t 2 0) t 3 0) (up ρ3 t 1 nA) Z3 := hH_13.upR ht (by decide) rfl (by omega) (by omega)
  show wp g X F_X5_read 12 59 21 [(2, t), (3, 0), (3, 0)] [] (up (up v3 t 2 0) t 3 0) (up ρ3 t 1 nA) Z3
  refine t_getR (q := (ρ3 t 0)) (pc := 21) hX 11 rfl rfl rfl fl_X5_9 rfl (hH_18.kd ht (by decide)) ((up_k (by decide)).trans (rfl)) ?_
  have hw21_ : ω3 (ρ3 t 0) = 2 := hH3.rf ht (by decide) rfl
  refine r_sipush (pc := 25) hX 13 rfl (by decide) ?_
  refine r_callV (as := [(0, 900)]) (st := []) (K := 8) (pc := 28) hX 14 rfl mo_X8_open ml_X5_29 im_X8_open se_X8_open (c_X8_open g ω3 (up (up v3 t 2 0) t 3 0) (up ρ3 t 1 nA) Z3 hH_18 (ρ3 t 0) hw21_ (900) (by omega)) rfl rfl rfl (hH_18.kd hw21_ (by decide)) (by rw [hRm]; exact ⟨by decide, by decide⟩) (by rw [hRm]; exact ⟨by decide, by decide⟩) (Nat.le_of_ble_eq_true rfl) (fun o28 v28 ρv28 Zv28 hq28 _ => ?_)
  obtain ⟨rfl, rfl, hfr28, hH28, rfl, hq28⟩ := hq28
  try rw [show ((up (up v3 t 2 0) t 3 0) (ρ3 t 0) 1) = (v3 (ρ3 t 0) 1) from (up_k (by decide)).trans ((up_k (by decide)).trans (rfl))] at hq28
  show wp g X F_X5_read 12 59 31 [(2, t), (3, 0), (3, 0)] [] v28 (up ρ3 t 1 nA) Z3
  refine t_getR (q := (ρ3 t 0)) (pc := 31) hX 15 rfl rfl rfl fl_X5_9 rfl (hH28.kd ht (by decide)) ((up_k (by decide)).trans (rfl)) ?_
  refine r_callV (as := []) (st := []) (K := 8) (pc := 35) hX 17 rfl mo_X8_advance ml_X5_35 im_X8_advance se_X8_advance (c_X8_advance g ω3 v28 (up ρ3 t 1 nA) Z3 hH28 (ρ3 t 0) hw21_ ) rfl rfl rfl (hH28.kd hw21_ (by decide)) (by rw [hRm]; exact ⟨by decide, by decide⟩) (by rw [hRm]; exact ⟨by decide, by decide⟩) (Nat.le_of_ble_eq_true rfl) (fun o35 v35 ρv35 Zv35 hq35 _ => ?_)
  obtain ⟨rfl, rfl, hfr35, hH35, rfl, hq35⟩ := hq35
  show wp g X F_X5_read 12 59 38 [(2, t), (3, 0), (3, 0)] [] v35 (up ρ3 t 1 nA) Z3
  refine r_iconst (pc := 38) hX 18 rfl ?_
  refine r_istore_n (ls' := [(2, t), (0, 0), (3, 0)]) (pc := 39) hX 19 rfl (by decide) rfl ?_
  have L40 : ∀ (n40 : Nat) (i : Int) (v40 : Mv) , (FrB Z.2.2 ω [2, 4, 5, 6, 7, 8, 9, 10, 11, 13, 14] v v40) → (HT ω3 v40 (up ρ3 t 1 nA) Z3) → (0 ≤ i ∧ i ≤ 900) → (900 - i).toNat < n40 → wp g X F_X5_read 12 59 40 [(2, t), (0, i), (3, 0)] [] v40 (up ρ3 t 1 nA) Z3 := by
    intro n40
    induction n40 with
    | zero => intro i v40 hfr40 hH40 ii hme40; exact absurd hme40 (Nat.not_lt_zero _)
    | succ n40 ih40 =>
      intro i v40 hfr40 hH40 ii hme40
      refine r_iload_n (pc := 40) hX 20 rfl rfl ?_
      refine r_sipush (pc := 41) hX 21 rfl (by decide) ?_
      have L192 : wp g X F_X5_read 12 59 192 [(2, t), (0, i), (3, 0)] [] v40 (up ρ3 t 1 nA) Z3 := by
        refine t_getR (q := nA) (pc := 192) hX 73 rfl rfl rfl fl_X5_18 rfl (hH40.kd ht (by decide)) (up_s _ _ _ _) ?_
        exact r_aret (pc := 196) hX 75 hQ rfl rfl (Nat.le_of_ble_eq_true rfl) (Nat.le_of_ble_eq_true rfl) ⟨ω3, hom3, hzz3, hfr40, (hfr3).up (r := t) hom3 ht (by decide), hH40, nA, rfl, (Or.inr hT3)⟩
      first | refine r_icmp_ge (pc := 44) hX 22 (tgt := 192) rfl (by decide) (⟨by omega, by omega⟩) (⟨by omega, by omega⟩) (fun h44 => ?_) (fun h44 => ?_) | refine r_icmp_ge_any (pc := 44) hX 22 (tgt := 192) rfl (by decide) ?_ ?_
      · exact (L192   )
      · refine t_getR (q := (ρ3 t 0)) (pc := 47) hX 23 rfl rfl rfl fl_X5_9 rfl (hH40.kd ht (by decide)) ((up_k (by decide)).trans (rfl)) ?_
        refine r_callV (as := []) (st := []) (K := 8) (pc := 51) hX 25 rfl mo_X8_isEnd ml_X5_38 im_X8_isEnd se_X8_isEnd (c_X8_isEnd g ω3 v40 (up ρ3 t 1 nA) Z3 hH40 (ρ3 t 0) hw21_ ) rfl rfl rfl (hH40.kd hw21_ (by decide)) (by rw [hRm]; exact ⟨by decide, by decide⟩) (by rw [hRm]; exact ⟨by decide, by decide⟩) (Nat.le_of_ble_eq_true rfl) (fun o51 v51 ρv51 Zv51 hq51 _ => ?_)
        obtain ⟨rfl, rfl, rfl, r51, rfl, hq51⟩ := hq51
        show wp g X F_X5_read 12 59 54 [(2, t), (0, i), (3, 0)] [(0, r51)] v40 (up ρ3 t 1 nA) Z3
        first | refine r_if_ne (pc := 54) hX 26 (tgt := 192) rfl (by decide) (⟨by omega, by omega⟩) (fun h54 => ?_) (fun h54 => ?_) | refine r_if_ne_any (pc := 54) hX 26 (tgt := 192) rfl (by decide) ?_ ?_
        · exact (L192   )
        · refine t_getR (q := (ρ3 t 0)) (pc := 57) hX 27 rfl rfl rfl fl_X5_9 rfl (hH40.kd ht (by decide)) ((up_k (by decide)).trans (rfl)) ?_
          refine e_getI (y := (v40 (ρ3 t 0) 7)) (pc := 61) hX 29 rfl fl_X5_42 rfl (hH40.kd hw21_ (by decide)) (rfl) ?_
          have hb61 : (-1) ≤ (v40 (ρ3 t 0) 7) ∧ (v40 (ρ3 t 0) 7) ≤ 21 := hH40.rg hw21_ (by decide) rfl
          have L173 : ∀ (gd : Int) (v173 : Mv) , (FrB Z.2.2 ω [2, 4, 5, 6, 7, 8, 9, 10, 11, 13, 14] v v173) → (HT ω3 v173 (up ρ3 t 1 nA) Z3) → (0 ≤ gd ∧ gd ≤ 1) → wp g X F_X5_read 12 59 173 [(2, t), (0, i), (0, gd)] [] v173 (up ρ3 t 1 nA) Z3 := by
            intro gd v173 hfr173 hH173 ig
            refine r_iload_n (pc := 173) hX 64 rfl rfl ?_
            have L184 : ∀ (v184 : Mv) , (FrB Z.2.2 ω [2, 4, 5, 6, 7, 8, 9, 10, 11, 13, 14] v v184) → (HT ω3 v184 (up ρ3 t 1 nA) Z3) → wp g X F_X5_read 12 59 184 [(2, t), (0, i), (3, 0)] [] v184 (up ρ3 t 1 nA) Z3 := by
              intro v184 hfr184 hH184
              refine r_null (pc := 184) hX 69 rfl (by have := hH184.lt ht (by decide); have := hH184.g4 ht (by decide); omega) ?_
              exact r_aret (pc := 185) hX 70 hQ rfl rfl (Nat.le_of_ble_eq_true rfl) (Nat.le_of_ble_eq_true rfl) ⟨ω3, hom3, hzz3, hfr184, (hfr3).up (r := t) hom3 ht (by decide), hH184, (-1), rfl, (Or.inl (by decide))⟩
            first | refine r_if_eq (pc := 174) hX 65 (tgt := 184) rfl (by decide) (⟨by omega, by omega⟩) (fun h174 => ?_) (fun h174 => ?_) | refine r_if_eq_any (pc := 174) hX 65 (tgt := 184) rfl (by decide) ?_ ?_
            · refine r_wk (ls' := [(2, t), (0, i), (3, 0)]) ⟨Or.inr rfl, Or.inr rfl, Or.inl rfl, trivial⟩ ?_
              exact (L184  v173 (hfr173) (hH173) )
            · refine r_aload_n (pc := 177) hX 66 rfl rfl ?_
              refine r_callV (as := []) (st := []) (K := 5) (pc := 178) hX 67 rfl mo_X5_readClosing ml_X5_71 im_X5_readClosing se_X5_readClosing (c_X5_readClosing g ω3 v173 (up ρ3 t 1 nA) Z3 hH173 t ht ) rfl rfl rfl (hH173.kd ht (by decide)) (by rw [hRm]; exact ⟨by decide, by decide⟩) (by rw [hRm]; exact ⟨by decide, by decide⟩) (Nat.le_of_ble_eq_true rfl) (fun o178 v178 ρv178 Zv178 hq178 _ => ?_)
              obtain ⟨rfl, rfl, hfr178, hH178, r178, rfl, hq178⟩ := hq178
              show wp g X F_X5_read 12 59 181 [(2, t), (0, i), (0, gd)] [(0, r178)] v178 (up ρ3 t 1 nA) Z3
              first | refine r_if_ne (pc := 181) hX 68 (tgt := 186) rfl (by decide) (⟨by omega, by omega⟩) (fun h181 => ?_) (fun h181 => ?_) | refine r_if_ne_any (pc := 181) hX 68 (tgt := 186) rfl (by decide) ?_ ?_
              · refine r_iinc (ls' := [(2, t), (0, (i + 1)), (0, gd)]) (pc := 186) hX 71 rfl rfl (by decide) rfl ?_
                refine r_goto (pc := 189) hX 72 (tgt := 40) rfl (by decide) ?_
                refine r_wk (ls' := [(2, t), (0, (i + 1)), (3, 0)]) ⟨Or.inr rfl, Or.inr rfl, Or.inl rfl, trivial⟩ ?_
                exact (ih40 (i + 1) v178 ((hfr173).tr hom3 hfr178 (by decide)) (hH178) (by omega) (by omega))
              · refine r_wk (ls' := [(2, t), (0, i), (3, 0)]) ⟨Or.inr rfl, Or.inr rfl, Or.inl rfl, trivial⟩ ?_
                exact (L184  v178 ((hfr173).tr hom3 hfr178 (by decide)) (hH178) )
          have hsw64 : (v40 (ρ3 t 0) 7) < 0 ∨ 6 < (v40 (ρ3 t 0) 7) ∨ (v40 (ρ3 t 0) 7) = 0 ∨ (v40 (ρ3 t 0) 7) = 1 ∨ (v40 (ρ3 t 0) 7) = 2 ∨ (v40 (ρ3 t 0) 7) = 3 ∨ (v40 (ρ3 t 0) 7) = 4 ∨ (v40 (ρ3 t 0) 7) = 5 ∨ (v40 (ρ3 t 0) 7) = 6 := by omega
          rcases hsw64 with hsw64 | hsw64 | hsw64 | hsw64 | hsw64 | hsw64 | hsw64 | hsw64 | hsw64
          · refine r_tsOut (pc := 64) hX 30 (tgt := 164) rfl ⟨by omega, by omega⟩ (by omega) (by decide) ?_
            refine t_getR (q := (ρ3 t 0)) (pc := 164) hX 59 rfl rfl rfl fl_X5_9 rfl (hH40.kd ht (by decide)) ((up_k (by decide)).trans (rfl)) ?_
            refine r_iconst (pc := 168) hX 61 rfl ?_
            refine r_callV (as := [(0, 1)]) (st := []) (K := 8) (pc := 169) hX 62 rfl mo_X8_refuse ml_X5_67 im_X8_refuse se_X8_refuse (c_X8_refuse g ω3 v40 (up ρ3 t 1 nA) Z3 hH40 (ρ3 t 0) hw21_ (1) (by omega)) rfl rfl rfl (hH40.kd hw21_ (by decide)) (by rw [hRm]; exact ⟨by decide, by decide⟩) (by rw [hRm]; exact ⟨by decide, by decide⟩) (Nat.le_of_ble_eq_true rfl) (fun o169 v169 ρv169 Zv169 hq169 _ => ?_)
            obtain ⟨rfl, rfl, hfr169, hH169, r169, rfl, hq169⟩ := hq169
            show wp g X F_X5_read 12 59 172 [(2, t), (0, i), (3, 0)] [(0, r169)] v169 (up ρ3 t 1 nA) Z3
            refine r_istore_n (ls' := [(2, t), (0, i), (0, r169)]) (pc := 172) hX 63 rfl (by decide) rfl ?_
            exact (L173 r169 v169 ((hfr40).tr hom3 hfr169 (by decide)) (hH169) (by omega) )
          · refine r_tsOut (pc := 64) hX 30 (tgt := 164) rfl ⟨by omega, by omega⟩ (by omega) (by decide) ?_
            refine t_getR (q := (ρ3 t 0)) (pc := 164) hX 59 rfl rfl rfl fl_X5_9 rfl (hH40.kd ht (by decide)) ((up_k (by decide)).trans (rfl)) ?_
            refine r_iconst (pc := 168) hX 61 rfl ?_
            refine r_callV (as := [(0, 1)]) (st := []) (K := 8) (pc := 169) hX 62 rfl mo_X8_refuse ml_X5_67 im_X8_refuse se_X8_refuse (c_X8_refuse g ω3 v40 (up ρ3 t 1 nA) Z3 hH40 (ρ3 t 0) hw21_ (1) (by omega)) rfl rfl rfl (hH40.kd hw21_ (by decide)) (by rw [hRm]; exact ⟨by decide, by decide⟩) (by rw [hRm]; exact ⟨by decide, by decide⟩) (Nat.le_of_ble_eq_true rfl) (fun o169 vf1_ ρvf1_ Zvf1_ hqf3_ _ => ?_)
            obtain ⟨rfl, rfl, hfrf1_, hHf1_, rf2_, rfl, hqf3_⟩ := hqf3_
            show wp g X F_X5_read 12 59 172 [(2, t), (0, i), (3, 0)] [(0, rf2_)] vf1_ (up ρ3 t 1 nA) Z3
            refine r_istore_n (ls' := [(2, t), (0, i), (0, rf2_)]) (pc := 172) hX 63 rfl (by decide) rfl ?_
            exact (L173 rf2_ vf1_ ((hfr40).tr hom3 hfrf1_ (by decide)) (hHf1_) (by omega) )
          · refine r_tsIn (x := (v40 (ρ3 t 0) 7)) (pc := 64) hX 30 (tgt := 108) rfl ⟨by omega, by omega⟩ (by omega) (by omega) (by rw [hsw64]; rfl) (by decide) ?_
            refine r_aload_n (pc := 108) hX 31 rfl rfl ?_
            refine r_callV (as := []) (st := []) (K := 5) (pc := 109) hX 32 rfl mo_X5_readColour ml_X5_46 im_X5_readColour se_X5_readColour (c_X5_readColour g ω3 v40 (up ρ3 t 1 nA) Z3 hH40 t ht ) rfl rfl rfl (hH40.kd ht (by decide)) (by rw [hRm]; exact ⟨by decide, by decide⟩) (by rw [hRm]; exact ⟨by decide, by decide⟩) (Nat.le_of_ble_eq_true rfl) (fun o109 v109 ρv109 Zv109 hq109 _ => ?_)
            obtain ⟨rfl, rfl, hfr109, hH109, r109, rfl, hq109⟩ := hq109
            show wp g X F_X5_read 12 59 112 [(2, t), (0, i), (3, 0)] [(0, r109)] v109 (up ρ3 t 1 nA) Z3
            refine r_istore_n (ls' := [(2, t), (0, i), (0, r109)]) (pc := 112) hX 33 rfl (by decide) rfl ?_
            refine r_goto (pc := 113) hX 34 (tgt := 173) rfl (by decide) ?_
            exact (L173 r109 v109 ((hfr40).tr hom3 hfr109 (by decide)) (hH109) (by omega) )
          · refine r_tsIn (x := (v40 (ρ3 t 0) 7)) (pc := 64) hX 30 (tgt := 116) rfl ⟨by omega, by omega⟩ (by omega) (by omega) (by rw [hsw64]; rfl) (by decide) ?_
            refine r_aload_n (pc := 116) hX 35 rfl rfl ?_
            refine r_callV (as := []) (st := []) (K := 5) (pc := 117) hX 36 rfl mo_X5_readEnds ml_X5_49 im_X5_readEnds se_X5_readEnds (c_X5_readEnds g ω3 v40 (up ρ3 t 1 nA) Z3 hH40 t ht ) rfl rfl rfl (hH40.kd ht (by decide)) (by rw [hRm]; exact ⟨by decide, by decide⟩) (by rw [hRm]; exact ⟨by decide, by decide⟩) (Nat.le_of_ble_eq_true rfl) (fun o117 v117 ρv117 Zv117 hq117 _ => ?_)
            obtain ⟨rfl, rfl, hfr117, hH117, r117, rfl, hq117⟩ := hq117
            show wp g X F_X5_read 12 59 120 [(2, t), (0, i), (3, 0)] [(0, r117)] v117 (up ρ3 t 1 nA) Z3
            refine r_istore_n (ls' := [(2, t), (0, i), (0, r117)]) (pc := 120) hX 37 rfl (by decide) rfl ?_
            refine r_goto (pc := 121) hX 38 (tgt := 173) rfl (by decide) ?_
            exact (L173 r117 v117 ((hfr40).tr hom3 hfr117 (by decide)) (hH117) (by omega) )
          · refine r_tsIn (x := (v40 (ρ3 t 0) 7)) (pc := 64) hX 30 (tgt := 124) rfl ⟨by omega, by omega⟩ (by omega) (by omega) (by rw [hsw64]; rfl) (by decide) ?_
            refine r_aload_n (pc := 124) hX 39 rfl rfl ?_
            refine r_callV (as := []) (st := []) (K := 5) (pc := 125) hX 40 rfl mo_X5_readLand ml_X5_52 im_X5_readLand se_X5_readLand (c_X5_readLand g ω3 v40 (up ρ3 t 1 nA) Z3 hH40 t ht ) rfl rfl rfl (hH40.kd ht (by decide)) (by rw [hRm]; exact ⟨by decide, by decide⟩) (by rw [hRm]; exact ⟨by decide, by decide⟩) (Nat.le_of_ble_eq_true rfl) (fun o125 v125 ρv125 Zv125 hq125 _ => ?_)
            obtain ⟨rfl, rfl, hfr125, hH125, r125, rfl, hq125⟩ := hq125
            show wp g X F_X5_read 12 59 128 [(2, t), (0, i), (3, 0)] [(0, r125)] v125 (up ρ3 t 1 nA) Z3
            refine r_istore_n (ls' := [(2, t), (0, i), (0, r125)]) (pc := 128) hX 41 rfl (by decide) rfl ?_
            refine r_goto (pc := 129) hX 42 (tgt := 173) rfl (by decide) ?_
            exact (L173 r125 v125 ((hfr40).tr hom3 hfr125 (by decide)) (hH125) (by omega) )
          · refine r_tsIn (x := (v40 (ρ3 t 0) 7)) (pc := 64) hX 30 (tgt := 132) rfl ⟨by omega, by omega⟩ (by omega) (by omega) (by rw [hsw64]; rfl) (by decide) ?_
            refine r_aload_n (pc := 132) hX 43 rfl rfl ?_
            refine r_callV (as := []) (st := []) (K := 5) (pc := 133) hX 44 rfl mo_X5_readPlayer ml_X5_55 im_X5_readPlayer se_X5_readPlayer (c_X5_readPlayer g ω3 v40 (up ρ3 t 1 nA) Z3 hH40 t ht ) rfl rfl rfl (hH40.kd ht (by decide)) (by rw [hRm]; exact ⟨by decide, by decide⟩) (by rw [hRm]; exact ⟨by decide, by decide⟩) (Nat.le_of_ble_eq_true rfl) (fun o133 v133 ρv133 Zv133 hq133 _ => ?_)
            obtain ⟨rfl, rfl, hfr133, hH133, r133, rfl, hq133⟩ := hq133
            show wp g X F_X5_read 12 59 136 [(2, t), (0, i), (3, 0)] [(0, r133)] v133 (up ρ3 t 1 nA) Z3
            refine r_istore_n (ls' := [(2, t), (0, i), (0, r133)]) (pc := 136) hX 45 rfl (by decide) rfl ?_
            refine r_goto (pc := 137) hX 46 (tgt := 173) rfl (by decide) ?_
            exact (L173 r133 v133 ((hfr40).tr hom3 hfr133 (by decide)) (hH133) (by omega) )
          · refine r_tsIn (x := (v40 (ρ3 t 0) 7)) (pc := 64) hX 30 (tgt := 140) rfl ⟨by omega, by omega⟩ (by omega) (by omega) (by rw [hsw64]; rfl) (by decide) ?_
            refine r_aload_n (pc := 140) hX 47 rfl rfl ?_
            refine r_callV (as := []) (st := []) (K := 5) (pc := 141) hX 48 rfl mo_X5_readGoal ml_X5_58 im_X5_readGoal se_X5_readGoal (c_X5_readGoal g ω3 v40 (up ρ3 t 1 nA) Z3 hH40 t ht ) rfl rfl rfl (hH40.kd ht (by decide)) (by rw [hRm]; exact ⟨by decide, by decide⟩) (by rw [hRm]; exact ⟨by decide, by decide⟩) (Nat.le_of_ble_eq_true rfl) (fun o141 v141 ρv141 Zv141 hq141 _ => ?_)
            obtain ⟨rfl, rfl, hfr141, hH141, r141, rfl, hq141⟩ := hq141
            show wp g X F_X5_read 12 59 144 [(2, t), (0, i), (3, 0)] [(0, r141)] v141 (up ρ3 t 1 nA) Z3
            refine r_istore_n (ls' := [(2, t), (0, i), (0, r141)]) (pc := 144) hX 49 rfl (by decide) rfl ?_
            refine r_goto (pc := 145) hX 50 (tgt := 173) rfl (by decide) ?_
            exact (L173 r141 v141 ((hfr40).tr hom3 hfr141 (by decide)) (hH141) (by omega) )
          · refine r_tsIn (x := (v40 (ρ3 t 0) 7)) (pc := 64) hX 30 (tgt := 148) rfl ⟨by omega, by omega⟩ (by omega) (by omega) (by rw [hsw64]; rfl) (by decide) ?_
            refine r_aload_n (pc := 148) hX 51 rfl rfl ?_
            refine r_callV (as := []) (st := []) (K := 5) (pc := 149) hX 52 rfl mo_X5_readCars ml_X5_61 im_X5_readCars se_X5_readCars (c_X5_readCars g ω3 v40 (up ρ3 t 1 nA) Z3 hH40 t ht ) rfl rfl rfl (hH40.kd ht (by decide)) (by rw [hRm]; exact ⟨by decide, by decide⟩) (by rw [hRm]; exact ⟨by decide, by decide⟩) (Nat.le_of_ble_eq_true rfl) (fun o149 v149 ρv149 Zv149 hq149 _ => ?_)
            obtain ⟨rfl, rfl, hfr149, hH149, r149, rfl, hq149⟩ := hq149
            show wp g X F_X5_read 12 59 152 [(2, t), (0, i), (3, 0)] [(0, r149)] v149 (up ρ3 t 1 nA) Z3
            refine r_istore_n (ls' := [(2, t), (0, i), (0, r149)]) (pc := 152) hX 53 rfl (by decide) rfl ?_
            refine r_goto (pc := 153) hX 54 (tgt := 173) rfl (by decide) ?_
            exact (L173 r149 v149 ((hfr40).tr hom3 hfr149 (by decide)) (hH149) (by omega) )
          · refine r_tsIn (x := (v40 (ρ3 t 0) 7)) (pc := 64) hX 30 (tgt := 156) rfl ⟨by omega, by omega⟩ (by omega) (by omega) (by rw [hsw64]; rfl) (by decide) ?_
            refine r_aload_n (pc := 156) hX 55 rfl rfl ?_
            refine r_callV (as := []) (st := []) (K := 5) (pc := 157) hX 56 rfl mo_X5_readChange ml_X5_64 im_X5_readChange se_X5_readChange (c_X5_readChange g ω3 v40 (up ρ3 t 1 nA) Z3 hH40 t ht ) rfl rfl rfl (hH40.kd ht (by decide)) (by rw [hRm]; exact ⟨by decide, by decide⟩) (by rw [hRm]; exact ⟨by decide, by decide⟩) (Nat.le_of_ble_eq_true rfl) (fun o157 v157 ρv157 Zv157 hq157 _ => ?_)
            obtain ⟨rfl, rfl, hfr157, hH157, r157, rfl, hq157⟩ := hq157
            show wp g X F_X5_read 12 59 160 [(2, t), (0, i), (3, 0)] [(0, r157)] v157 (up ρ3 t 1 nA) Z3
            refine r_istore_n (ls' := [(2, t), (0, i), (0, r157)]) (pc := 160) hX 57 rfl (by decide) rfl ?_
            refine r_goto (pc := 161) hX 58 (tgt := 173) rfl (by decide) ?_
            exact (L173 r157 v157 ((hfr40).tr hom3 hfr157 (by decide)) (hH157) (by omega) )
  exact (L40 _ 0 v35 (((((hfv3).up (r := t) hom3 ht (by decide)).up (r := t) hom3 ht (by decide)).tr hom3 hfr28 (by decide)).tr hom3 hfr35 (by decide)) (hH35) (by omega) (Nat.lt_succ_self _))
set_option maxHeartbeats 4000000 in
set_option maxRecDepth 100000 in
theorem c_X7_read (g : Gp) (ω : Rw) (v ρ : Mv) (Z : Mz) (hH : HT ω v ρ Z) (t : Int) (ht : ω t = 21) (o : Int) (ho : ω o = 5)  : Ok g 26 4 125 F_X7_read [(2, t), (2, o)] v ρ Z (fun o9 v' ρ' Z' => ∃ ω' : Rw, OmX Z.2.2 ω ω' ∧ ZzX Z.2.2 Z Z' ∧ FrB Z.2.2 ω [2, 19, 20] v v' ∧ FrB Z.2.2 ω [21] ρ ρ' ∧ HT ω' v' ρ' Z' ∧ ∃ r : Int, o9 = some (2, r) ∧ (r < 0 ∨ ω' r = 19)) := by
  refine Ok.of mo_X7_read (Nat.le_of_ble_eq_true rfl) ?_
  intro X hX hRm hxn hQ
  show wp g X F_X7_read 0 0 0 [(2, t), (2, o)] [] v ρ Z
  refine r_aload_n (pc := 0) hX 0 rfl rfl ?_
  obtain ⟨nA, hnA⟩ : ∃ z : Int, Z.2.2 = z := ⟨_, rfl⟩
  have hn4 : 4 ≤ nA := by have z1 := hH.g4 ht (by decide); have z2 := hH.lt ht (by decide); omega
  refine r_newX (K := 6) (q := (RX6, TX6, 5)) (n := nA) hX 1 hnA rfl rfl cl_X7_9 in_X6 iz_X6 hn4 (by rw [hRm]; exact Nat.le_of_ble_eq_true rfl) (by rw [hRm]; exact Nat.le_of_ble_eq_true rfl) (fun vA ρA ZA halA => ?_)
  have hHA : HT ω vA ρA ZA := hH.al hnA hn4 halA
  have hzA : ω nA = 0 := hH.z0 (by omega)
  refine r_dup (pc := 4) hX 2 rfl (show (2 : Nat) ≠ 1 by decide) ?_
  refine r_callIN (as := []) (st := [(2, nA), (2, t)]) (pc := 5) hX 3 rfl mo_X6_init rfl rfl mn_X7_11 pn_X6_init im_X6_init (c_X6_init g ω vA ρA ZA hHA nA hzA halA.2.1 halA.2.2.1 hn4 (nA + 1) halA.1 (by omega) halA.2.2.2.1 halA.2.2.2.2.1) rfl (by omega) (by rw [hRm]; exact ⟨Nat.le_of_ble_eq_true rfl, Nat.le_of_ble_eq_true rfl⟩) (by rw [hRm]; exact ⟨Nat.le_of_ble_eq_true rfl, Nat.le_of_ble_eq_true rfl⟩) (Nat.le_of_ble_eq_true rfl) (fun o9 v3 ρ3 Z3 hq3 _ => ?_)
  obtain ⟨rfl, hn3, ω3, hct3, hT3, hH3⟩ := hq3
  have hq3 : ∀ q, q < nA → ω3 q = ω q ∧ v3 q = v q ∧ ρ3 q = ρ q ∧ Z3.1 q = Z.1 q ∧ Z3.2.1 q = Z.2.1 q := fun q hq => by
    obtain ⟨b0, b1, b2, b3, b4⟩ := hct3 q (by omega) (by omega)
    obtain ⟨a1, a2, a3, a4⟩ := halA.2.2.2.2.2 q (by omega)
    exact ⟨b0, b1.trans a1, b2.trans a2, b3.trans a3, b4.trans a4⟩
  have hom3 : OmX Z.2.2 ω ω3 := fun r hr => (hq3 r (by omega)).1
  have hzz3 : ZzX Z.2.2 Z Z3 := ⟨by omega, fun q hq => ⟨(hq3 q (by omega)).2.2.2.1, (hq3 q (by omega)).2.2.2.2⟩⟩
  have hfv3 : FrB Z.2.2 ω [2, 19, 20] v v3 := (FrB.rf).al (fun q hq => (hq3 q (by omega)).2.1)
  have hfr3 : FrB Z.2.2 ω [21] ρ ρ3 := (FrB.rf).al (fun q hq => (hq3 q (by omega)).2.2.1)
  replace ht : ω3 t = 21 := ((hq3 t (by have z1 := hH.lt ht (by decide); omega)).1).trans ht
  replace ho : ω3 o = 5 := ((hq3 o (by have z1 := hH.lt ho (by decide); omega)).1).trans ho
  show wp g X F_X7_read 4 125 8 [(2, t), (2, o)] [(2, nA), (2, t)] v3 ρ3 Z3
  refine r_putR (pc := 8) hX 4 rfl fl_X7_12 rfl (fun _ h => by cases h; rfl) (hH3.kd ht (by decide)) (hH3.g4 ht (by decide)) ?_
  have hH_8 : HT ω3 v3 (up ρ3 t 1 nA) Z3 := hH3.uf ht rfl hT3 rfl
  show wp g X F_X7_read 4 125 11 [(2, t), (2, o)] [] v3 (up ρ3 t 1 nA) Z3
  refine t_getR (q := (ρ3 t 0)) (pc := 11) hX 5 rfl rfl rfl fl_X7_18 rfl (hH_8.kd ht (by decide)) ((up_k (by decide)).trans (rfl)) ?_
  have hw11_ : ω3 (ρ3 t 0) = 2 := hH3.rf ht (by decide) rfl
  refine r_sipush (pc := 15) hX 7 rfl (by decide) ?_
  refine r_callV (as := [(0, 200)]) (st := []) (K := 8) (pc := 18) hX 8 rfl mo_X8_open ml_X7_22 im_X8_open se_X8_open (c_X8_open g ω3 v3 (up ρ3 t 1 nA) Z3 hH_8 (ρ3 t 0) hw11_ (200) (by omega)) rfl rfl rfl (hH_8.kd hw11_ (by decide)) (by rw [hRm]; exact ⟨by decide, by decide⟩) (by rw [hRm]; exact ⟨by decide, by decide⟩) (Nat.le_of_ble_eq_true rfl) (fun o18 v18 ρv18 Zv18 hq18 _ => ?_)
  obtain ⟨rfl, rfl, hfr18, hH18, rfl, hq18⟩ := hq18
  show wp g X F_X7_read 4 125 21 [(2, t), (2, o)] [] v18 (up ρ3 t 1 nA) Z3
  refine t_getR (q := (ρ3 t 0)) (pc := 21) hX 9 rfl rfl rfl fl_X7_18 rfl (hH18.kd ht (by decide)) ((up_k (by decide)).trans (rfl)) ?_
  refine r_callV (as := []) (st := []) (K := 8) (pc := 25) hX 11 rfl mo_X8_advance ml_X7_28 im_X8_advance se_X8_advance (c_X8_advance g ω3 v18 (up ρ3 t 1 nA) Z3 hH18 (ρ3 t 0) hw11_ ) rfl rfl rfl (hH18.kd hw11_ (by decide)) (by rw [hRm]; exact ⟨by decide, by decide⟩) (by rw [hRm]; exact ⟨by decide, by decide⟩) (Nat.le_of_ble_eq_true rfl) (fun o25 v25 ρv25 Zv25 hq25 _ => ?_)
  obtain ⟨rfl, rfl, hfr25, hH25, rfl, hq25⟩ := hq25
  show wp g X F_X7_read 4 125 28 [(2, t), (2, o)] [] v25 (up ρ3 t 1 nA) Z3
  refine r_aload_n (pc := 28) hX 12 rfl rfl ?_
  refine r_aload_n (pc := 29) hX 13 rfl rfl ?_
  refine r_iconst (pc := 30) hX 14 rfl ?_
  refine r_callV (as := [(2, o), (0, 1)]) (st := []) (K := 7) (pc := 31) hX 15 rfl mo_X7_readCond ml_X7_31 im_X7_readCond se_X7_readCond (c_X7_readCond1 g ω3 v25 (up ρ3 t 1 nA) Z3 hH25 t ht o ho (1) (by omega)) rfl rfl rfl (hH25.kd ht (by decide)) (by rw [hRm]; exact ⟨by decide, by decide⟩) (by rw [hRm]; exact ⟨by decide, by decide⟩) (Nat.le_of_ble_eq_true rfl) (fun o31 v31 ρv31 Zv31 hq31 _ => ?_)
  obtain ⟨rfl, rfl, hfr31, hH31, r31, rfl, hq31⟩ := hq31
  show wp g X F_X7_read 4 125 34 [(2, t), (2, o)] [(0, r31)] v31 (up ρ3 t 1 nA) Z3
  first | refine r_if_ne (pc := 34) hX 16 (tgt := 39) rfl (by decide) (⟨by omega, by omega⟩) (fun h34 => ?_) (fun h34 => ?_) | refine r_if_ne_any (pc := 34) hX 16 (tgt := 39) rfl (by decide) ?_ ?_
  · refine t_getR (q := (ρ3 t 0)) (pc := 39) hX 19 rfl rfl rfl fl_X7_18 rfl (hH31.kd ht (by decide)) ((up_k (by decide)).trans (rfl)) ?_
    refine r_callV (as := []) (st := []) (K := 8) (pc := 43) hX 21 rfl mo_X8_isEnd ml_X7_35 im_X8_isEnd se_X8_isEnd (c_X8_isEnd g ω3 v31 (up ρ3 t 1 nA) Z3 hH31 (ρ3 t 0) hw11_ ) rfl rfl rfl (hH31.kd hw11_ (by decide)) (by rw [hRm]; exact ⟨by decide, by decide⟩) (by rw [hRm]; exact ⟨by decide, by decide⟩) (Nat.le_of_ble_eq_true rfl) (fun o43 v43 ρv43 Zv43 hq43 _ => ?_)
    obtain ⟨rfl, rfl, rfl, r43, rfl, hq43⟩ := hq43
    show wp g X F_X7_read 4 125 46 [(2, t), (2, o)] [(0, r43)] v31 (up ρ3 t 1 nA) Z3
    first | refine r_if_ne (pc := 46) hX 22 (tgt := 60) rfl (by decide) (⟨by omega, by omega⟩) (fun h46 => ?_) (fun h46 => ?_) | refine r_if_ne_any (pc := 46) hX 22 (tgt := 60) rfl (by decide) ?_ ?_
    · refine t_getR (q := nA) (pc := 60) hX 30 rfl rfl rfl fl_X7_12 rfl (hH31.kd ht (by decide)) (up_s _ _ _ _) ?_
      exact r_aret (pc := 64) hX 32 hQ rfl rfl (Nat.le_of_ble_eq_true rfl) (Nat.le_of_ble_eq_true rfl) ⟨ω3, hom3, hzz3, (((hfv3).tr hom3 hfr18 (by decide)).tr hom3 hfr25 (by decide)).tr hom3 hfr31 (by decide), (hfr3).up (r := t) hom3 ht (by decide), hH31, nA, rfl, (Or.inr hT3)⟩
    · refine t_getR (q := (ρ3 t 0)) (pc := 49) hX 23 rfl rfl rfl fl_X7_18 rfl (hH31.kd ht (by decide)) ((up_k (by decide)).trans (rfl)) ?_
      refine r_iconst (pc := 53) hX 25 rfl ?_
      refine r_callV (as := [(0, 1)]) (st := []) (K := 8) (pc := 54) hX 26 rfl mo_X8_refuse ml_X7_39 im_X8_refuse se_X8_refuse (c_X8_refuse g ω3 v31 (up ρ3 t 1 nA) Z3 hH31 (ρ3 t 0) hw11_ (1) (by omega)) rfl rfl rfl (hH31.kd hw11_ (by decide)) (by rw [hRm]; exact ⟨by decide, by decide⟩) (by rw [hRm]; exact ⟨by decide, by decide⟩) (Nat.le_of_ble_eq_true rfl) (fun o54 v54 ρv54 Zv54 hq54 _ => ?_)
      obtain ⟨rfl, rfl, hfr54, hH54, r54, rfl, hq54⟩ := hq54
      show wp g X F_X7_read 4 125 57 [(2, t), (2, o)] [(0, r54)] v54 (up ρ3 t 1 nA) Z3
      refine r_pop (pc := 57) hX 27 rfl (show (0 : Nat) ≠ 1 by decide) ?_
      refine r_null (pc := 58) hX 28 rfl (by have := hH54.lt ht (by decide); have := hH54.g4 ht (by decide); omega) ?_
      exact r_aret (pc := 59) hX 29 hQ rfl rfl (Nat.le_of_ble_eq_true rfl) (Nat.le_of_ble_eq_true rfl) ⟨ω3, hom3, hzz3, ((((hfv3).tr hom3 hfr18 (by decide)).tr hom3 hfr25 (by decide)).tr hom3 hfr31 (by decide)).tr hom3 hfr54 (by decide), (hfr3).up (r := t) hom3 ht (by decide), hH54, (-1), rfl, (Or.inl (by decide))⟩
  · refine r_null (pc := 37) hX 17 rfl (by have := hH31.lt ht (by decide); have := hH31.g4 ht (by decide); omega) ?_
    exact r_aret (pc := 38) hX 18 hQ rfl rfl (Nat.le_of_ble_eq_true rfl) (Nat.le_of_ble_eq_true rfl) ⟨ω3, hom3, hzz3, (((hfv3).tr hom3 hfr18 (by decide)).tr hom3 hfr25 (by decide)).tr hom3 hfr31 (by decide), (hfr3).up (r := t) hom3 ht (by decide), hH31, (-1), rfl, (Or.inl (by decide))⟩
set_option maxHeartbeats 4000000 in
set_option maxRecDepth 100000 in
theorem c_X11_road (g : Gp) (ω : Rw) (v ρ : Mv) (Z : Mz) (hH : HT ω v ρ Z) (t : Int) (ht : ω t = 1)  : Ok g 11 12 59 F_X11_road [(2, t)] v ρ Z (fun o9 v' ρ' Z' => ∃ ω' : Rw, OmX Z.2.2 ω ω' ∧ ZzX Z.2.2 Z Z' ∧ FrB Z.2.2 ω [2, 4, 5, 6, 7, 8, 9, 10, 11, 13, 14, 22, 24, 25, 26, 27] v v' ∧ FrB Z.2.2 ω [1, 4, 22] ρ ρ' ∧ HT ω' v' ρ' Z' ∧ ∃ r : Int, o9 = some (0, r) ∧ (v' (ρ' t 0) 1 = 0) ∧ (ρ' t 0 = ρ t 0 ∧ ρ' t 13 = ρ t 13)) := by
  refine Ok.of mo_X11_road (Nat.le_of_ble_eq_true rfl) ?_
  intro X hX hRm hxn hQ
  show wp g X F_X11_road 0 0 0 [(2, t), (3, 0)] [] v ρ Z
  have htz := hH.lt ht (by decide)
  have ht0 := ht
  refine t_getR (q := (ρ t 1)) (pc := 0) hX 0 rfl rfl rfl fl_X11_21 rfl (hH.kd ht (by decide)) (rfl) ?_
  have hw0_ : ω (ρ t 1) = 4 := hH.rf ht (by decide) rfl
  refine r_callV (as := []) (st := []) (K := 5) (pc := 4) hX 2 rfl mo_X5_read ml_X11_127 im_X5_read se_X5_read (c_X5_read g ω v ρ Z hH (ρ t 1) hw0_ ) rfl rfl rfl (hH.kd hw0_ (by decide)) (by rw [hRm]; exact ⟨by decide, by decide⟩) (by rw [hRm]; exact ⟨by decide, by decide⟩) (Nat.le_of_ble_eq_true rfl) (fun o4 v4 ρv4 Zv4 hq4 _ => ?_)
  obtain ⟨ωv4, homv4, hzzv4, hfr4, hfrR4, hH4, r4, rfl, hq4⟩ := hq4
  replace ht : ωv4 t = 1 := (homv4 t (hH.lt ht (by decide))).trans ht
  replace hw0_ : ωv4 (ρ t 1) = 4 := (homv4 (ρ t 1) (hH.lt hw0_ (by decide))).trans hw0_
  show wp g X F_X11_road 12 59 7 [(2, t), (3, 0)] [(2, r4)] v4 ρv4 Zv4
  refine r_astore_n (ls' := [(2, t), (2, r4)]) (pc := 7) hX 3 rfl (by decide) rfl ?_
  refine t_getR (q := (ρv4 t 0)) (pc := 8) hX 4 rfl rfl rfl fl_X11_12 rfl (hH4.kd ht (by decide)) (rfl) ?_
  have hw8_ : ωv4 (ρv4 t 0) = 2 := hH4.rf ht (by decide) rfl
  refine r_iconst (pc := 12) hX 6 rfl ?_
  refine r_putI (pc := 13) hX 7 rfl fl_X11_123 rfl (fun _ h => by cases h; rfl) (hH4.kd hw8_ (by decide)) (hH4.g4 hw8_ (by decide)) ?_
  have hH_13 : HT ωv4 (up v4 (ρv4 t 0) 1 0) ρv4 Zv4 := hH4.upR hw8_ (by decide) rfl (by omega) (by omega)
  show wp g X F_X11_road 12 59 16 [(2, t), (2, r4)] [] (up v4 (ρv4 t 0) 1 0) ρv4 Zv4
  refine r_aload_n (pc := 16) hX 8 rfl rfl ?_
  refine r_ifnonnull (pc := 17) hX 9 (tgt := 30) rfl (by decide) (fun h17 => ?_) (fun h17 => ?_)
  · have hwf1_ : ωv4 r4 = 5 := hq4.resolve_left (by omega)
    refine t_getR (q := (ρv4 t 4)) (pc := 30) hX 16 rfl rfl rfl fl_X11_47 rfl (hH_13.kd ht (by decide)) (rfl) ?_
    have hw30_ : ωv4 (ρv4 t 4) = 22 := hH4.rf ht (by decide) rfl
    refine r_aload_n (pc := 34) hX 18 rfl rfl ?_
    refine r_callV (as := [(2, r4)]) (st := []) (K := 9) (pc := 35) hX 19 rfl mo_X9_begin ml_X11_134 im_X9_begin se_X9_begin (c_X9_begin g ωv4 (up v4 (ρv4 t 0) 1 0) ρv4 Zv4 hH_13 (ρv4 t 4) hw30_ r4 hwf1_ ) rfl rfl rfl (hH_13.kd hw30_ (by decide)) (by rw [hRm]; exact ⟨by decide, by decide⟩) (by rw [hRm]; exact ⟨by decide, by decide⟩) (Nat.le_of_ble_eq_true rfl) (fun o35 v35 ρv35 Zv35 hq35 _ => ?_)
    obtain ⟨rfl, hfr35, hfrR35, hH35, rfl, hq35⟩ := hq35
    show wp g X F_X11_road 12 59 38 [(2, t), (2, r4)] [] v35 ρv35 Zv4
    refine t_getR (q := (ρv4 t 6)) (pc := 38) hX 20 rfl rfl rfl fl_X11_61 rfl (hH35.kd ht (by decide)) ((hfrR35.at ht (by decide) 6).trans (rfl)) ?_
    have hw38_ : ωv4 (ρv4 t 6) = 27 := hH4.rf ht (by decide) rfl
    refine r_callV (as := []) (st := []) (K := 3) (pc := 42) hX 22 rfl mo_X3_forget ml_X11_137 im_X3_forget se_X3_forget (c_X3_forget g ωv4 v35 ρv35 Zv4 hH35 (ρv4 t 6) hw38_ ) rfl rfl rfl (hH35.kd hw38_ (by decide)) (by rw [hRm]; exact ⟨by decide, by decide⟩) (by rw [hRm]; exact ⟨by decide, by decide⟩) (Nat.le_of_ble_eq_true rfl) (fun o42 v42 ρv42 Zv42 hq42 _ => ?_)
    obtain ⟨rfl, rfl, hfr42, hH42, rfl, hq42⟩ := hq42
    show wp g X F_X11_road 12 59 45 [(2, t), (2, r4)] [] v42 ρv35 Zv4
    refine r_aload_n (pc := 45) hX 23 rfl rfl ?_
    refine r_null (pc := 46) hX 24 rfl (by have := hH42.lt ht (by decide); have := hH42.g4 ht (by decide); omega) ?_
    refine r_putR (pc := 47) hX 25 rfl fl_X11_140 rfl (fun _ h => by cases h; rfl) (hH42.kd ht (by decide)) (hH42.g4 ht (by decide)) ?_
    have hH_47 : HT ωv4 v42 (up ρv35 t 17 (-1)) Zv4 := hH42.un ht rfl (Or.inl (by decide)) rfl
    show wp g X F_X11_road 12 59 50 [(2, t), (2, r4)] [] v42 (up ρv35 t 17 (-1)) Zv4
    refine r_aload_n (pc := 50) hX 26 rfl rfl ?_
    refine e_getI (y := (v4 r4 14)) (pc := 51) hX 27 rfl fl_X11_144 rfl (hH_47.kd hwf1_ (by decide)) ((hfr42.at hwf1_ (by decide) 14).trans ((hfr35.at hwf1_ (by decide) 14).trans ((up_k (by decide)).trans (rfl)))) ?_
    exact r_iret (pc := 54) hX 28 hQ rfl rfl (Nat.le_of_ble_eq_true rfl) (Nat.le_of_ble_eq_true rfl) ⟨ωv4, (OmX.tr OmX.rf homv4 (by first | exact Int.le_refl _ | omega)), (ZzX.tr ZzX.rf hzzv4 (by first | exact Int.le_refl _ | omega)), ((((FrB.rf).trB OmX.rf hfr4 (by first | exact Int.le_refl _ | omega) (by decide)).up (r := (ρv4 t 0)) (OmX.tr OmX.rf homv4 (by first | exact Int.le_refl _ | omega)) hw8_ (by decide)).tr (OmX.tr OmX.rf homv4 (by first | exact Int.le_refl _ | omega)) hfr35 (by decide)).tr (OmX.tr OmX.rf homv4 (by first | exact Int.le_refl _ | omega)) hfr42 (by decide), (((FrB.rf).trB OmX.rf hfrR4 (by first | exact Int.le_refl _ | omega) (by decide)).tr (OmX.tr OmX.rf homv4 (by first | exact Int.le_refl _ | omega)) hfrR35 (by decide)).up (r := t) (OmX.tr OmX.rf homv4 (by first | exact Int.le_refl _ | omega)) ht (by decide), hH_47, (v4 r4 14), rfl, (by rw [up_k (by decide), hfrR35.at ht (by decide) 0]; exact (hfr42.at hw8_ (by decide) 1).trans ((hfr35.at hw8_ (by decide) 1).trans (up_s _ _ _ _))), (⟨by rw [up_k (by decide), hfrR35.at ht (by decide) 0, hfrR4 t htz (by rw [ht0]; decide)], by rw [up_k (by decide), hfrR35.at ht (by decide) 13, hfrR4 t htz (by rw [ht0]; decide)]⟩)⟩
  · refine r_iconst (pc := 20) hX 10 rfl ?_
    refine t_getR (q := (ρv4 t 0)) (pc := 21) hX 11 rfl rfl rfl fl_X11_12 rfl (hH_13.kd ht (by decide)) (rfl) ?_
    refine e_getI (y := (v4 (ρv4 t 0) 10)) (pc := 25) hX 13 rfl fl_X11_131 rfl (hH_13.kd hw8_ (by decide)) ((up_k (by decide)).trans (rfl)) ?_
    have hb25 : 0 ≤ (v4 (ρv4 t 0) 10) ∧ (v4 (ρv4 t 0) 10) ≤ 1000 := hH4.rg hw8_ (by decide) rfl
    refine r_isub (pc := 28) hX 14 rfl ?_
    exact r_iret (pc := 29) hX 15 hQ rfl rfl (Nat.le_of_ble_eq_true rfl) (Nat.le_of_ble_eq_true rfl) ⟨ωv4, (OmX.tr OmX.rf homv4 (by first | exact Int.le_refl _ | omega)), (ZzX.tr ZzX.rf hzzv4 (by first | exact Int.le_refl _ | omega)), ((FrB.rf).trB OmX.rf hfr4 (by first | exact Int.le_refl _ | omega) (by decide)).up (r := (ρv4 t 0)) (OmX.tr OmX.rf homv4 (by first | exact Int.le_refl _ | omega)) hw8_ (by decide), (FrB.rf).trB OmX.rf hfrR4 (by first | exact Int.le_refl _ | omega) (by decide), hH_13, ((-1) - (v4 (ρv4 t 0) 10)), rfl, (up_s _ _ _ _), (⟨by rw [hfrR4 t htz (by rw [ht0]; decide)], by rw [hfrR4 t htz (by rw [ht0]; decide)]⟩)⟩
set_option maxHeartbeats 4000000 in
set_option maxRecDepth 100000 in
theorem c_X11_sentence (g : Gp) (ω : Rw) (v ρ : Mv) (Z : Mz) (hH : HT ω v ρ Z) (t : Int) (ht : ω t = 1)  : Ok g 27 4 125 F_X11_sentence [(2, t)] v ρ Z (fun o9 v' ρ' Z' => ∃ ω' : Rw, OmX Z.2.2 ω ω' ∧ ZzX Z.2.2 Z Z' ∧ FrB Z.2.2 ω [2, 19, 20] v v' ∧ FrB Z.2.2 ω [1, 21] ρ ρ' ∧ HT ω' v' ρ' Z' ∧ ∃ r : Int, o9 = some (0, r) ∧ (v' (ρ' t 0) 1 = 0) ∧ (ρ' t 0 = ρ t 0 ∧ ρ' t 13 = ρ t 13)) := by
  refine Ok.of mo_X11_sentence (Nat.le_of_ble_eq_true rfl) ?_
  intro X hX hRm hxn hQ
  show wp g X F_X11_sentence 0 0 0 [(2, t), (3, 0)] [] v ρ Z
  have htz := hH.lt ht (by decide)
  have ht0 := ht
  refine t_getR (q := (ρ t 3)) (pc := 0) hX 0 rfl rfl rfl fl_X11_35 rfl (hH.kd ht (by decide)) (rfl) ?_
  have hw0_ : ω (ρ t 3) = 21 := hH.rf ht (by decide) rfl
  refine t_getR (q := (ρ t 4)) (pc := 4) hX 2 rfl rfl rfl fl_X11_47 rfl (hH.kd ht (by decide)) (rfl) ?_
  have hw4_ : ω (ρ t 4) = 22 := hH.rf ht (by decide) rfl
  refine r_getR (q := (ρ (ρ t 4) 0)) (pc := 8) hX 4 rfl fl_X11_51 rfl (hH.kd hw4_ (by decide)) (rfl) ?_
  have hw8_ : ω (ρ (ρ t 4) 0) = 5 := hH.rf hw4_ (by decide) rfl
  refine r_callV (as := [(2, (ρ (ρ t 4) 0))]) (st := []) (K := 7) (pc := 11) hX 5 rfl mo_X7_read ml_X11_373 im_X7_read se_X7_read (c_X7_read g ω v ρ Z hH (ρ t 3) hw0_ (ρ (ρ t 4) 0) hw8_ ) rfl rfl rfl (hH.kd hw0_ (by decide)) (by rw [hRm]; exact ⟨by decide, by decide⟩) (by rw [hRm]; exact ⟨by decide, by decide⟩) (Nat.le_of_ble_eq_true rfl) (fun o11 v11 ρv11 Zv11 hq11 _ => ?_)
  obtain ⟨ωv11, homv11, hzzv11, hfr11, hfrR11, hH11, r11, rfl, hq11⟩ := hq11
  replace ht : ωv11 t = 1 := (homv11 t (hH.lt ht (by decide))).trans ht
  replace hw0_ : ωv11 (ρ t 3) = 21 := (homv11 (ρ t 3) (hH.lt hw0_ (by decide))).trans hw0_
  replace hw4_ : ωv11 (ρ t 4) = 22 := (homv11 (ρ t 4) (hH.lt hw4_ (by decide))).trans hw4_
  replace hw8_ : ωv11 (ρ (ρ t 4) 0) = 5 := (homv11 (ρ (ρ t 4) 0) (hH.lt hw8_ (by decide))).trans hw8_
  show wp g X F_X11_sentence 4 125 14 [(2, t), (3, 0)] [(2, r11)] v11 ρv11 Zv11
  refine r_astore_n (ls' := [(2, t), (2, r11)]) (pc := 14) hX 6 rfl (by decide) rfl ?_
  refine t_getR (q := (ρv11 t 0)) (pc := 15) hX 7 rfl rfl rfl fl_X11_12 rfl (hH11.kd ht (by decide)) (rfl) ?_
  have hw15_ : ωv11 (ρv11 t 0) = 2 := hH11.rf ht (by decide) rfl
  refine r_iconst (pc := 19) hX 9 rfl ?_
  refine r_putI (pc := 20) hX 10 rfl fl_X11_123 rfl (fun _ h => by cases h; rfl) (hH11.kd hw15_ (by decide)) (hH11.g4 hw15_ (by decide)) ?_
  have hH_20 : HT ωv11 (up v11 (ρv11 t 0) 1 0) ρv11 Zv11 := hH11.upR hw15_ (by decide) rfl (by omega) (by omega)
  show wp g X F_X11_sentence 4 125 23 [(2, t), (2, r11)] [] (up v11 (ρv11 t 0) 1 0) ρv11 Zv11
  refine r_aload_n (pc := 23) hX 11 rfl rfl ?_
  refine r_ifnonnull (pc := 24) hX 12 (tgt := 37) rfl (by decide) (fun h24 => ?_) (fun h24 => ?_)
  · have hwf1_ : ωv11 r11 = 19 := hq11.resolve_left (by omega)
    refine r_aload_n (pc := 37) hX 19 rfl rfl ?_
    refine r_aload_n (pc := 38) hX 20 rfl rfl ?_
    refine r_putR (pc := 39) hX 21 rfl fl_X11_140 rfl (fun _ h => by cases h; rfl) (hH_20.kd ht (by decide)) (hH_20.g4 ht (by decide)) ?_
    have hH_39 : HT ωv11 (up v11 (ρv11 t 0) 1 0) (up ρv11 t 17 r11) Zv11 := hH_20.un ht rfl (Or.inr hwf1_) rfl
    show wp g X F_X11_sentence 4 125 42 [(2, t), (2, r11)] [] (up v11 (ρv11 t 0) 1 0) (up ρv11 t 17 r11) Zv11
    refine r_aload_n (pc := 42) hX 22 rfl rfl ?_
    refine e_getI (y := (v11 r11 4)) (pc := 43) hX 23 rfl fl_X11_376 rfl (hH_39.kd hwf1_ (by decide)) ((up_k (by decide)).trans (rfl)) ?_
    have hb43 : 0 ≤ (v11 r11 4) ∧ (v11 r11 4) ≤ 20 := hH11.rg hwf1_ (by decide) rfl
    exact r_iret (pc := 46) hX 24 hQ rfl rfl (Nat.le_of_ble_eq_true rfl) (Nat.le_of_ble_eq_true rfl) ⟨ωv11, (OmX.tr OmX.rf homv11 (by first | exact Int.le_refl _ | omega)), (ZzX.tr ZzX.rf hzzv11 (by first | exact Int.le_refl _ | omega)), ((FrB.rf).trB OmX.rf hfr11 (by first | exact Int.le_refl _ | omega) (by decide)).up (r := (ρv11 t 0)) (OmX.tr OmX.rf homv11 (by first | exact Int.le_refl _ | omega)) hw15_ (by decide), ((FrB.rf).trB OmX.rf hfrR11 (by first | exact Int.le_refl _ | omega) (by decide)).up (r := t) (OmX.tr OmX.rf homv11 (by first | exact Int.le_refl _ | omega)) ht (by decide), hH_39, (v11 r11 4), rfl, (by rw [show (up ρv11 t 17 r11) t 0 = ρv11 t 0 from up_k (by decide)]; exact up_s _ _ _ _), (⟨by rw [up_k (by decide), hfrR11 t htz (by rw [ht0]; decide)], by rw [up_k (by decide), hfrR11 t htz (by rw [ht0]; decide)]⟩)⟩
  · refine r_iconst (pc := 27) hX 13 rfl ?_
    refine t_getR (q := (ρv11 t 0)) (pc := 28) hX 14 rfl rfl rfl fl_X11_12 rfl (hH_20.kd ht (by decide)) (rfl) ?_
    refine e_getI (y := (v11 (ρv11 t 0) 10)) (pc := 32) hX 16 rfl fl_X11_131 rfl (hH_20.kd hw15_ (by decide)) ((up_k (by decide)).trans (rfl)) ?_
    have hb32 : 0 ≤ (v11 (ρv11 t 0) 10) ∧ (v11 (ρv11 t 0) 10) ≤ 1000 := hH11.rg hw15_ (by decide) rfl
    refine r_isub (pc := 35) hX 17 rfl ?_
    exact r_iret (pc := 36) hX 18 hQ rfl rfl (Nat.le_of_ble_eq_true rfl) (Nat.le_of_ble_eq_true rfl) ⟨ωv11, (OmX.tr OmX.rf homv11 (by first | exact Int.le_refl _ | omega)), (ZzX.tr ZzX.rf hzzv11 (by first | exact Int.le_refl _ | omega)), ((FrB.rf).trB OmX.rf hfr11 (by first | exact Int.le_refl _ | omega) (by decide)).up (r := (ρv11 t 0)) (OmX.tr OmX.rf homv11 (by first | exact Int.le_refl _ | omega)) hw15_ (by decide), (FrB.rf).trB OmX.rf hfrR11 (by first | exact Int.le_refl _ | omega) (by decide), hH_20, ((-1) - (v11 (ρv11 t 0) 10)), rfl, (up_s _ _ _ _), (⟨by rw [hfrR11 t htz (by rw [ht0]; decide)], by rw [hfrR11 t htz (by rw [ht0]; decide)]⟩)⟩
