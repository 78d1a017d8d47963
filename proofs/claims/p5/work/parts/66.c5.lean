set_option maxHeartbeats 4000000 in
set_option maxRecDepth 100000 in
theorem c_X10_gain (g : Gp) (ω : Rw) (v ρ : Mv) (Z : Mz) (hH : HT ω v ρ Z) (t : Int) (ht : ω t = 45) (p : Int) (c : Int) (n : Int) (hp : -1 ≤ p ∧ p ≤ 2) (hc : 0 ≤ c ∧ c ≤ 4) : Ok g 1 0 0 F_X10_gain [(2, t), (0, p), (0, c), (0, n)] v ρ Z (fun o9 v' ρ' Z' => ρ = ρ' ∧ Z = Z' ∧ FrW ω [51] v v' ∧ HT ω v' ρ Z ∧ o9 = none ∧ ((p = -1 → ∀ k, v' (ρ t 13) k = v (ρ t 13) k) ∧ (0 ≤ p → v' (ρ t 13) p = v (ρ t 13) p + n * (v (ρ (ρ t 0) 1)) c ∧ ∀ k, k ≠ p → v' (ρ t 13) k = v (ρ t 13) k))) := by
  refine Ok.of mo_X10_gain (Nat.le_of_ble_eq_true rfl) ?_
  intro X hX hRm hxn hQ
  show wp g X F_X10_gain 0 0 0 [(2, t), (0, p), (0, c), (0, n)] [] v ρ Z
  refine r_iload_n (pc := 0) hX 0 rfl rfl ?_
  refine r_iconst (pc := 1) hX 1 rfl ?_
  first | refine r_icmp_eq (pc := 2) hX 2 (tgt := 25) rfl (by decide) (⟨by omega, by omega⟩) (⟨by omega, by omega⟩) (fun h2 => ?_) (fun h2 => ?_) | refine r_icmp_eq_any (pc := 2) hX 2 (tgt := 25) rfl (by decide) ?_ ?_
  · exact r_vret (pc := 25) hX 17 hQ rfl rfl (Nat.le_refl 0) (Nat.le_refl 0) ⟨rfl, rfl, FrW.rf, hH, rfl, (by first | exact ⟨fun e => by omega, fun _ => ⟨up_s _ _ _ _, fun k hk => up_k hk⟩⟩ | exact ⟨fun _ _ => rfl, fun e => by omega⟩)⟩
  · refine t_getR (q := (ρ t 13)) (pc := 5) hX 3 rfl rfl rfl fl_X10_37 rfl (hH.kd ht (by decide)) (rfl) ?_
    have hw5_ : ω (ρ t 13) = 51 := hH.rf ht (by decide) rfl
    refine r_iload_n (pc := 9) hX 5 rfl rfl ?_
    refine r_dup2i (pc := 10) hX 6 rfl (show (0 : Nat) ≠ 1 by decide) (show (2 : Nat) ≠ 1 by decide) ?_
    refine e_iald (y := (v (ρ t 13) p)) (n := 3) (pc := 11) hX 7 rfl (hH.kd hw5_ (by decide)) (hH.ln hw5_ (by decide)) (by omega) (by omega) (rfl) ?_
    refine r_iload_n (pc := 12) hX 8 rfl rfl ?_
    refine t_getR (q := (ρ t 0)) (pc := 13) hX 9 rfl rfl rfl fl_X10_61 rfl (hH.kd ht (by decide)) (rfl) ?_
    have hw13_ : ω (ρ t 0) = 5 := hH.rf ht (by decide) rfl
    refine r_getR (q := (ρ (ρ t 0) 1)) (pc := 17) hX 11 rfl fl_X10_149 rfl (hH.kd hw13_ (by decide)) (rfl) ?_
    have hw17_ : ω (ρ (ρ t 0) 1) = 9 := hH.rf hw13_ (by decide) rfl
    refine r_iload_n (pc := 20) hX 12 rfl rfl ?_
    refine e_iald (y := (v (ρ (ρ t 0) 1) c)) (n := 5) (pc := 21) hX 13 rfl (hH.kd hw17_ (by decide)) (hH.ln hw17_ (by decide)) (by omega) (by omega) (rfl) ?_
    have hb21 : 0 ≤ (v (ρ (ρ t 0) 1) c) ∧ (v (ρ (ρ t 0) 1) c) ≤ 3 := hH.rg hw17_ (by decide) rfl
    refine r_imul (pc := 22) hX 14 rfl ?_
    refine r_iadd (pc := 23) hX 15 rfl ?_
    refine e_iast (n := 3) (pc := 24) hX 16 rfl (hH.kd hw5_ (by decide)) (hH.ln hw5_ (by decide)) (hH.g4 hw5_ (by decide)) (by omega) (by omega) ?_
    have hH_24 : HT ω (up v (ρ t 13) p ((v (ρ t 13) p) + (n * (v (ρ (ρ t 0) 1) c)))) ρ Z := hH.up0 hw5_ (by decide) rfl
    show wp g X F_X10_gain 0 0 25 [(2, t), (0, p), (0, c), (0, n)] [] (up v (ρ t 13) p ((v (ρ t 13) p) + (n * (v (ρ (ρ t 0) 1) c)))) ρ Z
    exact r_vret (pc := 25) hX 17 hQ rfl rfl (Nat.le_refl 0) (Nat.le_refl 0) ⟨rfl, rfl, (FrW.rf).up (r := (ρ t 13)) hw5_ (by decide), hH_24, rfl, (by first | exact ⟨fun e => by omega, fun _ => ⟨up_s _ _ _ _, fun k hk => up_k hk⟩⟩ | exact ⟨fun _ _ => rfl, fun e => by omega⟩)⟩
set_option maxHeartbeats 4000000 in
set_option maxRecDepth 100000 in
theorem c_X10_waysDone (g : Gp) (ω : Rw) (v ρ : Mv) (Z : Mz) (hH : HT ω v ρ Z) (t : Int) (ht : ω t = 45) (p : Int) (c : Int) (n : Int) (hp : -1 ≤ p ∧ p ≤ 2) (hc : 0 ≤ c ∧ c ≤ 4) (hn : 1 ≤ n ∧ n ≤ 12) (hr : ∀ k, 0 ≤ k → k ≤ 2 → 0 ≤ v (ρ t 13) k ∧ v (ρ t 13) k ≤ 100) : Ok g 2 0 0 F_X10_waysDone [(2, t), (0, p), (0, c), (0, n)] v ρ Z (fun o9 v' ρ' Z' => ρ = ρ' ∧ Z = Z' ∧ FrW ω [51] v v' ∧ HT ω v' ρ Z ∧ ∃ r : Int, o9 = some (1, r) ∧ (∀ k, v' (ρ t 13) k = v (ρ t 13) k) ∧ ((r = -1 ∧ (p = -1 ∨ v (ρ t 13) p + (v (ρ (ρ t 0) 1)) c < v (ρ t 0) 11) ∨ 0 ≤ r ∧ r ≤ 8916100448256))) := by
  refine Ok.of mo_X10_waysDone (Nat.le_of_ble_eq_true rfl) ?_
  intro X hX hRm hxn hQ
  show wp g X F_X10_waysDone 0 0 0 [(2, t), (0, p), (0, c), (0, n), (3, 0)] [] v ρ Z
  refine r_iload_n (pc := 0) hX 0 rfl rfl ?_
  refine r_iconst (pc := 1) hX 1 rfl ?_
  have L91 : ∀ (w : Int) (v91 : Mv) , (FrW ω [51] v v91) → (HT ω v91 ρ Z) → (∀ k, v91 (ρ t 13) k = v (ρ t 13) k) → wp g X F_X10_waysDone 0 0 91 [(2, t), (0, p), (0, c), (0, n), (0, w)] [] v91 ρ Z := by
    intro w v91 hfr91 hH91 is
    refine r_iload (pc := 91) hX 49 rfl rfl ?_
    refine t_getI (y := (v t 2)) (pc := 93) hX 50 rfl rfl rfl fl_X10_15 rfl (hH91.kd ht (by decide)) ((hfr91.at ht (by decide) 2).trans (rfl)) ?_
    have hb93 : (-1) ≤ (v t 2) ∧ (v t 2) ≤ 2 := hH.rg ht (by decide) rfl
    first | refine r_icmp_ne (pc := 97) hX 52 (tgt := 110) rfl (by decide) (⟨by omega, by omega⟩) (⟨by omega, by omega⟩) (fun h97 => ?_) (fun h97 => ?_) | refine r_icmp_ne_any (pc := 97) hX 52 (tgt := 110) rfl (by decide) ?_ ?_
    · refine r_lconst (pc := 110) hX 59 rfl ?_
      show wp g X F_X10_waysDone 0 0 111 [(2, t), (0, p), (0, c), (0, n), (0, w)] [(1, 0)] v91 ρ Z
      exact r_lret (pc := 111) hX 60 hQ rfl rfl (Nat.le_refl 0) (Nat.le_refl 0) ⟨rfl, rfl, hfr91, hH91, 0, rfl, (is), (Or.inr (by omega))⟩
    · refine r_getsTN (pc := 100) hX 53 rfl gs_X10_134 (by rw [hH91.2.2.2.2.2.2.1]; decide) ?_
      refine r_iload_n (pc := 103) hX 54 rfl rfl ?_
      refine r_iconst (pc := 104) hX 55 rfl ?_
      refine r_isub (pc := 105) hX 56 rfl ?_
      refine e_lald (y := (v 1 (n - 1))) (n := 13) (pc := 106) hX 57 rfl hH91.2.2.2.2.2.2.1 hH91.2.2.2.2.2.2.2.1 (by omega) (by omega) ((hfr91.at hH91.w1 (by decide) (n - 1)).trans (rfl)) ?_
      have hb106 := hH.tw (n - 1) (by omega) (by omega)
      refine r_goto (pc := 107) hX 58 (tgt := 111) rfl (by decide) ?_
      exact r_lret (pc := 111) hX 60 hQ rfl rfl (Nat.le_refl 0) (Nat.le_refl 0) ⟨rfl, rfl, hfr91, hH91, (v 1 (n - 1)), rfl, (is), (Or.inr (by omega))⟩
  have L37 : (p = -1 ∨ v (ρ t 13) p + v (ρ (ρ t 0) 1) c < v (ρ t 0) 11) → wp g X F_X10_waysDone 0 0 37 [(2, t), (0, p), (0, c), (0, n), (3, 0)] [] v ρ Z := by
    intro i37
    refine r_iload_n (pc := 37) hX 20 rfl rfl ?_
    refine r_iconst (pc := 38) hX 21 rfl ?_
    have L54 : wp g X F_X10_waysDone 0 0 54 [(2, t), (0, p), (0, c), (0, n), (3, 0)] [] v ρ Z := by
      refine r_aload_n (pc := 54) hX 29 rfl rfl ?_
      refine r_iload_n (pc := 55) hX 30 rfl rfl ?_
      refine r_iload_n (pc := 56) hX 31 rfl rfl ?_
      refine r_iconst (pc := 57) hX 32 rfl ?_
      refine r_callV (as := [(0, p), (0, c), (0, 1)]) (st := []) (K := 10) (pc := 58) hX 33 rfl mo_X10_gain ml_X10_165 im_X10_gain se_X10_gain (c_X10_gain g ω v ρ Z hH t ht (p) (c) (1) (by omega) (by omega)) rfl rfl rfl (hH.kd ht (by decide)) (by rw [hRm]; exact ⟨by decide, by decide⟩) (by rw [hRm]; exact ⟨by decide, by decide⟩) (Nat.le_of_ble_eq_true rfl) (fun o58 v58 ρv58 Zv58 hq58 _ => ?_)
      obtain ⟨rfl, rfl, hfr58, hH58, rfl, hq58⟩ := hq58
      have hw58_ : ω (ρ t 13) = 51 := hH.rf ht (by decide) rfl
      have hwf1_ : ω (ρ t 0) = 5 := hH.rf ht (by decide) rfl
      have hwf2_ : ω (ρ (ρ t 0) 1) = 9 := hH.rf hwf1_ (by decide) rfl
      show wp g X F_X10_waysDone 0 0 61 [(2, t), (0, p), (0, c), (0, n), (3, 0)] [] v58 ρ Z
      refine t_getR (q := (ρ t 13)) (pc := 61) hX 34 rfl rfl rfl fl_X10_37 rfl (hH58.kd ht (by decide)) (rfl) ?_
      refine t_getR (q := (ρ t 0)) (pc := 65) hX 36 rfl rfl rfl fl_X10_61 rfl (hH58.kd ht (by decide)) (rfl) ?_
      refine e_getI (y := (v (ρ t 0) 10)) (pc := 69) hX 38 rfl fl_X10_168 rfl (hH58.kd hwf1_ (by decide)) ((hfr58.at hwf1_ (by decide) 10).trans (rfl)) ?_
      have hb69 : 0 ≤ (v (ρ t 0) 10) ∧ (v (ρ t 0) 10) ≤ 3 := hH.rg hwf1_ (by decide) rfl
      refine r_callSN (as := [(2, (ρ t 13)), (0, (v (ρ t 0) 10))]) (st := []) (pc := 72) hX 39 rfl mo_X11_soleLeader mn_X10_171 pn_X11_soleLeader stt_X11_soleLeader (c_X11_soleLeader g ω v58 ρ Z hH58 (ρ t 13) (hH58.kd hw58_ (by decide)) ((v (ρ t 0) 10)) (by omega)) rfl (by rw [hRm]; exact ⟨by decide, by decide⟩) (by rw [hRm]; exact ⟨by decide, by decide⟩) (Nat.le_of_ble_eq_true rfl) (fun o72 v72 ρv72 Zv72 hq72 _ => ?_)
      obtain ⟨rfl, rfl, rfl, r72, rfl, hq72⟩ := hq72
      show wp g X F_X10_waysDone 0 0 75 [(2, t), (0, p), (0, c), (0, n), (3, 0)] [(0, r72)] v58 ρ Z
      refine r_istore (ls' := [(2, t), (0, p), (0, c), (0, n), (0, r72)]) (pc := 75) hX 40 rfl (by decide) rfl ?_
      refine r_aload_n (pc := 77) hX 41 rfl rfl ?_
      refine r_iload_n (pc := 78) hX 42 rfl rfl ?_
      refine r_iload_n (pc := 79) hX 43 rfl rfl ?_
      refine r_iconst (pc := 80) hX 44 rfl ?_
      refine r_callV (as := [(0, p), (0, c), (0, (-1))]) (st := []) (K := 10) (pc := 81) hX 45 rfl mo_X10_gain ml_X10_165 im_X10_gain se_X10_gain (c_X10_gain g ω v58 ρ Z hH58 t ht (p) (c) ((-1)) (by omega) (by omega)) rfl rfl rfl (hH58.kd ht (by decide)) (by rw [hRm]; exact ⟨by decide, by decide⟩) (by rw [hRm]; exact ⟨by decide, by decide⟩) (Nat.le_of_ble_eq_true rfl) (fun o81 v81 ρv81 Zv81 hq81 _ => ?_)
      obtain ⟨rfl, rfl, hfr81, hH81, rfl, hq81⟩ := hq81
      try rw [show (v58 (ρ (ρ t 0) 1)) = (v (ρ (ρ t 0) 1)) from (hfr58.rw hwf2_ (by decide)).trans (rfl)] at hq81
      show wp g X F_X10_waysDone 0 0 84 [(2, t), (0, p), (0, c), (0, n), (0, r72)] [] v81 ρ Z
      have hs81 : ∀ k, v81 (ρ t 13) k = v (ρ t 13) k := fun k => by
        by_cases e : p = -1
        · rw [hq81.1 e k, hq58.1 e k]
        · by_cases f : k = p
          · subst f; rw [(hq81.2 (by omega)).1, (hq58.2 (by omega)).1]; omega
          · rw [(hq81.2 (by omega)).2 k f, (hq58.2 (by omega)).2 k f]
      refine r_goto (pc := 84) hX 46 (tgt := 91) rfl (by decide) ?_
      exact (L91 r72 v81 (((FrW.rf).tr hfr58 (by decide)).tr hfr81 (by decide)) (hH81) (by first | exact fun _ => rfl | exact hs81) )
    first | refine r_icmp_eq (pc := 39) hX 22 (tgt := 54) rfl (by decide) (⟨by omega, by omega⟩) (⟨by omega, by omega⟩) (fun h39 => ?_) (fun h39 => ?_) | refine r_icmp_eq_any (pc := 39) hX 22 (tgt := 54) rfl (by decide) ?_ ?_
    · exact (L54   )
    · refine t_getR (q := (ρ t 0)) (pc := 42) hX 23 rfl rfl rfl fl_X10_61 rfl (hH.kd ht (by decide)) (rfl) ?_
      have hw42_ : ω (ρ t 0) = 5 := hH.rf ht (by decide) rfl
      refine r_getR (q := (ρ (ρ t 0) 2)) (pc := 46) hX 25 rfl fl_X10_145 rfl (hH.kd hw42_ (by decide)) (rfl) ?_
      have hw46_ : ω (ρ (ρ t 0) 2) = 10 := hH.rf hw42_ (by decide) rfl
      refine r_iload_n (pc := 49) hX 26 rfl rfl ?_
      refine e_zald (y := (v (ρ (ρ t 0) 2) c)) (n := 5) (pc := 50) hX 27 rfl (hH.kd hw46_ (by decide)) (hH.ln hw46_ (by decide)) (by omega) (by omega) (rfl) (fun hb50a hb50b => ?_)
      first | refine r_if_eq (pc := 51) hX 28 (tgt := 87) rfl (by decide) (⟨by omega, by omega⟩) (fun h51 => ?_) (fun h51 => ?_) | refine r_if_eq_any (pc := 51) hX 28 (tgt := 87) rfl (by decide) ?_ ?_
      · refine r_ldc2 (y := (-1)) (pc := 87) hX 47 rfl kl_X10_160 (by decide) ?_
        exact r_lret (pc := 90) hX 48 hQ rfl rfl (Nat.le_refl 0) (Nat.le_refl 0) ⟨rfl, rfl, FrW.rf, hH, (-1), rfl, (fun _ => rfl), (Or.inl ⟨rfl, i37⟩)⟩
      · exact (L54   )
  first | refine r_icmp_eq (pc := 2) hX 2 (tgt := 37) rfl (by decide) (⟨by omega, by omega⟩) (⟨by omega, by omega⟩) (fun h2 => ?_) (fun h2 => ?_) | refine r_icmp_eq_any (pc := 2) hX 2 (tgt := 37) rfl (by decide) ?_ ?_
  · exact (L37  (by omega) )
  · refine t_getR (q := (ρ t 13)) (pc := 5) hX 3 rfl rfl rfl fl_X10_37 rfl (hH.kd ht (by decide)) (rfl) ?_
    have hw5_ : ω (ρ t 13) = 51 := hH.rf ht (by decide) rfl
    refine r_iload_n (pc := 9) hX 5 rfl rfl ?_
    refine e_iald (y := (v (ρ t 13) p)) (n := 3) (pc := 10) hX 6 rfl (hH.kd hw5_ (by decide)) (hH.ln hw5_ (by decide)) (by omega) (by omega) (rfl) ?_
    have hb10 := hr p (by omega) (by omega)
    refine t_getR (q := (ρ t 0)) (pc := 11) hX 7 rfl rfl rfl fl_X10_61 rfl (hH.kd ht (by decide)) (rfl) ?_
    have hw11_ : ω (ρ t 0) = 5 := hH.rf ht (by decide) rfl
    refine r_getR (q := (ρ (ρ t 0) 1)) (pc := 15) hX 9 rfl fl_X10_149 rfl (hH.kd hw11_ (by decide)) (rfl) ?_
    have hw15_ : ω (ρ (ρ t 0) 1) = 9 := hH.rf hw11_ (by decide) rfl
    refine r_iload_n (pc := 18) hX 10 rfl rfl ?_
    refine e_iald (y := (v (ρ (ρ t 0) 1) c)) (n := 5) (pc := 19) hX 11 rfl (hH.kd hw15_ (by decide)) (hH.ln hw15_ (by decide)) (by omega) (by omega) (rfl) ?_
    have hb19 : 0 ≤ (v (ρ (ρ t 0) 1) c) ∧ (v (ρ (ρ t 0) 1) c) ≤ 3 := hH.rg hw15_ (by decide) rfl
    refine r_iadd (pc := 20) hX 12 rfl ?_
    refine t_getR (q := (ρ t 0)) (pc := 21) hX 13 rfl rfl rfl fl_X10_61 rfl (hH.kd ht (by decide)) (rfl) ?_
    refine e_getI (y := (v (ρ t 0) 11)) (pc := 25) hX 15 rfl fl_X10_111 rfl (hH.kd hw11_ (by decide)) (rfl) ?_
    have hb25 : 1 ≤ (v (ρ t 0) 11) ∧ (v (ρ t 0) 11) ≤ 9 := hH.rg hw11_ (by decide) rfl
    first | refine r_icmp_lt (pc := 28) hX 16 (tgt := 37) rfl (by decide) (⟨by omega, by omega⟩) (⟨by omega, by omega⟩) (fun h28 => ?_) (fun h28 => ?_) | refine r_icmp_lt_any (pc := 28) hX 16 (tgt := 37) rfl (by decide) ?_ ?_
    · exact (L37  (by omega) )
    · refine r_iload_n (pc := 31) hX 17 rfl rfl ?_
      refine r_istore (ls' := [(2, t), (0, p), (0, c), (0, n), (0, p)]) (pc := 32) hX 18 rfl (by decide) rfl ?_
      refine r_goto (pc := 34) hX 19 (tgt := 91) rfl (by decide) ?_
      exact (L91 p v (FrW.rf) (hH) (by first | exact fun _ => rfl | exact hs81) )
set_option maxHeartbeats 4000000 in
set_option maxRecDepth 100000 in
theorem c_X10_waysFrom (g : Gp) (ω : Rw) (v ρ : Mv) (Z : Mz) (hH : HT ω v ρ Z) (t : Int) (ht : ω t = 45) (a : Int) (ha : ω a = 59) (q : Int) (mi : Int) (l : Int) (n : Int) (hl : 0 ≤ l ∧ l ≤ 2) (hmir : inR mi) (hn : 1 ≤ n ∧ n ≤ 12) (hat : 0 ≤ v (ρ t 13) 0 - v (ρ t 12) 0 ∧ v (ρ t 13) 0 - v (ρ t 12) 0 ≤ 8 ∧ 0 ≤ v (ρ t 13) 1 - v (ρ t 12) 1 ∧ v (ρ t 13) 1 - v (ρ t 12) 1 ≤ 8 ∧ 0 ≤ v (ρ t 13) 2 - v (ρ t 12) 2 ∧ v (ρ t 13) 2 - v (ρ t 12) 2 ≤ 8 ∧ q = ((v (ρ t 13) 0 - v (ρ t 12) 0) * 9 + (v (ρ t 13) 1 - v (ρ t 12) 1)) * 9 + (v (ρ t 13) 2 - v (ρ t 12) 2)) : Ok g 3 0 0 F_X10_waysFrom [(2, t), (2, a), (0, q), (0, mi), (0, l), (0, n)] v ρ Z (fun o9 v' ρ' Z' => ρ = ρ' ∧ Z = Z' ∧ FrW ω [51] v v' ∧ HT ω v' ρ Z ∧ ∃ r : Int, o9 = some (1, r) ∧ (∀ k, v' (ρ t 13) k = v (ρ t 13) k)) := by
  refine Ok.of mo_X10_waysFrom (Nat.le_of_ble_eq_true rfl) ?_
  intro X hX hRm hxn hQ
  show wp g X F_X10_waysFrom 0 0 0 [(2, t), (2, a), (0, q), (0, mi), (0, l), (0, n), (3, 0), (3, 0), (3, 0), (3, 0), (3, 0), (3, 0), (3, 0)] [] v ρ Z
  have c3 : ∀ k : Int, 0 ≤ k → k ≤ 2 → k = 0 ∨ k = 1 ∨ k = 2 := fun k a b => by omega
  have hw12 : ω (ρ t 12) = 50 := hH.rf ht (by decide) rfl
  have hg12 : ∀ k, 0 ≤ v (ρ t 12) k ∧ v (ρ t 12) k ≤ 11 := fun k => hH.rg hw12 (by decide) rfl
  have hg8 : ∀ k, 0 ≤ k → k ≤ 2 → 0 ≤ v (ρ t 13) k - v (ρ t 12) k ∧ v (ρ t 13) k - v (ρ t 12) k ≤ 8 := fun k a b => by rcases c3 k a b with rfl | rfl | rfl <;> omega
  have hw13 : ω (ρ t 13) = 51 := hH.rf ht (by decide) rfl
  have hwr : ω (ρ t 0) = 5 := hH.rf ht (by decide) rfl
  have hg11 : 1 ≤ v (ρ t 0) 11 ∧ v (ρ t 0) 11 ≤ 9 := hH.rg hwr (by decide) rfl
  refine r_lconst (pc := 0) hX 0 rfl ?_
  show wp g X F_X10_waysFrom 0 0 1 [(2, t), (2, a), (0, q), (0, mi), (0, l), (0, n), (3, 0), (3, 0), (3, 0), (3, 0), (3, 0), (3, 0), (3, 0)] [(1, 0)] v ρ Z
  refine r_lstore (ls' := [(2, t), (2, a), (0, q), (0, mi), (0, l), (0, n), (1, 0), (3, 0), (3, 0), (3, 0), (3, 0), (3, 0), (3, 0)]) (pc := 1) hX 1 rfl (by decide) rfl ?_
  refine r_iconst (pc := 3) hX 2 rfl ?_
  refine r_istore (ls' := [(2, t), (2, a), (0, q), (0, mi), (0, l), (0, n), (1, 0), (3, 0), (0, 0), (3, 0), (3, 0), (3, 0), (3, 0)]) (pc := 4) hX 3 rfl (by decide) rfl ?_
  have L6 : ∀ (n6 : Nat) (s c : Int) (v6 : Mv) , (FrW ω [51] v v6) → (HT ω v6 ρ Z) → (0 ≤ c ∧ c ≤ 5) → (∀ k, v6 (ρ t 13) k = v (ρ t 13) k) → (5 - c).toNat < n6 → wp g X F_X10_waysFrom 0 0 6 [(2, t), (2, a), (0, q), (0, mi), (0, l), (0, n), (1, s), (3, 0), (0, c), (3, 0), (3, 0), (3, 0), (3, 0)] [] v6 ρ Z := by
    intro n6
    induction n6 with
    | zero => intro s c v6 hfr6 hH6 ic ir hme6; exact absurd hme6 (Nat.not_lt_zero _)
    | succ n6 ih6 =>
      intro s c v6 hfr6 hH6 ic ir hme6
      refine r_iload (pc := 6) hX 4 rfl rfl ?_
      refine r_iconst (pc := 8) hX 5 rfl ?_
      first | refine r_icmp_ge (pc := 9) hX 6 (tgt := 143) rfl (by decide) (⟨by omega, by omega⟩) (⟨by omega, by omega⟩) (fun h9 => ?_) (fun h9 => ?_) | refine r_icmp_ge_any (pc := 9) hX 6 (tgt := 143) rfl (by decide) ?_ ?_
      · refine r_lload (pc := 143) hX 75 rfl rfl ?_
        exact r_lret (pc := 145) hX 76 hQ rfl rfl (Nat.le_refl 0) (Nat.le_refl 0) ⟨rfl, rfl, hfr6, hH6, s, rfl, (ir)⟩
      · refine t_getR (q := (ρ t 0)) (pc := 12) hX 7 rfl rfl rfl fl_X10_61 rfl (hH6.kd ht (by decide)) (rfl) ?_
        have hw12_ : ω (ρ t 0) = 5 := hH.rf ht (by decide) rfl
        refine r_getR (q := (ρ (ρ t 0) 5)) (pc := 16) hX 9 rfl fl_X10_141 rfl (hH6.kd hw12_ (by decide)) (rfl) ?_
        have hw16_ : ω (ρ (ρ t 0) 5) = 12 := hH.rf hw12_ (by decide) rfl
        refine r_iload (pc := 19) hX 10 rfl rfl ?_
        refine r_aald (q := (ρ (ρ (ρ t 0) 5) l)) (pc := 21) hX 11 19 rfl (hH6.kd hw16_ (by decide)) (by decide) (by decide) rfl rfl (by omega) (by rw [show Z.2.1 (ρ (ρ t 0) 5) = 3 from (hH6.ln hw16_ (by decide))]; omega) (rfl) ?_
        have hw21_ : ω (ρ (ρ (ρ t 0) 5) l) = 13 := hH.rf hw16_ (by decide) (rf12 ⟨by omega, by omega⟩)
        refine r_iload (pc := 22) hX 12 rfl rfl ?_
        refine e_iald (y := (v (ρ (ρ (ρ t 0) 5) l) c)) (n := 5) (pc := 24) hX 13 rfl (hH6.kd hw21_ (by decide)) (hH6.ln hw21_ (by decide)) (by omega) (by omega) ((hfr6.at hw21_ (by decide) c).trans (rfl)) ?_
        have hb24 : 0 ≤ (v (ρ (ρ (ρ t 0) 5) l) c) ∧ (v (ρ (ρ (ρ t 0) 5) l) c) ≤ 12 := hH.rg hw21_ (by decide) rfl
        refine r_istore (ls' := [(2, t), (2, a), (0, q), (0, mi), (0, l), (0, n), (1, s), (3, 0), (0, c), (0, (v (ρ (ρ (ρ t 0) 5) l) c)), (3, 0), (3, 0), (3, 0)]) (pc := 25) hX 14 rfl (by decide) rfl ?_
        refine r_iload (pc := 27) hX 15 rfl rfl ?_
        have L137 : ∀ (s2 : Int) (v137 : Mv) , (FrW ω [51] v v137) → (HT ω v137 ρ Z) → (∀ k, v137 (ρ t 13) k = v (ρ t 13) k) → wp g X F_X10_waysFrom 0 0 137 [(2, t), (2, a), (0, q), (0, mi), (0, l), (0, n), (1, s2), (3, 0), (0, c), (3, 0), (3, 0), (3, 0), (3, 0)] [] v137 ρ Z := by
          intro s2 v137 hfr137 hH137 ir2
          refine r_iinc (ls' := [(2, t), (2, a), (0, q), (0, mi), (0, l), (0, n), (1, s2), (3, 0), (0, (c + 1)), (3, 0), (3, 0), (3, 0), (3, 0)]) (pc := 137) hX 73 rfl rfl (by decide) rfl ?_
          refine r_goto (pc := 140) hX 74 (tgt := 6) rfl (by decide) ?_
          exact (ih6 s2 (c + 1) v137 (hfr137) (hH137) (by omega) (ir2) (by omega))
        first | refine r_if_le (pc := 29) hX 16 (tgt := 137) rfl (by decide) (⟨by omega, by omega⟩) (fun h29 => ?_) (fun h29 => ?_) | refine r_if_le_any (pc := 29) hX 16 (tgt := 137) rfl (by decide) ?_ ?_
        · refine r_wk (ls' := [(2, t), (2, a), (0, q), (0, mi), (0, l), (0, n), (1, s), (3, 0), (0, c), (3, 0), (3, 0), (3, 0), (3, 0)]) ⟨Or.inr rfl, Or.inr rfl, Or.inr rfl, Or.inr rfl, Or.inr rfl, Or.inr rfl, Or.inr rfl, Or.inr rfl, Or.inr rfl, Or.inl rfl, Or.inr rfl, Or.inr rfl, Or.inr rfl, trivial⟩ ?_
          exact (L137 s v6 (hfr6) (hH6) (by first | exact ir | exact hs79) )
        · refine r_iload (pc := 32) hX 17 rfl rfl ?_
          refine r_iload_n (pc := 34) hX 18 rfl rfl ?_
          have L70 : ∀ (p : Int) , (-1 ≤ p ∧ p ≤ 2) → wp g X F_X10_waysFrom 0 0 70 [(2, t), (2, a), (0, q), (0, mi), (0, l), (0, n), (1, s), (3, 0), (0, c), (0, (v (ρ (ρ (ρ t 0) 5) l) c)), (3, 0), (3, 0), (3, 0)] [(0, p)] v6 ρ Z := by
            intro p ip
            refine r_istore (ls' := [(2, t), (2, a), (0, q), (0, mi), (0, l), (0, n), (1, s), (3, 0), (0, c), (0, (v (ρ (ρ (ρ t 0) 5) l) c)), (0, p), (3, 0), (3, 0)]) (pc := 70) hX 36 rfl (by decide) rfl ?_
            refine r_aload_n (pc := 72) hX 37 rfl rfl ?_
            refine r_iload (pc := 73) hX 38 rfl rfl ?_
            refine r_iload (pc := 75) hX 39 rfl rfl ?_
            refine r_iload (pc := 77) hX 40 rfl rfl ?_
            refine r_callV (as := [(0, p), (0, c), (0, n)]) (st := []) (K := 10) (pc := 79) hX 41 rfl mo_X10_waysDone ml_X10_156 im_X10_waysDone se_X10_waysDone (c_X10_waysDone g ω v6 ρ Z hH6 t ht (p) (c) (n) (by omega) (by omega) (by omega) (fun k a b => by have z1 := hg8 k a b; have z2 := hg12 k; rw [ir k]; omega)) rfl rfl rfl (hH6.kd ht (by decide)) (by rw [hRm]; exact ⟨by decide, by decide⟩) (by rw [hRm]; exact ⟨by decide, by decide⟩) (Nat.le_of_ble_eq_true rfl) (fun o79 v79 ρv79 Zv79 hq79 _ => ?_)
            obtain ⟨rfl, rfl, hfr79, hH79, r79, rfl, hq79⟩ := hq79
            have hw79_ : ω (ρ t 13) = 51 := hH.rf ht (by decide) rfl
            have hwf1_ : ω (ρ (ρ t 0) 1) = 9 := hH.rf hw12_ (by decide) rfl
            try rw [show (v6 (ρ t 0) 11) = (v (ρ t 0) 11) from (hfr6.at hw12_ (by decide) 11).trans (rfl)] at hq79
            try rw [show (v6 (ρ (ρ t 0) 1)) = (v (ρ (ρ t 0) 1)) from (hfr6.rw hwf1_ (by decide)).trans (rfl)] at hq79
            show wp g X F_X10_waysFrom 0 0 82 [(2, t), (2, a), (0, q), (0, mi), (0, l), (0, n), (1, s), (3, 0), (0, c), (0, (v (ρ (ρ (ρ t 0) 5) l) c)), (0, p), (3, 0), (3, 0)] [(1, r79)] v79 ρ Z
            have hs79 : ∀ k, v79 (ρ t 13) k = v (ρ t 13) k := fun k => by rw [hq79.1 k, ir k]
            replace hq79 := hq79.2
            refine r_lstore (ls' := [(2, t), (2, a), (0, q), (0, mi), (0, l), (0, n), (1, s), (3, 0), (0, c), (0, (v (ρ (ρ (ρ t 0) 5) l) c)), (0, p), (1, r79), (3, 0)]) (pc := 82) hX 42 rfl (by decide) rfl ?_
            refine r_lload (pc := 84) hX 43 rfl rfl ?_
            refine r_ldc2 (y := (-1)) (pc := 86) hX 44 rfl kl_X10_160 (by decide) ?_
            refine r_lcmp (pc := 89) hX 45 rfl (⟨by omega, by omega⟩) (⟨by omega, by omega⟩) ?_
            have L126 : ∀ (dn : Int) , wp g X F_X10_waysFrom 0 0 126 [(2, t), (2, a), (0, q), (0, mi), (0, l), (0, n), (1, s), (3, 0), (0, c), (0, (v (ρ (ρ (ρ t 0) 5) l) c)), (0, p), (1, dn), (3, 0)] [] v79 ρ Z := by
              intro dn
              refine r_lload (pc := 126) hX 66 rfl rfl ?_
              refine r_iload (pc := 128) hX 67 rfl rfl ?_
              refine r_i2l (pc := 130) hX 68 rfl ⟨by omega, by omega⟩ ?_
              refine r_lload (pc := 131) hX 69 rfl rfl ?_
              refine r_lmul (pc := 133) hX 70 rfl ?_
              refine r_ladd (pc := 134) hX 71 rfl ?_
              refine r_lstore (ls' := [(2, t), (2, a), (0, q), (0, mi), (0, l), (0, n), (1, (s + ((v (ρ (ρ (ρ t 0) 5) l) c) * dn))), (3, 0), (0, c), (0, (v (ρ (ρ (ρ t 0) 5) l) c)), (0, p), (1, dn), (3, 0)]) (pc := 135) hX 72 rfl (by decide) rfl ?_
              refine r_wk (ls' := [(2, t), (2, a), (0, q), (0, mi), (0, l), (0, n), (1, (s + ((v (ρ (ρ (ρ t 0) 5) l) c) * dn))), (3, 0), (0, c), (3, 0), (3, 0), (3, 0), (3, 0)]) ⟨Or.inr rfl, Or.inr rfl, Or.inr rfl, Or.inr rfl, Or.inr rfl, Or.inr rfl, Or.inr rfl, Or.inr rfl, Or.inr rfl, Or.inl rfl, Or.inl rfl, Or.inl rfl, Or.inr rfl, trivial⟩ ?_
              exact (L137 (s + ((v (ρ (ρ (ρ t 0) 5) l) c) * dn)) v79 ((hfr6).tr hfr79 (by decide)) (hH79) (by first | exact ir | exact hs79) )
            refine r_if_ne (pc := 90) hX 46 (tgt := 126) rfl (by decide) (cmpI_in _ _) (fun h90 => ?_) (fun h90 => ?_)
            · rw [Ne, cmpI_eq] at h90
              exact (L126 r79  )
            · rw [Ne, cmpI_eq] at h90
              refine r_aload_n (pc := 93) hX 47 rfl rfl ?_
              refine r_iload (pc := 94) hX 48 rfl rfl ?_
              refine r_iconst (pc := 96) hX 49 rfl ?_
              have L123 : ∀ (ix : Int) , (0 ≤ ix ∧ ix < 729) → wp g X F_X10_waysFrom 0 0 123 [(2, t), (2, a), (0, q), (0, mi), (0, l), (0, n), (1, s), (3, 0), (0, c), (0, (v (ρ (ρ (ρ t 0) 5) l) c)), (0, p), (1, r79), (3, 0)] [(0, ix), (2, a)] v79 ρ Z := by
                intro ix iix
                refine e_lald (y := (v a ix)) (n := 729) (pc := 123) hX 64 rfl (hH79.kd ha (by decide)) (hH79.ln ha (by decide)) (by omega) (by omega) ((hfr79.at ha (by decide) ix).trans ((hfr6.at ha (by decide) ix).trans (rfl))) ?_
                refine r_lstore (ls' := [(2, t), (2, a), (0, q), (0, mi), (0, l), (0, n), (1, s), (3, 0), (0, c), (0, (v (ρ (ρ (ρ t 0) 5) l) c)), (0, p), (1, (v a ix)), (3, 0)]) (pc := 124) hX 65 rfl (by decide) rfl ?_
                exact (L126 (v a ix)  )
              first | refine r_icmp_ne (pc := 97) hX 50 (tgt := 104) rfl (by decide) (⟨by omega, by omega⟩) (⟨by omega, by omega⟩) (fun h97 => ?_) (fun h97 => ?_) | refine r_icmp_ne_any (pc := 97) hX 50 (tgt := 104) rfl (by decide) ?_ ?_
              · refine r_iload_n (pc := 104) hX 53 rfl rfl ?_
                refine t_getR (q := (ρ t 0)) (pc := 105) hX 54 rfl rfl rfl fl_X10_61 rfl (hH79.kd ht (by decide)) (rfl) ?_
                refine r_getR (q := (ρ (ρ t 0) 1)) (pc := 109) hX 56 rfl fl_X10_149 rfl (hH79.kd hw12_ (by decide)) (rfl) ?_
                refine r_iload (pc := 112) hX 57 rfl rfl ?_
                refine e_iald (y := (v (ρ (ρ t 0) 1) c)) (n := 5) (pc := 114) hX 58 rfl (hH79.kd hwf1_ (by decide)) (hH79.ln hwf1_ (by decide)) (by omega) (by omega) ((hfr79.at hwf1_ (by decide) c).trans ((hfr6.at hwf1_ (by decide) c).trans (rfl))) ?_
                have hb114 : 0 ≤ (v (ρ (ρ t 0) 1) c) ∧ (v (ρ (ρ t 0) 1) c) ≤ 3 := hH.rg hwf1_ (by decide) rfl
                refine r_getsS (pc := 115) hX 59 rfl gs_X10_162 (by rw [hH79.2.1]; decide) ?_
                refine r_iload (pc := 118) hX 60 rfl rfl ?_
                refine e_iald (y := (v 0 p)) (n := 3) (pc := 120) hX 61 rfl hH79.2.1 hH79.2.2.1 (by omega) (by omega) ((hfr79.at hH79.w0 (by decide) p).trans ((hfr6.at hH79.w0 (by decide) p).trans (rfl))) ?_
                have hb120 := hH.steps p (by omega) (by omega)
                refine r_imul (pc := 121) hX 62 rfl ?_
                refine r_iadd (pc := 122) hX 63 rfl ?_
                exact (L123 (q + ((v (ρ (ρ t 0) 1) c) * (v 0 p))) (by first | omega | exact ix_ok2 hat.2.2.2.2.2.2 hg8 hb120 (by omega) (by have z1 := hg12 p; have z2 := ir p; omega)) )
              · refine r_iload_n (pc := 100) hX 51 rfl rfl ?_
                refine r_goto (pc := 101) hX 52 (tgt := 123) rfl (by decide) ?_
                exact (L123 q (by first | omega | exact ix_ok2 hat.2.2.2.2.2.2 hg8 hb120 (by omega) (by have z1 := hg12 p; have z2 := ir p; omega)) )
          first | refine r_icmp_ne (pc := 35) hX 19 (tgt := 45) rfl (by decide) (⟨by omega, by omega⟩) (⟨by omega, by omega⟩) (fun h35 => ?_) (fun h35 => ?_) | refine r_icmp_ne_any (pc := 35) hX 19 (tgt := 45) rfl (by decide) ?_ ?_
          · refine t_getR (q := (ρ t 7)) (pc := 45) hX 23 rfl rfl rfl fl_X10_21 rfl (hH6.kd ht (by decide)) (rfl) ?_
            have hw45_ : ω (ρ t 7) = 46 := hH.rf ht (by decide) rfl
            refine r_iload (pc := 49) hX 25 rfl rfl ?_
            refine e_iald (y := (v (ρ t 7) c)) (n := 5) (pc := 51) hX 26 rfl (hH6.kd hw45_ (by decide)) (hH6.ln hw45_ (by decide)) (by omega) (by omega) ((hfr6.at hw45_ (by decide) c).trans (rfl)) ?_
            have hb51 : (-1) ≤ (v (ρ t 7) c) ∧ (v (ρ t 7) c) ≤ 2 := hH.rg hw45_ (by decide) rfl
            refine t_getI (y := (v t 2)) (pc := 52) hX 27 rfl rfl rfl fl_X10_15 rfl (hH6.kd ht (by decide)) ((hfr6.at ht (by decide) 2).trans (rfl)) ?_
            have hb52 : (-1) ≤ (v t 2) ∧ (v t 2) ≤ 2 := hH.rg ht (by decide) rfl
            first | refine r_icmp_ne (pc := 56) hX 29 (tgt := 63) rfl (by decide) (⟨by omega, by omega⟩) (⟨by omega, by omega⟩) (fun h56 => ?_) (fun h56 => ?_) | refine r_icmp_ne_any (pc := 56) hX 29 (tgt := 63) rfl (by decide) ?_ ?_
            · refine t_getR (q := (ρ t 7)) (pc := 63) hX 32 rfl rfl rfl fl_X10_21 rfl (hH6.kd ht (by decide)) (rfl) ?_
              refine r_iload (pc := 67) hX 34 rfl rfl ?_
              refine e_iald (y := (v (ρ t 7) c)) (n := 5) (pc := 69) hX 35 rfl (hH6.kd hw45_ (by decide)) (hH6.ln hw45_ (by decide)) (by omega) (by omega) ((hfr6.at hw45_ (by decide) c).trans (rfl)) ?_
              exact (L70 (v (ρ t 7) c) (by omega) )
            · refine r_iconst (pc := 59) hX 30 rfl ?_
              refine r_goto (pc := 60) hX 31 (tgt := 70) rfl (by decide) ?_
              exact (L70 (-1) (by omega) )
          · refine t_getI (y := (v t 2)) (pc := 38) hX 20 rfl rfl rfl fl_X10_15 rfl (hH6.kd ht (by decide)) ((hfr6.at ht (by decide) 2).trans (rfl)) ?_
            have hb38 : (-1) ≤ (v t 2) ∧ (v t 2) ≤ 2 := hH.rg ht (by decide) rfl
            refine r_goto (pc := 42) hX 22 (tgt := 70) rfl (by decide) ?_
            exact (L70 (v t 2) (by omega) )
  exact (L6 _ 0 0 v (FrW.rf) (hH) (by omega) (fun _ => rfl) (Nat.lt_succ_self _))
set_option maxHeartbeats 4000000 in
set_option maxRecDepth 100000 in
theorem c_X10_fillTable (g : Gp) (ω : Rw) (v ρ : Mv) (Z : Mz) (hH : HT ω v ρ Z) (t : Int) (ht : ω t = 45) (j : Int) (l : Int) (n : Int) (hj : 0 ≤ j ∧ j ≤ 2) (hl : 0 ≤ l ∧ l ≤ 2) (hn : 1 ≤ n ∧ n ≤ 12) : Ok g 4 0 0 F_X10_fillTable [(2, t), (0, j), (0, l), (0, n)] v ρ Z (fun o9 v' ρ' Z' => ρ = ρ' ∧ Z = Z' ∧ FrW ω [51, 59] v v' ∧ HT ω v' ρ Z ∧ o9 = none ∧ True) := by
  refine Ok.of mo_X10_fillTable (Nat.le_of_ble_eq_true rfl) ?_
  intro X hX hRm hxn hQ
  show wp g X F_X10_fillTable 0 0 0 [(2, t), (0, j), (0, l), (0, n), (3, 0), (3, 0), (3, 0), (3, 0), (3, 0), (3, 0)] [] v ρ Z
  have hw13 : ω (ρ t 13) = 51 := hH.rf ht (by decide) rfl
  refine t_getR (q := (ρ t 19)) (pc := 0) hX 0 rfl rfl rfl fl_X10_58 rfl (hH.kd ht (by decide)) (rfl) ?_
  have hw0_ : ω (ρ t 19) = 58 := hH.rf ht (by decide) rfl
  refine r_iload_n (pc := 4) hX 2 rfl rfl ?_
  refine r_iconst (pc := 5) hX 3 rfl ?_
  refine r_imul (pc := 6) hX 4 rfl ?_
  refine r_iload_n (pc := 7) hX 5 rfl rfl ?_
  refine r_iadd (pc := 8) hX 6 rfl ?_
  refine r_aald (q := (ρ (ρ t 19) ((j * 3) + l))) (pc := 9) hX 7 20 rfl (hH.kd hw0_ (by decide)) (by decide) (by decide) rfl rfl (by omega) (by rw [show Z.2.1 (ρ t 19) = 9 from (hH.ln hw0_ (by decide))]; omega) (rfl) ?_
  have hw9_ : ω (ρ (ρ t 19) ((j * 3) + l)) = 59 := hH.rf hw0_ (by decide) (rf58 ⟨by omega, by omega⟩)
  refine r_astore (ls' := [(2, t), (0, j), (0, l), (0, n), (2, (ρ (ρ t 19) ((j * 3) + l))), (3, 0), (3, 0), (3, 0), (3, 0), (3, 0)]) (pc := 10) hX 8 rfl (by decide) rfl ?_
  refine t_getI (y := (v t 6)) (pc := 12) hX 9 rfl rfl rfl fl_X10_72 rfl (hH.kd ht (by decide)) (rfl) ?_
  have hb12 : 0 ≤ (v t 6) ∧ (v t 6) ≤ 12 := hH.rg ht (by decide) rfl
  refine r_iload_n (pc := 16) hX 11 rfl rfl ?_
  refine r_isub (pc := 17) hX 12 rfl ?_
  refine r_iconst (pc := 18) hX 13 rfl ?_
  refine r_imul (pc := 19) hX 14 rfl ?_
  refine r_iconst (pc := 20) hX 15 rfl ?_
  refine r_iadd (pc := 21) hX 16 rfl ?_
  refine r_istore (ls' := [(2, t), (0, j), (0, l), (0, n), (2, (ρ (ρ t 19) ((j * 3) + l))), (0, ((((v t 6) - n) * 3) + 1)), (3, 0), (3, 0), (3, 0), (3, 0)]) (pc := 22) hX 17 rfl (by decide) rfl ?_
  refine r_iconst (pc := 24) hX 18 rfl ?_
  refine r_istore (ls' := [(2, t), (0, j), (0, l), (0, n), (2, (ρ (ρ t 19) ((j * 3) + l))), (0, ((((v t 6) - n) * 3) + 1)), (0, 0), (3, 0), (3, 0), (3, 0)]) (pc := 25) hX 19 rfl (by decide) rfl ?_
  have L27 : ∀ (n27 : Nat) (a : Int) (v27 : Mv) , (FrW ω [51, 59] v v27) → (HT ω v27 ρ Z) → (0 ≤ a ∧ a ≤ 9) → (9 - a).toNat < n27 → wp g X F_X10_fillTable 0 0 27 [(2, t), (0, j), (0, l), (0, n), (2, (ρ (ρ t 19) ((j * 3) + l))), (0, ((((v t 6) - n) * 3) + 1)), (0, a), (3, 0), (3, 0), (3, 0)] [] v27 ρ Z := by
    intro n27
    induction n27 with
    | zero => intro a v27 hfr27 hH27 ia hme27; exact absurd hme27 (Nat.not_lt_zero _)
    | succ n27 ih27 =>
      intro a v27 hfr27 hH27 ia hme27
      refine r_iload (pc := 27) hX 20 rfl rfl ?_
      refine t_getR (q := (ρ t 10)) (pc := 29) hX 21 rfl rfl rfl fl_X10_28 rfl (hH27.kd ht (by decide)) (rfl) ?_
      have hw29_ : ω (ρ t 10) = 48 := hH.rf ht (by decide) rfl
      refine r_iconst (pc := 33) hX 23 rfl ?_
      refine e_iald (y := (v (ρ t 10) 0)) (n := 3) (pc := 34) hX 24 rfl (hH27.kd hw29_ (by decide)) (hH27.ln hw29_ (by decide)) (by omega) (by omega) ((hfr27.at hw29_ (by decide) 0).trans (rfl)) ?_
      have hb34 : (-11) ≤ (v (ρ t 10) 0) ∧ (v (ρ t 10) 0) ≤ 9 := hH.rg hw29_ (by decide) rfl
      have L187 : wp g X F_X10_fillTable 0 0 187 [(2, t), (0, j), (0, l), (0, n), (2, (ρ (ρ t 19) ((j * 3) + l))), (0, ((((v t 6) - n) * 3) + 1)), (0, a), (3, 0), (3, 0), (3, 0)] [] v27 ρ Z := by
        exact r_vret (pc := 187) hX 110 hQ rfl rfl (Nat.le_refl 0) (Nat.le_refl 0) ⟨rfl, rfl, hfr27, hH27, rfl, trivial⟩
      first | refine r_icmp_ge (pc := 35) hX 25 (tgt := 187) rfl (by decide) (⟨by omega, by omega⟩) (⟨by omega, by omega⟩) (fun h35 => ?_) (fun h35 => ?_) | refine r_icmp_ge_any (pc := 35) hX 25 (tgt := 187) rfl (by decide) ?_ ?_
      · exact (L187   )
      · refine r_iload (pc := 38) hX 26 rfl rfl ?_
        refine r_iload (pc := 40) hX 27 rfl rfl ?_
        first | refine r_icmp_ge (pc := 42) hX 28 (tgt := 187) rfl (by decide) (⟨by omega, by omega⟩) (⟨by omega, by omega⟩) (fun h42 => ?_) (fun h42 => ?_) | refine r_icmp_ge_any (pc := 42) hX 28 (tgt := 187) rfl (by decide) ?_ ?_
        · exact (L187   )
        · refine t_getR (q := (ρ t 13)) (pc := 45) hX 29 rfl rfl rfl fl_X10_37 rfl (hH27.kd ht (by decide)) (rfl) ?_
          have hw45_ : ω (ρ t 13) = 51 := hH.rf ht (by decide) rfl
          refine r_iconst (pc := 49) hX 31 rfl ?_
          refine t_getR (q := (ρ t 12)) (pc := 50) hX 32 rfl rfl rfl fl_X10_34 rfl (hH27.kd ht (by decide)) (rfl) ?_
          have hw50_ : ω (ρ t 12) = 50 := hH.rf ht (by decide) rfl
          refine r_iconst (pc := 54) hX 34 rfl ?_
          refine e_iald (y := (v (ρ t 12) 0)) (n := 3) (pc := 55) hX 35 rfl (hH27.kd hw50_ (by decide)) (hH27.ln hw50_ (by decide)) (by omega) (by omega) ((hfr27.at hw50_ (by decide) 0).trans (rfl)) ?_
          have hb55 : 0 ≤ (v (ρ t 12) 0) ∧ (v (ρ t 12) 0) ≤ 11 := hH.rg hw50_ (by decide) rfl
          refine r_iload (pc := 56) hX 36 rfl rfl ?_
          refine r_iadd (pc := 58) hX 37 rfl ?_
          refine e_iast (n := 3) (pc := 59) hX 38 rfl (hH27.kd hw45_ (by decide)) (hH27.ln hw45_ (by decide)) (hH27.g4 hw45_ (by decide)) (by omega) (by omega) ?_
          have hH_59 : HT ω (up v27 (ρ t 13) 0 ((v (ρ t 12) 0) + a)) ρ Z := hH27.up0 hw45_ (by decide) rfl
          refine r_iconst (pc := 60) hX 39 rfl ?_
          refine r_istore (ls' := [(2, t), (0, j), (0, l), (0, n), (2, (ρ (ρ t 19) ((j * 3) + l))), (0, ((((v t 6) - n) * 3) + 1)), (0, a), (0, 0), (3, 0), (3, 0)]) (pc := 61) hX 40 rfl (by decide) rfl ?_
          have L63 : ∀ (n63 : Nat) (b : Int) (v63 : Mv) , (FrW ω [51, 59] v v63) → (HT ω v63 ρ Z) → (0 ≤ b ∧ b ≤ 9) → (v63 (ρ t 13) 0 = v (ρ t 12) 0 + a) → (9 - b).toNat < n63 → wp g X F_X10_fillTable 0 0 63 [(2, t), (0, j), (0, l), (0, n), (2, (ρ (ρ t 19) ((j * 3) + l))), (0, ((((v t 6) - n) * 3) + 1)), (0, a), (0, b), (3, 0), (3, 0)] [] v63 ρ Z := by
            intro n63
            induction n63 with
            | zero => intro b v63 hfr63 hH63 ib r0 hme63; exact absurd hme63 (Nat.not_lt_zero _)
            | succ n63 ih63 =>
              intro b v63 hfr63 hH63 ib r0 hme63
              refine r_iload (pc := 63) hX 41 rfl rfl ?_
              refine t_getR (q := (ρ t 10)) (pc := 65) hX 42 rfl rfl rfl fl_X10_28 rfl (hH63.kd ht (by decide)) (rfl) ?_
              refine r_iconst (pc := 69) hX 44 rfl ?_
              refine e_iald (y := (v (ρ t 10) 1)) (n := 3) (pc := 70) hX 45 rfl (hH63.kd hw29_ (by decide)) (hH63.ln hw29_ (by decide)) (by omega) (by omega) ((hfr63.at hw29_ (by decide) 1).trans (rfl)) ?_
              have hb70 : (-11) ≤ (v (ρ t 10) 1) ∧ (v (ρ t 10) 1) ≤ 9 := hH.rg hw29_ (by decide) rfl
              have L181 : wp g X F_X10_fillTable 0 0 181 [(2, t), (0, j), (0, l), (0, n), (2, (ρ (ρ t 19) ((j * 3) + l))), (0, ((((v t 6) - n) * 3) + 1)), (0, a), (0, b), (3, 0), (3, 0)] [] v63 ρ Z := by
                refine r_iinc (ls' := [(2, t), (0, j), (0, l), (0, n), (2, (ρ (ρ t 19) ((j * 3) + l))), (0, ((((v t 6) - n) * 3) + 1)), (0, (a + 1)), (0, b), (3, 0), (3, 0)]) (pc := 181) hX 108 rfl rfl (by decide) rfl ?_
                refine r_goto (pc := 184) hX 109 (tgt := 27) rfl (by decide) ?_
                refine r_wk (ls' := [(2, t), (0, j), (0, l), (0, n), (2, (ρ (ρ t 19) ((j * 3) + l))), (0, ((((v t 6) - n) * 3) + 1)), (0, (a + 1)), (3, 0), (3, 0), (3, 0)]) ⟨Or.inr rfl, Or.inr rfl, Or.inr rfl, Or.inr rfl, Or.inr rfl, Or.inr rfl, Or.inr rfl, Or.inl rfl, Or.inr rfl, Or.inr rfl, trivial⟩ ?_
                exact (ih27 (a + 1) v63 (hfr63) (hH63) (by omega) (by omega))
              first | refine r_icmp_ge (pc := 71) hX 46 (tgt := 181) rfl (by decide) (⟨by omega, by omega⟩) (⟨by omega, by omega⟩) (fun h71 => ?_) (fun h71 => ?_) | refine r_icmp_ge_any (pc := 71) hX 46 (tgt := 181) rfl (by decide) ?_ ?_
              · exact (L181   )
              · refine r_iload (pc := 74) hX 47 rfl rfl ?_
                refine r_iload (pc := 76) hX 48 rfl rfl ?_
                first | refine r_icmp_ge (pc := 78) hX 49 (tgt := 181) rfl (by decide) (⟨by omega, by omega⟩) (⟨by omega, by omega⟩) (fun h78 => ?_) (fun h78 => ?_) | refine r_icmp_ge_any (pc := 78) hX 49 (tgt := 181) rfl (by decide) ?_ ?_
                · exact (L181   )
                · refine t_getR (q := (ρ t 13)) (pc := 81) hX 50 rfl rfl rfl fl_X10_37 rfl (hH63.kd ht (by decide)) (rfl) ?_
                  refine r_iconst (pc := 85) hX 52 rfl ?_
                  refine t_getR (q := (ρ t 12)) (pc := 86) hX 53 rfl rfl rfl fl_X10_34 rfl (hH63.kd ht (by decide)) (rfl) ?_
                  refine r_iconst (pc := 90) hX 55 rfl ?_
                  refine e_iald (y := (v (ρ t 12) 1)) (n := 3) (pc := 91) hX 56 rfl (hH63.kd hw50_ (by decide)) (hH63.ln hw50_ (by decide)) (by omega) (by omega) ((hfr63.at hw50_ (by decide) 1).trans (rfl)) ?_
                  have hb91 : 0 ≤ (v (ρ t 12) 1) ∧ (v (ρ t 12) 1) ≤ 11 := hH.rg hw50_ (by decide) rfl
                  refine r_iload (pc := 92) hX 57 rfl rfl ?_
                  refine r_iadd (pc := 94) hX 58 rfl ?_
                  refine e_iast (n := 3) (pc := 95) hX 59 rfl (hH63.kd hw45_ (by decide)) (hH63.ln hw45_ (by decide)) (hH63.g4 hw45_ (by decide)) (by omega) (by omega) ?_
                  have hH_95 : HT ω (up v63 (ρ t 13) 1 ((v (ρ t 12) 1) + b)) ρ Z := hH63.up0 hw45_ (by decide) rfl
                  refine r_iconst (pc := 96) hX 60 rfl ?_
                  refine r_istore (ls' := [(2, t), (0, j), (0, l), (0, n), (2, (ρ (ρ t 19) ((j * 3) + l))), (0, ((((v t 6) - n) * 3) + 1)), (0, a), (0, b), (0, 0), (3, 0)]) (pc := 97) hX 61 rfl (by decide) rfl ?_
                  have L99 : ∀ (n99 : Nat) (d : Int) (v99 : Mv) , (FrW ω [51, 59] v v99) → (HT ω v99 ρ Z) → (0 ≤ d ∧ d ≤ 9) → (v99 (ρ t 13) 0 = v (ρ t 12) 0 + a) → (v99 (ρ t 13) 1 = v (ρ t 12) 1 + b) → (9 - d).toNat < n99 → wp g X F_X10_fillTable 0 0 99 [(2, t), (0, j), (0, l), (0, n), (2, (ρ (ρ t 19) ((j * 3) + l))), (0, ((((v t 6) - n) * 3) + 1)), (0, a), (0, b), (0, d), (3, 0)] [] v99 ρ Z := by
                    intro n99
                    induction n99 with
                    | zero => intro d v99 hfr99 hH99 id r0 r1 hme99; exact absurd hme99 (Nat.not_lt_zero _)
                    | succ n99 ih99 =>
                      intro d v99 hfr99 hH99 id r0 r1 hme99
                      refine r_iload (pc := 99) hX 62 rfl rfl ?_
                      refine t_getR (q := (ρ t 10)) (pc := 101) hX 63 rfl rfl rfl fl_X10_28 rfl (hH99.kd ht (by decide)) (rfl) ?_
                      refine r_iconst (pc := 105) hX 65 rfl ?_
                      refine e_iald (y := (v (ρ t 10) 2)) (n := 3) (pc := 106) hX 66 rfl (hH99.kd hw29_ (by decide)) (hH99.ln hw29_ (by decide)) (by omega) (by omega) ((hfr99.at hw29_ (by decide) 2).trans (rfl)) ?_
                      have hb106 : (-11) ≤ (v (ρ t 10) 2) ∧ (v (ρ t 10) 2) ≤ 9 := hH.rg hw29_ (by decide) rfl
                      have L175 : wp g X F_X10_fillTable 0 0 175 [(2, t), (0, j), (0, l), (0, n), (2, (ρ (ρ t 19) ((j * 3) + l))), (0, ((((v t 6) - n) * 3) + 1)), (0, a), (0, b), (0, d), (3, 0)] [] v99 ρ Z := by
                        refine r_iinc (ls' := [(2, t), (0, j), (0, l), (0, n), (2, (ρ (ρ t 19) ((j * 3) + l))), (0, ((((v t 6) - n) * 3) + 1)), (0, a), (0, (b + 1)), (0, d), (3, 0)]) (pc := 175) hX 106 rfl rfl (by decide) rfl ?_
                        refine r_goto (pc := 178) hX 107 (tgt := 63) rfl (by decide) ?_
                        refine r_wk (ls' := [(2, t), (0, j), (0, l), (0, n), (2, (ρ (ρ t 19) ((j * 3) + l))), (0, ((((v t 6) - n) * 3) + 1)), (0, a), (0, (b + 1)), (3, 0), (3, 0)]) ⟨Or.inr rfl, Or.inr rfl, Or.inr rfl, Or.inr rfl, Or.inr rfl, Or.inr rfl, Or.inr rfl, Or.inr rfl, Or.inl rfl, Or.inr rfl, trivial⟩ ?_
                        exact (ih63 (b + 1) v99 (hfr99) (hH99) (by omega) ((rfl).trans (by omega)) (by omega))
                      first | refine r_icmp_ge (pc := 107) hX 67 (tgt := 175) rfl (by decide) (⟨by omega, by omega⟩) (⟨by omega, by omega⟩) (fun h107 => ?_) (fun h107 => ?_) | refine r_icmp_ge_any (pc := 107) hX 67 (tgt := 175) rfl (by decide) ?_ ?_
                      · exact (L175   )
                      · refine r_iload (pc := 110) hX 68 rfl rfl ?_
                        refine r_iload (pc := 112) hX 69 rfl rfl ?_
                        first | refine r_icmp_ge (pc := 114) hX 70 (tgt := 175) rfl (by decide) (⟨by omega, by omega⟩) (⟨by omega, by omega⟩) (fun h114 => ?_) (fun h114 => ?_) | refine r_icmp_ge_any (pc := 114) hX 70 (tgt := 175) rfl (by decide) ?_ ?_
                        · exact (L175   )
                        · refine t_getR (q := (ρ t 13)) (pc := 117) hX 71 rfl rfl rfl fl_X10_37 rfl (hH99.kd ht (by decide)) (rfl) ?_
                          refine r_iconst (pc := 121) hX 73 rfl ?_
                          refine t_getR (q := (ρ t 12)) (pc := 122) hX 74 rfl rfl rfl fl_X10_34 rfl (hH99.kd ht (by decide)) (rfl) ?_
                          refine r_iconst (pc := 126) hX 76 rfl ?_
                          refine e_iald (y := (v (ρ t 12) 2)) (n := 3) (pc := 127) hX 77 rfl (hH99.kd hw50_ (by decide)) (hH99.ln hw50_ (by decide)) (by omega) (by omega) ((hfr99.at hw50_ (by decide) 2).trans (rfl)) ?_
                          have hb127 : 0 ≤ (v (ρ t 12) 2) ∧ (v (ρ t 12) 2) ≤ 11 := hH.rg hw50_ (by decide) rfl
                          refine r_iload (pc := 128) hX 78 rfl rfl ?_
                          refine r_iadd (pc := 130) hX 79 rfl ?_
                          refine e_iast (n := 3) (pc := 131) hX 80 rfl (hH99.kd hw45_ (by decide)) (hH99.ln hw45_ (by decide)) (hH99.g4 hw45_ (by decide)) (by omega) (by omega) ?_
                          have hH_131 : HT ω (up v99 (ρ t 13) 2 ((v (ρ t 12) 2) + d)) ρ Z := hH99.up0 hw45_ (by decide) rfl
                          refine r_iload (pc := 132) hX 81 rfl rfl ?_
                          refine r_bipush (pc := 134) hX 82 rfl (by decide) ?_
                          refine r_imul (pc := 136) hX 83 rfl ?_
                          refine r_iload (pc := 137) hX 84 rfl rfl ?_
                          refine r_iadd (pc := 139) hX 85 rfl ?_
                          refine r_bipush (pc := 140) hX 86 rfl (by decide) ?_
                          refine r_imul (pc := 142) hX 87 rfl ?_
                          refine r_iload (pc := 143) hX 88 rfl rfl ?_
                          refine r_iadd (pc := 145) hX 89 rfl ?_
                          refine r_istore (ls' := [(2, t), (0, j), (0, l), (0, n), (2, (ρ (ρ t 19) ((j * 3) + l))), (0, ((((v t 6) - n) * 3) + 1)), (0, a), (0, b), (0, d), (0, ((((a * 9) + b) * 9) + d))]) (pc := 146) hX 90 rfl (by decide) rfl ?_
                          refine r_aload (pc := 148) hX 91 rfl rfl ?_
                          refine r_iload (pc := 150) hX 92 rfl rfl ?_
                          refine r_aload_n (pc := 152) hX 93 rfl rfl ?_
                          refine r_aload (pc := 153) hX 94 rfl rfl ?_
                          refine r_iload (pc := 155) hX 95 rfl rfl ?_
                          refine t_getR (q := (ρ t 8)) (pc := 157) hX 96 rfl rfl rfl fl_X10_25 rfl (hH_131.kd ht (by decide)) (rfl) ?_
                          have hw157_ : ω (ρ t 8) = 47 := hH.rf ht (by decide) rfl
                          refine r_iload_n (pc := 161) hX 98 rfl rfl ?_
                          refine e_iald (y := (v (ρ t 8) j)) (n := 3) (pc := 162) hX 99 rfl (hH_131.kd hw157_ (by decide)) (hH_131.ln hw157_ (by decide)) (by omega) (by omega) ((up_r (rne hw157_ hw45_ (by decide))).trans ((hfr99.at hw157_ (by decide) j).trans (rfl))) ?_
                          have hb162 : 0 ≤ (v (ρ t 8) j) ∧ (v (ρ t 8) j) ≤ 3 := hH.rg hw157_ (by decide) rfl
                          refine r_iload_n (pc := 163) hX 100 rfl rfl ?_
                          refine r_iload_n (pc := 164) hX 101 rfl rfl ?_
                          refine r_callV (as := [(2, (ρ (ρ t 19) ((j * 3) + l))), (0, ((((a * 9) + b) * 9) + d)), (0, (v (ρ t 8) j)), (0, l), (0, n)]) (st := [(0, ((((a * 9) + b) * 9) + d)), (2, (ρ (ρ t 19) ((j * 3) + l)))]) (K := 10) (pc := 165) hX 102 rfl mo_X10_waysFrom ml_X10_152 im_X10_waysFrom se_X10_waysFrom (c_X10_waysFrom g ω (up v99 (ρ t 13) 2 ((v (ρ t 12) 2) + d)) ρ Z hH_131 t ht (ρ (ρ t 19) ((j * 3) + l)) hw9_ (((((a * 9) + b) * 9) + d)) ((v (ρ t 8) j)) (l) (n) (by omega) (by omega) (by omega) (by rw [show ((up v99 (ρ t 13) 2 ((v (ρ t 12) 2) + d)) (ρ t 12) 0) = (v (ρ t 12) 0) from (up_k (by decide)).trans ((hfr99.at hw50_ (by decide) 0).trans (rfl))]; rw [show ((up v99 (ρ t 13) 2 ((v (ρ t 12) 2) + d)) (ρ t 12) 1) = (v (ρ t 12) 1) from (up_k (by decide)).trans ((hfr99.at hw50_ (by decide) 1).trans (rfl))]; rw [show ((up v99 (ρ t 13) 2 ((v (ρ t 12) 2) + d)) (ρ t 12) 2) = (v (ρ t 12) 2) from (up_r (rne hw50_ hw45_ (by decide))).trans ((hfr99.at hw50_ (by decide) 2).trans (rfl))]; rw [show ((up v99 (ρ t 13) 2 ((v (ρ t 12) 2) + d)) (ρ t 13) 0) = (v99 (ρ t 13) 0) from (up_k (by decide)).trans (rfl)]; rw [show ((up v99 (ρ t 13) 2 ((v (ρ t 12) 2) + d)) (ρ t 13) 1) = (v99 (ρ t 13) 1) from (up_k (by decide)).trans (rfl)]; rw [show ((up v99 (ρ t 13) 2 ((v (ρ t 12) 2) + d)) (ρ t 13) 2) = ((v (ρ t 12) 2) + d) from up_s _ _ _ _]; omega)) rfl rfl rfl (hH_131.kd ht (by decide)) (by rw [hRm]; exact ⟨by decide, by decide⟩) (by rw [hRm]; exact ⟨by decide, by decide⟩) (Nat.le_of_ble_eq_true rfl) (fun o165 v165 ρv165 Zv165 hq165 _ => ?_)
                          obtain ⟨rfl, rfl, hfr165, hH165, r165, rfl, hq165⟩ := hq165
                          show wp g X F_X10_fillTable 0 0 168 [(2, t), (0, j), (0, l), (0, n), (2, (ρ (ρ t 19) ((j * 3) + l))), (0, ((((v t 6) - n) * 3) + 1)), (0, a), (0, b), (0, d), (0, ((((a * 9) + b) * 9) + d))] [(1, r165), (0, ((((a * 9) + b) * 9) + d)), (2, (ρ (ρ t 19) ((j * 3) + l)))] v165 ρ Z
                          have hz0 := hq165 0
                          have hz1 := hq165 1
                          rw [up_k (by decide)] at hz0 hz1
                          refine e_last (n := 729) (pc := 168) hX 103 rfl (hH165.kd hw9_ (by decide)) (hH165.ln hw9_ (by decide)) (hH165.g4 hw9_ (by decide)) (by omega) (by omega) ?_
                          have hH_168 : HT ω (up v165 (ρ (ρ t 19) ((j * 3) + l)) ((((a * 9) + b) * 9) + d) r165) ρ Z := hH165.up0 hw9_ (by decide) rfl
                          refine r_iinc (ls' := [(2, t), (0, j), (0, l), (0, n), (2, (ρ (ρ t 19) ((j * 3) + l))), (0, ((((v t 6) - n) * 3) + 1)), (0, a), (0, b), (0, (d + 1)), (0, ((((a * 9) + b) * 9) + d))]) (pc := 169) hX 104 rfl rfl (by decide) rfl ?_
                          refine r_goto (pc := 172) hX 105 (tgt := 99) rfl (by decide) ?_
                          refine r_wk (ls' := [(2, t), (0, j), (0, l), (0, n), (2, (ρ (ρ t 19) ((j * 3) + l))), (0, ((((v t 6) - n) * 3) + 1)), (0, a), (0, b), (0, (d + 1)), (3, 0)]) ⟨Or.inr rfl, Or.inr rfl, Or.inr rfl, Or.inr rfl, Or.inr rfl, Or.inr rfl, Or.inr rfl, Or.inr rfl, Or.inr rfl, Or.inl rfl, trivial⟩ ?_
                          exact (ih99 (d + 1) (up v165 (ρ (ρ t 19) ((j * 3) + l)) ((((a * 9) + b) * 9) + d) r165) ((((hfr99).up (r := (ρ t 13)) hw45_ (by decide)).tr hfr165 (by decide)).up (r := (ρ (ρ t 19) ((j * 3) + l))) hw9_ (by decide)) (hH_168) (by omega) (((up_r (rne hw45_ hw9_ (by decide))).trans (rfl)).trans (by omega)) (((up_r (rne hw45_ hw9_ (by decide))).trans (rfl)).trans (by omega)) (by omega))
                  exact (L99 _ 0 (up v63 (ρ t 13) 1 ((v (ρ t 12) 1) + b)) ((hfr63).up (r := (ρ t 13)) hw45_ (by decide)) (hH_95) (by omega) (((up_k (by decide)).trans (rfl)).trans (by omega)) ((up_s _ _ _ _).trans (by omega)) (Nat.lt_succ_self _))
          exact (L63 _ 0 (up v27 (ρ t 13) 0 ((v (ρ t 12) 0) + a)) ((hfr27).up (r := (ρ t 13)) hw45_ (by decide)) (hH_59) (by omega) ((up_s _ _ _ _).trans (by omega)) (Nat.lt_succ_self _))
  exact (L27 _ 0 v (FrW.rf) (hH) (by omega) (Nat.lt_succ_self _))
set_option maxHeartbeats 4000000 in
set_option maxRecDepth 100000 in
theorem c_X10_mixIndex (g : Gp) (ω : Rw) (v ρ : Mv) (Z : Mz) (hH : HT ω v ρ Z) (t : Int) (ht : ω t = 45) (hm : 0 ≤ v (ρ t 14) 0 ∧ 0 ≤ v (ρ t 14) 1 ∧ 0 ≤ v (ρ t 14) 2 ∧ 0 ≤ v (ρ t 14) 3 ∧ v (ρ t 14) 0 + v (ρ t 14) 1 + v (ρ t 14) 2 + v (ρ t 14) 3 ≤ 12) : Ok g 1 0 0 F_X10_mixIndex [(2, t)] v ρ Z (fun o9 v' ρ' Z' => ρ = ρ' ∧ Z = Z' ∧ v = v' ∧ ∃ r : Int, o9 = some (0, r) ∧ (0 ≤ r ∧ r < 1820)) := by
  refine Ok.of mo_X10_mixIndex (Nat.le_of_ble_eq_true rfl) ?_
  intro X hX hRm hxn hQ
  show wp g X F_X10_mixIndex 0 0 0 [(2, t), (3, 0), (3, 0), (3, 0), (3, 0)] [] v ρ Z
  refine t_getR (q := (ρ t 14)) (pc := 0) hX 0 rfl rfl rfl fl_X10_40 rfl (hH.kd ht (by decide)) (rfl) ?_
  have hw0_ : ω (ρ t 14) = 52 := hH.rf ht (by decide) rfl
  refine r_iconst (pc := 4) hX 2 rfl ?_
  refine e_iald (y := (v (ρ t 14) 0)) (n := 5) (pc := 5) hX 3 rfl (hH.kd hw0_ (by decide)) (hH.ln hw0_ (by decide)) (by omega) (by omega) (rfl) ?_
  obtain ⟨a9, ha9_e⟩ : ∃ z : Int, z = (v (ρ t 14) 0) := ⟨_, rfl⟩
  rw [← ha9_e]
  refine r_istore_n (ls' := [(2, t), (0, a9), (3, 0), (3, 0), (3, 0)]) (pc := 6) hX 4 rfl (by decide) rfl ?_
  refine r_iload_n (pc := 7) hX 5 rfl rfl ?_
  refine t_getR (q := (ρ t 14)) (pc := 8) hX 6 rfl rfl rfl fl_X10_40 rfl (hH.kd ht (by decide)) (rfl) ?_
  refine r_iconst (pc := 12) hX 8 rfl ?_
  refine e_iald (y := (v (ρ t 14) 1)) (n := 5) (pc := 13) hX 9 rfl (hH.kd hw0_ (by decide)) (hH.ln hw0_ (by decide)) (by omega) (by omega) (rfl) ?_
  refine r_iadd (pc := 14) hX 10 rfl ?_
  obtain ⟨b9, hb9_e⟩ : ∃ z : Int, z = (a9 + (v (ρ t 14) 1)) := ⟨_, rfl⟩
  rw [← hb9_e]
  refine r_istore_n (ls' := [(2, t), (0, a9), (0, b9), (3, 0), (3, 0)]) (pc := 15) hX 11 rfl (by decide) rfl ?_
  refine r_iload_n (pc := 16) hX 12 rfl rfl ?_
  refine t_getR (q := (ρ t 14)) (pc := 17) hX 13 rfl rfl rfl fl_X10_40 rfl (hH.kd ht (by decide)) (rfl) ?_
  refine r_iconst (pc := 21) hX 15 rfl ?_
  refine e_iald (y := (v (ρ t 14) 2)) (n := 5) (pc := 22) hX 16 rfl (hH.kd hw0_ (by decide)) (hH.ln hw0_ (by decide)) (by omega) (by omega) (rfl) ?_
  refine r_iadd (pc := 23) hX 17 rfl ?_
  obtain ⟨c9, hc9_e⟩ : ∃ z : Int, z = (b9 + (v (ρ t 14) 2)) := ⟨_, rfl⟩
  rw [← hc9_e]
  refine r_istore_n (ls' := [(2, t), (0, a9), (0, b9), (0, c9), (3, 0)]) (pc := 24) hX 18 rfl (by decide) rfl ?_
  refine r_iload_n (pc := 25) hX 19 rfl rfl ?_
  refine t_getR (q := (ρ t 14)) (pc := 26) hX 20 rfl rfl rfl fl_X10_40 rfl (hH.kd ht (by decide)) (rfl) ?_
  refine r_iconst (pc := 30) hX 22 rfl ?_
  refine e_iald (y := (v (ρ t 14) 3)) (n := 5) (pc := 31) hX 23 rfl (hH.kd hw0_ (by decide)) (hH.ln hw0_ (by decide)) (by omega) (by omega) (rfl) ?_
  refine r_iadd (pc := 32) hX 24 rfl ?_
  obtain ⟨d9, hd9_e⟩ : ∃ z : Int, z = (c9 + (v (ρ t 14) 3)) := ⟨_, rfl⟩
  rw [← hd9_e]
  refine r_istore (ls' := [(2, t), (0, a9), (0, b9), (0, c9), (0, d9)]) (pc := 33) hX 25 rfl (by decide) rfl ?_
  refine r_iload_n (pc := 35) hX 26 rfl rfl ?_
  refine r_iload_n (pc := 36) hX 27 rfl rfl ?_
  refine r_iload_n (pc := 37) hX 28 rfl rfl ?_
  refine r_iconst (pc := 38) hX 29 rfl ?_
  refine r_iadd (pc := 39) hX 30 rfl ?_
  refine r_imul (pc := 40) hX 31 rfl ?_
  refine r_iconst (pc := 41) hX 32 rfl ?_
  have m2 := mx2 (b := b9) (by omega) (by omega)
  refine r_idiv (pc := 42) hX 33 rfl (⟨by omega, by omega⟩) (by omega) (⟨by omega, by omega⟩) (by omega) ?_
  refine r_iadd (pc := 43) hX 34 rfl ?_
  refine r_iload_n (pc := 44) hX 35 rfl rfl ?_
  refine r_iload_n (pc := 45) hX 36 rfl rfl ?_
  refine r_iconst (pc := 46) hX 37 rfl ?_
  refine r_iadd (pc := 47) hX 38 rfl ?_
  refine r_imul (pc := 48) hX 39 rfl ?_
  refine r_iload_n (pc := 49) hX 40 rfl rfl ?_
  refine r_iconst (pc := 50) hX 41 rfl ?_
  refine r_iadd (pc := 51) hX 42 rfl ?_
  refine r_imul (pc := 52) hX 43 rfl ?_
  refine r_bipush (pc := 53) hX 44 rfl (by decide) ?_
  have m3 := mx3 (b := c9) (by omega) (by omega)
  refine r_idiv (pc := 55) hX 45 rfl (⟨by omega, by omega⟩) (by omega) (⟨by omega, by omega⟩) (by omega) ?_
  refine r_iadd (pc := 56) hX 46 rfl ?_
  refine r_iload (pc := 57) hX 47 rfl rfl ?_
  refine r_iload (pc := 59) hX 48 rfl rfl ?_
  refine r_iconst (pc := 61) hX 49 rfl ?_
  refine r_iadd (pc := 62) hX 50 rfl ?_
  refine r_imul (pc := 63) hX 51 rfl ?_
  refine r_iload (pc := 64) hX 52 rfl rfl ?_
  refine r_iconst (pc := 66) hX 53 rfl ?_
  refine r_iadd (pc := 67) hX 54 rfl ?_
  refine r_imul (pc := 68) hX 55 rfl ?_
  refine r_iload (pc := 69) hX 56 rfl rfl ?_
  refine r_iconst (pc := 71) hX 57 rfl ?_
  refine r_iadd (pc := 72) hX 58 rfl ?_
  refine r_imul (pc := 73) hX 59 rfl ?_
  refine r_bipush (pc := 74) hX 60 rfl (by decide) ?_
  have m4 := mx4 (b := d9) (by omega) (by omega)
  refine r_idiv (pc := 76) hX 61 rfl (⟨by omega, by omega⟩) (by omega) (⟨by omega, by omega⟩) (by omega) ?_
  refine r_iadd (pc := 77) hX 62 rfl ?_
  exact r_iret (pc := 78) hX 63 hQ rfl rfl (Nat.le_refl 0) (Nat.le_refl 0) ⟨rfl, rfl, rfl, (((a9 + ((b9 * (b9 + 1)) / 2)) + (((c9 * (c9 + 1)) * (c9 + 2)) / 6)) + ((((d9 * (d9 + 1)) * (d9 + 2)) * (d9 + 3)) / 24)), rfl, (by omega)⟩
set_option maxHeartbeats 4000000 in
set_option maxRecDepth 100000 in
theorem c_X10_scoreIndex (g : Gp) (ω : Rw) (v ρ : Mv) (Z : Mz) (hH : HT ω v ρ Z) (t : Int) (ht : ω t = 45)  : Ok g 1 0 0 F_X10_scoreIndex [(2, t)] v ρ Z (fun o9 v' ρ' Z' => ρ = ρ' ∧ Z = Z' ∧ v = v' ∧ ∃ r : Int, o9 = some (0, r) ∧ (r = ((v (ρ t 13) 0 - v (ρ t 12) 0) * 9 + (v (ρ t 13) 1 - v (ρ t 12) 1)) * 9 + (v (ρ t 13) 2 - v (ρ t 12) 2))) := by
  refine Ok.of mo_X10_scoreIndex (Nat.le_of_ble_eq_true rfl) ?_
  intro X hX hRm hxn hQ
  show wp g X F_X10_scoreIndex 0 0 0 [(2, t), (3, 0), (3, 0)] [] v ρ Z
  refine r_iconst (pc := 0) hX 0 rfl ?_
  refine r_istore_n (ls' := [(2, t), (0, 0), (3, 0)]) (pc := 1) hX 1 rfl (by decide) rfl ?_
  refine r_iconst (pc := 2) hX 2 rfl ?_
  refine r_istore_n (ls' := [(2, t), (0, 0), (0, 0)]) (pc := 3) hX 3 rfl (by decide) rfl ?_
  have L4 : ∀ (n4 : Nat) (s i : Int) , ((i = 0 ∧ s = 0 ∨ i = 1 ∧ s = (v (ρ t 13) 0 - v (ρ t 12) 0) * 81 ∨ i = 2 ∧ s = (v (ρ t 13) 0 - v (ρ t 12) 0) * 81 + (v (ρ t 13) 1 - v (ρ t 12) 1) * 9 ∨ i = 3 ∧ s = (v (ρ t 13) 0 - v (ρ t 12) 0) * 81 + (v (ρ t 13) 1 - v (ρ t 12) 1) * 9 + (v (ρ t 13) 2 - v (ρ t 12) 2))) → (3 - i).toNat < n4 → wp g X F_X10_scoreIndex 0 0 4 [(2, t), (0, s), (0, i)] [] v ρ Z := by
    intro n4
    induction n4 with
    | zero => intro s i ii hme4; exact absurd hme4 (Nat.not_lt_zero _)
    | succ n4 ih4 =>
      intro s i ii hme4
      refine r_iload_n (pc := 4) hX 4 rfl rfl ?_
      refine r_iconst (pc := 5) hX 5 rfl ?_
      first | refine r_icmp_ge (pc := 6) hX 6 (tgt := 37) rfl (by decide) (⟨by omega, by omega⟩) (⟨by omega, by omega⟩) (fun h6 => ?_) (fun h6 => ?_) | refine r_icmp_ge_any (pc := 6) hX 6 (tgt := 37) rfl (by decide) ?_ ?_
      · refine r_iload_n (pc := 37) hX 25 rfl rfl ?_
        exact r_iret (pc := 38) hX 26 hQ rfl rfl (Nat.le_refl 0) (Nat.le_refl 0) ⟨rfl, rfl, rfl, s, rfl, (by omega)⟩
      · refine r_iload_n (pc := 9) hX 7 rfl rfl ?_
        refine t_getR (q := (ρ t 13)) (pc := 10) hX 8 rfl rfl rfl fl_X10_37 rfl (hH.kd ht (by decide)) (rfl) ?_
        have hw10_ : ω (ρ t 13) = 51 := hH.rf ht (by decide) rfl
        refine r_iload_n (pc := 14) hX 10 rfl rfl ?_
        refine e_iald (y := (v (ρ t 13) i)) (n := 3) (pc := 15) hX 11 rfl (hH.kd hw10_ (by decide)) (hH.ln hw10_ (by decide)) (by omega) (by omega) (rfl) ?_
        refine t_getR (q := (ρ t 12)) (pc := 16) hX 12 rfl rfl rfl fl_X10_34 rfl (hH.kd ht (by decide)) (rfl) ?_
        have hw16_ : ω (ρ t 12) = 50 := hH.rf ht (by decide) rfl
        refine r_iload_n (pc := 20) hX 14 rfl rfl ?_
        refine e_iald (y := (v (ρ t 12) i)) (n := 3) (pc := 21) hX 15 rfl (hH.kd hw16_ (by decide)) (hH.ln hw16_ (by decide)) (by omega) (by omega) (rfl) ?_
        have hb21 : 0 ≤ (v (ρ t 12) i) ∧ (v (ρ t 12) i) ≤ 11 := hH.rg hw16_ (by decide) rfl
        refine r_isub (pc := 22) hX 16 rfl ?_
        refine r_getsS (pc := 23) hX 17 rfl gs_X10_162 (by rw [hH.2.1]; decide) ?_
        refine r_iload_n (pc := 26) hX 18 rfl rfl ?_
        refine e_iald (y := (v 0 i)) (n := 3) (pc := 27) hX 19 rfl hH.2.1 hH.2.2.1 (by omega) (by omega) (rfl) ?_
        have hb27 := hH.steps i (by omega) (by omega)
        refine r_imul (pc := 28) hX 20 rfl ?_
        refine r_iadd (pc := 29) hX 21 rfl ?_
        refine r_istore_n (ls' := [(2, t), (0, (s + (((v (ρ t 13) i) - (v (ρ t 12) i)) * (v 0 i)))), (0, i)]) (pc := 30) hX 22 rfl (by decide) rfl ?_
        refine r_iinc (ls' := [(2, t), (0, (s + (((v (ρ t 13) i) - (v (ρ t 12) i)) * (v 0 i)))), (0, (i + 1))]) (pc := 31) hX 23 rfl rfl (by decide) rfl ?_
        refine r_goto (pc := 34) hX 24 (tgt := 4) rfl (by decide) ?_
        exact (ih4 (s + (((v (ρ t 13) i) - (v (ρ t 12) i)) * (v 0 i))) (i + 1) (by rcases hb27 with ⟨e, h⟩ | ⟨e, h⟩ | ⟨e, h⟩ <;> subst e <;> rw [h] <;> omega) (by omega))
  exact (L4 _ 0 0 (by omega) (Nat.lt_succ_self _))
set_option maxHeartbeats 4000000 in
set_option maxRecDepth 100000 in
theorem c_X10_weighMix (g : Gp) (ω : Rw) (v ρ : Mv) (Z : Mz) (hH : HT ω v ρ Z) (t : Int) (ht : ω t = 45) (hinj : InjI (v (ρ t 7))) (hlim : LimI (v (ρ t 7)) (v (ρ t 11)) (v (ρ (ρ t 0) 1))) (hmn : 0 ≤ v (ρ t 14) 0 ∧ 0 ≤ v (ρ t 14) 1 ∧ 0 ≤ v (ρ t 14) 2 ∧ 0 ≤ v (ρ t 14) 3 ∧ 0 ≤ v (ρ t 14) 4 ∧ v (ρ t 14) 0 + v (ρ t 14) 1 + v (ρ t 14) 2 + v (ρ t 14) 3 + v (ρ t 14) 4 ≤ 11) (hml : v (ρ t 14) 0 ≤ v (ρ t 11) 0 ∧ v (ρ t 14) 1 ≤ v (ρ t 11) 1 ∧ v (ρ t 14) 2 ≤ v (ρ t 11) 2 ∧ v (ρ t 14) 3 ≤ v (ρ t 11) 3) : Ok g 2 0 0 F_X10_weighMix [(2, t)] v ρ Z (fun o9 v' ρ' Z' => ρ = ρ' ∧ Z = Z' ∧ FrW ω [51, 56] v v' ∧ HT ω v' ρ Z ∧ o9 = none ∧ (∀ p, 0 ≤ p → p ≤ 2 → 0 ≤ v' (ρ t 13) p - v (ρ t 12) p ∧ v' (ρ t 13) p - v (ρ t 12) p ≤ 8)) := by
  refine Ok.of mo_X10_weighMix (Nat.le_of_ble_eq_true rfl) ?_
  intro X hX hRm hxn hQ
  show wp g X F_X10_weighMix 0 0 0 [(2, t), (3, 0), (3, 0)] [] v ρ Z
  have hw13 : ω (ρ t 13) = 51 := hH.rf ht (by decide) rfl
  have hw12 : ω (ρ t 12) = 50 := hH.rf ht (by decide) rfl
  have hw7 : ω (ρ t 7) = 46 := hH.rf ht (by decide) rfl
  have hw14 : ω (ρ t 14) = 52 := hH.rf ht (by decide) rfl
  have hw17 : ω (ρ t 17) = 56 := hH.rf ht (by decide) rfl
  have hwr : ω (ρ t 0) = 5 := hH.rf ht (by decide) rfl
  have hww : ω (ρ (ρ t 0) 1) = 9 := hH.rf hwr (by decide) rfl
  have m4 : ∀ k : Int, 0 ≤ k → k ≤ 4 → 0 ≤ v (ρ t 14) k ∧ v (ρ t 14) k ≤ 11 := fun k a b => by
    have hk : k = 0 ∨ k = 1 ∨ k = 2 ∨ k = 3 ∨ k = 4 := by omega
    rcases hk with rfl | rfl | rfl | rfl | rfl <;> omega
  have ml4 : ∀ k : Int, 0 ≤ k → k ≤ 3 → v (ρ t 14) k ≤ v (ρ t 11) k := fun k a b => by
    have hk : k = 0 ∨ k = 1 ∨ k = 2 ∨ k = 3 := by omega
    rcases hk with rfl | rfl | rfl | rfl <;> omega
  refine t_getR (q := (ρ t 12)) (pc := 0) hX 0 rfl rfl rfl fl_X10_34 rfl (hH.kd ht (by decide)) (rfl) ?_
  have hw0_ : ω (ρ t 12) = 50 := hH.rf ht (by decide) rfl
  refine r_iconst (pc := 4) hX 2 rfl ?_
  refine t_getR (q := (ρ t 13)) (pc := 5) hX 3 rfl rfl rfl fl_X10_37 rfl (hH.kd ht (by decide)) (rfl) ?_
  have hw5_ : ω (ρ t 13) = 51 := hH.rf ht (by decide) rfl
  refine r_iconst (pc := 9) hX 5 rfl ?_
  refine r_iconst (pc := 10) hX 6 rfl ?_
  refine r_copy (na := 3) (nd := 3) (pc := 11) hX 7 13 3 rfl ml_X10_193 (by decide) (hH.kd hw0_ (by decide)) (hH.kd hw5_ (by decide)) (hH.g4 hw0_ (by decide)) (hH.g4 hw5_ (by decide)) (by decide) (hH.ln hw0_ (by decide)) (hH.ln hw5_ (by decide)) (by decide) (by decide) (by rw [hRm]; exact ⟨by decide, by decide, by decide, by decide⟩) (Nat.le_of_ble_eq_true rfl) ?_
  have hH_11 : HT ω (cpM v (ρ t 13) (ρ t 12) 3) ρ Z := hH.cp0 hw5_ (by decide) (fun _ => rfl)
  show wp g X F_X10_weighMix 0 0 14 [(2, t), (3, 0), (3, 0)] [] (cpM v (ρ t 13) (ρ t 12) 3) ρ Z
  refine r_iconst (pc := 14) hX 8 rfl ?_
  refine r_istore_n (ls' := [(2, t), (0, 0), (3, 0)]) (pc := 15) hX 9 rfl (by decide) rfl ?_
  have L16 : ∀ (n16 : Nat) (c : Int) (v16 : Mv) , (FrW ω [51, 56] v v16) → (HT ω v16 ρ Z) → (0 ≤ c ∧ c ≤ 4) → (RchI (v16 (ρ t 13)) (v (ρ t 12)) (v (ρ t 7)) c) → (4 - c).toNat < n16 → wp g X F_X10_weighMix 0 0 16 [(2, t), (0, c), (3, 0)] [] v16 ρ Z := by
    intro n16
    induction n16 with
    | zero => intro c v16 hfr16 hH16 ic ir hme16; exact absurd hme16 (Nat.not_lt_zero _)
    | succ n16 ih16 =>
      intro c v16 hfr16 hH16 ic ir hme16
      refine r_iload_n (pc := 16) hX 10 rfl rfl ?_
      refine r_iconst (pc := 17) hX 11 rfl ?_
      first | refine r_icmp_ge (pc := 18) hX 12 (tgt := 44) rfl (by decide) (⟨by omega, by omega⟩) (⟨by omega, by omega⟩) (fun h18 => ?_) (fun h18 => ?_) | refine r_icmp_ge_any (pc := 18) hX 12 (tgt := 44) rfl (by decide) ?_ ?_
      · refine r_iconst (pc := 44) hX 26 rfl ?_
        refine r_istore_n (ls' := [(2, t), (0, 0), (3, 0)]) (pc := 45) hX 27 rfl (by decide) rfl ?_
        have L46 : ∀ (n46 : Nat) (l : Int) (v46 : Mv) , (FrW ω [51, 56] v v46) → (HT ω v46 ρ Z) → (0 ≤ l ∧ l ≤ 3) → (∀ p, 0 ≤ p → p ≤ 2 → 0 ≤ v46 (ρ t 13) p - v (ρ t 12) p ∧ v46 (ρ t 13) p - v (ρ t 12) p ≤ 8) → (3 - l).toNat < n46 → wp g X F_X10_weighMix 0 0 46 [(2, t), (0, l), (3, 0)] [] v46 ρ Z := by
          intro n46
          induction n46 with
          | zero => intro l v46 hfr46 hH46 il i8 hme46; exact absurd hme46 (Nat.not_lt_zero _)
          | succ n46 ih46 =>
            intro l v46 hfr46 hH46 il i8 hme46
            refine r_iload_n (pc := 46) hX 28 rfl rfl ?_
            refine t_getR (q := (ρ t 0)) (pc := 47) hX 29 rfl rfl rfl fl_X10_61 rfl (hH46.kd ht (by decide)) (rfl) ?_
            have hw47_ : ω (ρ t 0) = 5 := hH.rf ht (by decide) rfl
            refine r_callV (as := []) (st := [(0, l)]) (K := 4) (pc := 51) hX 31 rfl mo_X4_rows ml_X10_78 im_X4_rows se_X4_rows (c_X4_rows g ω v46 ρ Z hH46 (ρ t 0) hw47_ ) rfl rfl rfl (hH46.kd hw47_ (by decide)) (by rw [hRm]; exact ⟨by decide, by decide⟩) (by rw [hRm]; exact ⟨by decide, by decide⟩) (Nat.le_of_ble_eq_true rfl) (fun o51 v51 ρv51 Zv51 hq51 _ => ?_)
            obtain ⟨rfl, rfl, rfl, r51, rfl, hq51⟩ := hq51
            try rw [show (v46 (ρ t 0) 9) = (v (ρ t 0) 9) from (hfr46.at hw47_ (by decide) 9).trans (rfl)] at hq51
            show wp g X F_X10_weighMix 0 0 54 [(2, t), (0, l), (3, 0)] [(0, r51), (0, l)] v46 ρ Z
            first | refine r_icmp_ge (pc := 54) hX 32 (tgt := 114) rfl (by decide) (⟨by omega, by omega⟩) (⟨by omega, by omega⟩) (fun h54 => ?_) (fun h54 => ?_) | refine r_icmp_ge_any (pc := 54) hX 32 (tgt := 114) rfl (by decide) ?_ ?_
            · exact r_vret (pc := 114) hX 70 hQ rfl rfl (Nat.le_refl 0) (Nat.le_refl 0) ⟨rfl, rfl, hfr46, hH46, rfl, (i8)⟩
            · refine t_getR (q := (ρ t 17)) (pc := 57) hX 33 rfl rfl rfl fl_X10_52 rfl (hH46.kd ht (by decide)) (rfl) ?_
              have hw57_ : ω (ρ t 17) = 56 := hH.rf ht (by decide) rfl
              refine r_iload_n (pc := 61) hX 35 rfl rfl ?_
              refine t_getR (q := (ρ t 15)) (pc := 62) hX 36 rfl rfl rfl fl_X10_43 rfl (hH46.kd ht (by decide)) (rfl) ?_
              have hw62_ : ω (ρ t 15) = 53 := hH.rf ht (by decide) rfl
              refine r_iload_n (pc := 66) hX 38 rfl rfl ?_
              refine e_lald (y := (v (ρ t 15) l)) (n := 3) (pc := 67) hX 39 rfl (hH46.kd hw62_ (by decide)) (hH46.ln hw62_ (by decide)) (by omega) (by omega) ((hfr46.at hw62_ (by decide) l).trans (rfl)) ?_
              refine e_last (n := 3) (pc := 68) hX 40 rfl (hH46.kd hw57_ (by decide)) (hH46.ln hw57_ (by decide)) (hH46.g4 hw57_ (by decide)) (by omega) (by omega) ?_
              have hH_68 : HT ω (up v46 (ρ t 17) l (v (ρ t 15) l)) ρ Z := hH46.up0 hw57_ (by decide) rfl
              refine r_iconst (pc := 69) hX 41 rfl ?_
              refine r_istore_n (ls' := [(2, t), (0, l), (0, 0)]) (pc := 70) hX 42 rfl (by decide) rfl ?_
              have L71 : ∀ (n71 : Nat) (c : Int) (v71 : Mv) , (FrW ω [51, 56] v v71) → (HT ω v71 ρ Z) → (0 ≤ c ∧ c ≤ 5) → (∀ p, 0 ≤ p → p ≤ 2 → 0 ≤ v71 (ρ t 13) p - v (ρ t 12) p ∧ v71 (ρ t 13) p - v (ρ t 12) p ≤ 8) → (5 - c).toNat < n71 → wp g X F_X10_weighMix 0 0 71 [(2, t), (0, l), (0, c)] [] v71 ρ Z := by
                intro n71
                induction n71 with
                | zero => intro c v71 hfr71 hH71 ic i8 hme71; exact absurd hme71 (Nat.not_lt_zero _)
                | succ n71 ih71 =>
                  intro c v71 hfr71 hH71 ic i8 hme71
                  refine r_iload_n (pc := 71) hX 43 rfl rfl ?_
                  refine r_iconst (pc := 72) hX 44 rfl ?_
                  first | refine r_icmp_ge (pc := 73) hX 45 (tgt := 108) rfl (by decide) (⟨by omega, by omega⟩) (⟨by omega, by omega⟩) (fun h73 => ?_) (fun h73 => ?_) | refine r_icmp_ge_any (pc := 73) hX 45 (tgt := 108) rfl (by decide) ?_ ?_
                  · refine r_iinc (ls' := [(2, t), (0, (l + 1)), (0, c)]) (pc := 108) hX 68 rfl rfl (by decide) rfl ?_
                    refine r_goto (pc := 111) hX 69 (tgt := 46) rfl (by decide) ?_
                    refine r_wk (ls' := [(2, t), (0, (l + 1)), (3, 0)]) ⟨Or.inr rfl, Or.inr rfl, Or.inl rfl, trivial⟩ ?_
                    exact (ih46 (l + 1) v71 (hfr71) (hH71) (by omega) (i8) (by omega))
                  · refine t_getR (q := (ρ t 17)) (pc := 76) hX 46 rfl rfl rfl fl_X10_52 rfl (hH71.kd ht (by decide)) (rfl) ?_
                    refine r_iload_n (pc := 80) hX 48 rfl rfl ?_
                    refine r_dup2i (pc := 81) hX 49 rfl (show (0 : Nat) ≠ 1 by decide) (show (2 : Nat) ≠ 1 by decide) ?_
                    refine e_lald (y := (v71 (ρ t 17) l)) (n := 3) (pc := 82) hX 50 rfl (hH71.kd hw57_ (by decide)) (hH71.ln hw57_ (by decide)) (by omega) (by omega) (rfl) ?_
                    refine t_getR (q := (ρ t 16)) (pc := 83) hX 51 rfl rfl rfl fl_X10_49 rfl (hH71.kd ht (by decide)) (rfl) ?_
                    have hw83_ : ω (ρ t 16) = 54 := hH.rf ht (by decide) rfl
                    refine r_iload_n (pc := 87) hX 53 rfl rfl ?_
                    refine r_iconst (pc := 88) hX 54 rfl ?_
                    refine r_imul (pc := 89) hX 55 rfl ?_
                    refine r_iload_n (pc := 90) hX 56 rfl rfl ?_
                    refine r_iadd (pc := 91) hX 57 rfl ?_
                    refine r_aald (q := (ρ (ρ t 16) ((l * 5) + c))) (pc := 92) hX 58 20 rfl (hH71.kd hw83_ (by decide)) (by decide) (by decide) rfl rfl (by omega) (by rw [show Z.2.1 (ρ t 16) = 15 from (hH71.ln hw83_ (by decide))]; omega) (rfl) ?_
                    have hw92_ : ω (ρ (ρ t 16) ((l * 5) + c)) = 55 := hH.rf hw83_ (by decide) (rf54 ⟨by omega, by omega⟩)
                    refine t_getR (q := (ρ t 14)) (pc := 93) hX 59 rfl rfl rfl fl_X10_40 rfl (hH71.kd ht (by decide)) (rfl) ?_
                    have hw93_ : ω (ρ t 14) = 52 := hH.rf ht (by decide) rfl
                    refine r_iload_n (pc := 97) hX 61 rfl rfl ?_
                    refine e_iald (y := (v (ρ t 14) c)) (n := 5) (pc := 98) hX 62 rfl (hH71.kd hw93_ (by decide)) (hH71.ln hw93_ (by decide)) (by omega) (by omega) ((hfr71.at hw93_ (by decide) c).trans (rfl)) ?_
                    have hb98 := m4 c (by omega) (by omega)
                    refine e_lald (y := (v (ρ (ρ t 16) ((l * 5) + c)) (v (ρ t 14) c))) (n := 13) (pc := 99) hX 63 rfl (hH71.kd hw92_ (by decide)) (hH71.ln hw92_ (by decide)) (by omega) (by omega) ((hfr71.at hw92_ (by decide) (v (ρ t 14) c)).trans (rfl)) ?_
                    refine r_lmul (pc := 100) hX 64 rfl ?_
                    refine e_last (n := 3) (pc := 101) hX 65 rfl (hH71.kd hw57_ (by decide)) (hH71.ln hw57_ (by decide)) (hH71.g4 hw57_ (by decide)) (by omega) (by omega) ?_
                    have hH_101 : HT ω (up v71 (ρ t 17) l ((v71 (ρ t 17) l) * (v (ρ (ρ t 16) ((l * 5) + c)) (v (ρ t 14) c)))) ρ Z := hH71.up0 hw57_ (by decide) rfl
                    refine r_iinc (ls' := [(2, t), (0, l), (0, (c + 1))]) (pc := 102) hX 66 rfl rfl (by decide) rfl ?_
                    refine r_goto (pc := 105) hX 67 (tgt := 71) rfl (by decide) ?_
                    exact (ih71 (c + 1) (up v71 (ρ t 17) l ((v71 (ρ t 17) l) * (v (ρ (ρ t 16) ((l * 5) + c)) (v (ρ t 14) c)))) ((hfr71).up (r := (ρ t 17)) hw57_ (by decide)) (hH_101) (by omega) (fun p a b => by rw [up_r (rne hw13 hw17 (by decide))]; exact i8 p a b) (by omega))
              exact (L71 _ 0 (up v46 (ρ t 17) l (v (ρ t 15) l)) ((hfr46).up (r := (ρ t 17)) hw57_ (by decide)) (hH_68) (by omega) (fun p a b => by rw [up_r (rne hw13 hw17 (by decide))]; exact i8 p a b) (Nat.lt_succ_self _))
        exact (L46 _ 0 v16 (hfr16) (hH16) (by omega) (fun p a b => ⟨(ir p a b).1, (ir p a b).2.1⟩) (Nat.lt_succ_self _))
      · refine r_aload_n (pc := 21) hX 13 rfl rfl ?_
        refine t_getR (q := (ρ t 7)) (pc := 22) hX 14 rfl rfl rfl fl_X10_21 rfl (hH16.kd ht (by decide)) (rfl) ?_
        have hw22_ : ω (ρ t 7) = 46 := hH.rf ht (by decide) rfl
        refine r_iload_n (pc := 26) hX 16 rfl rfl ?_
        refine e_iald (y := (v (ρ t 7) c)) (n := 5) (pc := 27) hX 17 rfl (hH16.kd hw22_ (by decide)) (hH16.ln hw22_ (by decide)) (by omega) (by omega) ((hfr16.at hw22_ (by decide) c).trans (rfl)) ?_
        have hb27 : (-1) ≤ (v (ρ t 7) c) ∧ (v (ρ t 7) c) ≤ 2 := hH.rg hw22_ (by decide) rfl
        refine r_iload_n (pc := 28) hX 18 rfl rfl ?_
        refine t_getR (q := (ρ t 14)) (pc := 29) hX 19 rfl rfl rfl fl_X10_40 rfl (hH16.kd ht (by decide)) (rfl) ?_
        have hw29_ : ω (ρ t 14) = 52 := hH.rf ht (by decide) rfl
        refine r_iload_n (pc := 33) hX 21 rfl rfl ?_
        refine e_iald (y := (v (ρ t 14) c)) (n := 5) (pc := 34) hX 22 rfl (hH16.kd hw29_ (by decide)) (hH16.ln hw29_ (by decide)) (by omega) (by omega) ((hfr16.at hw29_ (by decide) c).trans (rfl)) ?_
        refine r_callV (as := [(0, (v (ρ t 7) c)), (0, c), (0, (v (ρ t 14) c))]) (st := []) (K := 10) (pc := 35) hX 23 rfl mo_X10_gain ml_X10_165 im_X10_gain se_X10_gain (c_X10_gain g ω v16 ρ Z hH16 t ht ((v (ρ t 7) c)) (c) ((v (ρ t 14) c)) (by omega) (by omega)) rfl rfl rfl (hH16.kd ht (by decide)) (by rw [hRm]; exact ⟨by decide, by decide⟩) (by rw [hRm]; exact ⟨by decide, by decide⟩) (Nat.le_of_ble_eq_true rfl) (fun o35 v35 ρv35 Zv35 hq35 _ => ?_)
        obtain ⟨rfl, rfl, hfr35, hH35, rfl, hq35⟩ := hq35
        have hw35_ : ω (ρ t 0) = 5 := hH.rf ht (by decide) rfl
        have hwf1_ : ω (ρ (ρ t 0) 1) = 9 := hH.rf hw35_ (by decide) rfl
        try rw [show (v16 (ρ (ρ t 0) 1)) = (v (ρ (ρ t 0) 1)) from (hfr16.rw hwf1_ (by decide)).trans (rfl)] at hq35
        show wp g X F_X10_weighMix 0 0 38 [(2, t), (0, c), (3, 0)] [] v35 ρ Z
        refine r_iinc (ls' := [(2, t), (0, (c + 1)), (3, 0)]) (pc := 38) hX 24 rfl rfl (by decide) rfl ?_
        refine r_goto (pc := 41) hX 25 (tgt := 16) rfl (by decide) ?_
        exact (ih16 (c + 1) v35 ((hfr16).tr hfr35 (by decide)) (hH35) (by omega) (by
          have q35 := hq35
          try rw [hfr16.rw hww (by decide)] at q35
          exact RchI.step (m := v (ρ t 14)) ir hinj hlim (by omega) (by omega) (m4 c (by omega) (by omega)).1 (ml4 c (by omega) (by omega)) (hH.rg hww (by decide) rfl).1 q35.1 q35.2 (by omega)) (by omega))
  exact (L16 _ 0 (cpM v (ρ t 13) (ρ t 12) 3) ((FrW.rf).cp (d := (ρ t 13)) hw5_ (by decide)) (hH_11) (by omega) (RchI.start (fun p a b => cpM_in a (by omega))) (Nat.lt_succ_self _))
set_option maxHeartbeats 4000000 in
set_option maxRecDepth 100000 in
theorem c_X10_waitValue (g : Gp) (ω : Rw) (v ρ : Mv) (Z : Mz) (hH : HT ω v ρ Z) (t : Int) (ht : ω t = 45) (n : Int) (hn : 1 ≤ n ∧ n ≤ 12) (hmn : 0 ≤ v (ρ t 14) 0 ∧ 0 ≤ v (ρ t 14) 1 ∧ 0 ≤ v (ρ t 14) 2 ∧ 0 ≤ v (ρ t 14) 3 ∧ 0 ≤ v (ρ t 14) 4 ∧ v (ρ t 14) 0 + v (ρ t 14) 1 + v (ρ t 14) 2 + v (ρ t 14) 3 + v (ρ t 14) 4 ≤ 11) (hr : ∀ k, 0 ≤ k → k ≤ 2 → 0 ≤ v (ρ t 13) k ∧ v (ρ t 13) k ≤ 100) : Ok g 3 0 0 F_X10_waitValue [(2, t), (0, n)] v ρ Z (fun o9 v' ρ' Z' => ρ = ρ' ∧ Z = Z' ∧ FrW ω [51, 52] v v' ∧ HT ω v' ρ Z ∧ ∃ r : Int, o9 = some (1, r) ∧ (∀ k, v' (ρ t 14) k = v (ρ t 14) k)) := by
  refine Ok.of mo_X10_waitValue (Nat.le_of_ble_eq_true rfl) ?_
  intro X hX hRm hxn hQ
  show wp g X F_X10_waitValue 0 0 0 [(2, t), (0, n), (3, 0), (3, 0), (3, 0), (3, 0), (3, 0), (3, 0), (3, 0)] [] v ρ Z
  have hw13 : ω (ρ t 13) = 51 := hH.rf ht (by decide) rfl
  have hw12 : ω (ρ t 12) = 50 := hH.rf ht (by decide) rfl
  have hw7 : ω (ρ t 7) = 46 := hH.rf ht (by decide) rfl
  have hw14 : ω (ρ t 14) = 52 := hH.rf ht (by decide) rfl
  have hw17 : ω (ρ t 17) = 56 := hH.rf ht (by decide) rfl
  have hwr : ω (ρ t 0) = 5 := hH.rf ht (by decide) rfl
  have hww : ω (ρ (ρ t 0) 1) = 9 := hH.rf hwr (by decide) rfl
  refine r_lconst (pc := 0) hX 0 rfl ?_
  show wp g X F_X10_waitValue 0 0 1 [(2, t), (0, n), (3, 0), (3, 0), (3, 0), (3, 0), (3, 0), (3, 0), (3, 0)] [(1, 0)] v ρ Z
  refine r_lstore_n (ls' := [(2, t), (0, n), (1, 0), (3, 0), (3, 0), (3, 0), (3, 0), (3, 0), (3, 0)]) (pc := 1) hX 1 rfl (by decide) rfl ?_
  refine r_iconst (pc := 2) hX 2 rfl ?_
  refine r_istore (ls' := [(2, t), (0, n), (1, 0), (3, 0), (0, 0), (3, 0), (3, 0), (3, 0), (3, 0)]) (pc := 3) hX 3 rfl (by decide) rfl ?_
  have L5 : ∀ (n5 : Nat) (s c : Int) (v5 : Mv) , (FrW ω [51, 52] v v5) → (HT ω v5 ρ Z) → (0 ≤ c ∧ c ≤ 5) → (∀ k, v5 (ρ t 13) k = v (ρ t 13) k) → (∀ k, v5 (ρ t 14) k = v (ρ t 14) k) → (5 - c).toNat < n5 → wp g X F_X10_waitValue 0 0 5 [(2, t), (0, n), (1, s), (3, 0), (0, c), (3, 0), (3, 0), (3, 0), (3, 0)] [] v5 ρ Z := by
    intro n5
    induction n5 with
    | zero => intro s c v5 hfr5 hH5 ic ir im hme5; exact absurd hme5 (Nat.not_lt_zero _)
    | succ n5 ih5 =>
      intro s c v5 hfr5 hH5 ic ir im hme5
      refine r_iload (pc := 5) hX 4 rfl rfl ?_
      refine r_iconst (pc := 7) hX 5 rfl ?_
      first | refine r_icmp_ge (pc := 8) hX 6 (tgt := 145) rfl (by decide) (⟨by omega, by omega⟩) (⟨by omega, by omega⟩) (fun h8 => ?_) (fun h8 => ?_) | refine r_icmp_ge_any (pc := 8) hX 6 (tgt := 145) rfl (by decide) ?_ ?_
      · refine r_lload_n (pc := 145) hX 84 rfl rfl ?_
        exact r_lret (pc := 146) hX 85 hQ rfl rfl (Nat.le_refl 0) (Nat.le_refl 0) ⟨rfl, rfl, hfr5, hH5, s, rfl, (im)⟩
      · refine r_lconst (pc := 11) hX 7 rfl ?_
        show wp g X F_X10_waitValue 0 0 12 [(2, t), (0, n), (1, s), (3, 0), (0, c), (3, 0), (3, 0), (3, 0), (3, 0)] [(1, 0)] v5 ρ Z
        refine r_lstore (ls' := [(2, t), (0, n), (1, s), (3, 0), (0, c), (1, 0), (3, 0), (3, 0), (3, 0)]) (pc := 12) hX 8 rfl (by decide) rfl ?_
        refine r_iconst (pc := 14) hX 9 rfl ?_
        refine r_istore (ls' := [(2, t), (0, n), (1, s), (3, 0), (0, c), (1, 0), (3, 0), (0, 0), (3, 0)]) (pc := 15) hX 10 rfl (by decide) rfl ?_
        have L17 : ∀ (n17 : Nat) (x l : Int) , (0 ≤ l ∧ l ≤ 3) → (3 - l).toNat < n17 → wp g X F_X10_waitValue 0 0 17 [(2, t), (0, n), (1, s), (3, 0), (0, c), (1, x), (3, 0), (0, l), (3, 0)] [] v5 ρ Z := by
          intro n17
          induction n17 with
          | zero => intro x l il hme17; exact absurd hme17 (Nat.not_lt_zero _)
          | succ n17 ih17 =>
            intro x l il hme17
            refine r_iload (pc := 17) hX 11 rfl rfl ?_
            refine t_getR (q := (ρ t 0)) (pc := 19) hX 12 rfl rfl rfl fl_X10_61 rfl (hH5.kd ht (by decide)) (rfl) ?_
            have hw19_ : ω (ρ t 0) = 5 := hH.rf ht (by decide) rfl
            refine r_callV (as := []) (st := [(0, l)]) (K := 4) (pc := 23) hX 14 rfl mo_X4_rows ml_X10_78 im_X4_rows se_X4_rows (c_X4_rows g ω v5 ρ Z hH5 (ρ t 0) hw19_ ) rfl rfl rfl (hH5.kd hw19_ (by decide)) (by rw [hRm]; exact ⟨by decide, by decide⟩) (by rw [hRm]; exact ⟨by decide, by decide⟩) (Nat.le_of_ble_eq_true rfl) (fun o23 v23 ρv23 Zv23 hq23 _ => ?_)
            obtain ⟨rfl, rfl, rfl, r23, rfl, hq23⟩ := hq23
            try rw [show (v5 (ρ t 0) 9) = (v (ρ t 0) 9) from (hfr5.at hw19_ (by decide) 9).trans (rfl)] at hq23
            show wp g X F_X10_waitValue 0 0 26 [(2, t), (0, n), (1, s), (3, 0), (0, c), (1, x), (3, 0), (0, l), (3, 0)] [(0, r23), (0, l)] v5 ρ Z
            first | refine r_icmp_ge (pc := 26) hX 15 (tgt := 62) rfl (by decide) (⟨by omega, by omega⟩) (⟨by omega, by omega⟩) (fun h26 => ?_) (fun h26 => ?_) | refine r_icmp_ge_any (pc := 26) hX 15 (tgt := 62) rfl (by decide) ?_ ?_
            · refine r_lload (pc := 62) hX 34 rfl rfl ?_
              refine r_lconst (pc := 64) hX 35 rfl ?_
              show wp g X F_X10_waitValue 0 0 65 [(2, t), (0, n), (1, s), (3, 0), (0, c), (1, x), (3, 0), (0, l), (3, 0)] [(1, 0), (1, x)] v5 ρ Z
              refine r_lcmp_any (pc := 65) hX 36 rfl (fun z65 hz65a hz65b => ?_)
              have L139 : ∀ (s2 : Int) (v139 : Mv) , (FrW ω [51, 52] v v139) → (HT ω v139 ρ Z) → (∀ k, v139 (ρ t 13) k = v (ρ t 13) k) → (∀ k, v139 (ρ t 14) k = v (ρ t 14) k) → wp g X F_X10_waitValue 0 0 139 [(2, t), (0, n), (1, s2), (3, 0), (0, c), (3, 0), (3, 0), (3, 0), (3, 0)] [] v139 ρ Z := by
                intro s2 v139 hfr139 hH139 ir2 im2
                refine r_iinc (ls' := [(2, t), (0, n), (1, s2), (3, 0), (0, (c + 1)), (3, 0), (3, 0), (3, 0), (3, 0)]) (pc := 139) hX 82 rfl rfl (by decide) rfl ?_
                refine r_goto (pc := 142) hX 83 (tgt := 5) rfl (by decide) ?_
                exact (ih5 s2 (c + 1) v139 (hfr139) (hH139) (by omega) (ir2) (im2) (by omega))
              first | refine r_if_le (pc := 66) hX 37 (tgt := 139) rfl (by decide) (⟨by omega, by omega⟩) (fun h66 => ?_) (fun h66 => ?_) | refine r_if_le_any (pc := 66) hX 37 (tgt := 139) rfl (by decide) ?_ ?_
              · refine r_wk (ls' := [(2, t), (0, n), (1, s), (3, 0), (0, c), (3, 0), (3, 0), (3, 0), (3, 0)]) ⟨Or.inr rfl, Or.inr rfl, Or.inr rfl, Or.inr rfl, Or.inr rfl, Or.inl rfl, Or.inr rfl, Or.inl rfl, Or.inr rfl, trivial⟩ ?_
                exact (L139 s v5 (hfr5) (hH5) (by first | exact ir | exact hs80 | exact hs127) (by first | exact im | exact hm80 | exact hm127) )
              · refine r_aload_n (pc := 69) hX 38 rfl rfl ?_
                refine t_getR (q := (ρ t 7)) (pc := 70) hX 39 rfl rfl rfl fl_X10_21 rfl (hH5.kd ht (by decide)) (rfl) ?_
                have hw70_ : ω (ρ t 7) = 46 := hH.rf ht (by decide) rfl
                refine r_iload (pc := 74) hX 41 rfl rfl ?_
                refine e_iald (y := (v (ρ t 7) c)) (n := 5) (pc := 76) hX 42 rfl (hH5.kd hw70_ (by decide)) (hH5.ln hw70_ (by decide)) (by omega) (by omega) ((hfr5.at hw70_ (by decide) c).trans (rfl)) ?_
                have hb76 : (-1) ≤ (v (ρ t 7) c) ∧ (v (ρ t 7) c) ≤ 2 := hH.rg hw70_ (by decide) rfl
                refine r_iload (pc := 77) hX 43 rfl rfl ?_
                refine r_iload_n (pc := 79) hX 44 rfl rfl ?_
                refine r_callV (as := [(0, (v (ρ t 7) c)), (0, c), (0, n)]) (st := []) (K := 10) (pc := 80) hX 45 rfl mo_X10_waysDone ml_X10_156 im_X10_waysDone se_X10_waysDone (c_X10_waysDone g ω v5 ρ Z hH5 t ht ((v (ρ t 7) c)) (c) (n) (by omega) (by omega) (by omega) (fun k a b => by rw [ir k]; exact hr k a b)) rfl rfl rfl (hH5.kd ht (by decide)) (by rw [hRm]; exact ⟨by decide, by decide⟩) (by rw [hRm]; exact ⟨by decide, by decide⟩) (Nat.le_of_ble_eq_true rfl) (fun o80 v80 ρv80 Zv80 hq80 _ => ?_)
                obtain ⟨rfl, rfl, hfr80, hH80, r80, rfl, hq80⟩ := hq80
                have hw80_ : ω (ρ t 13) = 51 := hH.rf ht (by decide) rfl
                have hwf1_ : ω (ρ (ρ t 0) 1) = 9 := hH.rf hw19_ (by decide) rfl
                try rw [show (v5 (ρ t 0) 11) = (v (ρ t 0) 11) from (hfr5.at hw19_ (by decide) 11).trans (rfl)] at hq80
                try rw [show (v5 (ρ (ρ t 0) 1)) = (v (ρ (ρ t 0) 1)) from (hfr5.rw hwf1_ (by decide)).trans (rfl)] at hq80
                show wp g X F_X10_waitValue 0 0 83 [(2, t), (0, n), (1, s), (3, 0), (0, c), (1, x), (3, 0), (0, l), (3, 0)] [(1, r80)] v80 ρ Z
                have hs80 : ∀ k, v80 (ρ t 13) k = v (ρ t 13) k := fun k => by rw [hq80.1 k, ir k]
                have hm80 : ∀ k, v80 (ρ t 14) k = v (ρ t 14) k := fun k => by rw [hfr80.at hw14 (by decide) k, im k]
                replace hq80 := hq80.2
                have hm0 := hm80 0
                have hm1 := hm80 1
                have hm2 := hm80 2
                have hm3 := hm80 3
                have hm4 := hm80 4
                have hj0 := im 0
                have hj1 := im 1
                have hj2 := im 2
                have hj3 := im 3
                have hj4 := im 4
                refine r_lstore (ls' := [(2, t), (0, n), (1, s), (3, 0), (0, c), (1, x), (3, 0), (1, r80), (3, 0)]) (pc := 83) hX 46 rfl (by decide) rfl ?_
                refine r_lload (pc := 85) hX 47 rfl rfl ?_
                refine r_ldc2 (y := (-1)) (pc := 87) hX 48 rfl kl_X10_160 (by decide) ?_
                refine r_lcmp (pc := 90) hX 49 rfl (⟨by omega, by omega⟩) (⟨by omega, by omega⟩) ?_
                refine r_if_ne (pc := 91) hX 50 (tgt := 131) rfl (by decide) (cmpI_in _ _) (fun h91 => ?_) (fun h91 => ?_)
                · rw [Ne, cmpI_eq] at h91
                  refine r_lload_n (pc := 131) hX 76 rfl rfl ?_
                  refine r_lload (pc := 132) hX 77 rfl rfl ?_
                  refine r_lload (pc := 134) hX 78 rfl rfl ?_
                  refine r_lmul (pc := 136) hX 79 rfl ?_
                  refine r_ladd (pc := 137) hX 80 rfl ?_
                  refine r_lstore_n (ls' := [(2, t), (0, n), (1, (s + (x * r80))), (3, 0), (0, c), (1, x), (3, 0), (1, r80), (3, 0)]) (pc := 138) hX 81 rfl (by decide) rfl ?_
                  refine r_wk (ls' := [(2, t), (0, n), (1, (s + (x * r80))), (3, 0), (0, c), (3, 0), (3, 0), (3, 0), (3, 0)]) ⟨Or.inr rfl, Or.inr rfl, Or.inr rfl, Or.inr rfl, Or.inr rfl, Or.inl rfl, Or.inr rfl, Or.inl rfl, Or.inr rfl, trivial⟩ ?_
                  exact (L139 (s + (x * r80)) v80 ((hfr5).tr hfr80 (by decide)) (hH80) (by first | exact ir | exact hs80 | exact hs127) (by first | exact im | exact hm80 | exact hm127) )
                · rw [Ne, cmpI_eq] at h91
                  refine t_getR (q := (ρ t 14)) (pc := 94) hX 51 rfl rfl rfl fl_X10_40 rfl (hH80.kd ht (by decide)) (rfl) ?_
                  have hw94_ : ω (ρ t 14) = 52 := hH.rf ht (by decide) rfl
                  refine r_iload (pc := 98) hX 53 rfl rfl ?_
                  refine r_dup2i (pc := 100) hX 54 rfl (show (0 : Nat) ≠ 1 by decide) (show (2 : Nat) ≠ 1 by decide) ?_
                  refine e_iald (y := (v5 (ρ t 14) c)) (n := 5) (pc := 101) hX 55 rfl (hH80.kd hw94_ (by decide)) (hH80.ln hw94_ (by decide)) (by omega) (by omega) ((hfr80.at hw94_ (by decide) c).trans (rfl)) ?_
                  refine r_iconst (pc := 102) hX 56 rfl ?_
                  refine r_iadd (pc := 103) hX 57 rfl ?_
                  refine e_iast (n := 5) (pc := 104) hX 58 rfl (hH80.kd hw94_ (by decide)) (hH80.ln hw94_ (by decide)) (hH80.g4 hw94_ (by decide)) (by omega) (by omega) ?_
                  have hH_104 : HT ω (up v80 (ρ t 14) c ((v5 (ρ t 14) c) + 1)) ρ Z := hH80.up0 hw94_ (by decide) rfl
                  refine r_lload_n (pc := 105) hX 59 rfl rfl ?_
                  refine t_getR (q := (ρ t 18)) (pc := 106) hX 60 rfl rfl rfl fl_X10_55 rfl (hH_104.kd ht (by decide)) (rfl) ?_
                  have hw106_ : ω (ρ t 18) = 57 := hH.rf ht (by decide) rfl
                  refine r_aload_n (pc := 110) hX 62 rfl rfl ?_
                  refine r_callV (as := []) (st := [(2, (ρ t 18)), (1, s)]) (K := 10) (pc := 111) hX 63 rfl mo_X10_mixIndex ml_X10_187 im_X10_mixIndex se_X10_mixIndex (c_X10_mixIndex g ω (up v80 (ρ t 14) c ((v5 (ρ t 14) c) + 1)) ρ Z hH_104 t ht (by
          have hc5 : c = 0 ∨ c = 1 ∨ c = 2 ∨ c = 3 ∨ c = 4 := by omega
          rcases hc5 with rfl | rfl | rfl | rfl | rfl <;> simp [up] <;> omega)) rfl rfl rfl (hH_104.kd ht (by decide)) (by rw [hRm]; exact ⟨by decide, by decide⟩) (by rw [hRm]; exact ⟨by decide, by decide⟩) (Nat.le_of_ble_eq_true rfl) (fun o111 v111 ρv111 Zv111 hq111 _ => ?_)
                  obtain ⟨rfl, rfl, rfl, r111, rfl, hq111⟩ := hq111
                  show wp g X F_X10_waitValue 0 0 114 [(2, t), (0, n), (1, s), (3, 0), (0, c), (1, x), (3, 0), (1, r80), (3, 0)] [(0, r111), (2, (ρ t 18)), (1, s)] (up v80 (ρ t 14) c ((v5 (ρ t 14) c) + 1)) ρ Z
                  refine e_lald (y := (v (ρ t 18) r111)) (n := 1820) (pc := 114) hX 64 rfl (hH_104.kd hw106_ (by decide)) (hH_104.ln hw106_ (by decide)) (by omega) (by omega) ((up_r (rne hw106_ hw94_ (by decide))).trans ((hfr80.at hw106_ (by decide) r111).trans ((hfr5.at hw106_ (by decide) r111).trans (rfl)))) ?_
                  refine r_ladd (pc := 115) hX 65 rfl ?_
                  refine r_lstore_n (ls' := [(2, t), (0, n), (1, (s + (v (ρ t 18) r111))), (3, 0), (0, c), (1, x), (3, 0), (1, r80), (3, 0)]) (pc := 116) hX 66 rfl (by decide) rfl ?_
                  refine t_getR (q := (ρ t 14)) (pc := 117) hX 67 rfl rfl rfl fl_X10_40 rfl (hH_104.kd ht (by decide)) (rfl) ?_
                  refine r_iload (pc := 121) hX 69 rfl rfl ?_
                  refine r_dup2i (pc := 123) hX 70 rfl (show (0 : Nat) ≠ 1 by decide) (show (2 : Nat) ≠ 1 by decide) ?_
                  refine e_iald (y := ((v5 (ρ t 14) c) + 1)) (n := 5) (pc := 124) hX 71 rfl (hH_104.kd hw94_ (by decide)) (hH_104.ln hw94_ (by decide)) (by omega) (by omega) (up_s _ _ _ _) ?_
                  refine r_iconst (pc := 125) hX 72 rfl ?_
                  refine r_isub (pc := 126) hX 73 rfl ?_
                  refine e_iast (n := 5) (pc := 127) hX 74 rfl (hH_104.kd hw94_ (by decide)) (hH_104.ln hw94_ (by decide)) (hH_104.g4 hw94_ (by decide)) (by omega) (by omega) ?_
                  have hH_127 : HT ω (up (up v80 (ρ t 14) c ((v5 (ρ t 14) c) + 1)) (ρ t 14) c (((v5 (ρ t 14) c) + 1) - 1)) ρ Z := hH_104.up0 hw94_ (by decide) rfl
                  have hs127 : ∀ k, (up (up v80 (ρ t 14) c ((v5 (ρ t 14) c) + 1)) (ρ t 14) c (((v5 (ρ t 14) c) + 1) - 1)) (ρ t 13) k = v (ρ t 13) k := fun k => by rw [up_r (rne hw13 hw14 (by decide)), up_r (rne hw13 hw14 (by decide))]; exact hs80 k
                  have hm127 : ∀ k, (up (up v80 (ρ t 14) c ((v5 (ρ t 14) c) + 1)) (ρ t 14) c (((v5 (ρ t 14) c) + 1) - 1)) (ρ t 14) k = v (ρ t 14) k := fun k => by
                    by_cases e : k = c
                    · subst e; rw [up_s]; have z := hm80 k; have z2 := im k; omega
                    · rw [up_k e, up_k e]; exact hm80 k
                  refine r_goto (pc := 128) hX 75 (tgt := 139) rfl (by decide) ?_
                  refine r_wk (ls' := [(2, t), (0, n), (1, (s + (v (ρ t 18) r111))), (3, 0), (0, c), (3, 0), (3, 0), (3, 0), (3, 0)]) ⟨Or.inr rfl, Or.inr rfl, Or.inr rfl, Or.inr rfl, Or.inr rfl, Or.inl rfl, Or.inr rfl, Or.inl rfl, Or.inr rfl, trivial⟩ ?_
                  exact (L139 (s + (v (ρ t 18) r111)) (up (up v80 (ρ t 14) c ((v5 (ρ t 14) c) + 1)) (ρ t 14) c (((v5 (ρ t 14) c) + 1) - 1)) ((((hfr5).tr hfr80 (by decide)).up (r := (ρ t 14)) hw94_ (by decide)).up (r := (ρ t 14)) hw94_ (by decide)) (hH_127) (by first | exact ir | exact hs80 | exact hs127) (by first | exact im | exact hm80 | exact hm127) )
            · refine r_lload (pc := 29) hX 16 rfl rfl ?_
              refine t_getR (q := (ρ t 17)) (pc := 31) hX 17 rfl rfl rfl fl_X10_52 rfl (hH5.kd ht (by decide)) (rfl) ?_
              have hw31_ : ω (ρ t 17) = 56 := hH.rf ht (by decide) rfl
              refine r_iload (pc := 35) hX 19 rfl rfl ?_
              refine e_lald (y := (v (ρ t 17) l)) (n := 3) (pc := 37) hX 20 rfl (hH5.kd hw31_ (by decide)) (hH5.ln hw31_ (by decide)) (by omega) (by omega) ((hfr5.at hw31_ (by decide) l).trans (rfl)) ?_
              refine t_getR (q := (ρ t 0)) (pc := 38) hX 21 rfl rfl rfl fl_X10_61 rfl (hH5.kd ht (by decide)) (rfl) ?_
              refine r_getR (q := (ρ (ρ t 0) 5)) (pc := 42) hX 23 rfl fl_X10_141 rfl (hH5.kd hw19_ (by decide)) (rfl) ?_
              have hw42_ : ω (ρ (ρ t 0) 5) = 12 := hH.rf hw19_ (by decide) rfl
              refine r_iload (pc := 45) hX 24 rfl rfl ?_
              refine r_aald (q := (ρ (ρ (ρ t 0) 5) l)) (pc := 47) hX 25 19 rfl (hH5.kd hw42_ (by decide)) (by decide) (by decide) rfl rfl (by omega) (by rw [show Z.2.1 (ρ (ρ t 0) 5) = 3 from (hH5.ln hw42_ (by decide))]; omega) (rfl) ?_
              have hw47_ : ω (ρ (ρ (ρ t 0) 5) l) = 13 := hH.rf hw42_ (by decide) (rf12 ⟨by omega, by omega⟩)
              refine r_iload (pc := 48) hX 26 rfl rfl ?_
              refine e_iald (y := (v (ρ (ρ (ρ t 0) 5) l) c)) (n := 5) (pc := 50) hX 27 rfl (hH5.kd hw47_ (by decide)) (hH5.ln hw47_ (by decide)) (by omega) (by omega) ((hfr5.at hw47_ (by decide) c).trans (rfl)) ?_
              have hb50 : 0 ≤ (v (ρ (ρ (ρ t 0) 5) l) c) ∧ (v (ρ (ρ (ρ t 0) 5) l) c) ≤ 12 := hH.rg hw47_ (by decide) rfl
              refine r_i2l (pc := 51) hX 28 rfl ⟨by omega, by omega⟩ ?_
              refine r_lmul (pc := 52) hX 29 rfl ?_
              refine r_ladd (pc := 53) hX 30 rfl ?_
              refine r_lstore (ls' := [(2, t), (0, n), (1, s), (3, 0), (0, c), (1, (x + ((v (ρ t 17) l) * (v (ρ (ρ (ρ t 0) 5) l) c)))), (3, 0), (0, l), (3, 0)]) (pc := 54) hX 31 rfl (by decide) rfl ?_
              refine r_iinc (ls' := [(2, t), (0, n), (1, s), (3, 0), (0, c), (1, (x + ((v (ρ t 17) l) * (v (ρ (ρ (ρ t 0) 5) l) c)))), (3, 0), (0, (l + 1)), (3, 0)]) (pc := 56) hX 32 rfl rfl (by decide) rfl ?_
              refine r_goto (pc := 59) hX 33 (tgt := 17) rfl (by decide) ?_
              exact (ih17 (x + ((v (ρ t 17) l) * (v (ρ (ρ (ρ t 0) 5) l) c))) (l + 1) (by omega) (by omega))
        exact (L17 _ 0 0 (by omega) (Nat.lt_succ_self _))
  exact (L5 _ 0 0 v (FrW.rf) (hH) (by omega) (fun _ => rfl) (fun _ => rfl) (Nat.lt_succ_self _))
set_option maxHeartbeats 4000000 in
set_option maxRecDepth 100000 in
theorem c_X10_valueMix (g : Gp) (ω : Rw) (v ρ : Mv) (Z : Mz) (hH : HT ω v ρ Z) (t : Int) (ht : ω t = 45) (n : Int) (hn : 1 ≤ n ∧ n ≤ 12) (hinj : InjI (v (ρ t 7))) (hlim : LimI (v (ρ t 7)) (v (ρ t 11)) (v (ρ (ρ t 0) 1))) (hmn : 0 ≤ v (ρ t 14) 0 ∧ 0 ≤ v (ρ t 14) 1 ∧ 0 ≤ v (ρ t 14) 2 ∧ 0 ≤ v (ρ t 14) 3 ∧ 0 ≤ v (ρ t 14) 4 ∧ v (ρ t 14) 0 + v (ρ t 14) 1 + v (ρ t 14) 2 + v (ρ t 14) 3 + v (ρ t 14) 4 ≤ 11) (hml : v (ρ t 14) 0 ≤ v (ρ t 11) 0 ∧ v (ρ t 14) 1 ≤ v (ρ t 11) 1 ∧ v (ρ t 14) 2 ≤ v (ρ t 11) 2 ∧ v (ρ t 14) 3 ≤ v (ρ t 11) 3) : Ok g 4 0 0 F_X10_valueMix [(2, t), (0, n)] v ρ Z (fun o9 v' ρ' Z' => ρ = ρ' ∧ Z = Z' ∧ FrW ω [45, 51, 52, 56, 57] v v' ∧ HT ω v' ρ Z ∧ o9 = none ∧ True) := by
  refine Ok.of mo_X10_valueMix (Nat.le_of_ble_eq_true rfl) ?_
  intro X hX hRm hxn hQ
  show wp g X F_X10_valueMix 0 0 0 [(2, t), (0, n), (3, 0), (3, 0), (3, 0), (3, 0), (3, 0), (3, 0), (3, 0), (3, 0)] [] v ρ Z
  have hw13 : ω (ρ t 13) = 51 := hH.rf ht (by decide) rfl
  have hw12 : ω (ρ t 12) = 50 := hH.rf ht (by decide) rfl
  have hw7 : ω (ρ t 7) = 46 := hH.rf ht (by decide) rfl
  have hw14 : ω (ρ t 14) = 52 := hH.rf ht (by decide) rfl
  have hw17 : ω (ρ t 17) = 56 := hH.rf ht (by decide) rfl
  have hwr : ω (ρ t 0) = 5 := hH.rf ht (by decide) rfl
  have hww : ω (ρ (ρ t 0) 1) = 9 := hH.rf hwr (by decide) rfl
  have hg12 : ∀ k, 0 ≤ v (ρ t 12) k ∧ v (ρ t 12) k ≤ 11 := fun k => hH.rg hw12 (by decide) rfl
  refine r_aload_n (pc := 0) hX 0 rfl rfl ?_
  have hw1_ : ω (ρ t 7) = 46 := hH.rf ht (by decide) rfl
  have hwf1_ : ω (ρ t 11) = 49 := hH.rf ht (by decide) rfl
  have hwf2_ : ω (ρ t 0) = 5 := hH.rf ht (by decide) rfl
  have hwf3_ : ω (ρ (ρ t 0) 1) = 9 := hH.rf hwf2_ (by decide) rfl
  have hwf4_ : ω (ρ t 14) = 52 := hH.rf ht (by decide) rfl
  refine r_callV (as := []) (st := []) (K := 10) (pc := 1) hX 1 rfl mo_X10_weighMix ml_X10_178 im_X10_weighMix se_X10_weighMix (c_X10_weighMix g ω v ρ Z hH t ht (by exact hinj) (by exact hlim) (by omega) (by omega)) rfl rfl rfl (hH.kd ht (by decide)) (by rw [hRm]; exact ⟨by decide, by decide⟩) (by rw [hRm]; exact ⟨by decide, by decide⟩) (Nat.le_of_ble_eq_true rfl) (fun o1 v1 ρv1 Zv1 hq1 _ => ?_)
  obtain ⟨rfl, rfl, hfr1, hH1, rfl, hq1⟩ := hq1
  have hwf5_ : ω (ρ t 12) = 50 := hH.rf ht (by decide) rfl
  show wp g X F_X10_valueMix 0 0 4 [(2, t), (0, n), (3, 0), (3, 0), (3, 0), (3, 0), (3, 0), (3, 0), (3, 0), (3, 0)] [] v1 ρ Z
  have z10 := hq1 0 (by omega) (by omega)
  have z11 := hq1 1 (by omega) (by omega)
  have z12 := hq1 2 (by omega) (by omega)
  refine r_aload_n (pc := 4) hX 2 rfl rfl ?_
  refine r_callV (as := []) (st := []) (K := 10) (pc := 5) hX 3 rfl mo_X10_scoreIndex ml_X10_181 im_X10_scoreIndex se_X10_scoreIndex (c_X10_scoreIndex g ω v1 ρ Z hH1 t ht ) rfl rfl rfl (hH1.kd ht (by decide)) (by rw [hRm]; exact ⟨by decide, by decide⟩) (by rw [hRm]; exact ⟨by decide, by decide⟩) (Nat.le_of_ble_eq_true rfl) (fun o5 v5 ρv5 Zv5 hq5 _ => ?_)
  obtain ⟨rfl, rfl, rfl, r5, rfl, hq5⟩ := hq5
  have hw5_ : ω (ρ t 13) = 51 := hH.rf ht (by decide) rfl
  try rw [show (v1 (ρ t 12) 0) = (v (ρ t 12) 0) from (hfr1.at hwf5_ (by decide) 0).trans (rfl)] at hq5
  try rw [show (v1 (ρ t 12) 1) = (v (ρ t 12) 1) from (hfr1.at hwf5_ (by decide) 1).trans (rfl)] at hq5
  try rw [show (v1 (ρ t 12) 2) = (v (ρ t 12) 2) from (hfr1.at hwf5_ (by decide) 2).trans (rfl)] at hq5
  show wp g X F_X10_valueMix 0 0 8 [(2, t), (0, n), (3, 0), (3, 0), (3, 0), (3, 0), (3, 0), (3, 0), (3, 0), (3, 0)] [(0, r5)] v1 ρ Z
  refine r_istore_n (ls' := [(2, t), (0, n), (0, r5), (3, 0), (3, 0), (3, 0), (3, 0), (3, 0), (3, 0), (3, 0)]) (pc := 8) hX 4 rfl (by decide) rfl ?_
  refine r_aload_n (pc := 9) hX 5 rfl rfl ?_
  refine r_iload_n (pc := 10) hX 6 rfl rfl ?_
  refine r_callV (as := [(0, n)]) (st := []) (K := 10) (pc := 11) hX 7 rfl mo_X10_waitValue ml_X10_184 im_X10_waitValue se_X10_waitValue (c_X10_waitValue g ω v1 ρ Z hH1 t ht (n) (by omega) (by rw [show (v1 (ρ t 14) 0) = (v (ρ t 14) 0) from (hfr1.at hwf4_ (by decide) 0).trans (rfl)]; rw [show (v1 (ρ t 14) 1) = (v (ρ t 14) 1) from (hfr1.at hwf4_ (by decide) 1).trans (rfl)]; rw [show (v1 (ρ t 14) 2) = (v (ρ t 14) 2) from (hfr1.at hwf4_ (by decide) 2).trans (rfl)]; rw [show (v1 (ρ t 14) 3) = (v (ρ t 14) 3) from (hfr1.at hwf4_ (by decide) 3).trans (rfl)]; rw [show (v1 (ρ t 14) 4) = (v (ρ t 14) 4) from (hfr1.at hwf4_ (by decide) 4).trans (rfl)]; omega) (fun k a b => by have z1 := hq1 k a b; have z2 := hg12 k; omega)) rfl rfl rfl (hH1.kd ht (by decide)) (by rw [hRm]; exact ⟨by decide, by decide⟩) (by rw [hRm]; exact ⟨by decide, by decide⟩) (Nat.le_of_ble_eq_true rfl) (fun o11 v11 ρv11 Zv11 hq11 _ => ?_)
  obtain ⟨rfl, rfl, hfr11, hH11, r11, rfl, hq11⟩ := hq11
  try rw [show (v1 (ρ t 14)) = (v (ρ t 14)) from (hfr1.rw hwf4_ (by decide)).trans (rfl)] at hq11
  show wp g X F_X10_valueMix 0 0 14 [(2, t), (0, n), (0, r5), (3, 0), (3, 0), (3, 0), (3, 0), (3, 0), (3, 0), (3, 0)] [(1, r11)] v11 ρ Z
  have hm0 := hq11 0
  have hm1 := hq11 1
  have hm2 := hq11 2
  have hm3 := hq11 3
  refine r_lstore_n (ls' := [(2, t), (0, n), (0, r5), (1, r11), (3, 0), (3, 0), (3, 0), (3, 0), (3, 0), (3, 0)]) (pc := 14) hX 8 rfl (by decide) rfl ?_
  refine r_iconst (pc := 15) hX 9 rfl ?_
  refine r_istore (ls' := [(2, t), (0, n), (0, r5), (1, r11), (3, 0), (0, (-1)), (3, 0), (3, 0), (3, 0), (3, 0)]) (pc := 16) hX 10 rfl (by decide) rfl ?_
  refine r_iconst (pc := 18) hX 11 rfl ?_
  refine r_istore (ls' := [(2, t), (0, n), (0, r5), (1, r11), (3, 0), (0, (-1)), (0, 0), (3, 0), (3, 0), (3, 0)]) (pc := 19) hX 12 rfl (by decide) rfl ?_
  have L21 : ∀ (n21 : Nat) (mo to j : Int) , (0 ≤ j ∧ j ≤ 3 ∧ -1 ≤ to ∧ to ≤ 3) → (3 - j).toNat < n21 → wp g X F_X10_valueMix 0 0 21 [(2, t), (0, n), (0, r5), (1, mo), (3, 0), (0, to), (0, j), (3, 0), (3, 0), (3, 0)] [] v11 ρ Z := by
    intro n21
    induction n21 with
    | zero => intro mo to j ij hme21; exact absurd hme21 (Nat.not_lt_zero _)
    | succ n21 ih21 =>
      intro mo to j ij hme21
      refine r_iload (pc := 21) hX 13 rfl rfl ?_
      refine t_getI (y := (v t 9)) (pc := 23) hX 14 rfl rfl rfl fl_X10_75 rfl (hH11.kd ht (by decide)) ((hfr11.at ht (by decide) 9).trans ((hfr1.at ht (by decide) 9).trans (rfl))) ?_
      have hb23 : 0 ≤ (v t 9) ∧ (v t 9) ≤ 3 := hH.rg ht (by decide) rfl
      first | refine r_icmp_ge (pc := 27) hX 16 (tgt := 106) rfl (by decide) (⟨by omega, by omega⟩) (⟨by omega, by omega⟩) (fun h27 => ?_) (fun h27 => ?_) | refine r_icmp_ge_any (pc := 27) hX 16 (tgt := 106) rfl (by decide) ?_ ?_
      · refine t_getR (q := (ρ t 18)) (pc := 106) hX 59 rfl rfl rfl fl_X10_55 rfl (hH11.kd ht (by decide)) (rfl) ?_
        have hw106_ : ω (ρ t 18) = 57 := hH.rf ht (by decide) rfl
        refine r_aload_n (pc := 110) hX 61 rfl rfl ?_
        refine r_callV (as := []) (st := [(2, (ρ t 18))]) (K := 10) (pc := 111) hX 62 rfl mo_X10_mixIndex ml_X10_187 im_X10_mixIndex se_X10_mixIndex (c_X10_mixIndex g ω v11 ρ Z hH11 t ht (by omega)) rfl rfl rfl (hH11.kd ht (by decide)) (by rw [hRm]; exact ⟨by decide, by decide⟩) (by rw [hRm]; exact ⟨by decide, by decide⟩) (Nat.le_of_ble_eq_true rfl) (fun o111 v111 ρv111 Zv111 hq111 _ => ?_)
        obtain ⟨rfl, rfl, rfl, r111, rfl, hq111⟩ := hq111
        show wp g X F_X10_valueMix 0 0 114 [(2, t), (0, n), (0, r5), (1, mo), (3, 0), (0, to), (0, j), (3, 0), (3, 0), (3, 0)] [(0, r111), (2, (ρ t 18))] v11 ρ Z
        refine r_lload_n (pc := 114) hX 63 rfl rfl ?_
        refine e_last (n := 1820) (pc := 115) hX 64 rfl (hH11.kd hw106_ (by decide)) (hH11.ln hw106_ (by decide)) (hH11.g4 hw106_ (by decide)) (by omega) (by omega) ?_
        have hH_115 : HT ω (up v11 (ρ t 18) r111 mo) ρ Z := hH11.up0 hw106_ (by decide) rfl
        refine r_aload_n (pc := 116) hX 65 rfl rfl ?_
        refine r_lload_n (pc := 117) hX 66 rfl rfl ?_
        refine r_putL (pc := 118) hX 67 rfl fl_X10_190 rfl (fun _ h => by cases h; rfl) (hH_115.kd ht (by decide)) (hH_115.g4 ht (by decide)) ?_
        have hH_118 : HT ω (up (up v11 (ρ t 18) r111 mo) t 4 mo) ρ Z := hH_115.up0 ht (by decide) rfl
        show wp g X F_X10_valueMix 0 0 121 [(2, t), (0, n), (0, r5), (1, mo), (3, 0), (0, to), (0, j), (3, 0), (3, 0), (3, 0)] [] (up (up v11 (ρ t 18) r111 mo) t 4 mo) ρ Z
        refine r_aload_n (pc := 121) hX 68 rfl rfl ?_
        refine r_iload (pc := 122) hX 69 rfl rfl ?_
        refine r_putI (pc := 124) hX 70 rfl fl_X10_18 rfl (fun _ h => by cases h; rfl) (hH_118.kd ht (by decide)) (hH_118.g4 ht (by decide)) ?_
        have hH_124 : HT ω (up (up (up v11 (ρ t 18) r111 mo) t 4 mo) t 5 to) ρ Z := hH_118.upR ht (by decide) rfl (by omega) (by omega)
        show wp g X F_X10_valueMix 0 0 127 [(2, t), (0, n), (0, r5), (1, mo), (3, 0), (0, to), (0, j), (3, 0), (3, 0), (3, 0)] [] (up (up (up v11 (ρ t 18) r111 mo) t 4 mo) t 5 to) ρ Z
        exact r_vret (pc := 127) hX 71 hQ rfl rfl (Nat.le_refl 0) (Nat.le_refl 0) ⟨rfl, rfl, (((((FrW.rf).tr hfr1 (by decide)).tr hfr11 (by decide)).up (r := (ρ t 18)) hw106_ (by decide)).up (r := t) ht (by decide)).up (r := t) ht (by decide), hH_124, rfl, trivial⟩
      · refine r_lconst (pc := 30) hX 17 rfl ?_
        show wp g X F_X10_valueMix 0 0 31 [(2, t), (0, n), (0, r5), (1, mo), (3, 0), (0, to), (0, j), (3, 0), (3, 0), (3, 0)] [(1, 0)] v11 ρ Z
        refine r_lstore (ls' := [(2, t), (0, n), (0, r5), (1, mo), (3, 0), (0, to), (0, j), (1, 0), (3, 0), (3, 0)]) (pc := 31) hX 18 rfl (by decide) rfl ?_
        refine r_iconst (pc := 33) hX 19 rfl ?_
        refine r_istore (ls' := [(2, t), (0, n), (0, r5), (1, mo), (3, 0), (0, to), (0, j), (1, 0), (3, 0), (0, 0)]) (pc := 34) hX 20 rfl (by decide) rfl ?_
        have L36 : ∀ (n36 : Nat) (tu l : Int) , (0 ≤ l ∧ l ≤ 3) → (3 - l).toNat < n36 → wp g X F_X10_valueMix 0 0 36 [(2, t), (0, n), (0, r5), (1, mo), (3, 0), (0, to), (0, j), (1, tu), (3, 0), (0, l)] [] v11 ρ Z := by
          intro n36
          induction n36 with
          | zero => intro tu l il hme36; exact absurd hme36 (Nat.not_lt_zero _)
          | succ n36 ih36 =>
            intro tu l il hme36
            refine r_iload (pc := 36) hX 21 rfl rfl ?_
            refine t_getR (q := (ρ t 0)) (pc := 38) hX 22 rfl rfl rfl fl_X10_61 rfl (hH11.kd ht (by decide)) (rfl) ?_
            refine r_callV (as := []) (st := [(0, l)]) (K := 4) (pc := 42) hX 24 rfl mo_X4_rows ml_X10_78 im_X4_rows se_X4_rows (c_X4_rows g ω v11 ρ Z hH11 (ρ t 0) hwf2_ ) rfl rfl rfl (hH11.kd hwf2_ (by decide)) (by rw [hRm]; exact ⟨by decide, by decide⟩) (by rw [hRm]; exact ⟨by decide, by decide⟩) (Nat.le_of_ble_eq_true rfl) (fun o42 v42 ρv42 Zv42 hq42 _ => ?_)
            obtain ⟨rfl, rfl, rfl, r42, rfl, hq42⟩ := hq42
            try rw [show (v11 (ρ t 0) 9) = (v (ρ t 0) 9) from (hfr11.at hwf2_ (by decide) 9).trans ((hfr1.at hwf2_ (by decide) 9).trans (rfl))] at hq42
            show wp g X F_X10_valueMix 0 0 45 [(2, t), (0, n), (0, r5), (1, mo), (3, 0), (0, to), (0, j), (1, tu), (3, 0), (0, l)] [(0, r42), (0, l)] v11 ρ Z
            first | refine r_icmp_ge (pc := 45) hX 25 (tgt := 81) rfl (by decide) (⟨by omega, by omega⟩) (⟨by omega, by omega⟩) (fun h45 => ?_) (fun h45 => ?_) | refine r_icmp_ge_any (pc := 45) hX 25 (tgt := 81) rfl (by decide) ?_ ?_
            · refine r_lload (pc := 81) hX 46 rfl rfl ?_
              refine r_lload_n (pc := 83) hX 47 rfl rfl ?_
              refine r_lcmp_any (pc := 84) hX 48 rfl (fun z84 hz84a hz84b => ?_)
              have L100 : ∀ (mo2 to2 : Int) , (-1 ≤ to2 ∧ to2 ≤ 3) → wp g X F_X10_valueMix 0 0 100 [(2, t), (0, n), (0, r5), (1, mo2), (3, 0), (0, to2), (0, j), (3, 0), (3, 0), (3, 0)] [] v11 ρ Z := by
                intro mo2 to2 it
                refine r_iinc (ls' := [(2, t), (0, n), (0, r5), (1, mo2), (3, 0), (0, to2), (0, (j + 1)), (3, 0), (3, 0), (3, 0)]) (pc := 100) hX 57 rfl rfl (by decide) rfl ?_
                refine r_goto (pc := 103) hX 58 (tgt := 21) rfl (by decide) ?_
                exact (ih21 mo2 to2 (j + 1) (by omega) (by omega))
              first | refine r_if_le (pc := 85) hX 49 (tgt := 100) rfl (by decide) (⟨by omega, by omega⟩) (fun h85 => ?_) (fun h85 => ?_) | refine r_if_le_any (pc := 85) hX 49 (tgt := 100) rfl (by decide) ?_ ?_
              · refine r_wk (ls' := [(2, t), (0, n), (0, r5), (1, mo), (3, 0), (0, to), (0, j), (3, 0), (3, 0), (3, 0)]) ⟨Or.inr rfl, Or.inr rfl, Or.inr rfl, Or.inr rfl, Or.inr rfl, Or.inr rfl, Or.inr rfl, Or.inl rfl, Or.inr rfl, Or.inl rfl, trivial⟩ ?_
                exact (L100 mo to (by omega) )
              · refine r_lload (pc := 88) hX 50 rfl rfl ?_
                refine r_lstore_n (ls' := [(2, t), (0, n), (0, r5), (1, tu), (3, 0), (0, to), (0, j), (1, tu), (3, 0), (0, l)]) (pc := 90) hX 51 rfl (by decide) rfl ?_
                refine t_getR (q := (ρ t 8)) (pc := 91) hX 52 rfl rfl rfl fl_X10_25 rfl (hH11.kd ht (by decide)) (rfl) ?_
                have hw91_ : ω (ρ t 8) = 47 := hH.rf ht (by decide) rfl
                refine r_iload (pc := 95) hX 54 rfl rfl ?_
                refine e_iald (y := (v (ρ t 8) j)) (n := 3) (pc := 97) hX 55 rfl (hH11.kd hw91_ (by decide)) (hH11.ln hw91_ (by decide)) (by omega) (by omega) ((hfr11.at hw91_ (by decide) j).trans ((hfr1.at hw91_ (by decide) j).trans (rfl))) ?_
                have hb97 : 0 ≤ (v (ρ t 8) j) ∧ (v (ρ t 8) j) ≤ 3 := hH.rg hw91_ (by decide) rfl
                refine r_istore (ls' := [(2, t), (0, n), (0, r5), (1, tu), (3, 0), (0, (v (ρ t 8) j)), (0, j), (1, tu), (3, 0), (0, l)]) (pc := 98) hX 56 rfl (by decide) rfl ?_
                refine r_wk (ls' := [(2, t), (0, n), (0, r5), (1, tu), (3, 0), (0, (v (ρ t 8) j)), (0, j), (3, 0), (3, 0), (3, 0)]) ⟨Or.inr rfl, Or.inr rfl, Or.inr rfl, Or.inr rfl, Or.inr rfl, Or.inr rfl, Or.inr rfl, Or.inl rfl, Or.inr rfl, Or.inl rfl, trivial⟩ ?_
                exact (L100 tu (v (ρ t 8) j) (by omega) )
            · refine r_lload (pc := 48) hX 26 rfl rfl ?_
              refine t_getR (q := (ρ t 17)) (pc := 50) hX 27 rfl rfl rfl fl_X10_52 rfl (hH11.kd ht (by decide)) (rfl) ?_
              have hw50_ : ω (ρ t 17) = 56 := hH.rf ht (by decide) rfl
              refine r_iload (pc := 54) hX 29 rfl rfl ?_
              refine e_lald (y := (v1 (ρ t 17) l)) (n := 3) (pc := 56) hX 30 rfl (hH11.kd hw50_ (by decide)) (hH11.ln hw50_ (by decide)) (by omega) (by omega) ((hfr11.at hw50_ (by decide) l).trans (rfl)) ?_
              refine t_getR (q := (ρ t 19)) (pc := 57) hX 31 rfl rfl rfl fl_X10_58 rfl (hH11.kd ht (by decide)) (rfl) ?_
              have hw57_ : ω (ρ t 19) = 58 := hH.rf ht (by decide) rfl
              refine r_iload (pc := 61) hX 33 rfl rfl ?_
              refine r_iconst (pc := 63) hX 34 rfl ?_
              refine r_imul (pc := 64) hX 35 rfl ?_
              refine r_iload (pc := 65) hX 36 rfl rfl ?_
              refine r_iadd (pc := 67) hX 37 rfl ?_
              refine r_aald (q := (ρ (ρ t 19) ((j * 3) + l))) (pc := 68) hX 38 20 rfl (hH11.kd hw57_ (by decide)) (by decide) (by decide) rfl rfl (by omega) (by rw [show Z.2.1 (ρ t 19) = 9 from (hH11.ln hw57_ (by decide))]; omega) (rfl) ?_
              have hw68_ : ω (ρ (ρ t 19) ((j * 3) + l)) = 59 := hH.rf hw57_ (by decide) (rf58 ⟨by omega, by omega⟩)
              refine r_iload_n (pc := 69) hX 39 rfl rfl ?_
              refine e_lald (y := (v (ρ (ρ t 19) ((j * 3) + l)) r5)) (n := 729) (pc := 70) hX 40 rfl (hH11.kd hw68_ (by decide)) (hH11.ln hw68_ (by decide)) (by omega) (by omega) ((hfr11.at hw68_ (by decide) r5).trans ((hfr1.at hw68_ (by decide) r5).trans (rfl))) ?_
              refine r_lmul (pc := 71) hX 41 rfl ?_
              refine r_ladd (pc := 72) hX 42 rfl ?_
              refine r_lstore (ls' := [(2, t), (0, n), (0, r5), (1, mo), (3, 0), (0, to), (0, j), (1, (tu + ((v1 (ρ t 17) l) * (v (ρ (ρ t 19) ((j * 3) + l)) r5)))), (3, 0), (0, l)]) (pc := 73) hX 43 rfl (by decide) rfl ?_
              refine r_iinc (ls' := [(2, t), (0, n), (0, r5), (1, mo), (3, 0), (0, to), (0, j), (1, (tu + ((v1 (ρ t 17) l) * (v (ρ (ρ t 19) ((j * 3) + l)) r5)))), (3, 0), (0, (l + 1))]) (pc := 75) hX 44 rfl rfl (by decide) rfl ?_
              refine r_goto (pc := 78) hX 45 (tgt := 36) rfl (by decide) ?_
              exact (ih36 (tu + ((v1 (ρ t 17) l) * (v (ρ (ρ t 19) ((j * 3) + l)) r5))) (l + 1) (by omega) (by omega))
        exact (L36 _ 0 0 (by omega) (Nat.lt_succ_self _))
  exact (L21 _ r11 (-1) 0 (by omega) (Nat.lt_succ_self _))
set_option maxHeartbeats 4000000 in
set_option maxRecDepth 100000 in
theorem c_X10_valueMixes (g : Gp) (ω : Rw) (v ρ : Mv) (Z : Mz) (hH : HT ω v ρ Z) (t : Int) (ht : ω t = 45) (n : Int) (hn : 1 ≤ n ∧ n ≤ 12) (hinj : InjI (v (ρ t 7))) (hlim : LimI (v (ρ t 7)) (v (ρ t 11)) (v (ρ (ρ t 0) 1))) : Ok g 5 0 0 F_X10_valueMixes [(2, t), (0, n)] v ρ Z (fun o9 v' ρ' Z' => ρ = ρ' ∧ Z = Z' ∧ FrW ω [45, 51, 52, 56, 57] v v' ∧ HT ω v' ρ Z ∧ o9 = none ∧ True) := by
  refine Ok.of mo_X10_valueMixes (Nat.le_of_ble_eq_true rfl) ?_
  intro X hX hRm hxn hQ
  show wp g X F_X10_valueMixes 0 0 0 [(2, t), (0, n), (3, 0), (3, 0), (3, 0), (3, 0), (3, 0)] [] v ρ Z
  have hg6 : 0 ≤ v t 6 ∧ v t 6 ≤ 12 := hH.rg ht (by decide) rfl
  refine t_getI (y := (v t 6)) (pc := 0) hX 0 rfl rfl rfl fl_X10_72 rfl (hH.kd ht (by decide)) (rfl) ?_
  have hb0 : 0 ≤ (v t 6) ∧ (v t 6) ≤ 12 := hH.rg ht (by decide) rfl
  refine r_iload_n (pc := 4) hX 2 rfl rfl ?_
  refine r_isub (pc := 5) hX 3 rfl ?_
  refine r_istore_n (ls' := [(2, t), (0, n), (0, ((v t 6) - n)), (3, 0), (3, 0), (3, 0), (3, 0)]) (pc := 6) hX 4 rfl (by decide) rfl ?_
  refine r_iconst (pc := 7) hX 5 rfl ?_
  refine r_istore_n (ls' := [(2, t), (0, n), (0, ((v t 6) - n)), (0, 0), (3, 0), (3, 0), (3, 0)]) (pc := 8) hX 6 rfl (by decide) rfl ?_
  have L9 : ∀ (n9 : Nat) (i : Int) (v9 : Mv) , (FrW ω [45, 51, 52, 56, 57] v v9) → (HT ω v9 ρ Z) → (0 ≤ i ∧ i ≤ 13) → (13 - i).toNat < n9 → wp g X F_X10_valueMixes 0 0 9 [(2, t), (0, n), (0, ((v t 6) - n)), (0, i), (3, 0), (3, 0), (3, 0)] [] v9 ρ Z := by
    intro n9
    induction n9 with
    | zero => intro i v9 hfr9 hH9 ii hme9; exact absurd hme9 (Nat.not_lt_zero _)
    | succ n9 ih9 =>
      intro i v9 hfr9 hH9 ii hme9
      refine r_iload_n (pc := 9) hX 7 rfl rfl ?_
      refine t_getR (q := (ρ t 11)) (pc := 10) hX 8 rfl rfl rfl fl_X10_31 rfl (hH9.kd ht (by decide)) (rfl) ?_
      have hw10_ : ω (ρ t 11) = 49 := hH.rf ht (by decide) rfl
      refine r_iconst (pc := 14) hX 10 rfl ?_
      refine e_iald (y := (v (ρ t 11) 0)) (n := 4) (pc := 15) hX 11 rfl (hH9.kd hw10_ (by decide)) (hH9.ln hw10_ (by decide)) (by omega) (by omega) ((hfr9.at hw10_ (by decide) 0).trans (rfl)) ?_
      have hb15 : (-11) ≤ (v (ρ t 11) 0) ∧ (v (ρ t 11) 0) ≤ 12 := hH.rg hw10_ (by decide) rfl
      refine r_iload_n (pc := 16) hX 12 rfl rfl ?_
      refine r_mmin (pc := 17) hX 13 rfl ml_X10_114 ⟨by omega, by omega⟩ ⟨by omega, by omega⟩ (by rw [hRm]; exact ⟨by decide, by decide, by decide, by decide⟩) (Nat.le_of_ble_eq_true rfl) (fun z17 hz17 => ?_)
      first | refine r_icmp_gt (pc := 20) hX 14 (tgt := 170) rfl (by decide) (⟨by omega, by omega⟩) (⟨by omega, by omega⟩) (fun h20 => ?_) (fun h20 => ?_) | refine r_icmp_gt_any (pc := 20) hX 14 (tgt := 170) rfl (by decide) ?_ ?_
      · exact r_vret (pc := 170) hX 101 hQ rfl rfl (Nat.le_refl 0) (Nat.le_refl 0) ⟨rfl, rfl, hfr9, hH9, rfl, trivial⟩
      · refine r_iconst (pc := 23) hX 15 rfl ?_
        refine r_istore (ls' := [(2, t), (0, n), (0, ((v t 6) - n)), (0, i), (0, 0), (3, 0), (3, 0)]) (pc := 24) hX 16 rfl (by decide) rfl ?_
        have L26 : ∀ (n26 : Nat) (j : Int) (v26 : Mv) , (FrW ω [45, 51, 52, 56, 57] v v26) → (HT ω v26 ρ Z) → (0 ≤ j ∧ j ≤ 13) → (13 - j).toNat < n26 → wp g X F_X10_valueMixes 0 0 26 [(2, t), (0, n), (0, ((v t 6) - n)), (0, i), (0, j), (3, 0), (3, 0)] [] v26 ρ Z := by
          intro n26
          induction n26 with
          | zero => intro j v26 hfr26 hH26 ij hme26; exact absurd hme26 (Nat.not_lt_zero _)
          | succ n26 ih26 =>
            intro j v26 hfr26 hH26 ij hme26
            refine r_iload (pc := 26) hX 17 rfl rfl ?_
            refine t_getR (q := (ρ t 11)) (pc := 28) hX 18 rfl rfl rfl fl_X10_31 rfl (hH26.kd ht (by decide)) (rfl) ?_
            refine r_iconst (pc := 32) hX 20 rfl ?_
            refine e_iald (y := (v (ρ t 11) 1)) (n := 4) (pc := 33) hX 21 rfl (hH26.kd hw10_ (by decide)) (hH26.ln hw10_ (by decide)) (by omega) (by omega) ((hfr26.at hw10_ (by decide) 1).trans (rfl)) ?_
            have hb33 : (-11) ≤ (v (ρ t 11) 1) ∧ (v (ρ t 11) 1) ≤ 12 := hH.rg hw10_ (by decide) rfl
            refine r_iload_n (pc := 34) hX 22 rfl rfl ?_
            refine r_iload_n (pc := 35) hX 23 rfl rfl ?_
            refine r_isub (pc := 36) hX 24 rfl ?_
            refine r_mmin (pc := 37) hX 25 rfl ml_X10_114 ⟨by omega, by omega⟩ ⟨by omega, by omega⟩ (by rw [hRm]; exact ⟨by decide, by decide, by decide, by decide⟩) (Nat.le_of_ble_eq_true rfl) (fun z37 hz37 => ?_)
            first | refine r_icmp_gt (pc := 40) hX 26 (tgt := 164) rfl (by decide) (⟨by omega, by omega⟩) (⟨by omega, by omega⟩) (fun h40 => ?_) (fun h40 => ?_) | refine r_icmp_gt_any (pc := 40) hX 26 (tgt := 164) rfl (by decide) ?_ ?_
            · refine r_iinc (ls' := [(2, t), (0, n), (0, ((v t 6) - n)), (0, (i + 1)), (0, j), (3, 0), (3, 0)]) (pc := 164) hX 99 rfl rfl (by decide) rfl ?_
              refine r_goto (pc := 167) hX 100 (tgt := 9) rfl (by decide) ?_
              refine r_wk (ls' := [(2, t), (0, n), (0, ((v t 6) - n)), (0, (i + 1)), (3, 0), (3, 0), (3, 0)]) ⟨Or.inr rfl, Or.inr rfl, Or.inr rfl, Or.inr rfl, Or.inl rfl, Or.inr rfl, Or.inr rfl, trivial⟩ ?_
              exact (ih9 (i + 1) v26 (hfr26) (hH26) (by omega) (by omega))
            · refine r_iconst (pc := 43) hX 27 rfl ?_
              refine r_istore (ls' := [(2, t), (0, n), (0, ((v t 6) - n)), (0, i), (0, j), (0, 0), (3, 0)]) (pc := 44) hX 28 rfl (by decide) rfl ?_
              have L46 : ∀ (n46 : Nat) (k : Int) (v46 : Mv) , (FrW ω [45, 51, 52, 56, 57] v v46) → (HT ω v46 ρ Z) → (0 ≤ k ∧ k ≤ 13) → (13 - k).toNat < n46 → wp g X F_X10_valueMixes 0 0 46 [(2, t), (0, n), (0, ((v t 6) - n)), (0, i), (0, j), (0, k), (3, 0)] [] v46 ρ Z := by
                intro n46
                induction n46 with
                | zero => intro k v46 hfr46 hH46 ik hme46; exact absurd hme46 (Nat.not_lt_zero _)
                | succ n46 ih46 =>
                  intro k v46 hfr46 hH46 ik hme46
                  refine r_iload (pc := 46) hX 29 rfl rfl ?_
                  refine t_getR (q := (ρ t 11)) (pc := 48) hX 30 rfl rfl rfl fl_X10_31 rfl (hH46.kd ht (by decide)) (rfl) ?_
                  refine r_iconst (pc := 52) hX 32 rfl ?_
                  refine e_iald (y := (v (ρ t 11) 2)) (n := 4) (pc := 53) hX 33 rfl (hH46.kd hw10_ (by decide)) (hH46.ln hw10_ (by decide)) (by omega) (by omega) ((hfr46.at hw10_ (by decide) 2).trans (rfl)) ?_
                  have hb53 : (-11) ≤ (v (ρ t 11) 2) ∧ (v (ρ t 11) 2) ≤ 12 := hH.rg hw10_ (by decide) rfl
                  refine r_iload_n (pc := 54) hX 34 rfl rfl ?_
                  refine r_iload_n (pc := 55) hX 35 rfl rfl ?_
                  refine r_isub (pc := 56) hX 36 rfl ?_
                  refine r_iload (pc := 57) hX 37 rfl rfl ?_
                  refine r_isub (pc := 59) hX 38 rfl ?_
                  refine r_mmin (pc := 60) hX 39 rfl ml_X10_114 ⟨by omega, by omega⟩ ⟨by omega, by omega⟩ (by rw [hRm]; exact ⟨by decide, by decide, by decide, by decide⟩) (Nat.le_of_ble_eq_true rfl) (fun z60 hz60 => ?_)
                  first | refine r_icmp_gt (pc := 63) hX 40 (tgt := 158) rfl (by decide) (⟨by omega, by omega⟩) (⟨by omega, by omega⟩) (fun h63 => ?_) (fun h63 => ?_) | refine r_icmp_gt_any (pc := 63) hX 40 (tgt := 158) rfl (by decide) ?_ ?_
                  · refine r_iinc (ls' := [(2, t), (0, n), (0, ((v t 6) - n)), (0, i), (0, (j + 1)), (0, k), (3, 0)]) (pc := 158) hX 97 rfl rfl (by decide) rfl ?_
                    refine r_goto (pc := 161) hX 98 (tgt := 26) rfl (by decide) ?_
                    refine r_wk (ls' := [(2, t), (0, n), (0, ((v t 6) - n)), (0, i), (0, (j + 1)), (3, 0), (3, 0)]) ⟨Or.inr rfl, Or.inr rfl, Or.inr rfl, Or.inr rfl, Or.inr rfl, Or.inl rfl, Or.inr rfl, trivial⟩ ?_
                    exact (ih26 (j + 1) v46 (hfr46) (hH46) (by omega) (by omega))
                  · refine r_iconst (pc := 66) hX 41 rfl ?_
                    refine r_istore (ls' := [(2, t), (0, n), (0, ((v t 6) - n)), (0, i), (0, j), (0, k), (0, 0)]) (pc := 67) hX 42 rfl (by decide) rfl ?_
                    have L69 : ∀ (n69 : Nat) (m : Int) (v69 : Mv) , (FrW ω [45, 51, 52, 56, 57] v v69) → (HT ω v69 ρ Z) → (0 ≤ m ∧ m ≤ 13) → (13 - m).toNat < n69 → wp g X F_X10_valueMixes 0 0 69 [(2, t), (0, n), (0, ((v t 6) - n)), (0, i), (0, j), (0, k), (0, m)] [] v69 ρ Z := by
                      intro n69
                      induction n69 with
                      | zero => intro m v69 hfr69 hH69 im hme69; exact absurd hme69 (Nat.not_lt_zero _)
                      | succ n69 ih69 =>
                        intro m v69 hfr69 hH69 im hme69
                        refine r_iload (pc := 69) hX 43 rfl rfl ?_
                        refine t_getR (q := (ρ t 11)) (pc := 71) hX 44 rfl rfl rfl fl_X10_31 rfl (hH69.kd ht (by decide)) (rfl) ?_
                        refine r_iconst (pc := 75) hX 46 rfl ?_
                        refine e_iald (y := (v (ρ t 11) 3)) (n := 4) (pc := 76) hX 47 rfl (hH69.kd hw10_ (by decide)) (hH69.ln hw10_ (by decide)) (by omega) (by omega) ((hfr69.at hw10_ (by decide) 3).trans (rfl)) ?_
                        have hb76 : (-11) ≤ (v (ρ t 11) 3) ∧ (v (ρ t 11) 3) ≤ 12 := hH.rg hw10_ (by decide) rfl
                        refine r_iload_n (pc := 77) hX 48 rfl rfl ?_
                        refine r_iload_n (pc := 78) hX 49 rfl rfl ?_
                        refine r_isub (pc := 79) hX 50 rfl ?_
                        refine r_iload (pc := 80) hX 51 rfl rfl ?_
                        refine r_isub (pc := 82) hX 52 rfl ?_
                        refine r_iload (pc := 83) hX 53 rfl rfl ?_
                        refine r_isub (pc := 85) hX 54 rfl ?_
                        refine r_mmin (pc := 86) hX 55 rfl ml_X10_114 ⟨by omega, by omega⟩ ⟨by omega, by omega⟩ (by rw [hRm]; exact ⟨by decide, by decide, by decide, by decide⟩) (Nat.le_of_ble_eq_true rfl) (fun z86 hz86 => ?_)
                        first | refine r_icmp_gt (pc := 89) hX 56 (tgt := 152) rfl (by decide) (⟨by omega, by omega⟩) (⟨by omega, by omega⟩) (fun h89 => ?_) (fun h89 => ?_) | refine r_icmp_gt_any (pc := 89) hX 56 (tgt := 152) rfl (by decide) ?_ ?_
                        · refine r_iinc (ls' := [(2, t), (0, n), (0, ((v t 6) - n)), (0, i), (0, j), (0, (k + 1)), (0, m)]) (pc := 152) hX 95 rfl rfl (by decide) rfl ?_
                          refine r_goto (pc := 155) hX 96 (tgt := 46) rfl (by decide) ?_
                          refine r_wk (ls' := [(2, t), (0, n), (0, ((v t 6) - n)), (0, i), (0, j), (0, (k + 1)), (3, 0)]) ⟨Or.inr rfl, Or.inr rfl, Or.inr rfl, Or.inr rfl, Or.inr rfl, Or.inr rfl, Or.inl rfl, trivial⟩ ?_
                          exact (ih46 (k + 1) v69 (hfr69) (hH69) (by omega) (by omega))
                        · refine t_getR (q := (ρ t 14)) (pc := 92) hX 57 rfl rfl rfl fl_X10_40 rfl (hH69.kd ht (by decide)) (rfl) ?_
                          have hw92_ : ω (ρ t 14) = 52 := hH.rf ht (by decide) rfl
                          refine r_iconst (pc := 96) hX 59 rfl ?_
                          refine r_iload_n (pc := 97) hX 60 rfl rfl ?_
                          refine e_iast (n := 5) (pc := 98) hX 61 rfl (hH69.kd hw92_ (by decide)) (hH69.ln hw92_ (by decide)) (hH69.g4 hw92_ (by decide)) (by omega) (by omega) ?_
                          have hH_98 : HT ω (up v69 (ρ t 14) 0 i) ρ Z := hH69.up0 hw92_ (by decide) rfl
                          refine t_getR (q := (ρ t 14)) (pc := 99) hX 62 rfl rfl rfl fl_X10_40 rfl (hH_98.kd ht (by decide)) (rfl) ?_
                          refine r_iconst (pc := 103) hX 64 rfl ?_
                          refine r_iload (pc := 104) hX 65 rfl rfl ?_
                          refine e_iast (n := 5) (pc := 106) hX 66 rfl (hH_98.kd hw92_ (by decide)) (hH_98.ln hw92_ (by decide)) (hH_98.g4 hw92_ (by decide)) (by omega) (by omega) ?_
                          have hH_106 : HT ω (up (up v69 (ρ t 14) 0 i) (ρ t 14) 1 j) ρ Z := hH_98.up0 hw92_ (by decide) rfl
                          refine t_getR (q := (ρ t 14)) (pc := 107) hX 67 rfl rfl rfl fl_X10_40 rfl (hH_106.kd ht (by decide)) (rfl) ?_
                          refine r_iconst (pc := 111) hX 69 rfl ?_
                          refine r_iload (pc := 112) hX 70 rfl rfl ?_
                          refine e_iast (n := 5) (pc := 114) hX 71 rfl (hH_106.kd hw92_ (by decide)) (hH_106.ln hw92_ (by decide)) (hH_106.g4 hw92_ (by decide)) (by omega) (by omega) ?_
                          have hH_114 : HT ω (up (up (up v69 (ρ t 14) 0 i) (ρ t 14) 1 j) (ρ t 14) 2 k) ρ Z := hH_106.up0 hw92_ (by decide) rfl
                          refine t_getR (q := (ρ t 14)) (pc := 115) hX 72 rfl rfl rfl fl_X10_40 rfl (hH_114.kd ht (by decide)) (rfl) ?_
                          refine r_iconst (pc := 119) hX 74 rfl ?_
                          refine r_iload (pc := 120) hX 75 rfl rfl ?_
                          refine e_iast (n := 5) (pc := 122) hX 76 rfl (hH_114.kd hw92_ (by decide)) (hH_114.ln hw92_ (by decide)) (hH_114.g4 hw92_ (by decide)) (by omega) (by omega) ?_
                          have hH_122 : HT ω (up (up (up (up v69 (ρ t 14) 0 i) (ρ t 14) 1 j) (ρ t 14) 2 k) (ρ t 14) 3 m) ρ Z := hH_114.up0 hw92_ (by decide) rfl
                          refine t_getR (q := (ρ t 14)) (pc := 123) hX 77 rfl rfl rfl fl_X10_40 rfl (hH_122.kd ht (by decide)) (rfl) ?_
                          refine r_iconst (pc := 127) hX 79 rfl ?_
                          refine r_iload_n (pc := 128) hX 80 rfl rfl ?_
                          refine r_iload_n (pc := 129) hX 81 rfl rfl ?_
                          refine r_isub (pc := 130) hX 82 rfl ?_
                          refine r_iload (pc := 131) hX 83 rfl rfl ?_
                          refine r_isub (pc := 133) hX 84 rfl ?_
                          refine r_iload (pc := 134) hX 85 rfl rfl ?_
                          refine r_isub (pc := 136) hX 86 rfl ?_
                          refine r_iload (pc := 137) hX 87 rfl rfl ?_
                          refine r_isub (pc := 139) hX 88 rfl ?_
                          refine e_iast (n := 5) (pc := 140) hX 89 rfl (hH_122.kd hw92_ (by decide)) (hH_122.ln hw92_ (by decide)) (hH_122.g4 hw92_ (by decide)) (by omega) (by omega) ?_
                          have hH_140 : HT ω (up (up (up (up (up v69 (ρ t 14) 0 i) (ρ t 14) 1 j) (ρ t 14) 2 k) (ρ t 14) 3 m) (ρ t 14) 4 ((((((v t 6) - n) - i) - j) - k) - m)) ρ Z := hH_122.up0 hw92_ (by decide) rfl
                          refine r_aload_n (pc := 141) hX 90 rfl rfl ?_
                          refine r_iload_n (pc := 142) hX 91 rfl rfl ?_
                          have hw143_ : ω (ρ t 7) = 46 := hH.rf ht (by decide) rfl
                          have hwf1_ : ω (ρ t 0) = 5 := hH.rf ht (by decide) rfl
                          have hwf2_ : ω (ρ (ρ t 0) 1) = 9 := hH.rf hwf1_ (by decide) rfl
                          refine r_callV (as := [(0, n)]) (st := []) (K := 10) (pc := 143) hX 92 rfl mo_X10_valueMix ml_X10_175 im_X10_valueMix se_X10_valueMix (c_X10_valueMix g ω (up (up (up (up (up v69 (ρ t 14) 0 i) (ρ t 14) 1 j) (ρ t 14) 2 k) (ρ t 14) 3 m) (ρ t 14) 4 ((((((v t 6) - n) - i) - j) - k) - m)) ρ Z hH_140 t ht (n) (by omega) (by rw [show ((up (up (up (up (up v69 (ρ t 14) 0 i) (ρ t 14) 1 j) (ρ t 14) 2 k) (ρ t 14) 3 m) (ρ t 14) 4 ((((((v t 6) - n) - i) - j) - k) - m)) (ρ t 7)) = (v (ρ t 7)) from (up_f (rne hw143_ hw92_ (by decide))).trans ((up_f (rne hw143_ hw92_ (by decide))).trans ((up_f (rne hw143_ hw92_ (by decide))).trans ((up_f (rne hw143_ hw92_ (by decide))).trans ((up_f (rne hw143_ hw92_ (by decide))).trans ((hfr69.rw hw143_ (by decide)).trans (rfl))))))]; exact hinj) (by rw [show ((up (up (up (up (up v69 (ρ t 14) 0 i) (ρ t 14) 1 j) (ρ t 14) 2 k) (ρ t 14) 3 m) (ρ t 14) 4 ((((((v t 6) - n) - i) - j) - k) - m)) (ρ t 11)) = (v (ρ t 11)) from (up_f (rne hw10_ hw92_ (by decide))).trans ((up_f (rne hw10_ hw92_ (by decide))).trans ((up_f (rne hw10_ hw92_ (by decide))).trans ((up_f (rne hw10_ hw92_ (by decide))).trans ((up_f (rne hw10_ hw92_ (by decide))).trans ((hfr69.rw hw10_ (by decide)).trans (rfl))))))]; rw [show ((up (up (up (up (up v69 (ρ t 14) 0 i) (ρ t 14) 1 j) (ρ t 14) 2 k) (ρ t 14) 3 m) (ρ t 14) 4 ((((((v t 6) - n) - i) - j) - k) - m)) (ρ t 7)) = (v (ρ t 7)) from (up_f (rne hw143_ hw92_ (by decide))).trans ((up_f (rne hw143_ hw92_ (by decide))).trans ((up_f (rne hw143_ hw92_ (by decide))).trans ((up_f (rne hw143_ hw92_ (by decide))).trans ((up_f (rne hw143_ hw92_ (by decide))).trans ((hfr69.rw hw143_ (by decide)).trans (rfl))))))]; rw [show ((up (up (up (up (up v69 (ρ t 14) 0 i) (ρ t 14) 1 j) (ρ t 14) 2 k) (ρ t 14) 3 m) (ρ t 14) 4 ((((((v t 6) - n) - i) - j) - k) - m)) (ρ (ρ t 0) 1)) = (v (ρ (ρ t 0) 1)) from (up_f (rne hwf2_ hw92_ (by decide))).trans ((up_f (rne hwf2_ hw92_ (by decide))).trans ((up_f (rne hwf2_ hw92_ (by decide))).trans ((up_f (rne hwf2_ hw92_ (by decide))).trans ((up_f (rne hwf2_ hw92_ (by decide))).trans ((hfr69.rw hwf2_ (by decide)).trans (rfl))))))]; exact hlim) (by rw [show ((up (up (up (up (up v69 (ρ t 14) 0 i) (ρ t 14) 1 j) (ρ t 14) 2 k) (ρ t 14) 3 m) (ρ t 14) 4 ((((((v t 6) - n) - i) - j) - k) - m)) (ρ t 14) 0) = i from (up_k (by decide)).trans ((up_k (by decide)).trans ((up_k (by decide)).trans ((up_k (by decide)).trans (up_s _ _ _ _))))]; rw [show ((up (up (up (up (up v69 (ρ t 14) 0 i) (ρ t 14) 1 j) (ρ t 14) 2 k) (ρ t 14) 3 m) (ρ t 14) 4 ((((((v t 6) - n) - i) - j) - k) - m)) (ρ t 14) 1) = j from (up_k (by decide)).trans ((up_k (by decide)).trans ((up_k (by decide)).trans (up_s _ _ _ _)))]; rw [show ((up (up (up (up (up v69 (ρ t 14) 0 i) (ρ t 14) 1 j) (ρ t 14) 2 k) (ρ t 14) 3 m) (ρ t 14) 4 ((((((v t 6) - n) - i) - j) - k) - m)) (ρ t 14) 2) = k from (up_k (by decide)).trans ((up_k (by decide)).trans (up_s _ _ _ _))]; rw [show ((up (up (up (up (up v69 (ρ t 14) 0 i) (ρ t 14) 1 j) (ρ t 14) 2 k) (ρ t 14) 3 m) (ρ t 14) 4 ((((((v t 6) - n) - i) - j) - k) - m)) (ρ t 14) 3) = m from (up_k (by decide)).trans (up_s _ _ _ _)]; rw [show ((up (up (up (up (up v69 (ρ t 14) 0 i) (ρ t 14) 1 j) (ρ t 14) 2 k) (ρ t 14) 3 m) (ρ t 14) 4 ((((((v t 6) - n) - i) - j) - k) - m)) (ρ t 14) 4) = ((((((v t 6) - n) - i) - j) - k) - m) from up_s _ _ _ _]; omega) (by rw [show ((up (up (up (up (up v69 (ρ t 14) 0 i) (ρ t 14) 1 j) (ρ t 14) 2 k) (ρ t 14) 3 m) (ρ t 14) 4 ((((((v t 6) - n) - i) - j) - k) - m)) (ρ t 11) 0) = (v (ρ t 11) 0) from (up_k (by decide)).trans ((up_k (by decide)).trans ((up_k (by decide)).trans ((up_k (by decide)).trans ((up_r (rne hw10_ hw92_ (by decide))).trans ((hfr69.at hw10_ (by decide) 0).trans (rfl))))))]; rw [show ((up (up (up (up (up v69 (ρ t 14) 0 i) (ρ t 14) 1 j) (ρ t 14) 2 k) (ρ t 14) 3 m) (ρ t 14) 4 ((((((v t 6) - n) - i) - j) - k) - m)) (ρ t 11) 1) = (v (ρ t 11) 1) from (up_k (by decide)).trans ((up_k (by decide)).trans ((up_k (by decide)).trans ((up_r (rne hw10_ hw92_ (by decide))).trans ((up_k (by decide)).trans ((hfr69.at hw10_ (by decide) 1).trans (rfl))))))]; rw [show ((up (up (up (up (up v69 (ρ t 14) 0 i) (ρ t 14) 1 j) (ρ t 14) 2 k) (ρ t 14) 3 m) (ρ t 14) 4 ((((((v t 6) - n) - i) - j) - k) - m)) (ρ t 11) 2) = (v (ρ t 11) 2) from (up_k (by decide)).trans ((up_k (by decide)).trans ((up_r (rne hw10_ hw92_ (by decide))).trans ((up_k (by decide)).trans ((up_k (by decide)).trans ((hfr69.at hw10_ (by decide) 2).trans (rfl))))))]; rw [show ((up (up (up (up (up v69 (ρ t 14) 0 i) (ρ t 14) 1 j) (ρ t 14) 2 k) (ρ t 14) 3 m) (ρ t 14) 4 ((((((v t 6) - n) - i) - j) - k) - m)) (ρ t 11) 3) = (v (ρ t 11) 3) from (up_k (by decide)).trans ((up_r (rne hw10_ hw92_ (by decide))).trans ((up_k (by decide)).trans ((up_k (by decide)).trans ((up_k (by decide)).trans ((hfr69.at hw10_ (by decide) 3).trans (rfl))))))]; rw [show ((up (up (up (up (up v69 (ρ t 14) 0 i) (ρ t 14) 1 j) (ρ t 14) 2 k) (ρ t 14) 3 m) (ρ t 14) 4 ((((((v t 6) - n) - i) - j) - k) - m)) (ρ t 14) 0) = i from (up_k (by decide)).trans ((up_k (by decide)).trans ((up_k (by decide)).trans ((up_k (by decide)).trans (up_s _ _ _ _))))]; rw [show ((up (up (up (up (up v69 (ρ t 14) 0 i) (ρ t 14) 1 j) (ρ t 14) 2 k) (ρ t 14) 3 m) (ρ t 14) 4 ((((((v t 6) - n) - i) - j) - k) - m)) (ρ t 14) 1) = j from (up_k (by decide)).trans ((up_k (by decide)).trans ((up_k (by decide)).trans (up_s _ _ _ _)))]; rw [show ((up (up (up (up (up v69 (ρ t 14) 0 i) (ρ t 14) 1 j) (ρ t 14) 2 k) (ρ t 14) 3 m) (ρ t 14) 4 ((((((v t 6) - n) - i) - j) - k) - m)) (ρ t 14) 2) = k from (up_k (by decide)).trans ((up_k (by decide)).trans (up_s _ _ _ _))]; rw [show ((up (up (up (up (up v69 (ρ t 14) 0 i) (ρ t 14) 1 j) (ρ t 14) 2 k) (ρ t 14) 3 m) (ρ t 14) 4 ((((((v t 6) - n) - i) - j) - k) - m)) (ρ t 14) 3) = m from (up_k (by decide)).trans (up_s _ _ _ _)]; omega)) rfl rfl rfl (hH_140.kd ht (by decide)) (by rw [hRm]; exact ⟨by decide, by decide⟩) (by rw [hRm]; exact ⟨by decide, by decide⟩) (Nat.le_of_ble_eq_true rfl) (fun o143 v143 ρv143 Zv143 hq143 _ => ?_)
                          obtain ⟨rfl, rfl, hfr143, hH143, rfl, hq143⟩ := hq143
                          show wp g X F_X10_valueMixes 0 0 146 [(2, t), (0, n), (0, ((v t 6) - n)), (0, i), (0, j), (0, k), (0, m)] [] v143 ρ Z
                          refine r_iinc (ls' := [(2, t), (0, n), (0, ((v t 6) - n)), (0, i), (0, j), (0, k), (0, (m + 1))]) (pc := 146) hX 93 rfl rfl (by decide) rfl ?_
                          refine r_goto (pc := 149) hX 94 (tgt := 69) rfl (by decide) ?_
                          exact (ih69 (m + 1) v143 (((((((hfr69).up (r := (ρ t 14)) hw92_ (by decide)).up (r := (ρ t 14)) hw92_ (by decide)).up (r := (ρ t 14)) hw92_ (by decide)).up (r := (ρ t 14)) hw92_ (by decide)).up (r := (ρ t 14)) hw92_ (by decide)).tr hfr143 (by decide)) (hH143) (by omega) (by omega))
                    exact (L69 _ 0 v46 (hfr46) (hH46) (by omega) (Nat.lt_succ_self _))
              exact (L46 _ 0 v26 (hfr26) (hH26) (by omega) (Nat.lt_succ_self _))
        exact (L26 _ 0 v9 (hfr9) (hH9) (by omega) (Nat.lt_succ_self _))
  exact (L9 _ 0 v (FrW.rf) (hH) (by omega) (Nat.lt_succ_self _))
