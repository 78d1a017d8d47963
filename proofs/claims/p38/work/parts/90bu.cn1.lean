set_option maxHeartbeats 4000000 in
set_option maxRecDepth 100000 in
theorem c_X11_sentenceG (g : Gp) (ω : Rw) (v ρ : Mv) (Z : Mz) (hH : HT ω v ρ Z) (t : Int) (ht : ω t = 1)  : Ok g 27 4 125 F_X11_sentence [(2, t)] v ρ Z (fun o9 v' ρ' Z' => ∃ ω' : Rw, OmX Z.2.2 ω ω' ∧ ZzX Z.2.2 Z Z' ∧ FrB Z.2.2 ω [2, 19, 20] v v' ∧ FrB Z.2.2 ω [1, 21] ρ ρ' ∧ HT ω' v' ρ' Z' ∧ ∃ r : Int, o9 = some (0, r) ∧ (v' (ρ' t 0) 1 = 0) ∧ (ρ' t 0 = ρ t 0 ∧ ρ' t 13 = ρ t 13) ∧ (ρ' t 1 = ρ t 1) ∧ (∀ j, j ≠ 17 → ρ' t j = ρ t j)) := by
  refine Ok.of mo_X11_sentence (Nat.le_of_ble_eq_true rfl) ?_
  intro X hX hRm hxn hQ
  show wp g X F_X11_sentence 0 0 0 [(2, t), (3, 0)] [] v ρ Z
  have htz := hH.lt ht (by decide)
  have ht0 := ht
  refine t_getR (q := (ρ t 3)) (pc := 0) hX 0 rfl rfl rfl fl_X11_35 rfl (hH.kd ht (by decide)) (rfl) ?_
  have hw0_ : ω (ρ t 3) = 21 := hH.rf ht (by decide) rfl
  refine t_getR (q := (ρ t 4)) (pc := 4) hX 2 rfl rfl rfl fl_X11_47 rfl (hH.kd ht (by decide)) (rfl) ?_
  have hw4_ : ω (ρ t 4) = 22 := hH.rf ht (by decide) rfl
  refine r_getR (q := (ρ (ρ t 4) 0)) (pc := 8) hX 4 rfl fl_X11_51 rfl (hH.kd hw4_ (by decide)) (rfl) ?_
  have hw8_ : ω (ρ (ρ t 4) 0) = 5 := hH.rf hw4_ (by decide) rfl
  refine r_callV (as := [(2, (ρ (ρ t 4) 0))]) (st := []) (K := 7) (pc := 11) hX 5 rfl mo_X7_read ml_X11_373 im_X7_read se_X7_read (c_X7_read g ω v ρ Z hH (ρ t 3) hw0_ (ρ (ρ t 4) 0) hw8_ ) rfl rfl rfl (hH.kd hw0_ (by decide)) (by rw [hRm]; exact ⟨by decide, by decide⟩) (by rw [hRm]; exact ⟨by decide, by decide⟩) (Nat.le_of_ble_eq_true rfl) (fun o11 v11 ρv11 Zv11 hq11 _ => ?_)
  obtain ⟨ωv11, homv11, hzzv11, hfr11, hfrR11, hH11, r11, rfl, hq11⟩ := hq11
  replace ht : ωv11 t = 1 := (homv11 t (hH.lt ht (by decide))).trans ht
  replace hw0_ : ωv11 (ρ t 3) = 21 := (homv11 (ρ t 3) (hH.lt hw0_ (by decide))).trans hw0_
  replace hw4_ : ωv11 (ρ t 4) = 22 := (homv11 (ρ t 4) (hH.lt hw4_ (by decide))).trans hw4_
  replace hw8_ : ωv11 (ρ (ρ t 4) 0) = 5 := (homv11 (ρ (ρ t 4) 0) (hH.lt hw8_ (by decide))).trans hw8_
  show wp g X F_X11_sentence 4 125 14 [(2, t), (3, 0)] [(2, r11)] v11 ρv11 Zv11
  refine r_astore_n (ls' := [(2, t), (2, r11)]) (pc := 14) hX 6 rfl (by decide) rfl ?_
  refine t_getR (q := (ρv11 t 0)) (pc := 15) hX 7 rfl rfl rfl fl_X11_12 rfl (hH11.kd ht (by decide)) (rfl) ?_
  have hw15_ : ωv11 (ρv11 t 0) = 2 := hH11.rf ht (by decide) rfl
  refine r_iconst (pc := 19) hX 9 rfl ?_
  refine r_putI (pc := 20) hX 10 rfl fl_X11_123 rfl (fun _ h => by cases h; rfl) (hH11.kd hw15_ (by decide)) (hH11.g4 hw15_ (by decide)) ?_
  have hH_20 : HT ωv11 (up v11 (ρv11 t 0) 1 0) ρv11 Zv11 := hH11.upR hw15_ (by decide) rfl (by omega) (by omega)
  show wp g X F_X11_sentence 4 125 23 [(2, t), (2, r11)] [] (up v11 (ρv11 t 0) 1 0) ρv11 Zv11
  refine r_aload_n (pc := 23) hX 11 rfl rfl ?_
  refine r_ifnonnull (pc := 24) hX 12 (tgt := 37) rfl (by decide) (fun h24 => ?_) (fun h24 => ?_)
  · have hwf1_ : ωv11 r11 = 19 := hq11.resolve_left (by omega)
    refine r_aload_n (pc := 37) hX 19 rfl rfl ?_
    refine r_aload_n (pc := 38) hX 20 rfl rfl ?_
    refine r_putR (pc := 39) hX 21 rfl fl_X11_140 rfl (fun _ h => by cases h; rfl) (hH_20.kd ht (by decide)) (hH_20.g4 ht (by decide)) ?_
    have hH_39 : HT ωv11 (up v11 (ρv11 t 0) 1 0) (up ρv11 t 17 r11) Zv11 := hH_20.un ht rfl (Or.inr hwf1_) rfl
    show wp g X F_X11_sentence 4 125 42 [(2, t), (2, r11)] [] (up v11 (ρv11 t 0) 1 0) (up ρv11 t 17 r11) Zv11
    refine r_aload_n (pc := 42) hX 22 rfl rfl ?_
    refine e_getI (y := (v11 r11 4)) (pc := 43) hX 23 rfl fl_X11_376 rfl (hH_39.kd hwf1_ (by decide)) ((up_k (by decide)).trans (rfl)) ?_
    have hb43 : 0 ≤ (v11 r11 4) ∧ (v11 r11 4) ≤ 20 := hH11.rg hwf1_ (by decide) rfl
    exact r_iret (pc := 46) hX 24 hQ rfl rfl (Nat.le_of_ble_eq_true rfl) (Nat.le_of_ble_eq_true rfl) ⟨ωv11, (OmX.tr OmX.rf homv11 (by first | exact Int.le_refl _ | omega)), (ZzX.tr ZzX.rf hzzv11 (by first | exact Int.le_refl _ | omega)), ((FrB.rf).trB OmX.rf hfr11 (by first | exact Int.le_refl _ | omega) (by decide)).up (r := (ρv11 t 0)) (OmX.tr OmX.rf homv11 (by first | exact Int.le_refl _ | omega)) hw15_ (by decide), ((FrB.rf).trB OmX.rf hfrR11 (by first | exact Int.le_refl _ | omega) (by decide)).up (r := t) (OmX.tr OmX.rf homv11 (by first | exact Int.le_refl _ | omega)) ht (by decide), hH_39, (v11 r11 4), rfl, (by rw [show (up ρv11 t 17 r11) t 0 = ρv11 t 0 from up_k (by decide)]; exact up_s _ _ _ _), (⟨by rw [up_k (by decide), hfrR11 t htz (by rw [ht0]; decide)], by rw [up_k (by decide), hfrR11 t htz (by rw [ht0]; decide)]⟩), (by rw [up_k (by decide), hfrR11 t htz (by rw [ht0]; decide)]), (fun j hj => by rw [up_k hj, hfrR11 t htz (by rw [ht0]; decide)])⟩
  · refine r_iconst (pc := 27) hX 13 rfl ?_
    refine t_getR (q := (ρv11 t 0)) (pc := 28) hX 14 rfl rfl rfl fl_X11_12 rfl (hH_20.kd ht (by decide)) (rfl) ?_
    refine e_getI (y := (v11 (ρv11 t 0) 10)) (pc := 32) hX 16 rfl fl_X11_131 rfl (hH_20.kd hw15_ (by decide)) ((up_k (by decide)).trans (rfl)) ?_
    have hb32 : 0 ≤ (v11 (ρv11 t 0) 10) ∧ (v11 (ρv11 t 0) 10) ≤ 1000 := hH11.rg hw15_ (by decide) rfl
    refine r_isub (pc := 35) hX 17 rfl ?_
    exact r_iret (pc := 36) hX 18 hQ rfl rfl (Nat.le_of_ble_eq_true rfl) (Nat.le_of_ble_eq_true rfl) ⟨ωv11, (OmX.tr OmX.rf homv11 (by first | exact Int.le_refl _ | omega)), (ZzX.tr ZzX.rf hzzv11 (by first | exact Int.le_refl _ | omega)), ((FrB.rf).trB OmX.rf hfr11 (by first | exact Int.le_refl _ | omega) (by decide)).up (r := (ρv11 t 0)) (OmX.tr OmX.rf homv11 (by first | exact Int.le_refl _ | omega)) hw15_ (by decide), (FrB.rf).trB OmX.rf hfrR11 (by first | exact Int.le_refl _ | omega) (by decide), hH_20, ((-1) - (v11 (ρv11 t 0) 10)), rfl, (up_s _ _ _ _), (⟨by rw [hfrR11 t htz (by rw [ht0]; decide)], by rw [hfrR11 t htz (by rw [ht0]; decide)]⟩), (by rw [hfrR11 t htz (by rw [ht0]; decide)]), (fun j _ => by rw [hfrR11 t htz (by rw [ht0]; decide)])⟩
set_option maxHeartbeats 4000000 in
set_option maxRecDepth 100000 in
theorem c_X11_countF (g : Gp) (ω : Rw) (v ρ : Mv) (Z : Mz) (hH : HT ω v ρ Z) (t : Int) (ht : ω t = 1) (w : Int) (hwr : inR w) : Ok g 1 0 0 F_X11_count [(2, t), (0, w)] v ρ Z (fun o9 v' ρ' Z' => ρ = ρ' ∧ Z = Z' ∧ v = v' ∧ ∃ r : Int, o9 = some (0, r) ∧ ((w = 0 ∧ r = v (ρ (ρ t 4) 0) 8 ∨ w = 1 ∧ r = v (ρ (ρ t 4) 0) 9 ∨ w = 2 ∧ r = v (ρ (ρ t 4) 0) 10 ∨ w = 3 ∧ r = v (ρ (ρ t 4) 0) 11 ∨ w = 4 ∧ r = v (ρ (ρ t 4) 0) 12 ∨ w = 5 ∧ r = v (ρ (ρ t 4) 0) 13 ∨ w = 6 ∧ r = v (ρ t 0) 1 ∨ (w < 0 ∨ 6 < w) ∧ r = -1))) := by
  refine Ok.of mo_X11_count (Nat.le_of_ble_eq_true rfl) ?_
  intro X hX hRm hxn hQ
  show wp g X F_X11_count 0 0 0 [(2, t), (0, w)] [] v ρ Z
  have hwT : ω (ρ t 4) = 22 := hH.rf ht (by decide) rfl
  have hwR : ω (ρ (ρ t 4) 0) = 5 := hH.rf hwT (by decide) rfl
  have hgR8 : 0 ≤ v (ρ (ρ t 4) 0) 8 ∧ v (ρ (ρ t 4) 0) 8 ≤ 4 := hH.rg hwR (by decide) rfl
  have hgR9 : 0 ≤ v (ρ (ρ t 4) 0) 9 ∧ v (ρ (ρ t 4) 0) 9 ≤ 3 := hH.rg hwR (by decide) rfl
  have hgR10 : 0 ≤ v (ρ (ρ t 4) 0) 10 ∧ v (ρ (ρ t 4) 0) 10 ≤ 3 := hH.rg hwR (by decide) rfl
  have hwX : ω (ρ t 0) = 2 := hH.rf ht (by decide) rfl
  have hgL : 0 ≤ v (ρ t 0) 1 ∧ v (ρ t 0) 1 ≤ 940 := hH.rg hwX (by decide) rfl
  have hg13 : 0 ≤ v (ρ (ρ t 4) 0) 13 ∧ v (ρ (ρ t 4) 0) 13 ≤ 1 := hH.rg hwR (by decide) rfl
  refine r_iload_n (pc := 0) hX 0 rfl rfl ?_
  have hsw1 : w < 0 ∨ 6 < w ∨ w = 0 ∨ w = 1 ∨ w = 2 ∨ w = 3 ∨ w = 4 ∨ w = 5 ∨ w = 6 := by omega
  rcases hsw1 with hsw1 | hsw1 | hsw1 | hsw1 | hsw1 | hsw1 | hsw1 | hsw1 | hsw1
  · refine r_tsOut (pc := 1) hX 1 (tgt := 126) rfl ⟨by omega, by omega⟩ (by omega) (by decide) ?_
    refine r_iconst (pc := 126) hX 40 rfl ?_
    exact r_iret (pc := 127) hX 41 hQ rfl rfl (Nat.le_of_ble_eq_true rfl) (Nat.le_of_ble_eq_true rfl) ⟨rfl, rfl, rfl, (-1), rfl, (by omega)⟩
  · refine r_tsOut (pc := 1) hX 1 (tgt := 126) rfl ⟨by omega, by omega⟩ (by omega) (by decide) ?_
    refine r_iconst (pc := 126) hX 40 rfl ?_
    exact r_iret (pc := 127) hX 41 hQ rfl rfl (Nat.le_of_ble_eq_true rfl) (Nat.le_of_ble_eq_true rfl) ⟨rfl, rfl, rfl, (-1), rfl, (by omega)⟩
  · refine r_tsIn (x := w) (pc := 1) hX 1 (tgt := 44) rfl ⟨by omega, by omega⟩ (by omega) (by omega) (by rw [hsw1]; rfl) (by decide) ?_
    refine t_getR (q := (ρ t 4)) (pc := 44) hX 2 rfl rfl rfl fl_X11_47 rfl (hH.kd ht (by decide)) (rfl) ?_
    have hw44_ : ω (ρ t 4) = 22 := hH.rf ht (by decide) rfl
    refine r_getR (q := (ρ (ρ t 4) 0)) (pc := 48) hX 4 rfl fl_X11_51 rfl (hH.kd hw44_ (by decide)) (rfl) ?_
    have hw48_ : ω (ρ (ρ t 4) 0) = 5 := hH.rf hw44_ (by decide) rfl
    refine e_getI (y := (v (ρ (ρ t 4) 0) 8)) (pc := 51) hX 5 rfl fl_X11_295 rfl (hH.kd hw48_ (by decide)) (rfl) ?_
    have hb51 : 0 ≤ (v (ρ (ρ t 4) 0) 8) ∧ (v (ρ (ρ t 4) 0) 8) ≤ 4 := hH.rg hw48_ (by decide) rfl
    exact r_iret (pc := 54) hX 6 hQ rfl rfl (Nat.le_of_ble_eq_true rfl) (Nat.le_of_ble_eq_true rfl) ⟨rfl, rfl, rfl, (v (ρ (ρ t 4) 0) 8), rfl, (by omega)⟩
  · refine r_tsIn (x := w) (pc := 1) hX 1 (tgt := 55) rfl ⟨by omega, by omega⟩ (by omega) (by omega) (by rw [hsw1]; rfl) (by decide) ?_
    refine t_getR (q := (ρ t 4)) (pc := 55) hX 7 rfl rfl rfl fl_X11_47 rfl (hH.kd ht (by decide)) (rfl) ?_
    have hw55_ : ω (ρ t 4) = 22 := hH.rf ht (by decide) rfl
    refine r_getR (q := (ρ (ρ t 4) 0)) (pc := 59) hX 9 rfl fl_X11_51 rfl (hH.kd hw55_ (by decide)) (rfl) ?_
    have hw59_ : ω (ρ (ρ t 4) 0) = 5 := hH.rf hw55_ (by decide) rfl
    refine e_getI (y := (v (ρ (ρ t 4) 0) 9)) (pc := 62) hX 10 rfl fl_X11_358 rfl (hH.kd hw59_ (by decide)) (rfl) ?_
    have hb62 : 0 ≤ (v (ρ (ρ t 4) 0) 9) ∧ (v (ρ (ρ t 4) 0) 9) ≤ 3 := hH.rg hw59_ (by decide) rfl
    exact r_iret (pc := 65) hX 11 hQ rfl rfl (Nat.le_of_ble_eq_true rfl) (Nat.le_of_ble_eq_true rfl) ⟨rfl, rfl, rfl, (v (ρ (ρ t 4) 0) 9), rfl, (by omega)⟩
  · refine r_tsIn (x := w) (pc := 1) hX 1 (tgt := 66) rfl ⟨by omega, by omega⟩ (by omega) (by omega) (by rw [hsw1]; rfl) (by decide) ?_
    refine t_getR (q := (ρ t 4)) (pc := 66) hX 12 rfl rfl rfl fl_X11_47 rfl (hH.kd ht (by decide)) (rfl) ?_
    have hw66_ : ω (ρ t 4) = 22 := hH.rf ht (by decide) rfl
    refine r_getR (q := (ρ (ρ t 4) 0)) (pc := 70) hX 14 rfl fl_X11_51 rfl (hH.kd hw66_ (by decide)) (rfl) ?_
    have hw70_ : ω (ρ (ρ t 4) 0) = 5 := hH.rf hw66_ (by decide) rfl
    refine e_getI (y := (v (ρ (ρ t 4) 0) 10)) (pc := 73) hX 15 rfl fl_X11_284 rfl (hH.kd hw70_ (by decide)) (rfl) ?_
    have hb73 : 0 ≤ (v (ρ (ρ t 4) 0) 10) ∧ (v (ρ (ρ t 4) 0) 10) ≤ 3 := hH.rg hw70_ (by decide) rfl
    exact r_iret (pc := 76) hX 16 hQ rfl rfl (Nat.le_of_ble_eq_true rfl) (Nat.le_of_ble_eq_true rfl) ⟨rfl, rfl, rfl, (v (ρ (ρ t 4) 0) 10), rfl, (by omega)⟩
  · refine r_tsIn (x := w) (pc := 1) hX 1 (tgt := 77) rfl ⟨by omega, by omega⟩ (by omega) (by omega) (by rw [hsw1]; rfl) (by decide) ?_
    refine t_getR (q := (ρ t 4)) (pc := 77) hX 17 rfl rfl rfl fl_X11_47 rfl (hH.kd ht (by decide)) (rfl) ?_
    have hw77_ : ω (ρ t 4) = 22 := hH.rf ht (by decide) rfl
    refine r_getR (q := (ρ (ρ t 4) 0)) (pc := 81) hX 19 rfl fl_X11_51 rfl (hH.kd hw77_ (by decide)) (rfl) ?_
    have hw81_ : ω (ρ (ρ t 4) 0) = 5 := hH.rf hw77_ (by decide) rfl
    refine e_getI (y := (v (ρ (ρ t 4) 0) 11)) (pc := 84) hX 20 rfl fl_X11_383 rfl (hH.kd hw81_ (by decide)) (rfl) ?_
    have hb84 : 1 ≤ (v (ρ (ρ t 4) 0) 11) ∧ (v (ρ (ρ t 4) 0) 11) ≤ 9 := hH.rg hw81_ (by decide) rfl
    exact r_iret (pc := 87) hX 21 hQ rfl rfl (Nat.le_of_ble_eq_true rfl) (Nat.le_of_ble_eq_true rfl) ⟨rfl, rfl, rfl, (v (ρ (ρ t 4) 0) 11), rfl, (by omega)⟩
  · refine r_tsIn (x := w) (pc := 1) hX 1 (tgt := 88) rfl ⟨by omega, by omega⟩ (by omega) (by omega) (by rw [hsw1]; rfl) (by decide) ?_
    refine t_getR (q := (ρ t 4)) (pc := 88) hX 22 rfl rfl rfl fl_X11_47 rfl (hH.kd ht (by decide)) (rfl) ?_
    have hw88_ : ω (ρ t 4) = 22 := hH.rf ht (by decide) rfl
    refine r_getR (q := (ρ (ρ t 4) 0)) (pc := 92) hX 24 rfl fl_X11_51 rfl (hH.kd hw88_ (by decide)) (rfl) ?_
    have hw92_ : ω (ρ (ρ t 4) 0) = 5 := hH.rf hw88_ (by decide) rfl
    refine e_getI (y := (v (ρ (ρ t 4) 0) 12)) (pc := 95) hX 25 rfl fl_X11_384 rfl (hH.kd hw92_ (by decide)) (rfl) ?_
    have hb95 : 1 ≤ (v (ρ (ρ t 4) 0) 12) ∧ (v (ρ (ρ t 4) 0) 12) ≤ 12 := hH.rg hw92_ (by decide) rfl
    exact r_iret (pc := 98) hX 26 hQ rfl rfl (Nat.le_of_ble_eq_true rfl) (Nat.le_of_ble_eq_true rfl) ⟨rfl, rfl, rfl, (v (ρ (ρ t 4) 0) 12), rfl, (by omega)⟩
  · refine r_tsIn (x := w) (pc := 1) hX 1 (tgt := 99) rfl ⟨by omega, by omega⟩ (by omega) (by omega) (by rw [hsw1]; rfl) (by decide) ?_
    refine t_getR (q := (ρ t 4)) (pc := 99) hX 27 rfl rfl rfl fl_X11_47 rfl (hH.kd ht (by decide)) (rfl) ?_
    have hw99_ : ω (ρ t 4) = 22 := hH.rf ht (by decide) rfl
    refine r_getR (q := (ρ (ρ t 4) 0)) (pc := 103) hX 29 rfl fl_X11_51 rfl (hH.kd hw99_ (by decide)) (rfl) ?_
    have hw103_ : ω (ρ (ρ t 4) 0) = 5 := hH.rf hw99_ (by decide) rfl
    refine e_getI (y := (v (ρ (ρ t 4) 0) 13)) (pc := 106) hX 30 rfl fl_X11_387 rfl (hH.kd hw103_ (by decide)) (rfl) ?_
    have hb106 : 0 ≤ (v (ρ (ρ t 4) 0) 13) ∧ (v (ρ (ρ t 4) 0) 13) ≤ 1 := hH.rg hw103_ (by decide) rfl
    first | refine r_if_eq (pc := 109) hX 31 (tgt := 116) rfl (by decide) (⟨by omega, by omega⟩) (fun h109 => ?_) (fun h109 => ?_) | refine r_if_eq_any (pc := 109) hX 31 (tgt := 116) rfl (by decide) ?_ ?_
    · refine r_iconst (pc := 116) hX 34 rfl ?_
      exact r_iret (pc := 117) hX 35 hQ rfl rfl (Nat.le_of_ble_eq_true rfl) (Nat.le_of_ble_eq_true rfl) ⟨rfl, rfl, rfl, 0, rfl, (by omega)⟩
    · refine r_iconst (pc := 112) hX 32 rfl ?_
      refine r_goto (pc := 113) hX 33 (tgt := 117) rfl (by decide) ?_
      exact r_iret (pc := 117) hX 35 hQ rfl rfl (Nat.le_of_ble_eq_true rfl) (Nat.le_of_ble_eq_true rfl) ⟨rfl, rfl, rfl, 1, rfl, (by omega)⟩
  · refine r_tsIn (x := w) (pc := 1) hX 1 (tgt := 118) rfl ⟨by omega, by omega⟩ (by omega) (by omega) (by rw [hsw1]; rfl) (by decide) ?_
    refine t_getR (q := (ρ t 0)) (pc := 118) hX 36 rfl rfl rfl fl_X11_12 rfl (hH.kd ht (by decide)) (rfl) ?_
    have hw118_ : ω (ρ t 0) = 2 := hH.rf ht (by decide) rfl
    refine e_getI (y := (v (ρ t 0) 1)) (pc := 122) hX 38 rfl fl_X11_123 rfl (hH.kd hw118_ (by decide)) (rfl) ?_
    have hb122 : 0 ≤ (v (ρ t 0) 1) ∧ (v (ρ t 0) 1) ≤ 940 := hH.rg hw118_ (by decide) rfl
    exact r_iret (pc := 125) hX 39 hQ rfl rfl (Nat.le_of_ble_eq_true rfl) (Nat.le_of_ble_eq_true rfl) ⟨rfl, rfl, rfl, (v (ρ t 0) 1), rfl, (by omega)⟩
