set_option maxHeartbeats 4000000 in
set_option maxRecDepth 100000 in
theorem c_X11_roadL (g : Gp) (ω : Rw) (v ρ : Mv) (Z : Mz) (hH : HT ω v ρ Z) (t : Int) (ht : ω t = 1) (hTr : TrI v ρ t) (htp : ρ (ρ t 1) 0 = ρ t 0) : Ok g 11 12 59 F_X11_road [(2, t)] v ρ Z (fun o9 v' ρ' Z' => ∃ ω' : Rw, OmX Z.2.2 ω ω' ∧ ZzX Z.2.2 Z Z' ∧ FrB Z.2.2 ω [2, 4, 5, 6, 7, 8, 9, 10, 11, 13, 14, 22, 24, 25, 26, 27] v v' ∧ FrB Z.2.2 ω [1, 4, 22] ρ ρ' ∧ HT ω' v' ρ' Z' ∧ ∃ r : Int, o9 = some (0, r) ∧ (v' (ρ' t 0) 1 = 0) ∧ (ρ' t 0 = ρ t 0 ∧ ρ' t 13 = ρ t 13) ∧ (r = rAns (cb (v (ρ t 0) 1) (v (ρ (ρ t 0) 0))) (v (ρ t 0) 1) 900) ∧ (ρ' t 1 = ρ t 1 ∧ ρ' (ρ t 1) 0 = ρ t 0) ∧ (RdT (cb (v (ρ t 0) 1) (v (ρ (ρ t 0) 0))) (v (ρ t 0) 1) 900 ρ v' ρ' t) ∧ (∀ r, r < Z.2.2 → inW (ω r) = true → v' r = v r) ∧ (ρ' t 2 = ρ t 2 ∧ ρ' t 3 = ρ t 3) ∧ (v' (ρ t 0) 9 = (rRoad (cb (v (ρ t 0) 1) (v (ρ (ρ t 0) 0))) (v (ρ t 0) 1) 900).1)) := by
  refine Ok.of mo_X11_road (Nat.le_of_ble_eq_true rfl) ?_
  intro X hX hRm hxn hQ
  show wp g X F_X11_road 0 0 0 [(2, t), (3, 0)] [] v ρ Z
  have htz := hH.lt ht (by decide)
  have ht0 := ht
  have hw4 : ω (ρ t 1) = 4 := hH.rf ht (by decide) rfl
  have hw2 : ω (ρ t 0) = 2 := hH.rf ht (by decide) rfl
  have hw3 : ω (ρ (ρ t 0) 0) = 3 := hH.rf hw2 (by decide) rfl
  have hz4 := hH.lt hw4 (by decide)
  have hz2 := hH.lt hw2 (by decide)
  have hw := TrW.of hH ht
  have h8 : 0 ≤ v (ρ t 6) 1 ∧ v (ρ t 6) 1 ≤ 8 := hH.rg hw.2.2.2.1 (by decide) rfl
  have hzP := hH.lt hw.2.2.2.1 (by decide)
  refine t_getR (q := (ρ t 1)) (pc := 0) hX 0 rfl rfl rfl fl_X11_21 rfl (hH.kd ht (by decide)) (rfl) ?_
  have hw0_ : ω (ρ t 1) = 4 := hH.rf ht (by decide) rfl
  refine r_callV (as := []) (st := []) (K := 5) (pc := 4) hX 2 rfl mo_X5_read ml_X11_127 im_X5_read se_X5_read (c_X5_readF g ω v ρ Z hH (ρ t 1) hw0_ ) rfl rfl rfl (hH.kd hw0_ (by decide)) (by rw [hRm]; exact ⟨by decide, by decide⟩) (by rw [hRm]; exact ⟨by decide, by decide⟩) (Nat.le_of_ble_eq_true rfl) (fun o4 v4 ρv4 Zv4 hq4 _ => ?_)
  obtain ⟨ωv4, homv4, hzzv4, hfr4, hfrR4, hH4, r4, rfl, hq4⟩ := hq4
  replace ht : ωv4 t = 1 := (homv4 t (hH.lt ht (by decide))).trans ht
  replace hw0_ : ωv4 (ρ t 1) = 4 := (homv4 (ρ t 1) (hH.lt hw0_ (by decide))).trans hw0_
  show wp g X F_X11_road 12 59 7 [(2, t), (3, 0)] [(2, r4)] v4 ρv4 Zv4
  have hp4 := hq4.2
  rw [htp] at hp4
  replace hq4 := hq4.1
  have e40 : ρv4 t 0 = ρ t 0 := by rw [hfrR4 t htz (by rw [ht0]; decide)]
  have e41 : ρv4 t 1 = ρ t 1 := by rw [hfrR4 t htz (by rw [ht0]; decide)]
  have hw27b : ωv4 (ρ t 6) = 27 := (homv4 _ hzP).trans hw.2.2.2.1
  refine r_astore_n (ls' := [(2, t), (2, r4)]) (pc := 7) hX 3 rfl (by decide) rfl ?_
  refine t_getR (q := (ρv4 t 0)) (pc := 8) hX 4 rfl rfl rfl fl_X11_12 rfl (hH4.kd ht (by decide)) (rfl) ?_
  have hw8_ : ωv4 (ρv4 t 0) = 2 := hH4.rf ht (by decide) rfl
  refine r_iconst (pc := 12) hX 6 rfl ?_
  refine r_putI (pc := 13) hX 7 rfl fl_X11_123 rfl (fun _ h => by cases h; rfl) (hH4.kd hw8_ (by decide)) (hH4.g4 hw8_ (by decide)) ?_
  have hH_13 : HT ωv4 (up v4 (ρv4 t 0) 1 0) ρv4 Zv4 := hH4.upR hw8_ (by decide) rfl (by omega) (by omega)
  show wp g X F_X11_road 12 59 16 [(2, t), (2, r4)] [] (up v4 (ρv4 t 0) 1 0) ρv4 Zv4
  refine r_aload_n (pc := 16) hX 8 rfl rfl ?_
  refine r_ifnonnull (pc := 17) hX 9 (tgt := 30) rfl (by decide) (fun h17 => ?_) (fun h17 => ?_)
  · have hwf1_ : ωv4 r4 = 5 := hq4.resolve_left (by omega)
    refine t_getR (q := (ρv4 t 4)) (pc := 30) hX 16 rfl rfl rfl fl_X11_47 rfl (hH_13.kd ht (by decide)) (rfl) ?_
    have hw30_ : ωv4 (ρv4 t 4) = 22 := hH4.rf ht (by decide) rfl
    refine r_aload_n (pc := 34) hX 18 rfl rfl ?_
    refine r_callV (as := [(2, r4)]) (st := []) (K := 9) (pc := 35) hX 19 rfl mo_X9_begin ml_X11_134 im_X9_begin se_X9_begin (c_X9_beginF g ωv4 (up v4 (ρv4 t 0) 1 0) ρv4 Zv4 hH_13 (ρv4 t 4) hw30_ r4 hwf1_ ) rfl rfl rfl (hH_13.kd hw30_ (by decide)) (by rw [hRm]; exact ⟨by decide, by decide⟩) (by rw [hRm]; exact ⟨by decide, by decide⟩) (Nat.le_of_ble_eq_true rfl) (fun o35 v35 ρv35 Zv35 hq35 _ => ?_)
    obtain ⟨rfl, hfr35, hfrR35, hH35, rfl, hq35⟩ := hq35
    show wp g X F_X11_road 12 59 38 [(2, t), (2, r4)] [] v35 ρv35 Zv4
    refine t_getR (q := (ρv4 t 6)) (pc := 38) hX 20 rfl rfl rfl fl_X11_61 rfl (hH35.kd ht (by decide)) ((hfrR35.at ht (by decide) 6).trans (rfl)) ?_
    have hw38_ : ωv4 (ρv4 t 6) = 27 := hH4.rf ht (by decide) rfl
    refine r_callV (as := []) (st := []) (K := 3) (pc := 42) hX 22 rfl mo_X3_forget ml_X11_137 im_X3_forget se_X3_forget (c_X3_forgetF g ωv4 v35 ρv35 Zv4 hH35 (ρv4 t 6) hw38_ ) rfl rfl rfl (hH35.kd hw38_ (by decide)) (by rw [hRm]; exact ⟨by decide, by decide⟩) (by rw [hRm]; exact ⟨by decide, by decide⟩) (Nat.le_of_ble_eq_true rfl) (fun o42 v42 ρv42 Zv42 hq42 _ => ?_)
    obtain ⟨rfl, rfl, hfr42, hH42, rfl, hq42⟩ := hq42
    show wp g X F_X11_road 12 59 45 [(2, t), (2, r4)] [] v42 ρv35 Zv4
    refine r_aload_n (pc := 45) hX 23 rfl rfl ?_
    refine r_null (pc := 46) hX 24 rfl (by have := hH42.lt ht (by decide); have := hH42.g4 ht (by decide); omega) ?_
    refine r_putR (pc := 47) hX 25 rfl fl_X11_140 rfl (fun _ h => by cases h; rfl) (hH42.kd ht (by decide)) (hH42.g4 ht (by decide)) ?_
    have hH_47 : HT ωv4 v42 (up ρv35 t 17 (-1)) Zv4 := hH42.un ht rfl (Or.inl (by decide)) rfl
    show wp g X F_X11_road 12 59 50 [(2, t), (2, r4)] [] v42 (up ρv35 t 17 (-1)) Zv4
    refine r_aload_n (pc := 50) hX 26 rfl rfl ?_
    refine e_getI (y := (v4 r4 14)) (pc := 51) hX 27 rfl fl_X11_144 rfl (hH_47.kd hwf1_ (by decide)) ((hfr42.at hwf1_ (by decide) 14).trans ((hfr35.at hwf1_ (by decide) 14).trans ((up_k (by decide)).trans (rfl)))) ?_
    exact r_iret (pc := 54) hX 28 hQ rfl rfl (Nat.le_of_ble_eq_true rfl) (Nat.le_of_ble_eq_true rfl) ⟨ωv4, (OmX.tr OmX.rf homv4 (by first | exact Int.le_refl _ | omega)), (ZzX.tr ZzX.rf hzzv4 (by first | exact Int.le_refl _ | omega)), ((((FrB.rf).trB OmX.rf hfr4 (by first | exact Int.le_refl _ | omega) (by decide)).up (r := (ρv4 t 0)) (OmX.tr OmX.rf homv4 (by first | exact Int.le_refl _ | omega)) hw8_ (by decide)).tr (OmX.tr OmX.rf homv4 (by first | exact Int.le_refl _ | omega)) hfr35 (by decide)).tr (OmX.tr OmX.rf homv4 (by first | exact Int.le_refl _ | omega)) hfr42 (by decide), (((FrB.rf).trB OmX.rf hfrR4 (by first | exact Int.le_refl _ | omega) (by decide)).tr (OmX.tr OmX.rf homv4 (by first | exact Int.le_refl _ | omega)) hfrR35 (by decide)).up (r := t) (OmX.tr OmX.rf homv4 (by first | exact Int.le_refl _ | omega)) ht (by decide), hH_47, (v4 r4 14), rfl, (by rw [up_k (by decide), hfrR35.at ht (by decide) 0]; exact (hfr42.at hw8_ (by decide) 1).trans ((hfr35.at hw8_ (by decide) 1).trans (up_s _ _ _ _))), (⟨by rw [up_k (by decide), hfrR35.at ht (by decide) 0, hfrR4 t htz (by rw [ht0]; decide)], by rw [up_k (by decide), hfrR35.at ht (by decide) 13, hfrR4 t htz (by rw [ht0]; decide)]⟩), (by
        rcases hp4.1 with ⟨_, a, b⟩ | ⟨a, _⟩
        · unfold rAns
          rw [if_pos a]
          exact b.k14
        · exact absurd a (by omega)), (⟨(up_k (by decide)).trans ((hfrR35.at ht (by decide) 1).trans e41), (up_k (by decide)).trans ((hfrR35.at hw0_ (by decide) 0).trans hp4.2.1)⟩), (by
        have e6 : ρv4 t 6 = ρ t 6 := by rw [hfrR4 t htz (by rw [ht0]; decide)]
        have e4 : ρv4 t 4 = ρ t 4 := by rw [hfrR4 t htz (by rw [ht0]; decide)]
        have hne : ∀ r c, ωv4 r = c → c ≠ 22 → c ≠ 1 → (up ρv35 t 17 (-1)) r = ρv4 r := fun r c h1 h2 h3 => (up_f (rne h1 ht h3)).trans (hq35.2 r (rne h1 hw30_ h2))
        have hold : ∀ r c, ω r = c → c ≠ 0 → c ≠ 4 → c ≠ 22 → c ≠ 1 → (up ρv35 t 17 (-1)) r = ρ r := fun r c h1 h0 h4 h22 h9 => (hne r c ((homv4 r (hH.lt h1 h0)).trans h1) h22 h9).trans (hfrR4 r (hH.lt h1 h0) (by rw [h1]; simp; omega))
        have hft : ∀ j, j ≠ 17 → (up ρv35 t 17 (-1)) t j = ρ t j := fun j hj => (up_k hj).trans ((congrFun (hq35.2 t (rne ht hw30_ (by decide))) j).trans (congrFun (hfrR4 t htz (by rw [ht0]; decide)) j))
        have hn := TrI.new (v' := v42) (ρ' := (up ρv35 t 17 (-1))) hTr hw (fun r h9 => by rcases h9 with h9 | h9 | h9 | h9 <;> exact hold r _ h9 (by decide) (by decide) (by decide) (by decide)) ⟨hft 4 (by decide), hft 5 (by decide), hft 6 (by decide), hft 11 (by decide)⟩ (by rw [← e6]; exact hq42)
        refine ⟨hn.1, hn.2.1, hn.2.2, Or.inl ?_⟩
        rcases hp4.1 with ⟨_, a, b⟩ | ⟨a, _⟩
        · refine ⟨a, ?_⟩
          have er : (up ρv35 t 17 (-1)) (ρ t 4) 0 = r4 := by
            rw [up_f (rne hw.2.1 hw.1 (by decide)), ← e4]
            exact hq35.1
          rw [er]
          have b2 := b.frO hH4 hwf1_ (v' := v42) (fun r hr => (hfr42.keep (by decide) r hr).trans ((hfr35.keep (by decide) r hr).trans (up_f (fun e => by rw [e, hw8_] at hr; cases hr))))
          exact b2.rho (hne _ _ hwf1_ (by decide) (by decide)) (hne _ _ (show ωv4 (ρv4 r4 5) = 12 from hH4.rf hwf1_ (by decide) rfl) (by decide) (by decide))
        · exact absurd a (by omega)), (fun r hr hw9 => by
        have hw9b : inW (ωv4 r) = true := by rw [homv4 r hr]; exact hw9
        exact (hfr42.keep (by decide) r hw9b).trans ((hfr35.keep (by decide) r hw9b).trans ((up_f (fun e => by rw [e, hw8_] at hw9b; cases hw9b)).trans (hp4.2.2.1 r hr hw9)))), (⟨by rw [up_k (by decide), hfrR35.at ht (by decide) 2, hfrR4 t htz (by rw [ht0]; decide)], by rw [up_k (by decide), hfrR35.at ht (by decide) 3, hfrR4 t htz (by rw [ht0]; decide)]⟩), (by
        have z := hp4.2.2.2.2
        rw [hp4.2.1] at z
        have z2 : v42 (ρv4 t 0) 9 = v4 (ρv4 t 0) 9 := (hfr42.at hw8_ (by decide) 9).trans ((hfr35.at hw8_ (by decide) 9).trans (up_k (by decide)))
        rw [e40] at z2
        exact z2.trans z)⟩
  · refine r_iconst (pc := 20) hX 10 rfl ?_
    refine t_getR (q := (ρv4 t 0)) (pc := 21) hX 11 rfl rfl rfl fl_X11_12 rfl (hH_13.kd ht (by decide)) (rfl) ?_
    refine e_getI (y := (v4 (ρv4 t 0) 10)) (pc := 25) hX 13 rfl fl_X11_131 rfl (hH_13.kd hw8_ (by decide)) ((up_k (by decide)).trans (rfl)) ?_
    have hb25 : 0 ≤ (v4 (ρv4 t 0) 10) ∧ (v4 (ρv4 t 0) 10) ≤ 1000 := hH4.rg hw8_ (by decide) rfl
    refine r_isub (pc := 28) hX 14 rfl ?_
    exact r_iret (pc := 29) hX 15 hQ rfl rfl (Nat.le_of_ble_eq_true rfl) (Nat.le_of_ble_eq_true rfl) ⟨ωv4, (OmX.tr OmX.rf homv4 (by first | exact Int.le_refl _ | omega)), (ZzX.tr ZzX.rf hzzv4 (by first | exact Int.le_refl _ | omega)), ((FrB.rf).trB OmX.rf hfr4 (by first | exact Int.le_refl _ | omega) (by decide)).up (r := (ρv4 t 0)) (OmX.tr OmX.rf homv4 (by first | exact Int.le_refl _ | omega)) hw8_ (by decide), (FrB.rf).trB OmX.rf hfrR4 (by first | exact Int.le_refl _ | omega) (by decide), hH_13, ((-1) - (v4 (ρv4 t 0) 10)), rfl, (up_s _ _ _ _), (⟨by rw [hfrR4 t htz (by rw [ht0]; decide)], by rw [hfrR4 t htz (by rw [ht0]; decide)]⟩), (by
        rcases hp4.1 with ⟨a, _⟩ | ⟨_, a, b, c⟩
        · exact absurd a (by omega)
        · unfold rAns
          rw [if_neg a, ← c, hp4.2.1, e40]), (⟨e41, hp4.2.1⟩), (by
        have hp := TrI.old (ρ' := ρv4) (v' := (up v4 (ρv4 t 0) 1 0)) hTr hw h8.2 (fun r h9 => hfrR4 r (by rcases h9 with h9 | h9 | h9 | h9 | h9 | h9 <;> exact hH.lt h9 (by decide)) (by rcases h9 with h9 | h9 | h9 | h9 | h9 | h9 <;> rw [h9] <;> decide)) ((up_r (rne hw27b hw8_ (by decide))).trans (congrFun (hfr4 (ρ t 6) hzP (by rw [hw.2.2.2.1]; decide)) 1))
        refine ⟨hp.1, hp.2.1, hp.2.2.2, ?_⟩
        rcases hp4.1 with ⟨a, _⟩ | ⟨_, a, b, c⟩
        · exact absurd a (by omega)
        · exact Or.inr ⟨a, hp.2.2.1⟩), (fun r hr hw9 => (up_f (fun e => by rw [e] at hr hw9; rw [← homv4 _ hr, hw8_] at hw9; cases hw9)).trans (hp4.2.2.1 r hr hw9)), (⟨by rw [hfrR4 t htz (by rw [ht0]; decide)], by rw [hfrR4 t htz (by rw [ht0]; decide)]⟩), (by
        have z := hp4.2.2.2.2
        rw [hp4.2.1] at z
        rw [e40]
        exact (up_k (by decide)).trans z)⟩
set_option maxHeartbeats 4000000 in
set_option maxRecDepth 100000 in
theorem c_X11_sentenceL (g : Gp) (ω : Rw) (v ρ : Mv) (Z : Mz) (hH : HT ω v ρ Z) {L q : Int} {s : Rd} (t : Int) (ht : ω t = 1) (htp : ρ (ρ t 3) 0 = ρ t 0) (hR : RcI v ρ (ρ (ρ t 4) 0) L q s) : Ok g 27 4 125 F_X11_sentence [(2, t)] v ρ Z (fun o9 v' ρ' Z' => ∃ ω' : Rw, OmX Z.2.2 ω ω' ∧ ZzX Z.2.2 Z Z' ∧ FrB Z.2.2 ω [2, 19, 20] v v' ∧ FrB Z.2.2 ω [1, 21] ρ ρ' ∧ HT ω' v' ρ' Z' ∧ ∃ r : Int, o9 = some (0, r) ∧ (v' (ρ' t 0) 1 = 0) ∧ (ρ' t 0 = ρ t 0 ∧ ρ' t 13 = ρ t 13) ∧ (ρ' t 1 = ρ t 1) ∧ (∀ j, j ≠ 17 → ρ' t j = ρ t j) ∧ (r = sAns (cb (v (ρ t 0) 1) (v (ρ (ρ t 0) 0))) (v (ρ t 0) 1) 200 (fun x => fnd s.N x 0 (s.H 0).toNat 0)) ∧ (ρ' (ρ t 3) 0 = ρ t 0) ∧ (v' (ρ t 0) 9 = (sR (cb (v (ρ t 0) 1) (v (ρ (ρ t 0) 0))) (v (ρ t 0) 1) 200 (fun x => fnd s.N x 0 (s.H 0).toNat 0) false [] 0 0).1)) := by
  refine Ok.of mo_X11_sentence (Nat.le_of_ble_eq_true rfl) ?_
  intro X hX hRm hxn hQ
  show wp g X F_X11_sentence 0 0 0 [(2, t), (3, 0)] [] v ρ Z
  have htz := hH.lt ht (by decide)
  have ht0 := ht
  have hw210 : ω (ρ t 3) = 21 := hH.rf ht (by decide) rfl
  have hz21 := hH.lt hw210 (by decide)
  refine t_getR (q := (ρ t 3)) (pc := 0) hX 0 rfl rfl rfl fl_X11_35 rfl (hH.kd ht (by decide)) (rfl) ?_
  have hw0_ : ω (ρ t 3) = 21 := hH.rf ht (by decide) rfl
  refine t_getR (q := (ρ t 4)) (pc := 4) hX 2 rfl rfl rfl fl_X11_47 rfl (hH.kd ht (by decide)) (rfl) ?_
  have hw4_ : ω (ρ t 4) = 22 := hH.rf ht (by decide) rfl
  refine r_getR (q := (ρ (ρ t 4) 0)) (pc := 8) hX 4 rfl fl_X11_51 rfl (hH.kd hw4_ (by decide)) (rfl) ?_
  have hw8_ : ω (ρ (ρ t 4) 0) = 5 := hH.rf hw4_ (by decide) rfl
  refine r_callV (as := [(2, (ρ (ρ t 4) 0))]) (st := []) (K := 7) (pc := 11) hX 5 rfl mo_X7_read ml_X11_373 im_X7_read se_X7_read (c_X7_readS g ω v ρ Z hH (ρ t 3) hw0_ (ρ (ρ t 4) 0) hw8_ (hR)) rfl rfl rfl (hH.kd hw0_ (by decide)) (by rw [hRm]; exact ⟨by decide, by decide⟩) (by rw [hRm]; exact ⟨by decide, by decide⟩) (Nat.le_of_ble_eq_true rfl) (fun o11 v11 ρv11 Zv11 hq11 _ => ?_)
  obtain ⟨ωv11, homv11, hzzv11, hfr11, hfrR11, hH11, r11, rfl, hq11⟩ := hq11
  replace ht : ωv11 t = 1 := (homv11 t (hH.lt ht (by decide))).trans ht
  replace hw0_ : ωv11 (ρ t 3) = 21 := (homv11 (ρ t 3) (hH.lt hw0_ (by decide))).trans hw0_
  replace hw4_ : ωv11 (ρ t 4) = 22 := (homv11 (ρ t 4) (hH.lt hw4_ (by decide))).trans hw4_
  replace hw8_ : ωv11 (ρ (ρ t 4) 0) = 5 := (homv11 (ρ (ρ t 4) 0) (hH.lt hw8_ (by decide))).trans hw8_
  show wp g X F_X11_sentence 4 125 14 [(2, t), (3, 0)] [(2, r11)] v11 ρv11 Zv11
  have hs11 := hq11.2
  rw [htp] at hs11
  replace hq11 := hq11.1
  have e110 : ρv11 t 0 = ρ t 0 := by rw [hfrR11 t htz (by rw [ht0]; decide)]
  have hw21 : ωv11 (ρ t 3) = 21 := (homv11 _ hz21).trans hw210
  refine r_astore_n (ls' := [(2, t), (2, r11)]) (pc := 14) hX 6 rfl (by decide) rfl ?_
  refine t_getR (q := (ρv11 t 0)) (pc := 15) hX 7 rfl rfl rfl fl_X11_12 rfl (hH11.kd ht (by decide)) (rfl) ?_
  have hw15_ : ωv11 (ρv11 t 0) = 2 := hH11.rf ht (by decide) rfl
  refine r_iconst (pc := 19) hX 9 rfl ?_
  refine r_putI (pc := 20) hX 10 rfl fl_X11_123 rfl (fun _ h => by cases h; rfl) (hH11.kd hw15_ (by decide)) (hH11.g4 hw15_ (by decide)) ?_
  have hH_20 : HT ωv11 (up v11 (ρv11 t 0) 1 0) ρv11 Zv11 := hH11.upR hw15_ (by decide) rfl (by omega) (by omega)
  show wp g X F_X11_sentence 4 125 23 [(2, t), (2, r11)] [] (up v11 (ρv11 t 0) 1 0) ρv11 Zv11
  refine r_aload_n (pc := 23) hX 11 rfl rfl ?_
  refine r_ifnonnull (pc := 24) hX 12 (tgt := 37) rfl (by decide) (fun h24 => ?_) (fun h24 => ?_)
  · have hwf1_ : ωv11 r11 = 19 := hq11.resolve_left (by omega)
    refine r_aload_n (pc := 37) hX 19 rfl rfl ?_
    refine r_aload_n (pc := 38) hX 20 rfl rfl ?_
    refine r_putR (pc := 39) hX 21 rfl fl_X11_140 rfl (fun _ h => by cases h; rfl) (hH_20.kd ht (by decide)) (hH_20.g4 ht (by decide)) ?_
    have hH_39 : HT ωv11 (up v11 (ρv11 t 0) 1 0) (up ρv11 t 17 r11) Zv11 := hH_20.un ht rfl (Or.inr hwf1_) rfl
    show wp g X F_X11_sentence 4 125 42 [(2, t), (2, r11)] [] (up v11 (ρv11 t 0) 1 0) (up ρv11 t 17 r11) Zv11
    refine r_aload_n (pc := 42) hX 22 rfl rfl ?_
    refine e_getI (y := (v11 r11 4)) (pc := 43) hX 23 rfl fl_X11_376 rfl (hH_39.kd hwf1_ (by decide)) ((up_k (by decide)).trans (rfl)) ?_
    have hb43 : 0 ≤ (v11 r11 4) ∧ (v11 r11 4) ≤ 20 := hH11.rg hwf1_ (by decide) rfl
    exact r_iret (pc := 46) hX 24 hQ rfl rfl (Nat.le_of_ble_eq_true rfl) (Nat.le_of_ble_eq_true rfl) ⟨ωv11, (OmX.tr OmX.rf homv11 (by first | exact Int.le_refl _ | omega)), (ZzX.tr ZzX.rf hzzv11 (by first | exact Int.le_refl _ | omega)), ((FrB.rf).trB OmX.rf hfr11 (by first | exact Int.le_refl _ | omega) (by decide)).up (r := (ρv11 t 0)) (OmX.tr OmX.rf homv11 (by first | exact Int.le_refl _ | omega)) hw15_ (by decide), ((FrB.rf).trB OmX.rf hfrR11 (by first | exact Int.le_refl _ | omega) (by decide)).up (r := t) (OmX.tr OmX.rf homv11 (by first | exact Int.le_refl _ | omega)) ht (by decide), hH_39, (v11 r11 4), rfl, (by rw [show (up ρv11 t 17 r11) t 0 = ρv11 t 0 from up_k (by decide)]; exact up_s _ _ _ _), (⟨by rw [up_k (by decide), hfrR11 t htz (by rw [ht0]; decide)], by rw [up_k (by decide), hfrR11 t htz (by rw [ht0]; decide)]⟩), (by rw [up_k (by decide), hfrR11 t htz (by rw [ht0]; decide)]), (fun j hj => by rw [up_k hj, hfrR11 t htz (by rw [ht0]; decide)]), ((hs11.1.ans1 (by omega)).symm), ((up_r (rne hw21 ht (by decide))).trans hs11.2.1), (by
        have z := hs11.2.2
        rw [hs11.2.1] at z
        rw [e110]
        exact (up_k (by decide)).trans z)⟩
  · refine r_iconst (pc := 27) hX 13 rfl ?_
    refine t_getR (q := (ρv11 t 0)) (pc := 28) hX 14 rfl rfl rfl fl_X11_12 rfl (hH_20.kd ht (by decide)) (rfl) ?_
    refine e_getI (y := (v11 (ρv11 t 0) 10)) (pc := 32) hX 16 rfl fl_X11_131 rfl (hH_20.kd hw15_ (by decide)) ((up_k (by decide)).trans (rfl)) ?_
    have hb32 : 0 ≤ (v11 (ρv11 t 0) 10) ∧ (v11 (ρv11 t 0) 10) ≤ 1000 := hH11.rg hw15_ (by decide) rfl
    refine r_isub (pc := 35) hX 17 rfl ?_
    exact r_iret (pc := 36) hX 18 hQ rfl rfl (Nat.le_of_ble_eq_true rfl) (Nat.le_of_ble_eq_true rfl) ⟨ωv11, (OmX.tr OmX.rf homv11 (by first | exact Int.le_refl _ | omega)), (ZzX.tr ZzX.rf hzzv11 (by first | exact Int.le_refl _ | omega)), ((FrB.rf).trB OmX.rf hfr11 (by first | exact Int.le_refl _ | omega) (by decide)).up (r := (ρv11 t 0)) (OmX.tr OmX.rf homv11 (by first | exact Int.le_refl _ | omega)) hw15_ (by decide), (FrB.rf).trB OmX.rf hfrR11 (by first | exact Int.le_refl _ | omega) (by decide), hH_20, ((-1) - (v11 (ρv11 t 0) 10)), rfl, (up_s _ _ _ _), (⟨by rw [hfrR11 t htz (by rw [ht0]; decide)], by rw [hfrR11 t htz (by rw [ht0]; decide)]⟩), (by rw [hfrR11 t htz (by rw [ht0]; decide)]), (fun j _ => by rw [hfrR11 t htz (by rw [ht0]; decide)]), (by rw [hs11.1.ans0 (by omega), hs11.2.1, e110]), (hs11.2.1), (by
        have z := hs11.2.2
        rw [hs11.2.1] at z
        rw [e110]
        exact (up_k (by decide)).trans z)⟩
