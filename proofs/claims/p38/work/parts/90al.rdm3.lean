set_option maxHeartbeats 4000000 in
set_option maxRecDepth 100000 in
theorem c_readLandF (g : Gp) (v ρ : Mv) (Z : Mz) (hG : GM ρ Z) {F : Int → Int} {n m : Int} {s : Rd}  (hL : 0 ≤ v 178 4 ∧ v 178 4 ≤ v 178 3 ∧ v 178 3 ≤ 940 ∧ 0 ≤ v 178 11 ∧ v 178 11 ≤ 4 ∧ inR (v 178 5) ∧ inR (v 178 14)) (hV : HInv (v 181)) (hR : RdM F n m v s) (hrs : RsI (v 184)) : Ok g 5 0 0 F_m_readLand [(2, 178)] v ρ Z (fun o v' ρ' Z' => ρ = ρ' ∧ Z = Z' ∧ Fr [181, 183] [4, 11, 12, 13, 14, 15, 16, 17, 18] v v' ∧ ∃ r : Int, o = some (0, r) ∧ (0 ≤ v' 178 4 ∧ v' 178 4 ≤ v' 178 3 ∧ v' 178 3 ≤ 940 ∧ 0 ≤ v' 178 11 ∧ v' 178 11 ≤ 4 ∧ inR (v' 178 5) ∧ inR (v' 178 14) ∧ v 178 4 ≤ v' 178 4 ∧ v' 178 3 = v 178 3) ∧ (0 ≤ r ∧ r ≤ 1) ∧ (Hd (r = 1 → HInv (v' 181))) ∧ (PoL F n m v' r (rLand F n m s)) ∧ (∀ j, j < 10 → v' 183 j = v 183 j)) := by
  refine Ok.of mo_m_readLand (Nat.le_of_ble_eq_true rfl) ?_
  intro X hX hRm hxn hQ
  show wp g X F_m_readLand 0 0 0 [(2, 178), (3, 0), (3, 0), (3, 0)] [] v ρ Z
  have hz := hV.h0
  have hT := hR.1
  have h12 := hR.1.2.2.2.2.2.2.2.1
  have hH0 : v 181 0 = s.H 0 := hR.2.1 0 (by decide) (by decide)
  have hH1 : v 181 1 = s.H 1 := hR.2.1 1 (by decide) (by decide)
  have hH2 : v 181 2 = s.H 2 := hR.2.1 2 (by decide) (by decide)
  refine t_getR (pc := 0) hX 0 rfl rfl rfl fl_X12_37 rfl hG.1 (a_h hG).1 ?_
  refine r_iconst (pc := 4) hX 2 rfl ?_
  refine e_iald (y := (v 181 1)) (pc := 5) hX 3 rfl (a_h hG).2.1 (a_h hG).2.2 (by omega) (by omega) (rfl) ?_
  obtain ⟨l, hl_e⟩ : ∃ z : Int, z = (v 181 1) := ⟨_, rfl⟩
  rw [← hl_e]
  refine r_istore_n (ls' := [(2, 178), (0, l), (3, 0), (3, 0)]) (pc := 6) hX 4 rfl (by decide) rfl ?_
  refine r_iload_n (pc := 7) hX 5 rfl rfl ?_
  refine r_iconst (pc := 8) hX 6 rfl ?_
  first | refine r_icmp_ne (pc := 9) hX 7 (tgt := 18) rfl (by decide) (⟨by omega, by omega⟩) (⟨by omega, by omega⟩) (fun h9 => ?_) (fun h9 => ?_) | refine r_icmp_ne_any (pc := 9) hX 7 (tgt := 18) rfl (by decide) ?_ ?_
  · refine r_aload_n (pc := 18) hX 12 rfl rfl ?_
    refine r_callV (as := []) (st := []) (K := 12) (pc := 19) hX 13 rfl mo_m_go ml_X12_219 im_m_go se_m_go (c_goT g v ρ Z hG  (by omega) (hT)) rfl rfl rfl hG.1 (by rw [hRm]; exact ⟨by decide, by decide⟩) (by rw [hRm]; exact ⟨by decide, by decide⟩) (Nat.le_of_ble_eq_true rfl) (fun o19 v19 ρ19 Z19 hq19 _ => ?_)
    obtain ⟨rfl, rfl, hfr19, rfl, hq19⟩ := hq19
    have hRsI_19 : RsI (v19 184) := by rw [hfr19.1 184 (by decide) (by decide)]; exact hrs
    have hk19_3 : v19 178 3 = (v 178 3) := (hfr19.2 3 (by decide)).trans (rfl)
    have hk19_5 : v19 178 5 = (v 178 5) := (hfr19.2 5 (by decide)).trans (rfl)
    show wp g X F_m_readLand 0 0 22 [(2, 178), (0, l), (3, 0), (3, 0)] [] v19 ρ Z
    have eh19 : v19 181 = v 181 := hfr19.1 181 (by decide) (by decide)
    have hR19 : RdM F n m v19 (nx F n m s) := hR.go hfr19 (by decide) (by decide) hq19.2
    refine r_aload_n (pc := 22) hX 14 rfl rfl ?_
    refine r_bipush (pc := 23) hX 15 rfl (by decide) ?_
    refine r_iload_n (pc := 25) hX 16 rfl rfl ?_
    refine r_iadd (pc := 26) hX 17 rfl ?_
    refine r_callV (as := [(0, (14 + l))]) (st := []) (K := 12) (pc := 27) hX 18 rfl mo_m_fresh ml_X12_251 im_m_fresh se_m_fresh (c_freshF g v19 ρ Z hG ((14 + l)) (by omega) (by rw [eh19]; exact hz) (hR19) (hRsI_19) (by rw [eh19]; omega)) rfl rfl rfl hG.1 (by rw [hRm]; exact ⟨by decide, by decide⟩) (by rw [hRm]; exact ⟨by decide, by decide⟩) (Nat.le_of_ble_eq_true rfl) (fun o27 v27 ρ27 Z27 hq27 _ => ?_)
    obtain ⟨rfl, rfl, hfr27, r27, rfl, hq27⟩ := hq27
    have hRsI_27 : RsI (v27 184) := by rw [hfr27.1 184 (by decide) (by decide)]; exact hRsI_19
    have hk27_3 : v27 178 3 = (v19 178 3) := (hfr27.2 3 (by decide)).trans (rfl)
    have hk27_5 : v27 178 5 = (v19 178 5) := (hfr27.2 5 (by decide)).trans (rfl)
    show wp g X F_m_readLand 0 0 30 [(2, 178), (0, l), (3, 0), (3, 0)] [(0, r27)] v27 ρ Z
    have eh27 : v27 181 = v19 181 := hfr27.1 181 (by decide) (by decide)
    have hF27 := hq27.2.2.1
    have hN27 := hq27.2.2.2
    replace hq27 := And.intro hq27.1 hq27.2.1
    have hn27 : ∀ j, j < 10 → v27 183 j = v 183 j := fun j hj => by rw [hN27 j (by omega), hfr19.1 183 (by decide) (by decide)]
    have hF27a : PoM F n m v27 r27 (adv F n m (rNewAt F n m (nx F n m s) (4 + l))) := by
      have z := hF27.1
      rw [show 14 + l - 10 = 4 + l by omega] at z
      exact z
    first | refine r_if_eq (pc := 30) hX 19 (tgt := 47) rfl (by decide) (⟨by omega, by omega⟩) (fun h30 => ?_) (fun h30 => ?_) | refine r_if_eq_any (pc := 30) hX 19 (tgt := 47) rfl (by decide) ?_ ?_
    · refine r_iconst (pc := 47) hX 28 rfl ?_
      exact r_zret (pc := 48) hX 29 hQ rfl rfl ⟨by omega, by omega⟩ (Nat.le_refl 0) (Nat.le_refl 0) ⟨rfl, rfl, ((Fr.rf).tr hfr19 (by decide) (by decide)).tr hfr27 (by decide) (by decide), 0, rfl, (by (repeat (first | rw [up_k (by decide)] | rw [up_s] | rw [up_r (by decide)])); omega), (by omega), (Hd.i (fun z => absurd z (by first | decide | omega))), (by first | (rw [rLand_e (show s.H 1 = l by omega) (by omega)]; exact (hF27a.p0 (by omega)).L) | exact PoM.land2 (q1 := rNew F n m s (4 + l)) (q2 := rNum F n m (rNew F n m s (4 + l)).2 (14 + l) 1 9) rfl rfl (by omega) (by omega) hz1 hP41 (by omega)), (fun j hj => by first | exact hn27 j hj | exact hn41 j hj | rw [hfr14.1 183 (by decide) (by decide)] | (rw [up_f (by decide)]; exact in79 j hj) | (rw [hfr128.1 183 (by decide) (by decide), et97]; exact in79 j hj) | (rw [et140, et133, et97]; exact in79 j hj) | (rw [et97]; exact in79 j hj))⟩
    · obtain ⟨hz1, hR27⟩ := hF27a.p1 (by omega)
      refine r_aload_n (pc := 33) hX 20 rfl rfl ?_
      refine r_bipush (pc := 34) hX 21 rfl (by decide) ?_
      refine r_iload_n (pc := 36) hX 22 rfl rfl ?_
      refine r_iadd (pc := 37) hX 23 rfl ?_
      refine r_iconst (pc := 38) hX 24 rfl ?_
      refine r_bipush (pc := 39) hX 25 rfl (by decide) ?_
      refine r_callV (as := [(0, (14 + l)), (0, 1), (0, 9)]) (st := []) (K := 12) (pc := 41) hX 26 rfl mo_m_puts ml_X12_254 im_m_puts se_m_puts (c_putsF g v27 ρ Z hG ((14 + l)) (1) (9) (by omega) (hR27.1) (by omega) (by omega) (by omega)) rfl rfl rfl hG.1 (by rw [hRm]; exact ⟨by decide, by decide⟩) (by rw [hRm]; exact ⟨by decide, by decide⟩) (Nat.le_of_ble_eq_true rfl) (fun o41 v41 ρ41 Z41 hq41 _ => ?_)
      obtain ⟨rfl, rfl, hfr41, r41, rfl, hq41⟩ := hq41
      have hRsI_41 : RsI (v41 184) := by rw [hfr41.1 184 (by decide) (by decide)]; exact hRsI_27
      have hk41_3 : v41 178 3 = (v27 178 3) := (hfr41.2 3 (by decide)).trans (rfl)
      have hk41_5 : v41 178 5 = (v27 178 5) := (hfr41.2 5 (by decide)).trans (rfl)
      show wp g X F_m_readLand 0 0 44 [(2, 178), (0, l), (3, 0), (3, 0)] [(0, r41)] v41 ρ Z
      have hP41 := hq41.2.2.1.po hR27 (by omega) (fun _ => hq41.2.2.2) (hfr41.1 183 (by decide) (by decide)) (hfr41.2 20 (by decide))
      have hU41 := hq41.2.2.1
      have hof41 := hq41.2.2.2
      replace hq41 := And.intro hq41.1 hq41.2.1
      have hoth : ∀ j, j ≠ 14 + l → v41 181 j = v 181 j := fun j a => by rw [hof41 j a, eh27, eh19]
      have hn41 : ∀ j, j < 10 → v41 183 j = v 183 j := fun j hj => by rw [hfr41.1 183 (by decide) (by decide)]; exact hn27 j hj
      first | refine r_if_ne (pc := 44) hX 27 (tgt := 49) rfl (by decide) (⟨by omega, by omega⟩) (fun h44 => ?_) (fun h44 => ?_) | refine r_if_ne_any (pc := 44) hX 27 (tgt := 49) rfl (by decide) ?_ ?_
      · have hU41b := hU41.b (by omega)
        obtain ⟨hz2, hR41⟩ := hP41.p1 (by omega)
        have hw41 : NmW (tn F n (nx F n m s).p) (v41 183 (14 + l)) := by
          rw [hfr41.1 183 (by decide) (by decide)]
          exact hF27.2 (by omega)
        refine r_iconst (pc := 49) hX 30 rfl ?_
        refine r_istore_n (ls' := [(2, 178), (0, l), (0, 0), (3, 0)]) (pc := 50) hX 31 rfl (by decide) rfl ?_
        have L51 : ∀ (n51 : Nat) (i : Int) (v51 : Mv) , (Fr [181, 183] [4, 11, 12, 13, 14, 15, 16, 17, 18] v v51) → (RsI (v51 184)) → (0 ≤ i ∧ i ≤ 4) → (0 ≤ v51 178 4 ∧ v51 178 4 ≤ v51 178 3 ∧ v51 178 3 ≤ 940 ∧ 0 ≤ v51 178 11 ∧ v51 178 11 ≤ 4 ∧ inR (v51 178 5) ∧ inR (v51 178 14)) → (v 178 4 ≤ v51 178 4 ∧ v51 178 3 = v 178 3) → (∀ j, j ≠ 14 + l → ¬ (17 + 5 * l ≤ j ∧ j < 17 + 5 * l + 4) → v51 181 j = v 181 j) → (1 ≤ v51 181 (14 + l) ∧ v51 181 (14 + l) ≤ 9) → (∀ c, 0 ≤ c → c < i → v51 181 (17 + 5 * l + c) = 0) → (Fr [181] [] v41 v51) → (∀ j, ¬ (17 + 5 * l ≤ j ∧ j < 17 + 5 * l + 4) → v51 181 j = v41 181 j) → (∀ j, j < 10 → v51 183 j = v 183 j) → (4 - i).toNat < n51 → wp g X F_m_readLand 0 0 51 [(2, 178), (0, l), (0, i), (3, 0)] [] v51 ρ Z := by
          intro n51
          induction n51 with
          | zero => intro i v51 hfr51 hRsI_51 ii jl jp ia i14 iz if41 io41 in51 hme51; exact absurd hme51 (Nat.not_lt_zero _)
          | succ n51 ih51 =>
            intro i v51 hfr51 hRsI_51 ii jl jp ia i14 iz if41 io41 in51 hme51
            refine r_iload_n (pc := 51) hX 32 rfl rfl ?_
            refine r_iconst (pc := 52) hX 33 rfl ?_
            first | refine r_icmp_ge (pc := 53) hX 34 (tgt := 76) rfl (by decide) (⟨by omega, by omega⟩) (⟨by omega, by omega⟩) (fun h53 => ?_) (fun h53 => ?_) | refine r_icmp_ge_any (pc := 53) hX 34 (tgt := 76) rfl (by decide) ?_ ?_
            · refine r_bipush (pc := 76) hX 48 rfl (by decide) ?_
              refine r_istore_n (ls' := [(2, 178), (0, l), (0, 12), (3, 0)]) (pc := 78) hX 49 rfl (by decide) rfl ?_
              have L79 : ∀ (n79 : Nat) (lf : Int) (v79 : Mv) , (Fr [181, 183] [4, 11, 12, 13, 14, 15, 16, 17, 18] v v79) → (RsI (v79 184)) → (0 ≤ v79 178 4 ∧ v79 178 4 ≤ v79 178 3 ∧ v79 178 3 ≤ 940 ∧ 0 ≤ v79 178 11 ∧ v79 178 11 ≤ 4 ∧ inR (v79 178 5) ∧ inR (v79 178 14)) → (v 178 4 ≤ v79 178 4 ∧ v79 178 3 = v 178 3) → (∀ j, j ≠ 14 + l → ¬ (17 + 5 * l ≤ j ∧ j < 17 + 5 * l + 4) → v79 181 j = v 181 j) → (1 ≤ v79 181 (14 + l) ∧ v79 181 (14 + l) ≤ 9) → (∀ c, 0 ≤ c → c ≤ 3 → 0 ≤ v79 181 (17 + 5 * l + c) ∧ v79 181 (17 + 5 * l + c) ≤ 12) → (v79 181 (17 + 5 * l + 0) + v79 181 (17 + 5 * l + 1) + v79 181 (17 + 5 * l + 2) + v79 181 (17 + 5 * l + 3) + lf = 12 ∧ 0 ≤ lf ∧ lf ≤ 12) → (LdI F n m s l v79 lf) → (∀ j, j < 10 → v79 183 j = v 183 j) → (940 - v79 178 4).toNat < n79 → wp g X F_m_readLand 0 0 79 [(2, 178), (0, l), (0, lf), (3, 0)] [] v79 ρ Z := by
                intro n79
                induction n79 with
                | zero => intro lf v79 hfr79 hRsI_79 jl jp ia i14 ib iss iR in79 hme79; exact absurd hme79 (Nat.not_lt_zero _)
                | succ n79 ih79 =>
                  intro lf v79 hfr79 hRsI_79 jl jp ia i14 ib iss iR in79 hme79
                  have ih0 := ia 0 (by omega) (by omega)
                  have ih1 := ia 1 (by omega) (by omega)
                  have ih2 := ia 2 (by omega) (by omega)
                  obtain ⟨kf, sg, hRg, heq, hps, hnw, hl1⟩ := iR
                  have hg0 : v79 181 0 = sg.H 0 := hRg.2.1 0 (by decide) (by decide)
                  have hg4 : v79 178 4 = tp F n m sg.p := hRg.1.2.2.2.2.2.1
                  refine r_aload_n (pc := 79) hX 50 rfl rfl ?_
                  refine r_bipush (pc := 80) hX 51 rfl (by decide) ?_
                  refine r_callV (as := [(0, 59)]) (st := []) (K := 12) (pc := 82) hX 52 rfl mo_m_isSign ml_X12_213 im_m_isSign se_m_isSign (c_isSignT g v79 ρ Z hG (59) (hRg.1) (by omega) (by omega) (by omega)) rfl rfl rfl hG.1 (by rw [hRm]; exact ⟨by decide, by decide⟩) (by rw [hRm]; exact ⟨by decide, by decide⟩) (Nat.le_of_ble_eq_true rfl) (fun o82 v82 ρ82 Z82 hq82 _ => ?_)
                  obtain ⟨rfl, rfl, rfl, r82, rfl, hq82⟩ := hq82
                  show wp g X F_m_readLand 0 0 85 [(2, 178), (0, l), (0, lf), (3, 0)] [(0, r82)] v79 ρ Z
                  have hb82 : 0 ≤ r82 ∧ r82 ≤ 1 := by omega
                  replace hq82 := Hd.i hq82
                  first | refine r_if_ne (pc := 85) hX 53 (tgt := 160) rfl (by decide) (⟨by omega, by omega⟩) (fun h85 => ?_) (fun h85 => ?_) | refine r_if_ne_any (pc := 85) hX 53 (tgt := 160) rfl (by decide) ?_ ?_
                  · have hmt : mk F n m sg.p 59 = true := by
                      rcases Hd.o hq82 with ⟨_, a⟩ | ⟨a, _⟩
                      · exact a
                      · exact absurd a (by omega)
                    have hl79 : v79 181 1 = l := (hRg.2.1 1 (by decide) (by decide)).trans hl1
                    refine t_getR (pc := 160) hX 100 rfl rfl rfl fl_X12_37 rfl hG.1 (a_h hG).1 ?_
                    refine r_iconst (pc := 164) hX 102 rfl ?_
                    refine r_dup2i (pc := 165) hX 103 rfl (show (0 : Nat) ≠ 1 by decide) (show (2 : Nat) ≠ 1 by decide) ?_
                    refine e_iald (y := (v79 181 1)) (pc := 166) hX 104 rfl (a_h hG).2.1 (a_h hG).2.2 (by omega) (by omega) (rfl) ?_
                    refine r_iconst (pc := 167) hX 105 rfl ?_
                    refine r_iadd (pc := 168) hX 106 rfl ?_
                    refine e_iast (pc := 169) hX 107 rfl (a_h hG).2.1 (a_h hG).2.2 (by decide) (by omega) (by omega) ?_
                    refine r_iconst (pc := 170) hX 108 rfl ?_
                    show wp g X F_m_readLand 0 0 171 [(2, 178), (0, l), (0, lf), (3, 0)] [(0, 1)] (up v79 181 1 ((v79 181 1) + 1)) ρ Z
                    exact r_zret (pc := 171) hX 109 hQ rfl rfl ⟨by omega, by omega⟩ (Nat.le_refl 0) (Nat.le_refl 0) ⟨rfl, rfl, (hfr79).arr (r := 181) (by decide) (by decide), 1, rfl, (by (repeat (first | rw [up_k (by decide)] | rw [up_s] | rw [up_r (by decide)])); omega), (by omega), (Hd.i (fun _ => HInv.more (hV.land (l := l) (by omega) (ia 1 (by omega) (by omega)) (by omega) ia (by omega) ib (by omega)) (fun j hj => up_k hj) (up_s _ _ _ _) (by omega) (by rw [show v79 181 1 = l by omega]; exact i14.1))), (Ld.good hRg heq hnw hl1 hmt (by omega)), (fun j hj => by first | exact hn27 j hj | exact hn41 j hj | rw [hfr14.1 183 (by decide) (by decide)] | (rw [up_f (by decide)]; exact in79 j hj) | (rw [hfr128.1 183 (by decide) (by decide), et97]; exact in79 j hj) | (rw [et140, et133, et97]; exact in79 j hj) | (rw [et97]; exact in79 j hj))⟩
                  · have hmf : mk F n m sg.p 59 = false := by
                      rcases Hd.o hq82 with ⟨a, _⟩ | ⟨_, a⟩
                      · exact absurd a (by omega)
                      · exact a
                    refine r_aload_n (pc := 88) hX 54 rfl rfl ?_
                    refine r_bipush (pc := 89) hX 55 rfl (by decide) ?_
                    refine t_getR (pc := 91) hX 56 rfl rfl rfl fl_X12_37 rfl hG.1 (a_h hG).1 ?_
                    refine r_iconst (pc := 95) hX 58 rfl ?_
                    refine e_iald (y := (v79 181 0)) (pc := 96) hX 59 rfl (a_h hG).2.1 (a_h hG).2.2 (by omega) (by omega) (rfl) ?_
                    refine r_callV (as := [(0, 10), (0, (v79 181 0))]) (st := []) (K := 12) (pc := 97) hX 60 rfl mo_m_looksAt ml_X12_257 im_m_looksAt se_m_looksAt (c_looksAtF g v79 ρ Z hG (10) ((v79 181 0)) (by omega) (by omega) (hRg) (hRsI_79) (by omega)) rfl rfl rfl hG.1 (by rw [hRm]; exact ⟨by decide, by decide⟩) (by rw [hRm]; exact ⟨by decide, by decide⟩) (Nat.le_of_ble_eq_true rfl) (fun o97 v97 ρ97 Z97 hq97 _ => ?_)
                    obtain ⟨rfl, rfl, hfr97, r97, rfl, hq97⟩ := hq97
                    have hRsI_97 : RsI (v97 184) := by rw [hfr97.1 184 (by decide) (by decide)]; exact hRsI_79
                    have hk97_3 : v97 178 3 = (v79 178 3) := (hfr97.2 3 (by decide)).trans (rfl)
                    have hk97_4 : v97 178 4 = (v79 178 4) := (hfr97.2 4 (by decide)).trans (rfl)
                    have hk97_5 : v97 178 5 = (v79 178 5) := (hfr97.2 5 (by decide)).trans (rfl)
                    have hk97_11 : v97 178 11 = (v79 178 11) := (hfr97.2 11 (by decide)).trans (rfl)
                    have hk97_14 : v97 178 14 = (v79 178 14) := (hfr97.2 14 (by decide)).trans (rfl)
                    show wp g X F_m_readLand 0 0 100 [(2, 178), (0, l), (0, lf), (3, 0)] [(0, r97)] v97 ρ Z
                    have eh97 : v97 181 = v79 181 := hfr97.1 181 (by decide) (by decide)
                    have et97 : v97 183 = v79 183 := hfr97.1 183 (by decide) (by decide)
                    have hL97 := hq97.2.2
                    replace hq97 := And.intro hq97.1 hq97.2.1
                    first | refine r_if_ne (pc := 100) hX 61 (tgt := 105) rfl (by decide) (⟨by omega, by omega⟩) (fun h100 => ?_) (fun h100 => ?_) | refine r_if_ne_any (pc := 100) hX 61 (tgt := 105) rfl (by decide) ?_ ?_
                    · have hc97 := hL97.b (by omega) (by omega)
                      have hR97 : RdM F n m v97 sg := hRg.fr hfr97 (by decide) (by decide) (by decide)
                      refine r_bipush (pc := 105) hX 64 rfl (by decide) ?_
                      refine r_iconst (pc := 107) hX 65 rfl ?_
                      refine r_iload_n (pc := 108) hX 66 rfl rfl ?_
                      refine r_imul (pc := 109) hX 67 rfl ?_
                      refine r_iadd (pc := 110) hX 68 rfl ?_
                      refine t_getI (y := (v97 178 18)) (pc := 111) hX 69 rfl rfl rfl fl_X12_226 rfl hG.1 (rfl) ?_
                      refine r_iadd (pc := 115) hX 71 rfl ?_
                      refine r_istore_n (ls' := [(2, 178), (0, l), (0, lf), (0, ((17 + (5 * l)) + (v97 178 18)))]) (pc := 116) hX 72 rfl (by decide) rfl ?_
                      refine t_getR (pc := 117) hX 73 rfl rfl rfl fl_X12_37 rfl hG.1 (a_h hG).1 ?_
                      refine r_iload_n (pc := 121) hX 75 rfl rfl ?_
                      refine e_iald (y := (v97 181 ((17 + (5 * l)) + (v97 178 18)))) (pc := 122) hX 76 rfl (a_h hG).2.1 (a_h hG).2.2 (by omega) (by omega) (rfl) ?_
                      have hold : v97 181 (17 + 5 * l + (v97 178 18)) = v79 181 (17 + 5 * l + (v97 178 18)) := by rw [eh97]
                      have hob := ib (v97 178 18) (by omega) (by omega)
                      have hsg : v79 181 (17 + 5 * l + (v97 178 18)) = sg.H (17 + 5 * l + (v97 178 18)) := hRg.2.1 _ (by omega) (by omega)
                      first | refine r_if_le (pc := 123) hX 77 (tgt := 132) rfl (by decide) (⟨by omega, by omega⟩) (fun h123 => ?_) (fun h123 => ?_) | refine r_if_le_any (pc := 123) hX 77 (tgt := 132) rfl (by decide) ?_ ?_
                      · refine r_aload_n (pc := 132) hX 82 rfl rfl ?_
                        refine r_callV (as := []) (st := []) (K := 12) (pc := 133) hX 83 rfl mo_m_go ml_X12_219 im_m_go se_m_go (c_goT g v97 ρ Z hG  (by omega) (hR97.1)) rfl rfl rfl hG.1 (by rw [hRm]; exact ⟨by decide, by decide⟩) (by rw [hRm]; exact ⟨by decide, by decide⟩) (Nat.le_of_ble_eq_true rfl) (fun o133 v133 ρ133 Z133 hq133 _ => ?_)
                        obtain ⟨rfl, rfl, hfr133, rfl, hq133⟩ := hq133
                        have hRsI_133 : RsI (v133 184) := by rw [hfr133.1 184 (by decide) (by decide)]; exact hRsI_97
                        have hk133_3 : v133 178 3 = (v97 178 3) := (hfr133.2 3 (by decide)).trans (rfl)
                        have hk133_5 : v133 178 5 = (v97 178 5) := (hfr133.2 5 (by decide)).trans (rfl)
                        show wp g X F_m_readLand 0 0 136 [(2, 178), (0, l), (0, lf), (0, ((17 + (5 * l)) + (v97 178 18)))] [] v133 ρ Z
                        have eh133 : v133 181 = v97 181 := hfr133.1 181 (by decide) (by decide)
                        have et133 : v133 183 = v97 183 := hfr133.1 183 (by decide) (by decide)
                        have hR133 : RdM F n m v133 (nx F n m sg) := hR97.go hfr133 (by decide) (by decide) hq133.2
                        refine r_aload_n (pc := 136) hX 84 rfl rfl ?_
                        refine r_iload_n (pc := 137) hX 85 rfl rfl ?_
                        refine r_iconst (pc := 138) hX 86 rfl ?_
                        refine r_iload_n (pc := 139) hX 87 rfl rfl ?_
                        refine r_callV (as := [(0, ((17 + (5 * l)) + (v97 178 18))), (0, 1), (0, lf)]) (st := []) (K := 12) (pc := 140) hX 88 rfl mo_m_puts ml_X12_254 im_m_puts se_m_puts (c_putsF g v133 ρ Z hG (((17 + (5 * l)) + (v97 178 18))) (1) (lf) (by omega) (hR133.1) (by omega) (by omega) (by omega)) rfl rfl rfl hG.1 (by rw [hRm]; exact ⟨by decide, by decide⟩) (by rw [hRm]; exact ⟨by decide, by decide⟩) (Nat.le_of_ble_eq_true rfl) (fun o140 v140 ρ140 Z140 hq140 _ => ?_)
                        obtain ⟨rfl, rfl, hfr140, r140, rfl, hq140⟩ := hq140
                        have hRsI_140 : RsI (v140 184) := by rw [hfr140.1 184 (by decide) (by decide)]; exact hRsI_133
                        have hk140_3 : v140 178 3 = (v133 178 3) := (hfr140.2 3 (by decide)).trans (rfl)
                        have hk140_5 : v140 178 5 = (v133 178 5) := (hfr140.2 5 (by decide)).trans (rfl)
                        show wp g X F_m_readLand 0 0 143 [(2, 178), (0, l), (0, lf), (0, ((17 + (5 * l)) + (v97 178 18)))] [(0, r140)] v140 ρ Z
                        have hP140 := hq140.2.2.1.po hR133 (by omega) (fun _ => hq140.2.2.2) (hfr140.1 183 (by decide) (by decide)) (hfr140.2 20 (by decide))
                        have hU140 := hq140.2.2.1
                        have hof140 := hq140.2.2.2
                        replace hq140 := And.intro hq140.1 hq140.2.1
                        have et140 : v140 183 = v133 183 := hfr140.1 183 (by decide) (by decide)
                        have hoth2 : ∀ j, j ≠ 17 + 5 * l + (v97 178 18) → v140 181 j = v79 181 j := fun j a => by rw [hof140 j a, eh133, eh97]
                        first | refine r_if_ne (pc := 143) hX 89 (tgt := 148) rfl (by decide) (⟨by omega, by omega⟩) (fun h143 => ?_) (fun h143 => ?_) | refine r_if_ne_any (pc := 143) hX 89 (tgt := 148) rfl (by decide) ?_ ?_
                        · have hU140b := hU140.b (by omega)
                          have hnew : 1 ≤ v140 181 (17 + 5 * l + (v97 178 18)) ∧ v140 181 (17 + 5 * l + (v97 178 18)) ≤ lf := hU140b.2
                          have hzero : v79 181 (17 + 5 * l + (v97 178 18)) = 0 := by omega
                          have hstr : v79 178 4 < v133 178 4 := by
                            have z1 : v133 178 4 = tp F n m (nx F n m sg).p := hR133.1.2.2.2.2.2.1
                            have z2 := tp_lt (f := F) (n := n) (m := m) hR133.1.2.1 (Or.inr (Or.inl hU140b.1))
                            rw [hg4, z1]
                            exact z2
                          refine r_iload_n (pc := 148) hX 92 rfl rfl ?_
                          refine t_getR (pc := 149) hX 93 rfl rfl rfl fl_X12_37 rfl hG.1 (a_h hG).1 ?_
                          refine r_iload_n (pc := 153) hX 95 rfl rfl ?_
                          refine e_iald (y := (v140 181 ((17 + (5 * l)) + (v97 178 18)))) (pc := 154) hX 96 rfl (a_h hG).2.1 (a_h hG).2.2 (by omega) (by omega) (rfl) ?_
                          refine r_isub (pc := 155) hX 97 rfl ?_
                          refine r_istore_n (ls' := [(2, 178), (0, l), (0, (lf - (v140 181 ((17 + (5 * l)) + (v97 178 18))))), (0, ((17 + (5 * l)) + (v97 178 18)))]) (pc := 156) hX 98 rfl (by decide) rfl ?_
                          refine r_goto (pc := 157) hX 99 (tgt := 79) rfl (by decide) ?_
                          refine r_wk (ls' := [(2, 178), (0, l), (0, (lf - (v140 181 ((17 + (5 * l)) + (v97 178 18))))), (3, 0)]) ⟨Or.inr rfl, Or.inr rfl, Or.inr rfl, Or.inl rfl, trivial⟩ ?_
                          exact (ih79 (lf - (v140 181 ((17 + (5 * l)) + (v97 178 18)))) v140 ((((hfr79).tr hfr97 (by decide) (by decide)).tr hfr133 (by decide) (by decide)).tr hfr140 (by decide) (by decide)) (hRsI_140) (by omega) (by omega) (fun j a b => by rw [hoth2 j (by omega)]; exact ia j a b) (by rw [hoth2 _ (by omega)]; exact i14) (fun c a b => by
          by_cases e : c = (v97 178 18)
          · subst e; omega
          · rw [hoth2 _ (by omega)]; exact ib c a b) (Ld.sum (c := v97 178 18) (by omega) iss hoth2 hzero hnew) (Ld.next heq hps (by omega) (by omega) hmf hc97.1 hc97.2.2.1 hc97.2.1 hRg (by omega) hP140 (by omega) (by omega) hoth2 (by rw [et140, et133, et97]) hnw hl1) (fun j hj => by rw [et140, et133, et97]; exact in79 j hj) (by omega))
                        · refine r_iconst (pc := 146) hX 90 rfl ?_
                          exact r_zret (pc := 147) hX 91 hQ rfl rfl ⟨by omega, by omega⟩ (Nat.le_refl 0) (Nat.le_refl 0) ⟨rfl, rfl, (((hfr79).tr hfr97 (by decide) (by decide)).tr hfr133 (by decide) (by decide)).tr hfr140 (by decide) (by decide), 0, rfl, (by (repeat (first | rw [up_k (by decide)] | rw [up_s] | rw [up_r (by decide)])); omega), (by omega), (Hd.i (fun z => absurd z (by first | decide | omega))), (Ld.num heq (by have := psc_z (h := v79 181) (l := l) (c := v97 178 18) (by omega) (by omega) (by omega); omega) hmf hc97.1 hc97.2.2.1 hc97.2.1 (by omega) hP140 (by omega)), (fun j hj => by first | exact hn27 j hj | exact hn41 j hj | rw [hfr14.1 183 (by decide) (by decide)] | (rw [up_f (by decide)]; exact in79 j hj) | (rw [hfr128.1 183 (by decide) (by decide), et97]; exact in79 j hj) | (rw [et140, et133, et97]; exact in79 j hj) | (rw [et97]; exact in79 j hj))⟩
                      · refine r_aload_n (pc := 126) hX 78 rfl rfl ?_
                        refine r_iconst (pc := 127) hX 79 rfl ?_
                        refine r_callV (as := [(0, 3)]) (st := []) (K := 12) (pc := 128) hX 80 rfl mo_m_bad ml_X12_216 im_m_bad se_m_bad (c_badF g v97 ρ Z hG (3) (by omega)) rfl rfl rfl hG.1 (by rw [hRm]; exact ⟨by decide, by decide⟩) (by rw [hRm]; exact ⟨by decide, by decide⟩) (Nat.le_of_ble_eq_true rfl) (fun o128 v128 ρ128 Z128 hq128 _ => ?_)
                        obtain ⟨rfl, rfl, hfr128, r128, rfl, hq128⟩ := hq128
                        have hRsI_128 : RsI (v128 184) := by rw [hfr128.1 184 (by decide) (by decide)]; exact hRsI_97
                        have hk128_3 : v128 178 3 = (v97 178 3) := (hfr128.2 3 (by decide)).trans (rfl)
                        have hk128_4 : v128 178 4 = (v97 178 4) := (hfr128.2 4 (by decide)).trans (rfl)
                        have hk128_5 : v128 178 5 = (v97 178 5) := (hfr128.2 5 (by decide)).trans (rfl)
                        have hk128_11 : v128 178 11 = (v97 178 11) := (hfr128.2 11 (by decide)).trans (rfl)
                        have hk128_14 : v128 178 14 = (v97 178 14) := (hfr128.2 14 (by decide)).trans (rfl)
                        show wp g X F_m_readLand 0 0 131 [(2, 178), (0, l), (0, lf), (0, ((17 + (5 * l)) + (v97 178 18)))] [(0, r128)] v128 ρ Z
                        exact r_zret (pc := 131) hX 81 hQ rfl rfl ⟨by omega, by omega⟩ (Nat.le_refl 0) (Nat.le_refl 0) ⟨rfl, rfl, ((hfr79).tr hfr97 (by decide) (by decide)).tr hfr128 (by decide) (by decide), r128, rfl, (by (repeat (first | rw [up_k (by decide)] | rw [up_s] | rw [up_r (by decide)])); omega), (by omega), (Hd.i (fun z => absurd z (by first | decide | omega))), (by rw [hq128.1]; exact Ld.again heq hmf hc97.1 (by rw [← hc97.2.2.1]; omega) hq128.2.1 (hq128.2.2.trans hR97.1.2.2.2.2.2.2.2.1)), (fun j hj => by first | exact hn27 j hj | exact hn41 j hj | rw [hfr14.1 183 (by decide) (by decide)] | (rw [up_f (by decide)]; exact in79 j hj) | (rw [hfr128.1 183 (by decide) (by decide), et97]; exact in79 j hj) | (rw [et140, et133, et97]; exact in79 j hj) | (rw [et97]; exact in79 j hj))⟩
                    · refine r_iconst (pc := 103) hX 62 rfl ?_
                      exact r_zret (pc := 104) hX 63 hQ rfl rfl ⟨by omega, by omega⟩ (Nat.le_refl 0) (Nat.le_refl 0) ⟨rfl, rfl, (hfr79).tr hfr97 (by decide) (by decide), 0, rfl, (by (repeat (first | rw [up_k (by decide)] | rw [up_s] | rw [up_r (by decide)])); omega), (by omega), (Hd.i (fun z => absurd z (by first | decide | omega))), (Ld.look heq hmf hL97 (by omega)), (fun j hj => by first | exact hn27 j hj | exact hn41 j hj | rw [hfr14.1 183 (by decide) (by decide)] | (rw [up_f (by decide)]; exact in79 j hj) | (rw [hfr128.1 183 (by decide) (by decide), et97]; exact in79 j hj) | (rw [et140, et133, et97]; exact in79 j hj) | (rw [et97]; exact in79 j hj))⟩
              exact (L79 _ 12 v51 (hfr51) (hRsI_51) (jl) (jp) (ia) (i14) (fun c a b => by rw [iz c a (by omega)]; omega) (by rw [iz 0 (by omega) (by omega), iz 1 (by omega) (by omega), iz 2 (by omega) (by omega), iz 3 (by omega) (by omega)]; omega) (LdI.start (q1 := rNew F n m s (4 + l)) (q2 := rNum F n m (rNew F n m s (4 + l)).2 (14 + l) 1 9) rfl rfl (by omega) (by omega) hz1 hz2 hR41 hw41 if41 io41 (fun c a b => iz c a (by omega))) (in51) (Nat.lt_succ_self _))
            · refine t_getR (pc := 56) hX 35 rfl rfl rfl fl_X12_37 rfl hG.1 (a_h hG).1 ?_
              refine r_bipush (pc := 60) hX 37 rfl (by decide) ?_
              refine r_iconst (pc := 62) hX 38 rfl ?_
              refine r_iload_n (pc := 63) hX 39 rfl rfl ?_
              refine r_imul (pc := 64) hX 40 rfl ?_
              refine r_iadd (pc := 65) hX 41 rfl ?_
              refine r_iload_n (pc := 66) hX 42 rfl rfl ?_
              refine r_iadd (pc := 67) hX 43 rfl ?_
              refine r_iconst (pc := 68) hX 44 rfl ?_
              refine e_iast (pc := 69) hX 45 rfl (a_h hG).2.1 (a_h hG).2.2 (by decide) (by omega) (by omega) ?_
              refine r_iinc (ls' := [(2, 178), (0, l), (0, (i + 1)), (3, 0)]) (pc := 70) hX 46 rfl rfl (by decide) rfl ?_
              refine r_goto (pc := 73) hX 47 (tgt := 51) rfl (by decide) ?_
              exact (ih51 (i + 1) (up v51 181 ((17 + (5 * l)) + i) 0) ((hfr51).arr (r := 181) (by decide) (by decide)) (by rw [up_f (by decide)]; exact hRsI_51) (by omega) (by (repeat (first | rw [up_k (by decide)] | rw [up_s] | rw [up_r (by decide)])); omega) (by (repeat (first | rw [up_k (by decide)] | rw [up_s] | rw [up_r (by decide)])); omega) (fun j a b => by rw [up_k (by omega)]; exact ia j a b) (by rw [up_k (by omega)]; exact i14) (fun c a b => by
          by_cases e : c = i
          · subst e; rw [up_s]
          · rw [up_k (by omega)]; exact iz c a (by omega)) (if41.arr (by decide) (by decide)) (fun j a => by rw [up_k (by omega)]; exact io41 j a) (fun j hj => by rw [up_f (by decide)]; exact in51 j hj) (by omega))
        exact (L51 _ 0 v41 ((((Fr.rf).tr hfr19 (by decide) (by decide)).tr hfr27 (by decide) (by decide)).tr hfr41 (by decide) (by decide)) (hRsI_41) (by omega) (by omega) (by omega) (fun j a b => hoth j a) (hU41b.2) (fun c a b => by omega) (Fr.rf) (fun j _ => rfl) (hn41) (Nat.lt_succ_self _))
      · refine r_iconst (pc := 47) hX 28 rfl ?_
        exact r_zret (pc := 48) hX 29 hQ rfl rfl ⟨by omega, by omega⟩ (Nat.le_refl 0) (Nat.le_refl 0) ⟨rfl, rfl, (((Fr.rf).tr hfr19 (by decide) (by decide)).tr hfr27 (by decide) (by decide)).tr hfr41 (by decide) (by decide), 0, rfl, (by (repeat (first | rw [up_k (by decide)] | rw [up_s] | rw [up_r (by decide)])); omega), (by omega), (Hd.i (fun z => absurd z (by first | decide | omega))), (by first | (rw [rLand_e (show s.H 1 = l by omega) (by omega)]; exact (hF27a.p0 (by omega)).L) | exact PoM.land2 (q1 := rNew F n m s (4 + l)) (q2 := rNum F n m (rNew F n m s (4 + l)).2 (14 + l) 1 9) rfl rfl (by omega) (by omega) hz1 hP41 (by omega)), (fun j hj => by first | exact hn27 j hj | exact hn41 j hj | rw [hfr14.1 183 (by decide) (by decide)] | (rw [up_f (by decide)]; exact in79 j hj) | (rw [hfr128.1 183 (by decide) (by decide), et97]; exact in79 j hj) | (rw [et140, et133, et97]; exact in79 j hj) | (rw [et97]; exact in79 j hj))⟩
  · refine r_aload_n (pc := 12) hX 8 rfl rfl ?_
    refine r_iconst (pc := 13) hX 9 rfl ?_
    refine r_callV (as := [(0, 4)]) (st := []) (K := 12) (pc := 14) hX 10 rfl mo_m_bad ml_X12_216 im_m_bad se_m_bad (c_badF g v ρ Z hG (4) (by omega)) rfl rfl rfl hG.1 (by rw [hRm]; exact ⟨by decide, by decide⟩) (by rw [hRm]; exact ⟨by decide, by decide⟩) (Nat.le_of_ble_eq_true rfl) (fun o14 v14 ρ14 Z14 hq14 _ => ?_)
    obtain ⟨rfl, rfl, hfr14, r14, rfl, hq14⟩ := hq14
    have hRsI_14 : RsI (v14 184) := by rw [hfr14.1 184 (by decide) (by decide)]; exact hrs
    have hk14_3 : v14 178 3 = (v 178 3) := (hfr14.2 3 (by decide)).trans (rfl)
    have hk14_4 : v14 178 4 = (v 178 4) := (hfr14.2 4 (by decide)).trans (rfl)
    have hk14_5 : v14 178 5 = (v 178 5) := (hfr14.2 5 (by decide)).trans (rfl)
    have hk14_11 : v14 178 11 = (v 178 11) := (hfr14.2 11 (by decide)).trans (rfl)
    have hk14_14 : v14 178 14 = (v 178 14) := (hfr14.2 14 (by decide)).trans (rfl)
    show wp g X F_m_readLand 0 0 17 [(2, 178), (0, l), (3, 0), (3, 0)] [(0, r14)] v14 ρ Z
    exact r_zret (pc := 17) hX 11 hQ rfl rfl ⟨by omega, by omega⟩ (Nat.le_refl 0) (Nat.le_refl 0) ⟨rfl, rfl, (Fr.rf).tr hfr14 (by decide) (by decide), r14, rfl, (by (repeat (first | rw [up_k (by decide)] | rw [up_s] | rw [up_r (by decide)])); omega), (by omega), (Hd.i (fun z => absurd z (by first | decide | omega))), (by rw [hq14.1]; exact (PoM.bad (s := s) (if_pos (by omega)) (show (4 : Int) ≠ 0 by decide) hq14.2.1 (hq14.2.2.trans h12)).L), (fun j hj => by first | exact hn27 j hj | exact hn41 j hj | rw [hfr14.1 183 (by decide) (by decide)] | (rw [up_f (by decide)]; exact in79 j hj) | (rw [hfr128.1 183 (by decide) (by decide), et97]; exact in79 j hj) | (rw [et140, et133, et97]; exact in79 j hj) | (rw [et97]; exact in79 j hj))⟩
