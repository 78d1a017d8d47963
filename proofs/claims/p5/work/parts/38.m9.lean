set_option maxHeartbeats 4000000 in
set_option maxRecDepth 100000 in
theorem c_rightOf (g : Gp) (v ρ : Mv) (Z : Mz) (hG : GM ρ Z) (q row lf : Int) (hS : SInv (v 180)) (hq : inR q) (hs : ∀ k, 0 ≤ k → k ≤ 4 → 0 ≤ v 202 k ∧ v 202 k ≤ 12) (hfm : 0 ≤ v 178 42 ∧ v 178 42 ≤ 3) (hrow : 0 ≤ row ∧ row ≤ 28560 ∧ (lf ≠ 0 → row + 2197 ≤ 28560)) (hlf : 0 ≤ lf ∧ lf ≤ 12) : Ok g 3 0 0 F_m_rightOf [(2, 178), (0, q), (0, row), (0, lf)] v ρ Z (fun o v' ρ' Z' => ρ = ρ' ∧ Z = Z' ∧ Fr [185, 186] [43] v v' ∧ ∃ r : Int, o = some (1, r) ∧ True) := by
  refine Ok.of mo_m_rightOf (Nat.le_of_ble_eq_true rfl) ?_
  intro X hX hRm hxn hQ
  show wp g X F_m_rightOf 0 0 0 [(2, 178), (0, q), (0, row), (0, lf), (3, 0), (3, 0), (3, 0), (3, 0), (3, 0), (3, 0), (3, 0), (3, 0)] [] v ρ Z
  refine r_iload_n (pc := 0) hX 0 rfl rfl ?_
  first | refine r_if_ne (pc := 1) hX 1 (tgt := 8) rfl (by decide) (⟨by omega, by omega⟩) (fun h1 => ?_) (fun h1 => ?_) | refine r_if_ne_any (pc := 1) hX 1 (tgt := 8) rfl (by decide) ?_ ?_
  · refine r_iconst (pc := 8) hX 4 rfl ?_
    refine r_istore (ls' := [(2, 178), (0, q), (0, row), (0, lf), (0, 0), (3, 0), (3, 0), (3, 0), (3, 0), (3, 0), (3, 0), (3, 0)]) (pc := 9) hX 5 rfl (by decide) rfl ?_
    have L11 : ∀ (e : Int) , (0 ≤ e ∧ e ≤ 1 ∧ (e = 0 → lf ≠ 0)) → wp g X F_m_rightOf 0 0 11 [(2, 178), (0, q), (0, row), (0, lf), (0, e), (3, 0), (3, 0), (3, 0), (3, 0), (3, 0), (3, 0), (3, 0)] [] v ρ Z := by
      intro e ie
      refine r_aload_n (pc := 11) hX 6 rfl rfl ?_
      refine r_callV (as := []) (st := []) (K := 12) (pc := 12) hX 7 rfl mo_m_asNow ml_X12_301 im_m_asNow se_m_asNow (c_asNow g v ρ Z hG  (hS)) rfl rfl rfl hG.1 (by rw [hRm]; exact ⟨by decide, by decide⟩) (by rw [hRm]; exact ⟨by decide, by decide⟩) (Nat.le_of_ble_eq_true rfl) (fun o12 v12 ρ12 Z12 hq12 _ => ?_)
      obtain ⟨rfl, rfl, hfr12, rfl, hq12⟩ := hq12
      have hSInv_12 : SInv (v12 180) := by rw [hfr12.1 180 (by decide) (by decide)]; exact hS
      show wp g X F_m_rightOf 0 0 15 [(2, 178), (0, q), (0, row), (0, lf), (0, e), (3, 0), (3, 0), (3, 0), (3, 0), (3, 0), (3, 0), (3, 0)] [] v12 ρ Z
      refine r_iconst (pc := 15) hX 8 rfl ?_
      refine r_istore (ls' := [(2, 178), (0, q), (0, row), (0, lf), (0, e), (0, 0), (3, 0), (3, 0), (3, 0), (3, 0), (3, 0), (3, 0)]) (pc := 16) hX 9 rfl (by decide) rfl ?_
      have L18 : ∀ (n18 : Nat) (e c : Int) (v18 : Mv) , (Fr [185, 186] [43] v v18) → (OwI (v18 186)) → (SInv (v18 180)) → (0 ≤ c ∧ c ≤ 4) → (0 ≤ e ∧ e ≤ 1 ∧ (e = 0 → lf ≠ 0)) → (∀ k, 0 ≤ k → k ≤ 2 → 0 ≤ v18 185 k ∧ v18 185 k ≤ 44 + 36 * c ∧ (v 180 2 ≤ k → v18 185 k ≤ 8)) → (∀ k, 0 ≤ k → k ≤ 4 → v18 186 k < v 180 2) → (4 - c).toNat < n18 → wp g X F_m_rightOf 0 0 18 [(2, 178), (0, q), (0, row), (0, lf), (0, e), (0, c), (3, 0), (3, 0), (3, 0), (3, 0), (3, 0), (3, 0)] [] v18 ρ Z := by
        intro n18
        induction n18 with
        | zero => intro e c v18 hfr18 hOwI_18 hSInv_18 ic ie isc iow hme18; exact absurd hme18 (Nat.not_lt_zero _)
        | succ n18 ih18 =>
          intro e c v18 hfr18 hOwI_18 hSInv_18 ic ie isc iow hme18
          have hs18 : ∀ k, 0 ≤ k → k ≤ 4 → 0 ≤ v18 202 k ∧ v18 202 k ≤ 12 := by rw [hfr18.1 202 (by decide) (by decide)]; exact hs
          refine r_iload (pc := 18) hX 10 rfl rfl ?_
          refine r_iconst (pc := 20) hX 11 rfl ?_
          first | refine r_icmp_ge (pc := 21) hX 12 (tgt := 109) rfl (by decide) (⟨by omega, by omega⟩) (⟨by omega, by omega⟩) (fun h21 => ?_) (fun h21 => ?_) | refine r_icmp_ge_any (pc := 21) hX 12 (tgt := 109) rfl (by decide) ?_ ?_
          · refine r_aload_n (pc := 109) hX 60 rfl rfl ?_
            refine r_callV (as := []) (st := []) (K := 12) (pc := 110) hX 61 rfl mo_m_arrived ml_X12_304 im_m_arrived se_m_arrived (c_arrived g v18 ρ Z hG  (hSInv_18) ((show ScI (v18 185) from fun k a b => by have := isc k a b; omega))) rfl rfl rfl hG.1 (by rw [hRm]; exact ⟨by decide, by decide⟩) (by rw [hRm]; exact ⟨by decide, by decide⟩) (Nat.le_of_ble_eq_true rfl) (fun o110 v110 ρ110 Z110 hq110 _ => ?_)
            obtain ⟨rfl, rfl, rfl, r110, rfl, hq110⟩ := hq110
            show wp g X F_m_rightOf 0 0 113 [(2, 178), (0, q), (0, row), (0, lf), (0, e), (0, c), (3, 0), (3, 0), (3, 0), (3, 0), (3, 0), (3, 0)] [(0, r110)] v18 ρ Z
            have L121 : wp g X F_m_rightOf 0 0 121 [(2, 178), (0, q), (0, row), (0, lf), (0, e), (0, c), (3, 0), (3, 0), (3, 0), (3, 0), (3, 0), (3, 0)] [] v18 ρ Z := by
              refine r_aload_n (pc := 121) hX 65 rfl rfl ?_
              refine r_callV (as := []) (st := []) (K := 12) (pc := 122) hX 66 rfl mo_m_arrived ml_X12_304 im_m_arrived se_m_arrived (c_arrived g v18 ρ Z hG  (hSInv_18) ((show ScI (v18 185) from fun k a b => by have := isc k a b; omega))) rfl rfl rfl hG.1 (by rw [hRm]; exact ⟨by decide, by decide⟩) (by rw [hRm]; exact ⟨by decide, by decide⟩) (Nat.le_of_ble_eq_true rfl) (fun o122 v122 ρ122 Z122 hq122 _ => ?_)
              obtain ⟨rfl, rfl, rfl, r122, rfl, hq122⟩ := hq122
              show wp g X F_m_rightOf 0 0 125 [(2, 178), (0, q), (0, row), (0, lf), (0, e), (0, c), (3, 0), (3, 0), (3, 0), (3, 0), (3, 0), (3, 0)] [(0, r122)] v18 ρ Z
              first | refine r_if_lt (pc := 125) hX 67 (tgt := 135) rfl (by decide) (⟨by omega, by omega⟩) (fun h125 => ?_) (fun h125 => ?_) | refine r_if_lt_any (pc := 125) hX 67 (tgt := 135) rfl (by decide) ?_ ?_
              · refine r_aload_n (pc := 135) hX 71 rfl rfl ?_
                refine r_callV (as := []) (st := []) (K := 12) (pc := 136) hX 72 rfl mo_m_ahead ml_X12_313 im_m_ahead se_m_ahead (c_ahead g v18 ρ Z hG  (hSInv_18) ((show ScI (v18 185) from fun k a b => by have := isc k a b; omega))) rfl rfl rfl hG.1 (by rw [hRm]; exact ⟨by decide, by decide⟩) (by rw [hRm]; exact ⟨by decide, by decide⟩) (Nat.le_of_ble_eq_true rfl) (fun o136 v136 ρ136 Z136 hq136 _ => ?_)
                obtain ⟨rfl, rfl, rfl, r136, rfl, hq136⟩ := hq136
                show wp g X F_m_rightOf 0 0 139 [(2, 178), (0, q), (0, row), (0, lf), (0, e), (0, c), (3, 0), (3, 0), (3, 0), (3, 0), (3, 0), (3, 0)] [(0, r136)] v18 ρ Z
                refine r_istore (ls' := [(2, 178), (0, q), (0, row), (0, lf), (0, e), (0, r136), (3, 0), (3, 0), (3, 0), (3, 0), (3, 0), (3, 0)]) (pc := 139) hX 73 rfl (by decide) rfl ?_
                have L141 : ∀ (w : Int) , wp g X F_m_rightOf 0 0 141 [(2, 178), (0, q), (0, row), (0, lf), (0, e), (0, w), (3, 0), (3, 0), (3, 0), (3, 0), (3, 0), (3, 0)] [] v18 ρ Z := by
                  intro w
                  refine r_lconst (pc := 141) hX 74 rfl ?_
                  show wp g X F_m_rightOf 0 0 142 [(2, 178), (0, q), (0, row), (0, lf), (0, e), (0, w), (3, 0), (3, 0), (3, 0), (3, 0), (3, 0), (3, 0)] [(1, 0)] v18 ρ Z
                  refine r_lstore (ls' := [(2, 178), (0, q), (0, row), (0, lf), (0, e), (0, w), (1, 0), (3, 0), (3, 0), (3, 0), (3, 0), (3, 0)]) (pc := 142) hX 75 rfl (by decide) rfl ?_
                  refine r_iconst (pc := 144) hX 76 rfl ?_
                  refine r_istore (ls' := [(2, 178), (0, q), (0, row), (0, lf), (0, e), (0, w), (1, 0), (3, 0), (0, 0), (3, 0), (3, 0), (3, 0)]) (pc := 145) hX 77 rfl (by decide) rfl ?_
                  have L147 : ∀ (n147 : Nat) (x l : Int) , (0 ≤ l ∧ l ≤ 3) → (3 - l).toNat < n147 → wp g X F_m_rightOf 0 0 147 [(2, 178), (0, q), (0, row), (0, lf), (0, e), (0, w), (1, x), (3, 0), (0, l), (3, 0), (3, 0), (3, 0)] [] v18 ρ Z := by
                    intro n147
                    induction n147 with
                    | zero => intro x l il hme147; exact absurd hme147 (Nat.not_lt_zero _)
                    | succ n147 ih147 =>
                      intro x l il hme147
                      refine r_iload (pc := 147) hX 78 rfl rfl ?_
                      refine r_aload_n (pc := 149) hX 79 rfl rfl ?_
                      refine r_callV (as := []) (st := [(0, l)]) (K := 12) (pc := 150) hX 80 rfl mo_m_lands ml_X12_322 im_m_lands se_m_lands (c_lands g v18 ρ Z hG  (hSInv_18)) rfl rfl rfl hG.1 (by rw [hRm]; exact ⟨by decide, by decide⟩) (by rw [hRm]; exact ⟨by decide, by decide⟩) (Nat.le_of_ble_eq_true rfl) (fun o150 v150 ρ150 Z150 hq150 _ => ?_)
                      obtain ⟨rfl, rfl, rfl, r150, rfl, hq150⟩ := hq150
                      show wp g X F_m_rightOf 0 0 153 [(2, 178), (0, q), (0, row), (0, lf), (0, e), (0, w), (1, x), (3, 0), (0, l), (3, 0), (3, 0), (3, 0)] [(0, r150), (0, l)] v18 ρ Z
                      first | refine r_icmp_ge (pc := 153) hX 81 (tgt := 173) rfl (by decide) (⟨by omega, by omega⟩) (⟨by omega, by omega⟩) (fun h153 => ?_) (fun h153 => ?_) | refine r_icmp_ge_any (pc := 153) hX 81 (tgt := 173) rfl (by decide) ?_ ?_
                      · refine r_iload (pc := 173) hX 90 rfl rfl ?_
                        refine r_iload_n (pc := 175) hX 91 rfl rfl ?_
                        first | refine r_icmp_ne (pc := 176) hX 92 (tgt := 189) rfl (by decide) (⟨by omega, by omega⟩) (⟨by omega, by omega⟩) (fun h176 => ?_) (fun h176 => ?_) | refine r_icmp_ne_any (pc := 176) hX 92 (tgt := 189) rfl (by decide) ?_ ?_
                        · refine r_lconst (pc := 189) hX 98 rfl ?_
                          show wp g X F_m_rightOf 0 0 190 [(2, 178), (0, q), (0, row), (0, lf), (0, e), (0, w), (1, x), (3, 0), (0, l), (3, 0), (3, 0), (3, 0)] [(1, 0)] v18 ρ Z
                          exact r_lret (pc := 190) hX 99 hQ rfl rfl (Nat.le_refl 0) (Nat.le_refl 0) ⟨rfl, rfl, hfr18, 0, rfl, trivial⟩
                        · refine r_lload (pc := 179) hX 93 rfl rfl ?_
                          refine r_iload_n (pc := 181) hX 94 rfl rfl ?_
                          refine r_callS (as := [(0, lf)]) (st := [(1, x)]) (pc := 182) hX 95 rfl mo_m_twelves ml_X12_353 stt_m_twelves (c_twelves g v18 ρ Z hG (lf) (by omega)) rfl (by rw [hRm]; exact ⟨by decide, by decide⟩) (by rw [hRm]; exact ⟨by decide, by decide⟩) (Nat.le_of_ble_eq_true rfl) (fun o182 v182 ρ182 Z182 hq182 _ => ?_)
                          obtain ⟨rfl, rfl, rfl, r182, rfl, hq182⟩ := hq182
                          show wp g X F_m_rightOf 0 0 185 [(2, 178), (0, q), (0, row), (0, lf), (0, e), (0, w), (1, x), (3, 0), (0, l), (3, 0), (3, 0), (3, 0)] [(1, r182), (1, x)] v18 ρ Z
                          refine r_lmul (pc := 185) hX 96 rfl ?_
                          refine r_goto (pc := 186) hX 97 (tgt := 190) rfl (by decide) ?_
                          exact r_lret (pc := 190) hX 99 hQ rfl rfl (Nat.le_refl 0) (Nat.le_refl 0) ⟨rfl, rfl, hfr18, (x * r182), rfl, trivial⟩
                      · refine r_lload (pc := 156) hX 82 rfl rfl ?_
                        refine r_aload_n (pc := 158) hX 83 rfl rfl ?_
                        refine r_iload (pc := 159) hX 84 rfl rfl ?_
                        refine r_callV (as := [(0, l)]) (st := [(1, x)]) (K := 12) (pc := 161) hX 85 rfl mo_m_weightOf ml_X12_427 im_m_weightOf se_m_weightOf (c_weightOf g v18 ρ Z hG (l) (hs18) (by omega)) rfl rfl rfl hG.1 (by rw [hRm]; exact ⟨by decide, by decide⟩) (by rw [hRm]; exact ⟨by decide, by decide⟩) (Nat.le_of_ble_eq_true rfl) (fun o161 v161 ρ161 Z161 hq161 _ => ?_)
                        obtain ⟨rfl, rfl, rfl, r161, rfl, hq161⟩ := hq161
                        show wp g X F_m_rightOf 0 0 164 [(2, 178), (0, q), (0, row), (0, lf), (0, e), (0, w), (1, x), (3, 0), (0, l), (3, 0), (3, 0), (3, 0)] [(1, r161), (1, x)] v18 ρ Z
                        refine r_ladd (pc := 164) hX 86 rfl ?_
                        refine r_lstore (ls' := [(2, 178), (0, q), (0, row), (0, lf), (0, e), (0, w), (1, (x + r161)), (3, 0), (0, l), (3, 0), (3, 0), (3, 0)]) (pc := 165) hX 87 rfl (by decide) rfl ?_
                        refine r_iinc (ls' := [(2, 178), (0, q), (0, row), (0, lf), (0, e), (0, w), (1, (x + r161)), (3, 0), (0, (l + 1)), (3, 0), (3, 0), (3, 0)]) (pc := 167) hX 88 rfl rfl (by decide) rfl ?_
                        refine r_goto (pc := 170) hX 89 (tgt := 147) rfl (by decide) ?_
                        exact (ih147 (x + r161) (l + 1) (by omega) (by omega))
                  exact (L147 _ 0 0 (by omega) (Nat.lt_succ_self _))
                exact (L141 r136  )
              · refine r_aload_n (pc := 128) hX 68 rfl rfl ?_
                refine r_callV (as := []) (st := []) (K := 12) (pc := 129) hX 69 rfl mo_m_arrived ml_X12_304 im_m_arrived se_m_arrived (c_arrived g v18 ρ Z hG  (hSInv_18) ((show ScI (v18 185) from fun k a b => by have := isc k a b; omega))) rfl rfl rfl hG.1 (by rw [hRm]; exact ⟨by decide, by decide⟩) (by rw [hRm]; exact ⟨by decide, by decide⟩) (Nat.le_of_ble_eq_true rfl) (fun o129 v129 ρ129 Z129 hq129 _ => ?_)
                obtain ⟨rfl, rfl, rfl, r129, rfl, hq129⟩ := hq129
                show wp g X F_m_rightOf 0 0 132 [(2, 178), (0, q), (0, row), (0, lf), (0, e), (0, c), (3, 0), (3, 0), (3, 0), (3, 0), (3, 0), (3, 0)] [(0, r129)] v18 ρ Z
                refine r_goto (pc := 132) hX 70 (tgt := 139) rfl (by decide) ?_
                refine r_istore (ls' := [(2, 178), (0, q), (0, row), (0, lf), (0, e), (0, r129), (3, 0), (3, 0), (3, 0), (3, 0), (3, 0), (3, 0)]) (pc := 139) hX 73 rfl (by decide) rfl ?_
                have L141 : ∀ (w : Int) , wp g X F_m_rightOf 0 0 141 [(2, 178), (0, q), (0, row), (0, lf), (0, e), (0, w), (3, 0), (3, 0), (3, 0), (3, 0), (3, 0), (3, 0)] [] v18 ρ Z := by
                  intro w
                  refine r_lconst (pc := 141) hX 74 rfl ?_
                  show wp g X F_m_rightOf 0 0 142 [(2, 178), (0, q), (0, row), (0, lf), (0, e), (0, w), (3, 0), (3, 0), (3, 0), (3, 0), (3, 0), (3, 0)] [(1, 0)] v18 ρ Z
                  refine r_lstore (ls' := [(2, 178), (0, q), (0, row), (0, lf), (0, e), (0, w), (1, 0), (3, 0), (3, 0), (3, 0), (3, 0), (3, 0)]) (pc := 142) hX 75 rfl (by decide) rfl ?_
                  refine r_iconst (pc := 144) hX 76 rfl ?_
                  refine r_istore (ls' := [(2, 178), (0, q), (0, row), (0, lf), (0, e), (0, w), (1, 0), (3, 0), (0, 0), (3, 0), (3, 0), (3, 0)]) (pc := 145) hX 77 rfl (by decide) rfl ?_
                  have L147 : ∀ (n147 : Nat) (x l : Int) , (0 ≤ l ∧ l ≤ 3) → (3 - l).toNat < n147 → wp g X F_m_rightOf 0 0 147 [(2, 178), (0, q), (0, row), (0, lf), (0, e), (0, w), (1, x), (3, 0), (0, l), (3, 0), (3, 0), (3, 0)] [] v18 ρ Z := by
                    intro n147
                    induction n147 with
                    | zero => intro x l il hme147; exact absurd hme147 (Nat.not_lt_zero _)
                    | succ n147 ih147 =>
                      intro x l il hme147
                      refine r_iload (pc := 147) hX 78 rfl rfl ?_
                      refine r_aload_n (pc := 149) hX 79 rfl rfl ?_
                      refine r_callV (as := []) (st := [(0, l)]) (K := 12) (pc := 150) hX 80 rfl mo_m_lands ml_X12_322 im_m_lands se_m_lands (c_lands g v18 ρ Z hG  (hSInv_18)) rfl rfl rfl hG.1 (by rw [hRm]; exact ⟨by decide, by decide⟩) (by rw [hRm]; exact ⟨by decide, by decide⟩) (Nat.le_of_ble_eq_true rfl) (fun o150 v150 ρ150 Z150 hq150 _ => ?_)
                      obtain ⟨rfl, rfl, rfl, r150, rfl, hq150⟩ := hq150
                      show wp g X F_m_rightOf 0 0 153 [(2, 178), (0, q), (0, row), (0, lf), (0, e), (0, w), (1, x), (3, 0), (0, l), (3, 0), (3, 0), (3, 0)] [(0, r150), (0, l)] v18 ρ Z
                      first | refine r_icmp_ge (pc := 153) hX 81 (tgt := 173) rfl (by decide) (⟨by omega, by omega⟩) (⟨by omega, by omega⟩) (fun h153 => ?_) (fun h153 => ?_) | refine r_icmp_ge_any (pc := 153) hX 81 (tgt := 173) rfl (by decide) ?_ ?_
                      · refine r_iload (pc := 173) hX 90 rfl rfl ?_
                        refine r_iload_n (pc := 175) hX 91 rfl rfl ?_
                        first | refine r_icmp_ne (pc := 176) hX 92 (tgt := 189) rfl (by decide) (⟨by omega, by omega⟩) (⟨by omega, by omega⟩) (fun h176 => ?_) (fun h176 => ?_) | refine r_icmp_ne_any (pc := 176) hX 92 (tgt := 189) rfl (by decide) ?_ ?_
                        · refine r_lconst (pc := 189) hX 98 rfl ?_
                          show wp g X F_m_rightOf 0 0 190 [(2, 178), (0, q), (0, row), (0, lf), (0, e), (0, w), (1, x), (3, 0), (0, l), (3, 0), (3, 0), (3, 0)] [(1, 0)] v18 ρ Z
                          exact r_lret (pc := 190) hX 99 hQ rfl rfl (Nat.le_refl 0) (Nat.le_refl 0) ⟨rfl, rfl, hfr18, 0, rfl, trivial⟩
                        · refine r_lload (pc := 179) hX 93 rfl rfl ?_
                          refine r_iload_n (pc := 181) hX 94 rfl rfl ?_
                          refine r_callS (as := [(0, lf)]) (st := [(1, x)]) (pc := 182) hX 95 rfl mo_m_twelves ml_X12_353 stt_m_twelves (c_twelves g v18 ρ Z hG (lf) (by omega)) rfl (by rw [hRm]; exact ⟨by decide, by decide⟩) (by rw [hRm]; exact ⟨by decide, by decide⟩) (Nat.le_of_ble_eq_true rfl) (fun o182 v182 ρ182 Z182 hq182 _ => ?_)
                          obtain ⟨rfl, rfl, rfl, r182, rfl, hq182⟩ := hq182
                          show wp g X F_m_rightOf 0 0 185 [(2, 178), (0, q), (0, row), (0, lf), (0, e), (0, w), (1, x), (3, 0), (0, l), (3, 0), (3, 0), (3, 0)] [(1, r182), (1, x)] v18 ρ Z
                          refine r_lmul (pc := 185) hX 96 rfl ?_
                          refine r_goto (pc := 186) hX 97 (tgt := 190) rfl (by decide) ?_
                          exact r_lret (pc := 190) hX 99 hQ rfl rfl (Nat.le_refl 0) (Nat.le_refl 0) ⟨rfl, rfl, hfr18, (x * r182), rfl, trivial⟩
                      · refine r_lload (pc := 156) hX 82 rfl rfl ?_
                        refine r_aload_n (pc := 158) hX 83 rfl rfl ?_
                        refine r_iload (pc := 159) hX 84 rfl rfl ?_
                        refine r_callV (as := [(0, l)]) (st := [(1, x)]) (K := 12) (pc := 161) hX 85 rfl mo_m_weightOf ml_X12_427 im_m_weightOf se_m_weightOf (c_weightOf g v18 ρ Z hG (l) (hs18) (by omega)) rfl rfl rfl hG.1 (by rw [hRm]; exact ⟨by decide, by decide⟩) (by rw [hRm]; exact ⟨by decide, by decide⟩) (Nat.le_of_ble_eq_true rfl) (fun o161 v161 ρ161 Z161 hq161 _ => ?_)
                        obtain ⟨rfl, rfl, rfl, r161, rfl, hq161⟩ := hq161
                        show wp g X F_m_rightOf 0 0 164 [(2, 178), (0, q), (0, row), (0, lf), (0, e), (0, w), (1, x), (3, 0), (0, l), (3, 0), (3, 0), (3, 0)] [(1, r161), (1, x)] v18 ρ Z
                        refine r_ladd (pc := 164) hX 86 rfl ?_
                        refine r_lstore (ls' := [(2, 178), (0, q), (0, row), (0, lf), (0, e), (0, w), (1, (x + r161)), (3, 0), (0, l), (3, 0), (3, 0), (3, 0)]) (pc := 165) hX 87 rfl (by decide) rfl ?_
                        refine r_iinc (ls' := [(2, 178), (0, q), (0, row), (0, lf), (0, e), (0, w), (1, (x + r161)), (3, 0), (0, (l + 1)), (3, 0), (3, 0), (3, 0)]) (pc := 167) hX 88 rfl rfl (by decide) rfl ?_
                        refine r_goto (pc := 170) hX 89 (tgt := 147) rfl (by decide) ?_
                        exact (ih147 (x + r161) (l + 1) (by omega) (by omega))
                  exact (L147 _ 0 0 (by omega) (Nat.lt_succ_self _))
                exact (L141 r129  )
            first | refine r_if_ge (pc := 113) hX 62 (tgt := 121) rfl (by decide) (⟨by omega, by omega⟩) (fun h113 => ?_) (fun h113 => ?_) | refine r_if_ge_any (pc := 113) hX 62 (tgt := 121) rfl (by decide) ?_ ?_
            · exact (L121   )
            · refine r_iload (pc := 116) hX 63 rfl rfl ?_
              first | refine r_if_eq (pc := 118) hX 64 (tgt := 191) rfl (by decide) (⟨by omega, by omega⟩) (fun h118 => ?_) (fun h118 => ?_) | refine r_if_eq_any (pc := 118) hX 64 (tgt := 191) rfl (by decide) ?_ ?_
              · refine r_lconst (pc := 191) hX 100 rfl ?_
                show wp g X F_m_rightOf 0 0 192 [(2, 178), (0, q), (0, row), (0, lf), (0, e), (0, c), (3, 0), (3, 0), (3, 0), (3, 0), (3, 0), (3, 0)] [(1, 0)] v18 ρ Z
                refine r_lstore (ls' := [(2, 178), (0, q), (0, row), (0, lf), (0, e), (1, 0), (3, 0), (3, 0), (3, 0), (3, 0), (3, 0), (3, 0)]) (pc := 192) hX 101 rfl (by decide) rfl ?_
                refine r_iconst (pc := 194) hX 102 rfl ?_
                refine r_istore (ls' := [(2, 178), (0, q), (0, row), (0, lf), (0, e), (1, 0), (3, 0), (0, 0), (3, 0), (3, 0), (3, 0), (3, 0)]) (pc := 195) hX 103 rfl (by decide) rfl ?_
                have L197 : ∀ (n197 : Nat) (x c : Int) , (0 ≤ c ∧ c ≤ 5) → (5 - c).toNat < n197 → wp g X F_m_rightOf 0 0 197 [(2, 178), (0, q), (0, row), (0, lf), (0, e), (1, x), (3, 0), (0, c), (3, 0), (3, 0), (3, 0), (3, 0)] [] v18 ρ Z := by
                  intro n197
                  induction n197 with
                  | zero => intro x c ic hme197; exact absurd hme197 (Nat.not_lt_zero _)
                  | succ n197 ih197 =>
                    intro x c ic hme197
                    refine r_iload (pc := 197) hX 104 rfl rfl ?_
                    refine r_iconst (pc := 199) hX 105 rfl ?_
                    first | refine r_icmp_ge (pc := 200) hX 106 (tgt := 226) rfl (by decide) (⟨by omega, by omega⟩) (⟨by omega, by omega⟩) (fun h200 => ?_) (fun h200 => ?_) | refine r_icmp_ge_any (pc := 200) hX 106 (tgt := 226) rfl (by decide) ?_ ?_
                    · refine r_aload_n (pc := 226) hX 119 rfl rfl ?_
                      refine r_callV (as := []) (st := []) (K := 12) (pc := 227) hX 120 rfl mo_m_slot ml_X12_364 im_m_slot se_m_slot (c_slot g v18 ρ Z hG  ) rfl rfl rfl hG.1 (by rw [hRm]; exact ⟨by decide, by decide⟩) (by rw [hRm]; exact ⟨by decide, by decide⟩) (Nat.le_of_ble_eq_true rfl) (fun o227 v227 ρ227 Z227 hq227 _ => ?_)
                      obtain ⟨rfl, rfl, rfl, r227, rfl, hq227⟩ := hq227
                      show wp g X F_m_rightOf 0 0 230 [(2, 178), (0, q), (0, row), (0, lf), (0, e), (1, x), (3, 0), (0, c), (3, 0), (3, 0), (3, 0), (3, 0)] [(0, r227)] v18 ρ Z
                      have e2 : v18 180 2 = v 180 2 := by rw [hfr18.1 180 (by decide) (by decide)]
                      have b8 : ∀ k, 0 ≤ k → k ≤ 2 → 0 ≤ v18 185 k ∧ v18 185 k ≤ 8 := fun k a b => by
                        have z := isc k a b
                        have z3 := hSInv_18.c3
                        by_cases e9 : k < v18 180 2
                        · have z2 := hq110.2 (by omega) k a e9; omega
                        · omega
                      have z0 := b8 0 (by omega) (by omega)
                      have z1 := b8 1 (by omega) (by omega)
                      have z2 := b8 2 (by omega) (by omega)
                      refine r_istore (ls' := [(2, 178), (0, q), (0, row), (0, lf), (0, e), (1, x), (3, 0), (0, r227), (3, 0), (3, 0), (3, 0), (3, 0)]) (pc := 230) hX 121 rfl (by decide) rfl ?_
                      refine r_aload_n (pc := 232) hX 122 rfl rfl ?_
                      refine r_iconst (pc := 233) hX 123 rfl ?_
                      refine r_putI (pc := 234) hX 124 rfl fl_X12_433 rfl (fun _ h => by cases h; rfl) hG.1 (by decide) ?_
                      refine r_iconst (pc := 237) hX 125 rfl ?_
                      refine r_istore (ls' := [(2, 178), (0, q), (0, row), (0, lf), (0, e), (1, x), (3, 0), (0, r227), (0, 0), (3, 0), (3, 0), (3, 0)]) (pc := 238) hX 126 rfl (by decide) rfl ?_
                      have L240 : ∀ (n240 : Nat) (x i : Int) (v240 : Mv) , (Fr [185, 186] [43] v v240) → (SInv (v240 180)) → (0 ≤ i ∧ i ≤ v 178 42) → (v 178 42 - i).toNat < n240 → wp g X F_m_rightOf 0 0 240 [(2, 178), (0, q), (0, row), (0, lf), (0, e), (1, x), (3, 0), (0, r227), (0, i), (3, 0), (3, 0), (3, 0)] [] v240 ρ Z := by
                        intro n240
                        induction n240 with
                        | zero => intro x i v240 hfr240 hSInv_240 ii hme240; exact absurd hme240 (Nat.not_lt_zero _)
                        | succ n240 ih240 =>
                          intro x i v240 hfr240 hSInv_240 ii hme240
                          have e42 : v240 178 42 = v 178 42 := hfr240.2 42 (by decide)
                          have hs240 : ∀ k, 0 ≤ k → k ≤ 4 → 0 ≤ v240 202 k ∧ v240 202 k ≤ 12 := by rw [hfr240.1 202 (by decide) (by decide)]; exact hs
                          refine r_iload (pc := 240) hX 127 rfl rfl ?_
                          refine t_getI (y := (v240 178 42)) (pc := 242) hX 128 rfl rfl rfl fl_X12_436 rfl hG.1 (rfl) ?_
                          first | refine r_icmp_ge (pc := 246) hX 130 (tgt := 330) rfl (by decide) (⟨by omega, by omega⟩) (⟨by omega, by omega⟩) (fun h246 => ?_) (fun h246 => ?_) | refine r_icmp_ge_any (pc := 246) hX 130 (tgt := 330) rfl (by decide) ?_ ?_
                          · refine r_lload (pc := 330) hX 172 rfl rfl ?_
                            exact r_lret (pc := 332) hX 173 hQ rfl rfl (Nat.le_refl 0) (Nat.le_refl 0) ⟨rfl, rfl, hfr240, x, rfl, trivial⟩
                          · refine r_lconst (pc := 249) hX 131 rfl ?_
                            show wp g X F_m_rightOf 0 0 250 [(2, 178), (0, q), (0, row), (0, lf), (0, e), (1, x), (3, 0), (0, r227), (0, i), (3, 0), (3, 0), (3, 0)] [(1, 0)] v240 ρ Z
                            refine r_lstore (ls' := [(2, 178), (0, q), (0, row), (0, lf), (0, e), (1, x), (3, 0), (0, r227), (0, i), (1, 0), (3, 0), (3, 0)]) (pc := 250) hX 132 rfl (by decide) rfl ?_
                            refine r_iconst (pc := 252) hX 133 rfl ?_
                            refine r_istore (ls' := [(2, 178), (0, q), (0, row), (0, lf), (0, e), (1, x), (3, 0), (0, r227), (0, i), (1, 0), (3, 0), (0, 0)]) (pc := 253) hX 134 rfl (by decide) rfl ?_
                            have L255 : ∀ (n255 : Nat) (y l : Int) , (0 ≤ l ∧ l ≤ 3) → (3 - l).toNat < n255 → wp g X F_m_rightOf 0 0 255 [(2, 178), (0, q), (0, row), (0, lf), (0, e), (1, x), (3, 0), (0, r227), (0, i), (1, y), (3, 0), (0, l)] [] v240 ρ Z := by
                              intro n255
                              induction n255 with
                              | zero => intro y l il hme255; exact absurd hme255 (Nat.not_lt_zero _)
                              | succ n255 ih255 =>
                                intro y l il hme255
                                refine r_iload (pc := 255) hX 135 rfl rfl ?_
                                refine r_aload_n (pc := 257) hX 136 rfl rfl ?_
                                refine r_callV (as := []) (st := [(0, l)]) (K := 12) (pc := 258) hX 137 rfl mo_m_lands ml_X12_322 im_m_lands se_m_lands (c_lands g v240 ρ Z hG  (hSInv_240)) rfl rfl rfl hG.1 (by rw [hRm]; exact ⟨by decide, by decide⟩) (by rw [hRm]; exact ⟨by decide, by decide⟩) (Nat.le_of_ble_eq_true rfl) (fun o258 v258 ρ258 Z258 hq258 _ => ?_)
                                obtain ⟨rfl, rfl, rfl, r258, rfl, hq258⟩ := hq258
                                show wp g X F_m_rightOf 0 0 261 [(2, 178), (0, q), (0, row), (0, lf), (0, e), (1, x), (3, 0), (0, r227), (0, i), (1, y), (3, 0), (0, l)] [(0, r258), (0, l)] v240 ρ Z
                                first | refine r_icmp_ge (pc := 261) hX 138 (tgt := 298) rfl (by decide) (⟨by omega, by omega⟩) (⟨by omega, by omega⟩) (fun h261 => ?_) (fun h261 => ?_) | refine r_icmp_ge_any (pc := 261) hX 138 (tgt := 298) rfl (by decide) ?_ ?_
                                · refine r_lload (pc := 298) hX 157 rfl rfl ?_
                                  refine r_lload (pc := 300) hX 158 rfl rfl ?_
                                  refine r_lcmp_any (pc := 302) hX 159 rfl (fun z302 hz302a hz302b => ?_)
                                  have L324 : ∀ (x : Int) (v324 : Mv) , (Fr [185, 186] [43] v v324) → (SInv (v324 180)) → wp g X F_m_rightOf 0 0 324 [(2, 178), (0, q), (0, row), (0, lf), (0, e), (1, x), (3, 0), (0, r227), (0, i), (3, 0), (3, 0), (3, 0)] [] v324 ρ Z := by
                                    intro x v324 hfr324 hSInv_324
                                    refine r_iinc (ls' := [(2, 178), (0, q), (0, row), (0, lf), (0, e), (1, x), (3, 0), (0, r227), (0, (i + 1)), (3, 0), (3, 0), (3, 0)]) (pc := 324) hX 170 rfl rfl (by decide) rfl ?_
                                    refine r_goto (pc := 327) hX 171 (tgt := 240) rfl (by decide) ?_
                                    exact (ih240 x (i + 1) v324 (hfr324) (hSInv_324) (by omega) (by omega))
                                  first | refine r_if_gt (pc := 303) hX 160 (tgt := 309) rfl (by decide) (⟨by omega, by omega⟩) (fun h303 => ?_) (fun h303 => ?_) | refine r_if_gt_any (pc := 303) hX 160 (tgt := 309) rfl (by decide) ?_ ?_
                                  · refine r_lload (pc := 309) hX 162 rfl rfl ?_
                                    refine r_lstore (ls' := [(2, 178), (0, q), (0, row), (0, lf), (0, e), (1, y), (3, 0), (0, r227), (0, i), (1, y), (3, 0), (0, l)]) (pc := 311) hX 163 rfl (by decide) rfl ?_
                                    refine r_aload_n (pc := 313) hX 164 rfl rfl ?_
                                    refine t_getR (pc := 314) hX 165 rfl rfl rfl fl_X12_99 rfl hG.1 (a_freeRow hG).1 ?_
                                    refine r_iload (pc := 318) hX 167 rfl rfl ?_
                                    refine e_iald (y := (v240 201 i)) (pc := 320) hX 168 rfl (a_freeRow hG).2.1 (a_freeRow hG).2.2 (by omega) (by omega) (rfl) ?_
                                    refine r_putI (pc := 321) hX 169 rfl fl_X12_433 rfl (fun _ h => by cases h; rfl) hG.1 (by decide) ?_
                                    refine r_wk (ls' := [(2, 178), (0, q), (0, row), (0, lf), (0, e), (1, y), (3, 0), (0, r227), (0, i), (3, 0), (3, 0), (3, 0)]) ⟨Or.inr rfl, Or.inr rfl, Or.inr rfl, Or.inr rfl, Or.inr rfl, Or.inr rfl, Or.inr rfl, Or.inr rfl, Or.inr rfl, Or.inl rfl, Or.inr rfl, Or.inl rfl, trivial⟩ ?_
                                    exact (L324 y (up v240 178 43 (v240 201 i)) ((hfr240).fld (k := 43) (by decide)) (by rw [up_f (by decide)]; exact hSInv_240) )
                                  · refine r_goto (pc := 306) hX 161 (tgt := 324) rfl (by decide) ?_
                                    refine r_wk (ls' := [(2, 178), (0, q), (0, row), (0, lf), (0, e), (1, x), (3, 0), (0, r227), (0, i), (3, 0), (3, 0), (3, 0)]) ⟨Or.inr rfl, Or.inr rfl, Or.inr rfl, Or.inr rfl, Or.inr rfl, Or.inr rfl, Or.inr rfl, Or.inr rfl, Or.inr rfl, Or.inl rfl, Or.inr rfl, Or.inl rfl, trivial⟩ ?_
                                    exact (L324 x v240 (hfr240) (hSInv_240) )
                                · refine r_lload (pc := 264) hX 139 rfl rfl ?_
                                  refine r_aload_n (pc := 266) hX 140 rfl rfl ?_
                                  refine r_iload (pc := 267) hX 141 rfl rfl ?_
                                  refine r_callV (as := [(0, l)]) (st := [(1, y)]) (K := 12) (pc := 269) hX 142 rfl mo_m_weightOf ml_X12_427 im_m_weightOf se_m_weightOf (c_weightOf g v240 ρ Z hG (l) (hs240) (by omega)) rfl rfl rfl hG.1 (by rw [hRm]; exact ⟨by decide, by decide⟩) (by rw [hRm]; exact ⟨by decide, by decide⟩) (Nat.le_of_ble_eq_true rfl) (fun o269 v269 ρ269 Z269 hq269 _ => ?_)
                                  obtain ⟨rfl, rfl, rfl, r269, rfl, hq269⟩ := hq269
                                  show wp g X F_m_rightOf 0 0 272 [(2, 178), (0, q), (0, row), (0, lf), (0, e), (1, x), (3, 0), (0, r227), (0, i), (1, y), (3, 0), (0, l)] [(1, r269), (1, y)] v240 ρ Z
                                  refine t_getR (pc := 272) hX 143 rfl rfl rfl fl_X12_87 rfl hG.1 (a_turned hG).1 ?_
                                  refine r_aload_n (pc := 276) hX 145 rfl rfl ?_
                                  refine r_iload (pc := 277) hX 146 rfl rfl ?_
                                  refine r_iload (pc := 279) hX 147 rfl rfl ?_
                                  refine r_iload_n (pc := 281) hX 148 rfl rfl ?_
                                  refine r_iload (pc := 282) hX 149 rfl rfl ?_
                                  refine r_callV (as := [(0, l), (0, i), (0, lf), (0, r227)]) (st := [(2, 197), (1, r269), (1, y)]) (K := 12) (pc := 284) hX 150 rfl mo_m_place ml_X12_423 im_m_place se_m_place (c_place g v240 ρ Z hG (l) (i) (lf) (r227) ) rfl rfl rfl hG.1 (by rw [hRm]; exact ⟨by decide, by decide⟩) (by rw [hRm]; exact ⟨by decide, by decide⟩) (Nat.le_of_ble_eq_true rfl) (fun o284 v284 ρ284 Z284 hq284 _ => ?_)
                                  obtain ⟨rfl, rfl, rfl, r284, rfl, hq284⟩ := hq284
                                  show wp g X F_m_rightOf 0 0 287 [(2, 178), (0, q), (0, row), (0, lf), (0, e), (1, x), (3, 0), (0, r227), (0, i), (1, y), (3, 0), (0, l)] [(0, r284), (2, 197), (1, r269), (1, y)] v240 ρ Z
                                  refine e_lald (y := (v240 197 r284)) (pc := 287) hX 151 rfl (a_turned hG).2.1 (a_turned hG).2.2 (by omega) (by omega) (rfl) ?_
                                  refine r_lmul (pc := 288) hX 152 rfl ?_
                                  refine r_ladd (pc := 289) hX 153 rfl ?_
                                  refine r_lstore (ls' := [(2, 178), (0, q), (0, row), (0, lf), (0, e), (1, x), (3, 0), (0, r227), (0, i), (1, (y + (r269 * (v240 197 r284)))), (3, 0), (0, l)]) (pc := 290) hX 154 rfl (by decide) rfl ?_
                                  refine r_iinc (ls' := [(2, 178), (0, q), (0, row), (0, lf), (0, e), (1, x), (3, 0), (0, r227), (0, i), (1, (y + (r269 * (v240 197 r284)))), (3, 0), (0, (l + 1))]) (pc := 292) hX 155 rfl rfl (by decide) rfl ?_
                                  refine r_goto (pc := 295) hX 156 (tgt := 255) rfl (by decide) ?_
                                  exact (ih255 (y + (r269 * (v240 197 r284))) (l + 1) (by omega) (by omega))
                            exact (L255 _ 0 0 (by omega) (Nat.lt_succ_self _))
                      exact (L240 _ x 0 (up v18 178 43 (-1)) ((hfr18).fld (k := 43) (by decide)) (by rw [up_f (by decide)]; exact hSInv_18) (by omega) (Nat.lt_succ_self _))
                    · refine r_lload (pc := 203) hX 107 rfl rfl ?_
                      refine t_getR (pc := 205) hX 108 rfl rfl rfl fl_X12_90 rfl hG.1 (a_behind hG).1 ?_
                      refine r_iload_n (pc := 209) hX 110 rfl rfl ?_
                      refine r_iload (pc := 210) hX 111 rfl rfl ?_
                      refine r_callS (as := [(0, c)]) (st := [(0, row), (2, 198), (1, x)]) (pc := 212) hX 112 rfl mo_m_stepOf ml_X12_430 stt_m_stepOf (c_stepOf g v18 ρ Z hG (c) (by omega)) rfl (by rw [hRm]; exact ⟨by decide, by decide⟩) (by rw [hRm]; exact ⟨by decide, by decide⟩) (Nat.le_of_ble_eq_true rfl) (fun o212 v212 ρ212 Z212 hq212 _ => ?_)
                      obtain ⟨rfl, rfl, rfl, r212, rfl, hq212⟩ := hq212
                      show wp g X F_m_rightOf 0 0 215 [(2, 178), (0, q), (0, row), (0, lf), (0, e), (1, x), (3, 0), (0, c), (3, 0), (3, 0), (3, 0), (3, 0)] [(0, r212), (0, row), (2, 198), (1, x)] v18 ρ Z
                      refine r_iadd (pc := 215) hX 113 rfl ?_
                      refine e_lald (y := (v18 198 (row + r212))) (pc := 216) hX 114 rfl (a_behind hG).2.1 (a_behind hG).2.2 (by omega) (by omega) (rfl) ?_
                      refine r_ladd (pc := 217) hX 115 rfl ?_
                      refine r_lstore (ls' := [(2, 178), (0, q), (0, row), (0, lf), (0, e), (1, (x + (v18 198 (row + r212)))), (3, 0), (0, c), (3, 0), (3, 0), (3, 0), (3, 0)]) (pc := 218) hX 116 rfl (by decide) rfl ?_
                      refine r_iinc (ls' := [(2, 178), (0, q), (0, row), (0, lf), (0, e), (1, (x + (v18 198 (row + r212)))), (3, 0), (0, (c + 1)), (3, 0), (3, 0), (3, 0), (3, 0)]) (pc := 220) hX 117 rfl rfl (by decide) rfl ?_
                      refine r_goto (pc := 223) hX 118 (tgt := 197) rfl (by decide) ?_
                      exact (ih197 (x + (v18 198 (row + r212))) (c + 1) (by omega) (by omega))
                exact (L197 _ 0 0 (by omega) (Nat.lt_succ_self _))
              · exact (L121   )
          · refine t_getR (pc := 24) hX 13 rfl rfl rfl fl_X12_53 rfl hG.1 (a_own hG).1 ?_
            refine r_iload (pc := 28) hX 15 rfl rfl ?_
            refine e_iald (y := (v18 186 c)) (pc := 30) hX 16 rfl (a_own hG).2.1 (a_own hG).2.2 (by omega) (by omega) (rfl) ?_
            have hb30 := hOwI_18 c (by omega) (by omega)
            have L67 : ∀ (v67 : Mv) , (Fr [185, 186] [43] v v67) → (OwI (v67 186)) → (SInv (v67 180)) → (∀ k, 0 ≤ k → k ≤ 2 → 0 ≤ v67 185 k ∧ v67 185 k ≤ 44 + 36 * (c + 1) ∧ (v 180 2 ≤ k → v67 185 k ≤ 8)) → (∀ k, 0 ≤ k → k ≤ 4 → v67 186 k < v 180 2) → wp g X F_m_rightOf 0 0 67 [(2, 178), (0, q), (0, row), (0, lf), (0, e), (0, c), (3, 0), (3, 0), (3, 0), (3, 0), (3, 0), (3, 0)] [] v67 ρ Z := by
              intro v67 hfr67 hOwI_67 hSInv_67 jsc jow
              have hs67 : ∀ k, 0 ≤ k → k ≤ 4 → 0 ≤ v67 202 k ∧ v67 202 k ≤ 12 := by rw [hfr67.1 202 (by decide) (by decide)]; exact hs
              refine r_iload (pc := 67) hX 39 rfl rfl ?_
              first | refine r_if_ne (pc := 69) hX 40 (tgt := 96) rfl (by decide) (⟨by omega, by omega⟩) (fun h69 => ?_) (fun h69 => ?_) | refine r_if_ne_any (pc := 69) hX 40 (tgt := 96) rfl (by decide) ?_ ?_
              · refine r_iconst (pc := 96) hX 54 rfl ?_
                refine r_goto (pc := 97) hX 55 (tgt := 101) rfl (by decide) ?_
                refine r_istore (ls' := [(2, 178), (0, q), (0, row), (0, lf), (0, 1), (0, c), (3, 0), (3, 0), (3, 0), (3, 0), (3, 0), (3, 0)]) (pc := 101) hX 57 rfl (by decide) rfl ?_
                refine r_iinc (ls' := [(2, 178), (0, q), (0, row), (0, lf), (0, 1), (0, (c + 1)), (3, 0), (3, 0), (3, 0), (3, 0), (3, 0), (3, 0)]) (pc := 103) hX 58 rfl rfl (by decide) rfl ?_
                refine r_goto (pc := 106) hX 59 (tgt := 18) rfl (by decide) ?_
                exact (ih18 1 (c + 1) v67 (hfr67) (hOwI_67) (hSInv_67) (by omega) (by omega) (jsc) (jow) (by omega))
              · refine t_getR (pc := 72) hX 41 rfl rfl rfl fl_X12_33 rfl hG.1 (a_s hG).1 ?_
                refine r_bipush (pc := 76) hX 43 rfl (by decide) ?_
                refine r_iload (pc := 78) hX 44 rfl rfl ?_
                refine r_iadd (pc := 80) hX 45 rfl ?_
                refine e_iald (y := (v67 180 (10 + c))) (pc := 81) hX 46 rfl (a_s hG).2.1 (a_s hG).2.2 (by omega) (by omega) (rfl) ?_
                have hb81 := hSInv_67.c10 c (by omega) (by omega)
                refine r_iconst (pc := 82) hX 47 rfl ?_
                first | refine r_icmp_ne (pc := 83) hX 48 (tgt := 100) rfl (by decide) (⟨by omega, by omega⟩) (⟨by omega, by omega⟩) (fun h83 => ?_) (fun h83 => ?_) | refine r_icmp_ne_any (pc := 83) hX 48 (tgt := 100) rfl (by decide) ?_ ?_
                · refine r_iconst (pc := 100) hX 56 rfl ?_
                  refine r_istore (ls' := [(2, 178), (0, q), (0, row), (0, lf), (0, 0), (0, c), (3, 0), (3, 0), (3, 0), (3, 0), (3, 0), (3, 0)]) (pc := 101) hX 57 rfl (by decide) rfl ?_
                  refine r_iinc (ls' := [(2, 178), (0, q), (0, row), (0, lf), (0, 0), (0, (c + 1)), (3, 0), (3, 0), (3, 0), (3, 0), (3, 0), (3, 0)]) (pc := 103) hX 58 rfl rfl (by decide) rfl ?_
                  refine r_goto (pc := 106) hX 59 (tgt := 18) rfl (by decide) ?_
                  exact (ih18 0 (c + 1) v67 (hfr67) (hOwI_67) (hSInv_67) (by omega) (by omega) (jsc) (jow) (by omega))
                · refine t_getR (pc := 86) hX 49 rfl rfl rfl fl_X12_102 rfl hG.1 (a_since hG).1 ?_
                  refine r_iload (pc := 90) hX 51 rfl rfl ?_
                  refine e_iald (y := (v67 202 c)) (pc := 92) hX 52 rfl (a_since hG).2.1 (a_since hG).2.2 (by omega) (by omega) (rfl) ?_
                  have hb92 := hs67 c (by omega) (by omega)
                  first | refine r_if_le (pc := 93) hX 53 (tgt := 100) rfl (by decide) (⟨by omega, by omega⟩) (fun h93 => ?_) (fun h93 => ?_) | refine r_if_le_any (pc := 93) hX 53 (tgt := 100) rfl (by decide) ?_ ?_
                  · refine r_iconst (pc := 100) hX 56 rfl ?_
                    refine r_istore (ls' := [(2, 178), (0, q), (0, row), (0, lf), (0, 0), (0, c), (3, 0), (3, 0), (3, 0), (3, 0), (3, 0), (3, 0)]) (pc := 101) hX 57 rfl (by decide) rfl ?_
                    refine r_iinc (ls' := [(2, 178), (0, q), (0, row), (0, lf), (0, 0), (0, (c + 1)), (3, 0), (3, 0), (3, 0), (3, 0), (3, 0), (3, 0)]) (pc := 103) hX 58 rfl rfl (by decide) rfl ?_
                    refine r_goto (pc := 106) hX 59 (tgt := 18) rfl (by decide) ?_
                    exact (ih18 0 (c + 1) v67 (hfr67) (hOwI_67) (hSInv_67) (by omega) (by omega) (jsc) (jow) (by omega))
                  · refine r_iconst (pc := 96) hX 54 rfl ?_
                    refine r_goto (pc := 97) hX 55 (tgt := 101) rfl (by decide) ?_
                    refine r_istore (ls' := [(2, 178), (0, q), (0, row), (0, lf), (0, 1), (0, c), (3, 0), (3, 0), (3, 0), (3, 0), (3, 0), (3, 0)]) (pc := 101) hX 57 rfl (by decide) rfl ?_
                    refine r_iinc (ls' := [(2, 178), (0, q), (0, row), (0, lf), (0, 1), (0, (c + 1)), (3, 0), (3, 0), (3, 0), (3, 0), (3, 0), (3, 0)]) (pc := 103) hX 58 rfl rfl (by decide) rfl ?_
                    refine r_goto (pc := 106) hX 59 (tgt := 18) rfl (by decide) ?_
                    exact (ih18 1 (c + 1) v67 (hfr67) (hOwI_67) (hSInv_67) (by omega) (by omega) (jsc) (jow) (by omega))
            first | refine r_if_lt (pc := 31) hX 17 (tgt := 67) rfl (by decide) (⟨by omega, by omega⟩) (fun h31 => ?_) (fun h31 => ?_) | refine r_if_lt_any (pc := 31) hX 17 (tgt := 67) rfl (by decide) ?_ ?_
            · exact (L67  v18 (hfr18) (by first | exact hOwI_18 | (rw [up_f (by decide)]; exact hOwI_18)) (hSInv_18) (fun k a b => by
            have z := isc k a b
            first | omega | (by_cases e9 : k = v18 186 c; subst e9; rw [up_s]; omega; rw [up_k e9]; omega)) (by first | exact iow | (rw [up_f (by decide)]; exact iow)) )
            · refine t_getR (pc := 34) hX 18 rfl rfl rfl fl_X12_50 rfl hG.1 (a_scores hG).1 ?_
              refine t_getR (pc := 38) hX 20 rfl rfl rfl fl_X12_53 rfl hG.1 (a_own hG).1 ?_
              refine r_iload (pc := 42) hX 22 rfl rfl ?_
              refine e_iald (y := (v18 186 c)) (pc := 44) hX 23 rfl (a_own hG).2.1 (a_own hG).2.2 (by omega) (by omega) (rfl) ?_
              have hb44 := hOwI_18 c (by omega) (by omega)
              refine r_dup2i (pc := 45) hX 24 rfl (show (0 : Nat) ≠ 1 by decide) (show (2 : Nat) ≠ 1 by decide) ?_
              refine e_iald (y := (v18 185 (v18 186 c))) (pc := 46) hX 25 rfl (a_scores hG).2.1 (a_scores hG).2.2 (by omega) (by omega) (rfl) ?_
              have hb46 := isc (v18 186 c) (by omega) (by omega)
              have ho46 := iow c (by omega) (by omega)
              refine t_getR (pc := 47) hX 26 rfl rfl rfl fl_X12_33 rfl hG.1 (a_s hG).1 ?_
              refine r_bipush (pc := 51) hX 28 rfl (by decide) ?_
              refine r_iload (pc := 53) hX 29 rfl rfl ?_
              refine r_iadd (pc := 55) hX 30 rfl ?_
              refine e_iald (y := (v18 180 (6 + c))) (pc := 56) hX 31 rfl (a_s hG).2.1 (a_s hG).2.2 (by omega) (by omega) (rfl) ?_
              have hb56 := hSInv_18.c6 c (by omega) (by omega)
              refine t_getR (pc := 57) hX 32 rfl rfl rfl fl_X12_102 rfl hG.1 (a_since hG).1 ?_
              refine r_iload (pc := 61) hX 34 rfl rfl ?_
              refine e_iald (y := (v18 202 c)) (pc := 63) hX 35 rfl (a_since hG).2.1 (a_since hG).2.2 (by omega) (by omega) (rfl) ?_
              have hb63 := hs18 c (by omega) (by omega)
              refine r_imul (pc := 64) hX 36 rfl ?_
              have hb64 := mul_b hb56 hb63
              refine r_iadd (pc := 65) hX 37 rfl ?_
              refine e_iast (pc := 66) hX 38 rfl (a_scores hG).2.1 (a_scores hG).2.2 (by decide) (by omega) (by omega) ?_
              exact (L67  (up v18 185 (v18 186 c) ((v18 185 (v18 186 c)) + ((v18 180 (6 + c)) * (v18 202 c)))) ((hfr18).arr (r := 185) (by decide) (by decide)) (by first | exact hOwI_18 | (rw [up_f (by decide)]; exact hOwI_18)) (by rw [up_f (by decide)]; exact hSInv_18) (fun k a b => by
            have z := isc k a b
            first | omega | (by_cases e9 : k = v18 186 c; subst e9; rw [up_s]; omega; rw [up_k e9]; omega)) (by first | exact iow | (rw [up_f (by decide)]; exact iow)) )
      exact (L18 _ e 0 v12 ((Fr.rf).tr hfr12 (by decide) (by decide)) (hq12.2.1) (hSInv_12) (by omega) (by omega) (fun k a b => by
            have z := hS.c42 k a b
            rw [hq12.1 k a b]; omega) (hq12.2.2) (Nat.lt_succ_self _))
    exact (L11 0 (by omega) )
  · refine r_iconst (pc := 4) hX 2 rfl ?_
    refine r_goto (pc := 5) hX 3 (tgt := 9) rfl (by decide) ?_
    refine r_istore (ls' := [(2, 178), (0, q), (0, row), (0, lf), (0, 1), (3, 0), (3, 0), (3, 0), (3, 0), (3, 0), (3, 0), (3, 0)]) (pc := 9) hX 5 rfl (by decide) rfl ?_
    have L11 : ∀ (e : Int) , (0 ≤ e ∧ e ≤ 1 ∧ (e = 0 → lf ≠ 0)) → wp g X F_m_rightOf 0 0 11 [(2, 178), (0, q), (0, row), (0, lf), (0, e), (3, 0), (3, 0), (3, 0), (3, 0), (3, 0), (3, 0), (3, 0)] [] v ρ Z := by
      intro e ie
      refine r_aload_n (pc := 11) hX 6 rfl rfl ?_
      refine r_callV (as := []) (st := []) (K := 12) (pc := 12) hX 7 rfl mo_m_asNow ml_X12_301 im_m_asNow se_m_asNow (c_asNow g v ρ Z hG  (hS)) rfl rfl rfl hG.1 (by rw [hRm]; exact ⟨by decide, by decide⟩) (by rw [hRm]; exact ⟨by decide, by decide⟩) (Nat.le_of_ble_eq_true rfl) (fun o12 v12 ρ12 Z12 hq12 _ => ?_)
      obtain ⟨rfl, rfl, hfr12, rfl, hq12⟩ := hq12
      have hSInv_12 : SInv (v12 180) := by rw [hfr12.1 180 (by decide) (by decide)]; exact hS
      show wp g X F_m_rightOf 0 0 15 [(2, 178), (0, q), (0, row), (0, lf), (0, e), (3, 0), (3, 0), (3, 0), (3, 0), (3, 0), (3, 0), (3, 0)] [] v12 ρ Z
      refine r_iconst (pc := 15) hX 8 rfl ?_
      refine r_istore (ls' := [(2, 178), (0, q), (0, row), (0, lf), (0, e), (0, 0), (3, 0), (3, 0), (3, 0), (3, 0), (3, 0), (3, 0)]) (pc := 16) hX 9 rfl (by decide) rfl ?_
      have L18 : ∀ (n18 : Nat) (e c : Int) (v18 : Mv) , (Fr [185, 186] [43] v v18) → (OwI (v18 186)) → (SInv (v18 180)) → (0 ≤ c ∧ c ≤ 4) → (0 ≤ e ∧ e ≤ 1 ∧ (e = 0 → lf ≠ 0)) → (∀ k, 0 ≤ k → k ≤ 2 → 0 ≤ v18 185 k ∧ v18 185 k ≤ 44 + 36 * c ∧ (v 180 2 ≤ k → v18 185 k ≤ 8)) → (∀ k, 0 ≤ k → k ≤ 4 → v18 186 k < v 180 2) → (4 - c).toNat < n18 → wp g X F_m_rightOf 0 0 18 [(2, 178), (0, q), (0, row), (0, lf), (0, e), (0, c), (3, 0), (3, 0), (3, 0), (3, 0), (3, 0), (3, 0)] [] v18 ρ Z := by
        intro n18
        induction n18 with
        | zero => intro e c v18 hfr18 hOwI_18 hSInv_18 ic ie isc iow hme18; exact absurd hme18 (Nat.not_lt_zero _)
        | succ n18 ih18 =>
          intro e c v18 hfr18 hOwI_18 hSInv_18 ic ie isc iow hme18
          have hs18 : ∀ k, 0 ≤ k → k ≤ 4 → 0 ≤ v18 202 k ∧ v18 202 k ≤ 12 := by rw [hfr18.1 202 (by decide) (by decide)]; exact hs
          refine r_iload (pc := 18) hX 10 rfl rfl ?_
          refine r_iconst (pc := 20) hX 11 rfl ?_
          first | refine r_icmp_ge (pc := 21) hX 12 (tgt := 109) rfl (by decide) (⟨by omega, by omega⟩) (⟨by omega, by omega⟩) (fun h21 => ?_) (fun h21 => ?_) | refine r_icmp_ge_any (pc := 21) hX 12 (tgt := 109) rfl (by decide) ?_ ?_
          · refine r_aload_n (pc := 109) hX 60 rfl rfl ?_
            refine r_callV (as := []) (st := []) (K := 12) (pc := 110) hX 61 rfl mo_m_arrived ml_X12_304 im_m_arrived se_m_arrived (c_arrived g v18 ρ Z hG  (hSInv_18) ((show ScI (v18 185) from fun k a b => by have := isc k a b; omega))) rfl rfl rfl hG.1 (by rw [hRm]; exact ⟨by decide, by decide⟩) (by rw [hRm]; exact ⟨by decide, by decide⟩) (Nat.le_of_ble_eq_true rfl) (fun o110 v110 ρ110 Z110 hq110 _ => ?_)
            obtain ⟨rfl, rfl, rfl, r110, rfl, hq110⟩ := hq110
            show wp g X F_m_rightOf 0 0 113 [(2, 178), (0, q), (0, row), (0, lf), (0, e), (0, c), (3, 0), (3, 0), (3, 0), (3, 0), (3, 0), (3, 0)] [(0, r110)] v18 ρ Z
            have L121 : wp g X F_m_rightOf 0 0 121 [(2, 178), (0, q), (0, row), (0, lf), (0, e), (0, c), (3, 0), (3, 0), (3, 0), (3, 0), (3, 0), (3, 0)] [] v18 ρ Z := by
              refine r_aload_n (pc := 121) hX 65 rfl rfl ?_
              refine r_callV (as := []) (st := []) (K := 12) (pc := 122) hX 66 rfl mo_m_arrived ml_X12_304 im_m_arrived se_m_arrived (c_arrived g v18 ρ Z hG  (hSInv_18) ((show ScI (v18 185) from fun k a b => by have := isc k a b; omega))) rfl rfl rfl hG.1 (by rw [hRm]; exact ⟨by decide, by decide⟩) (by rw [hRm]; exact ⟨by decide, by decide⟩) (Nat.le_of_ble_eq_true rfl) (fun o122 v122 ρ122 Z122 hq122 _ => ?_)
              obtain ⟨rfl, rfl, rfl, r122, rfl, hq122⟩ := hq122
              show wp g X F_m_rightOf 0 0 125 [(2, 178), (0, q), (0, row), (0, lf), (0, e), (0, c), (3, 0), (3, 0), (3, 0), (3, 0), (3, 0), (3, 0)] [(0, r122)] v18 ρ Z
              first | refine r_if_lt (pc := 125) hX 67 (tgt := 135) rfl (by decide) (⟨by omega, by omega⟩) (fun h125 => ?_) (fun h125 => ?_) | refine r_if_lt_any (pc := 125) hX 67 (tgt := 135) rfl (by decide) ?_ ?_
              · refine r_aload_n (pc := 135) hX 71 rfl rfl ?_
                refine r_callV (as := []) (st := []) (K := 12) (pc := 136) hX 72 rfl mo_m_ahead ml_X12_313 im_m_ahead se_m_ahead (c_ahead g v18 ρ Z hG  (hSInv_18) ((show ScI (v18 185) from fun k a b => by have := isc k a b; omega))) rfl rfl rfl hG.1 (by rw [hRm]; exact ⟨by decide, by decide⟩) (by rw [hRm]; exact ⟨by decide, by decide⟩) (Nat.le_of_ble_eq_true rfl) (fun o136 v136 ρ136 Z136 hq136 _ => ?_)
                obtain ⟨rfl, rfl, rfl, r136, rfl, hq136⟩ := hq136
                show wp g X F_m_rightOf 0 0 139 [(2, 178), (0, q), (0, row), (0, lf), (0, e), (0, c), (3, 0), (3, 0), (3, 0), (3, 0), (3, 0), (3, 0)] [(0, r136)] v18 ρ Z
                refine r_istore (ls' := [(2, 178), (0, q), (0, row), (0, lf), (0, e), (0, r136), (3, 0), (3, 0), (3, 0), (3, 0), (3, 0), (3, 0)]) (pc := 139) hX 73 rfl (by decide) rfl ?_
                have L141 : ∀ (w : Int) , wp g X F_m_rightOf 0 0 141 [(2, 178), (0, q), (0, row), (0, lf), (0, e), (0, w), (3, 0), (3, 0), (3, 0), (3, 0), (3, 0), (3, 0)] [] v18 ρ Z := by
                  intro w
                  refine r_lconst (pc := 141) hX 74 rfl ?_
                  show wp g X F_m_rightOf 0 0 142 [(2, 178), (0, q), (0, row), (0, lf), (0, e), (0, w), (3, 0), (3, 0), (3, 0), (3, 0), (3, 0), (3, 0)] [(1, 0)] v18 ρ Z
                  refine r_lstore (ls' := [(2, 178), (0, q), (0, row), (0, lf), (0, e), (0, w), (1, 0), (3, 0), (3, 0), (3, 0), (3, 0), (3, 0)]) (pc := 142) hX 75 rfl (by decide) rfl ?_
                  refine r_iconst (pc := 144) hX 76 rfl ?_
                  refine r_istore (ls' := [(2, 178), (0, q), (0, row), (0, lf), (0, e), (0, w), (1, 0), (3, 0), (0, 0), (3, 0), (3, 0), (3, 0)]) (pc := 145) hX 77 rfl (by decide) rfl ?_
                  have L147 : ∀ (n147 : Nat) (x l : Int) , (0 ≤ l ∧ l ≤ 3) → (3 - l).toNat < n147 → wp g X F_m_rightOf 0 0 147 [(2, 178), (0, q), (0, row), (0, lf), (0, e), (0, w), (1, x), (3, 0), (0, l), (3, 0), (3, 0), (3, 0)] [] v18 ρ Z := by
                    intro n147
                    induction n147 with
                    | zero => intro x l il hme147; exact absurd hme147 (Nat.not_lt_zero _)
                    | succ n147 ih147 =>
                      intro x l il hme147
                      refine r_iload (pc := 147) hX 78 rfl rfl ?_
                      refine r_aload_n (pc := 149) hX 79 rfl rfl ?_
                      refine r_callV (as := []) (st := [(0, l)]) (K := 12) (pc := 150) hX 80 rfl mo_m_lands ml_X12_322 im_m_lands se_m_lands (c_lands g v18 ρ Z hG  (hSInv_18)) rfl rfl rfl hG.1 (by rw [hRm]; exact ⟨by decide, by decide⟩) (by rw [hRm]; exact ⟨by decide, by decide⟩) (Nat.le_of_ble_eq_true rfl) (fun o150 v150 ρ150 Z150 hq150 _ => ?_)
                      obtain ⟨rfl, rfl, rfl, r150, rfl, hq150⟩ := hq150
                      show wp g X F_m_rightOf 0 0 153 [(2, 178), (0, q), (0, row), (0, lf), (0, e), (0, w), (1, x), (3, 0), (0, l), (3, 0), (3, 0), (3, 0)] [(0, r150), (0, l)] v18 ρ Z
                      first | refine r_icmp_ge (pc := 153) hX 81 (tgt := 173) rfl (by decide) (⟨by omega, by omega⟩) (⟨by omega, by omega⟩) (fun h153 => ?_) (fun h153 => ?_) | refine r_icmp_ge_any (pc := 153) hX 81 (tgt := 173) rfl (by decide) ?_ ?_
                      · refine r_iload (pc := 173) hX 90 rfl rfl ?_
                        refine r_iload_n (pc := 175) hX 91 rfl rfl ?_
                        first | refine r_icmp_ne (pc := 176) hX 92 (tgt := 189) rfl (by decide) (⟨by omega, by omega⟩) (⟨by omega, by omega⟩) (fun h176 => ?_) (fun h176 => ?_) | refine r_icmp_ne_any (pc := 176) hX 92 (tgt := 189) rfl (by decide) ?_ ?_
                        · refine r_lconst (pc := 189) hX 98 rfl ?_
                          show wp g X F_m_rightOf 0 0 190 [(2, 178), (0, q), (0, row), (0, lf), (0, e), (0, w), (1, x), (3, 0), (0, l), (3, 0), (3, 0), (3, 0)] [(1, 0)] v18 ρ Z
                          exact r_lret (pc := 190) hX 99 hQ rfl rfl (Nat.le_refl 0) (Nat.le_refl 0) ⟨rfl, rfl, hfr18, 0, rfl, trivial⟩
                        · refine r_lload (pc := 179) hX 93 rfl rfl ?_
                          refine r_iload_n (pc := 181) hX 94 rfl rfl ?_
                          refine r_callS (as := [(0, lf)]) (st := [(1, x)]) (pc := 182) hX 95 rfl mo_m_twelves ml_X12_353 stt_m_twelves (c_twelves g v18 ρ Z hG (lf) (by omega)) rfl (by rw [hRm]; exact ⟨by decide, by decide⟩) (by rw [hRm]; exact ⟨by decide, by decide⟩) (Nat.le_of_ble_eq_true rfl) (fun o182 v182 ρ182 Z182 hq182 _ => ?_)
                          obtain ⟨rfl, rfl, rfl, r182, rfl, hq182⟩ := hq182
                          show wp g X F_m_rightOf 0 0 185 [(2, 178), (0, q), (0, row), (0, lf), (0, e), (0, w), (1, x), (3, 0), (0, l), (3, 0), (3, 0), (3, 0)] [(1, r182), (1, x)] v18 ρ Z
                          refine r_lmul (pc := 185) hX 96 rfl ?_
                          refine r_goto (pc := 186) hX 97 (tgt := 190) rfl (by decide) ?_
                          exact r_lret (pc := 190) hX 99 hQ rfl rfl (Nat.le_refl 0) (Nat.le_refl 0) ⟨rfl, rfl, hfr18, (x * r182), rfl, trivial⟩
                      · refine r_lload (pc := 156) hX 82 rfl rfl ?_
                        refine r_aload_n (pc := 158) hX 83 rfl rfl ?_
                        refine r_iload (pc := 159) hX 84 rfl rfl ?_
                        refine r_callV (as := [(0, l)]) (st := [(1, x)]) (K := 12) (pc := 161) hX 85 rfl mo_m_weightOf ml_X12_427 im_m_weightOf se_m_weightOf (c_weightOf g v18 ρ Z hG (l) (hs18) (by omega)) rfl rfl rfl hG.1 (by rw [hRm]; exact ⟨by decide, by decide⟩) (by rw [hRm]; exact ⟨by decide, by decide⟩) (Nat.le_of_ble_eq_true rfl) (fun o161 v161 ρ161 Z161 hq161 _ => ?_)
                        obtain ⟨rfl, rfl, rfl, r161, rfl, hq161⟩ := hq161
                        show wp g X F_m_rightOf 0 0 164 [(2, 178), (0, q), (0, row), (0, lf), (0, e), (0, w), (1, x), (3, 0), (0, l), (3, 0), (3, 0), (3, 0)] [(1, r161), (1, x)] v18 ρ Z
                        refine r_ladd (pc := 164) hX 86 rfl ?_
                        refine r_lstore (ls' := [(2, 178), (0, q), (0, row), (0, lf), (0, e), (0, w), (1, (x + r161)), (3, 0), (0, l), (3, 0), (3, 0), (3, 0)]) (pc := 165) hX 87 rfl (by decide) rfl ?_
                        refine r_iinc (ls' := [(2, 178), (0, q), (0, row), (0, lf), (0, e), (0, w), (1, (x + r161)), (3, 0), (0, (l + 1)), (3, 0), (3, 0), (3, 0)]) (pc := 167) hX 88 rfl rfl (by decide) rfl ?_
                        refine r_goto (pc := 170) hX 89 (tgt := 147) rfl (by decide) ?_
                        exact (ih147 (x + r161) (l + 1) (by omega) (by omega))
                  exact (L147 _ 0 0 (by omega) (Nat.lt_succ_self _))
                exact (L141 r136  )
              · refine r_aload_n (pc := 128) hX 68 rfl rfl ?_
                refine r_callV (as := []) (st := []) (K := 12) (pc := 129) hX 69 rfl mo_m_arrived ml_X12_304 im_m_arrived se_m_arrived (c_arrived g v18 ρ Z hG  (hSInv_18) ((show ScI (v18 185) from fun k a b => by have := isc k a b; omega))) rfl rfl rfl hG.1 (by rw [hRm]; exact ⟨by decide, by decide⟩) (by rw [hRm]; exact ⟨by decide, by decide⟩) (Nat.le_of_ble_eq_true rfl) (fun o129 v129 ρ129 Z129 hq129 _ => ?_)
                obtain ⟨rfl, rfl, rfl, r129, rfl, hq129⟩ := hq129
                show wp g X F_m_rightOf 0 0 132 [(2, 178), (0, q), (0, row), (0, lf), (0, e), (0, c), (3, 0), (3, 0), (3, 0), (3, 0), (3, 0), (3, 0)] [(0, r129)] v18 ρ Z
                refine r_goto (pc := 132) hX 70 (tgt := 139) rfl (by decide) ?_
                refine r_istore (ls' := [(2, 178), (0, q), (0, row), (0, lf), (0, e), (0, r129), (3, 0), (3, 0), (3, 0), (3, 0), (3, 0), (3, 0)]) (pc := 139) hX 73 rfl (by decide) rfl ?_
                have L141 : ∀ (w : Int) , wp g X F_m_rightOf 0 0 141 [(2, 178), (0, q), (0, row), (0, lf), (0, e), (0, w), (3, 0), (3, 0), (3, 0), (3, 0), (3, 0), (3, 0)] [] v18 ρ Z := by
                  intro w
                  refine r_lconst (pc := 141) hX 74 rfl ?_
                  show wp g X F_m_rightOf 0 0 142 [(2, 178), (0, q), (0, row), (0, lf), (0, e), (0, w), (3, 0), (3, 0), (3, 0), (3, 0), (3, 0), (3, 0)] [(1, 0)] v18 ρ Z
                  refine r_lstore (ls' := [(2, 178), (0, q), (0, row), (0, lf), (0, e), (0, w), (1, 0), (3, 0), (3, 0), (3, 0), (3, 0), (3, 0)]) (pc := 142) hX 75 rfl (by decide) rfl ?_
                  refine r_iconst (pc := 144) hX 76 rfl ?_
                  refine r_istore (ls' := [(2, 178), (0, q), (0, row), (0, lf), (0, e), (0, w), (1, 0), (3, 0), (0, 0), (3, 0), (3, 0), (3, 0)]) (pc := 145) hX 77 rfl (by decide) rfl ?_
                  have L147 : ∀ (n147 : Nat) (x l : Int) , (0 ≤ l ∧ l ≤ 3) → (3 - l).toNat < n147 → wp g X F_m_rightOf 0 0 147 [(2, 178), (0, q), (0, row), (0, lf), (0, e), (0, w), (1, x), (3, 0), (0, l), (3, 0), (3, 0), (3, 0)] [] v18 ρ Z := by
                    intro n147
                    induction n147 with
                    | zero => intro x l il hme147; exact absurd hme147 (Nat.not_lt_zero _)
                    | succ n147 ih147 =>
                      intro x l il hme147
                      refine r_iload (pc := 147) hX 78 rfl rfl ?_
                      refine r_aload_n (pc := 149) hX 79 rfl rfl ?_
                      refine r_callV (as := []) (st := [(0, l)]) (K := 12) (pc := 150) hX 80 rfl mo_m_lands ml_X12_322 im_m_lands se_m_lands (c_lands g v18 ρ Z hG  (hSInv_18)) rfl rfl rfl hG.1 (by rw [hRm]; exact ⟨by decide, by decide⟩) (by rw [hRm]; exact ⟨by decide, by decide⟩) (Nat.le_of_ble_eq_true rfl) (fun o150 v150 ρ150 Z150 hq150 _ => ?_)
                      obtain ⟨rfl, rfl, rfl, r150, rfl, hq150⟩ := hq150
                      show wp g X F_m_rightOf 0 0 153 [(2, 178), (0, q), (0, row), (0, lf), (0, e), (0, w), (1, x), (3, 0), (0, l), (3, 0), (3, 0), (3, 0)] [(0, r150), (0, l)] v18 ρ Z
                      first | refine r_icmp_ge (pc := 153) hX 81 (tgt := 173) rfl (by decide) (⟨by omega, by omega⟩) (⟨by omega, by omega⟩) (fun h153 => ?_) (fun h153 => ?_) | refine r_icmp_ge_any (pc := 153) hX 81 (tgt := 173) rfl (by decide) ?_ ?_
                      · refine r_iload (pc := 173) hX 90 rfl rfl ?_
                        refine r_iload_n (pc := 175) hX 91 rfl rfl ?_
                        first | refine r_icmp_ne (pc := 176) hX 92 (tgt := 189) rfl (by decide) (⟨by omega, by omega⟩) (⟨by omega, by omega⟩) (fun h176 => ?_) (fun h176 => ?_) | refine r_icmp_ne_any (pc := 176) hX 92 (tgt := 189) rfl (by decide) ?_ ?_
                        · refine r_lconst (pc := 189) hX 98 rfl ?_
                          show wp g X F_m_rightOf 0 0 190 [(2, 178), (0, q), (0, row), (0, lf), (0, e), (0, w), (1, x), (3, 0), (0, l), (3, 0), (3, 0), (3, 0)] [(1, 0)] v18 ρ Z
                          exact r_lret (pc := 190) hX 99 hQ rfl rfl (Nat.le_refl 0) (Nat.le_refl 0) ⟨rfl, rfl, hfr18, 0, rfl, trivial⟩
                        · refine r_lload (pc := 179) hX 93 rfl rfl ?_
                          refine r_iload_n (pc := 181) hX 94 rfl rfl ?_
                          refine r_callS (as := [(0, lf)]) (st := [(1, x)]) (pc := 182) hX 95 rfl mo_m_twelves ml_X12_353 stt_m_twelves (c_twelves g v18 ρ Z hG (lf) (by omega)) rfl (by rw [hRm]; exact ⟨by decide, by decide⟩) (by rw [hRm]; exact ⟨by decide, by decide⟩) (Nat.le_of_ble_eq_true rfl) (fun o182 v182 ρ182 Z182 hq182 _ => ?_)
                          obtain ⟨rfl, rfl, rfl, r182, rfl, hq182⟩ := hq182
                          show wp g X F_m_rightOf 0 0 185 [(2, 178), (0, q), (0, row), (0, lf), (0, e), (0, w), (1, x), (3, 0), (0, l), (3, 0), (3, 0), (3, 0)] [(1, r182), (1, x)] v18 ρ Z
                          refine r_lmul (pc := 185) hX 96 rfl ?_
                          refine r_goto (pc := 186) hX 97 (tgt := 190) rfl (by decide) ?_
                          exact r_lret (pc := 190) hX 99 hQ rfl rfl (Nat.le_refl 0) (Nat.le_refl 0) ⟨rfl, rfl, hfr18, (x * r182), rfl, trivial⟩
                      · refine r_lload (pc := 156) hX 82 rfl rfl ?_
                        refine r_aload_n (pc := 158) hX 83 rfl rfl ?_
                        refine r_iload (pc := 159) hX 84 rfl rfl ?_
                        refine r_callV (as := [(0, l)]) (st := [(1, x)]) (K := 12) (pc := 161) hX 85 rfl mo_m_weightOf ml_X12_427 im_m_weightOf se_m_weightOf (c_weightOf g v18 ρ Z hG (l) (hs18) (by omega)) rfl rfl rfl hG.1 (by rw [hRm]; exact ⟨by decide, by decide⟩) (by rw [hRm]; exact ⟨by decide, by decide⟩) (Nat.le_of_ble_eq_true rfl) (fun o161 v161 ρ161 Z161 hq161 _ => ?_)
                        obtain ⟨rfl, rfl, rfl, r161, rfl, hq161⟩ := hq161
                        show wp g X F_m_rightOf 0 0 164 [(2, 178), (0, q), (0, row), (0, lf), (0, e), (0, w), (1, x), (3, 0), (0, l), (3, 0), (3, 0), (3, 0)] [(1, r161), (1, x)] v18 ρ Z
                        refine r_ladd (pc := 164) hX 86 rfl ?_
                        refine r_lstore (ls' := [(2, 178), (0, q), (0, row), (0, lf), (0, e), (0, w), (1, (x + r161)), (3, 0), (0, l), (3, 0), (3, 0), (3, 0)]) (pc := 165) hX 87 rfl (by decide) rfl ?_
                        refine r_iinc (ls' := [(2, 178), (0, q), (0, row), (0, lf), (0, e), (0, w), (1, (x + r161)), (3, 0), (0, (l + 1)), (3, 0), (3, 0), (3, 0)]) (pc := 167) hX 88 rfl rfl (by decide) rfl ?_
                        refine r_goto (pc := 170) hX 89 (tgt := 147) rfl (by decide) ?_
                        exact (ih147 (x + r161) (l + 1) (by omega) (by omega))
                  exact (L147 _ 0 0 (by omega) (Nat.lt_succ_self _))
                exact (L141 r129  )
            first | refine r_if_ge (pc := 113) hX 62 (tgt := 121) rfl (by decide) (⟨by omega, by omega⟩) (fun h113 => ?_) (fun h113 => ?_) | refine r_if_ge_any (pc := 113) hX 62 (tgt := 121) rfl (by decide) ?_ ?_
            · exact (L121   )
            · refine r_iload (pc := 116) hX 63 rfl rfl ?_
              first | refine r_if_eq (pc := 118) hX 64 (tgt := 191) rfl (by decide) (⟨by omega, by omega⟩) (fun h118 => ?_) (fun h118 => ?_) | refine r_if_eq_any (pc := 118) hX 64 (tgt := 191) rfl (by decide) ?_ ?_
              · refine r_lconst (pc := 191) hX 100 rfl ?_
                show wp g X F_m_rightOf 0 0 192 [(2, 178), (0, q), (0, row), (0, lf), (0, e), (0, c), (3, 0), (3, 0), (3, 0), (3, 0), (3, 0), (3, 0)] [(1, 0)] v18 ρ Z
                refine r_lstore (ls' := [(2, 178), (0, q), (0, row), (0, lf), (0, e), (1, 0), (3, 0), (3, 0), (3, 0), (3, 0), (3, 0), (3, 0)]) (pc := 192) hX 101 rfl (by decide) rfl ?_
                refine r_iconst (pc := 194) hX 102 rfl ?_
                refine r_istore (ls' := [(2, 178), (0, q), (0, row), (0, lf), (0, e), (1, 0), (3, 0), (0, 0), (3, 0), (3, 0), (3, 0), (3, 0)]) (pc := 195) hX 103 rfl (by decide) rfl ?_
                have L197 : ∀ (n197 : Nat) (x c : Int) , (0 ≤ c ∧ c ≤ 5) → (5 - c).toNat < n197 → wp g X F_m_rightOf 0 0 197 [(2, 178), (0, q), (0, row), (0, lf), (0, e), (1, x), (3, 0), (0, c), (3, 0), (3, 0), (3, 0), (3, 0)] [] v18 ρ Z := by
                  intro n197
                  induction n197 with
                  | zero => intro x c ic hme197; exact absurd hme197 (Nat.not_lt_zero _)
                  | succ n197 ih197 =>
                    intro x c ic hme197
                    refine r_iload (pc := 197) hX 104 rfl rfl ?_
                    refine r_iconst (pc := 199) hX 105 rfl ?_
                    first | refine r_icmp_ge (pc := 200) hX 106 (tgt := 226) rfl (by decide) (⟨by omega, by omega⟩) (⟨by omega, by omega⟩) (fun h200 => ?_) (fun h200 => ?_) | refine r_icmp_ge_any (pc := 200) hX 106 (tgt := 226) rfl (by decide) ?_ ?_
                    · refine r_aload_n (pc := 226) hX 119 rfl rfl ?_
                      refine r_callV (as := []) (st := []) (K := 12) (pc := 227) hX 120 rfl mo_m_slot ml_X12_364 im_m_slot se_m_slot (c_slot g v18 ρ Z hG  ) rfl rfl rfl hG.1 (by rw [hRm]; exact ⟨by decide, by decide⟩) (by rw [hRm]; exact ⟨by decide, by decide⟩) (Nat.le_of_ble_eq_true rfl) (fun o227 v227 ρ227 Z227 hq227 _ => ?_)
                      obtain ⟨rfl, rfl, rfl, r227, rfl, hq227⟩ := hq227
                      show wp g X F_m_rightOf 0 0 230 [(2, 178), (0, q), (0, row), (0, lf), (0, e), (1, x), (3, 0), (0, c), (3, 0), (3, 0), (3, 0), (3, 0)] [(0, r227)] v18 ρ Z
                      have e2 : v18 180 2 = v 180 2 := by rw [hfr18.1 180 (by decide) (by decide)]
                      have b8 : ∀ k, 0 ≤ k → k ≤ 2 → 0 ≤ v18 185 k ∧ v18 185 k ≤ 8 := fun k a b => by
                        have z := isc k a b
                        have z3 := hSInv_18.c3
                        by_cases e9 : k < v18 180 2
                        · have z2 := hq110.2 (by omega) k a e9; omega
                        · omega
                      have z0 := b8 0 (by omega) (by omega)
                      have z1 := b8 1 (by omega) (by omega)
                      have z2 := b8 2 (by omega) (by omega)
                      refine r_istore (ls' := [(2, 178), (0, q), (0, row), (0, lf), (0, e), (1, x), (3, 0), (0, r227), (3, 0), (3, 0), (3, 0), (3, 0)]) (pc := 230) hX 121 rfl (by decide) rfl ?_
                      refine r_aload_n (pc := 232) hX 122 rfl rfl ?_
                      refine r_iconst (pc := 233) hX 123 rfl ?_
                      refine r_putI (pc := 234) hX 124 rfl fl_X12_433 rfl (fun _ h => by cases h; rfl) hG.1 (by decide) ?_
                      refine r_iconst (pc := 237) hX 125 rfl ?_
                      refine r_istore (ls' := [(2, 178), (0, q), (0, row), (0, lf), (0, e), (1, x), (3, 0), (0, r227), (0, 0), (3, 0), (3, 0), (3, 0)]) (pc := 238) hX 126 rfl (by decide) rfl ?_
                      have L240 : ∀ (n240 : Nat) (x i : Int) (v240 : Mv) , (Fr [185, 186] [43] v v240) → (SInv (v240 180)) → (0 ≤ i ∧ i ≤ v 178 42) → (v 178 42 - i).toNat < n240 → wp g X F_m_rightOf 0 0 240 [(2, 178), (0, q), (0, row), (0, lf), (0, e), (1, x), (3, 0), (0, r227), (0, i), (3, 0), (3, 0), (3, 0)] [] v240 ρ Z := by
                        intro n240
                        induction n240 with
                        | zero => intro x i v240 hfr240 hSInv_240 ii hme240; exact absurd hme240 (Nat.not_lt_zero _)
                        | succ n240 ih240 =>
                          intro x i v240 hfr240 hSInv_240 ii hme240
                          have e42 : v240 178 42 = v 178 42 := hfr240.2 42 (by decide)
                          have hs240 : ∀ k, 0 ≤ k → k ≤ 4 → 0 ≤ v240 202 k ∧ v240 202 k ≤ 12 := by rw [hfr240.1 202 (by decide) (by decide)]; exact hs
                          refine r_iload (pc := 240) hX 127 rfl rfl ?_
                          refine t_getI (y := (v240 178 42)) (pc := 242) hX 128 rfl rfl rfl fl_X12_436 rfl hG.1 (rfl) ?_
                          first | refine r_icmp_ge (pc := 246) hX 130 (tgt := 330) rfl (by decide) (⟨by omega, by omega⟩) (⟨by omega, by omega⟩) (fun h246 => ?_) (fun h246 => ?_) | refine r_icmp_ge_any (pc := 246) hX 130 (tgt := 330) rfl (by decide) ?_ ?_
                          · refine r_lload (pc := 330) hX 172 rfl rfl ?_
                            exact r_lret (pc := 332) hX 173 hQ rfl rfl (Nat.le_refl 0) (Nat.le_refl 0) ⟨rfl, rfl, hfr240, x, rfl, trivial⟩
                          · refine r_lconst (pc := 249) hX 131 rfl ?_
                            show wp g X F_m_rightOf 0 0 250 [(2, 178), (0, q), (0, row), (0, lf), (0, e), (1, x), (3, 0), (0, r227), (0, i), (3, 0), (3, 0), (3, 0)] [(1, 0)] v240 ρ Z
                            refine r_lstore (ls' := [(2, 178), (0, q), (0, row), (0, lf), (0, e), (1, x), (3, 0), (0, r227), (0, i), (1, 0), (3, 0), (3, 0)]) (pc := 250) hX 132 rfl (by decide) rfl ?_
                            refine r_iconst (pc := 252) hX 133 rfl ?_
                            refine r_istore (ls' := [(2, 178), (0, q), (0, row), (0, lf), (0, e), (1, x), (3, 0), (0, r227), (0, i), (1, 0), (3, 0), (0, 0)]) (pc := 253) hX 134 rfl (by decide) rfl ?_
                            have L255 : ∀ (n255 : Nat) (y l : Int) , (0 ≤ l ∧ l ≤ 3) → (3 - l).toNat < n255 → wp g X F_m_rightOf 0 0 255 [(2, 178), (0, q), (0, row), (0, lf), (0, e), (1, x), (3, 0), (0, r227), (0, i), (1, y), (3, 0), (0, l)] [] v240 ρ Z := by
                              intro n255
                              induction n255 with
                              | zero => intro y l il hme255; exact absurd hme255 (Nat.not_lt_zero _)
                              | succ n255 ih255 =>
                                intro y l il hme255
                                refine r_iload (pc := 255) hX 135 rfl rfl ?_
                                refine r_aload_n (pc := 257) hX 136 rfl rfl ?_
                                refine r_callV (as := []) (st := [(0, l)]) (K := 12) (pc := 258) hX 137 rfl mo_m_lands ml_X12_322 im_m_lands se_m_lands (c_lands g v240 ρ Z hG  (hSInv_240)) rfl rfl rfl hG.1 (by rw [hRm]; exact ⟨by decide, by decide⟩) (by rw [hRm]; exact ⟨by decide, by decide⟩) (Nat.le_of_ble_eq_true rfl) (fun o258 v258 ρ258 Z258 hq258 _ => ?_)
                                obtain ⟨rfl, rfl, rfl, r258, rfl, hq258⟩ := hq258
                                show wp g X F_m_rightOf 0 0 261 [(2, 178), (0, q), (0, row), (0, lf), (0, e), (1, x), (3, 0), (0, r227), (0, i), (1, y), (3, 0), (0, l)] [(0, r258), (0, l)] v240 ρ Z
                                first | refine r_icmp_ge (pc := 261) hX 138 (tgt := 298) rfl (by decide) (⟨by omega, by omega⟩) (⟨by omega, by omega⟩) (fun h261 => ?_) (fun h261 => ?_) | refine r_icmp_ge_any (pc := 261) hX 138 (tgt := 298) rfl (by decide) ?_ ?_
                                · refine r_lload (pc := 298) hX 157 rfl rfl ?_
                                  refine r_lload (pc := 300) hX 158 rfl rfl ?_
                                  refine r_lcmp_any (pc := 302) hX 159 rfl (fun z302 hz302a hz302b => ?_)
                                  have L324 : ∀ (x : Int) (v324 : Mv) , (Fr [185, 186] [43] v v324) → (SInv (v324 180)) → wp g X F_m_rightOf 0 0 324 [(2, 178), (0, q), (0, row), (0, lf), (0, e), (1, x), (3, 0), (0, r227), (0, i), (3, 0), (3, 0), (3, 0)] [] v324 ρ Z := by
                                    intro x v324 hfr324 hSInv_324
                                    refine r_iinc (ls' := [(2, 178), (0, q), (0, row), (0, lf), (0, e), (1, x), (3, 0), (0, r227), (0, (i + 1)), (3, 0), (3, 0), (3, 0)]) (pc := 324) hX 170 rfl rfl (by decide) rfl ?_
                                    refine r_goto (pc := 327) hX 171 (tgt := 240) rfl (by decide) ?_
                                    exact (ih240 x (i + 1) v324 (hfr324) (hSInv_324) (by omega) (by omega))
                                  first | refine r_if_gt (pc := 303) hX 160 (tgt := 309) rfl (by decide) (⟨by omega, by omega⟩) (fun h303 => ?_) (fun h303 => ?_) | refine r_if_gt_any (pc := 303) hX 160 (tgt := 309) rfl (by decide) ?_ ?_
                                  · refine r_lload (pc := 309) hX 162 rfl rfl ?_
                                    refine r_lstore (ls' := [(2, 178), (0, q), (0, row), (0, lf), (0, e), (1, y), (3, 0), (0, r227), (0, i), (1, y), (3, 0), (0, l)]) (pc := 311) hX 163 rfl (by decide) rfl ?_
                                    refine r_aload_n (pc := 313) hX 164 rfl rfl ?_
                                    refine t_getR (pc := 314) hX 165 rfl rfl rfl fl_X12_99 rfl hG.1 (a_freeRow hG).1 ?_
                                    refine r_iload (pc := 318) hX 167 rfl rfl ?_
                                    refine e_iald (y := (v240 201 i)) (pc := 320) hX 168 rfl (a_freeRow hG).2.1 (a_freeRow hG).2.2 (by omega) (by omega) (rfl) ?_
                                    refine r_putI (pc := 321) hX 169 rfl fl_X12_433 rfl (fun _ h => by cases h; rfl) hG.1 (by decide) ?_
                                    refine r_wk (ls' := [(2, 178), (0, q), (0, row), (0, lf), (0, e), (1, y), (3, 0), (0, r227), (0, i), (3, 0), (3, 0), (3, 0)]) ⟨Or.inr rfl, Or.inr rfl, Or.inr rfl, Or.inr rfl, Or.inr rfl, Or.inr rfl, Or.inr rfl, Or.inr rfl, Or.inr rfl, Or.inl rfl, Or.inr rfl, Or.inl rfl, trivial⟩ ?_
                                    exact (L324 y (up v240 178 43 (v240 201 i)) ((hfr240).fld (k := 43) (by decide)) (by rw [up_f (by decide)]; exact hSInv_240) )
                                  · refine r_goto (pc := 306) hX 161 (tgt := 324) rfl (by decide) ?_
                                    refine r_wk (ls' := [(2, 178), (0, q), (0, row), (0, lf), (0, e), (1, x), (3, 0), (0, r227), (0, i), (3, 0), (3, 0), (3, 0)]) ⟨Or.inr rfl, Or.inr rfl, Or.inr rfl, Or.inr rfl, Or.inr rfl, Or.inr rfl, Or.inr rfl, Or.inr rfl, Or.inr rfl, Or.inl rfl, Or.inr rfl, Or.inl rfl, trivial⟩ ?_
                                    exact (L324 x v240 (hfr240) (hSInv_240) )
                                · refine r_lload (pc := 264) hX 139 rfl rfl ?_
                                  refine r_aload_n (pc := 266) hX 140 rfl rfl ?_
                                  refine r_iload (pc := 267) hX 141 rfl rfl ?_
                                  refine r_callV (as := [(0, l)]) (st := [(1, y)]) (K := 12) (pc := 269) hX 142 rfl mo_m_weightOf ml_X12_427 im_m_weightOf se_m_weightOf (c_weightOf g v240 ρ Z hG (l) (hs240) (by omega)) rfl rfl rfl hG.1 (by rw [hRm]; exact ⟨by decide, by decide⟩) (by rw [hRm]; exact ⟨by decide, by decide⟩) (Nat.le_of_ble_eq_true rfl) (fun o269 v269 ρ269 Z269 hq269 _ => ?_)
                                  obtain ⟨rfl, rfl, rfl, r269, rfl, hq269⟩ := hq269
                                  show wp g X F_m_rightOf 0 0 272 [(2, 178), (0, q), (0, row), (0, lf), (0, e), (1, x), (3, 0), (0, r227), (0, i), (1, y), (3, 0), (0, l)] [(1, r269), (1, y)] v240 ρ Z
                                  refine t_getR (pc := 272) hX 143 rfl rfl rfl fl_X12_87 rfl hG.1 (a_turned hG).1 ?_
                                  refine r_aload_n (pc := 276) hX 145 rfl rfl ?_
                                  refine r_iload (pc := 277) hX 146 rfl rfl ?_
                                  refine r_iload (pc := 279) hX 147 rfl rfl ?_
                                  refine r_iload_n (pc := 281) hX 148 rfl rfl ?_
                                  refine r_iload (pc := 282) hX 149 rfl rfl ?_
                                  refine r_callV (as := [(0, l), (0, i), (0, lf), (0, r227)]) (st := [(2, 197), (1, r269), (1, y)]) (K := 12) (pc := 284) hX 150 rfl mo_m_place ml_X12_423 im_m_place se_m_place (c_place g v240 ρ Z hG (l) (i) (lf) (r227) ) rfl rfl rfl hG.1 (by rw [hRm]; exact ⟨by decide, by decide⟩) (by rw [hRm]; exact ⟨by decide, by decide⟩) (Nat.le_of_ble_eq_true rfl) (fun o284 v284 ρ284 Z284 hq284 _ => ?_)
                                  obtain ⟨rfl, rfl, rfl, r284, rfl, hq284⟩ := hq284
                                  show wp g X F_m_rightOf 0 0 287 [(2, 178), (0, q), (0, row), (0, lf), (0, e), (1, x), (3, 0), (0, r227), (0, i), (1, y), (3, 0), (0, l)] [(0, r284), (2, 197), (1, r269), (1, y)] v240 ρ Z
                                  refine e_lald (y := (v240 197 r284)) (pc := 287) hX 151 rfl (a_turned hG).2.1 (a_turned hG).2.2 (by omega) (by omega) (rfl) ?_
                                  refine r_lmul (pc := 288) hX 152 rfl ?_
                                  refine r_ladd (pc := 289) hX 153 rfl ?_
                                  refine r_lstore (ls' := [(2, 178), (0, q), (0, row), (0, lf), (0, e), (1, x), (3, 0), (0, r227), (0, i), (1, (y + (r269 * (v240 197 r284)))), (3, 0), (0, l)]) (pc := 290) hX 154 rfl (by decide) rfl ?_
                                  refine r_iinc (ls' := [(2, 178), (0, q), (0, row), (0, lf), (0, e), (1, x), (3, 0), (0, r227), (0, i), (1, (y + (r269 * (v240 197 r284)))), (3, 0), (0, (l + 1))]) (pc := 292) hX 155 rfl rfl (by decide) rfl ?_
                                  refine r_goto (pc := 295) hX 156 (tgt := 255) rfl (by decide) ?_
                                  exact (ih255 (y + (r269 * (v240 197 r284))) (l + 1) (by omega) (by omega))
                            exact (L255 _ 0 0 (by omega) (Nat.lt_succ_self _))
                      exact (L240 _ x 0 (up v18 178 43 (-1)) ((hfr18).fld (k := 43) (by decide)) (by rw [up_f (by decide)]; exact hSInv_18) (by omega) (Nat.lt_succ_self _))
                    · refine r_lload (pc := 203) hX 107 rfl rfl ?_
                      refine t_getR (pc := 205) hX 108 rfl rfl rfl fl_X12_90 rfl hG.1 (a_behind hG).1 ?_
                      refine r_iload_n (pc := 209) hX 110 rfl rfl ?_
                      refine r_iload (pc := 210) hX 111 rfl rfl ?_
                      refine r_callS (as := [(0, c)]) (st := [(0, row), (2, 198), (1, x)]) (pc := 212) hX 112 rfl mo_m_stepOf ml_X12_430 stt_m_stepOf (c_stepOf g v18 ρ Z hG (c) (by omega)) rfl (by rw [hRm]; exact ⟨by decide, by decide⟩) (by rw [hRm]; exact ⟨by decide, by decide⟩) (Nat.le_of_ble_eq_true rfl) (fun o212 v212 ρ212 Z212 hq212 _ => ?_)
                      obtain ⟨rfl, rfl, rfl, r212, rfl, hq212⟩ := hq212
                      show wp g X F_m_rightOf 0 0 215 [(2, 178), (0, q), (0, row), (0, lf), (0, e), (1, x), (3, 0), (0, c), (3, 0), (3, 0), (3, 0), (3, 0)] [(0, r212), (0, row), (2, 198), (1, x)] v18 ρ Z
                      refine r_iadd (pc := 215) hX 113 rfl ?_
                      refine e_lald (y := (v18 198 (row + r212))) (pc := 216) hX 114 rfl (a_behind hG).2.1 (a_behind hG).2.2 (by omega) (by omega) (rfl) ?_
                      refine r_ladd (pc := 217) hX 115 rfl ?_
                      refine r_lstore (ls' := [(2, 178), (0, q), (0, row), (0, lf), (0, e), (1, (x + (v18 198 (row + r212)))), (3, 0), (0, c), (3, 0), (3, 0), (3, 0), (3, 0)]) (pc := 218) hX 116 rfl (by decide) rfl ?_
                      refine r_iinc (ls' := [(2, 178), (0, q), (0, row), (0, lf), (0, e), (1, (x + (v18 198 (row + r212)))), (3, 0), (0, (c + 1)), (3, 0), (3, 0), (3, 0), (3, 0)]) (pc := 220) hX 117 rfl rfl (by decide) rfl ?_
                      refine r_goto (pc := 223) hX 118 (tgt := 197) rfl (by decide) ?_
                      exact (ih197 (x + (v18 198 (row + r212))) (c + 1) (by omega) (by omega))
                exact (L197 _ 0 0 (by omega) (Nat.lt_succ_self _))
              · exact (L121   )
          · refine t_getR (pc := 24) hX 13 rfl rfl rfl fl_X12_53 rfl hG.1 (a_own hG).1 ?_
            refine r_iload (pc := 28) hX 15 rfl rfl ?_
            refine e_iald (y := (v18 186 c)) (pc := 30) hX 16 rfl (a_own hG).2.1 (a_own hG).2.2 (by omega) (by omega) (rfl) ?_
            have hb30 := hOwI_18 c (by omega) (by omega)
            have L67 : ∀ (v67 : Mv) , (Fr [185, 186] [43] v v67) → (OwI (v67 186)) → (SInv (v67 180)) → (∀ k, 0 ≤ k → k ≤ 2 → 0 ≤ v67 185 k ∧ v67 185 k ≤ 44 + 36 * (c + 1) ∧ (v 180 2 ≤ k → v67 185 k ≤ 8)) → (∀ k, 0 ≤ k → k ≤ 4 → v67 186 k < v 180 2) → wp g X F_m_rightOf 0 0 67 [(2, 178), (0, q), (0, row), (0, lf), (0, e), (0, c), (3, 0), (3, 0), (3, 0), (3, 0), (3, 0), (3, 0)] [] v67 ρ Z := by
              intro v67 hfr67 hOwI_67 hSInv_67 jsc jow
              have hs67 : ∀ k, 0 ≤ k → k ≤ 4 → 0 ≤ v67 202 k ∧ v67 202 k ≤ 12 := by rw [hfr67.1 202 (by decide) (by decide)]; exact hs
              refine r_iload (pc := 67) hX 39 rfl rfl ?_
              first | refine r_if_ne (pc := 69) hX 40 (tgt := 96) rfl (by decide) (⟨by omega, by omega⟩) (fun h69 => ?_) (fun h69 => ?_) | refine r_if_ne_any (pc := 69) hX 40 (tgt := 96) rfl (by decide) ?_ ?_
              · refine r_iconst (pc := 96) hX 54 rfl ?_
                refine r_goto (pc := 97) hX 55 (tgt := 101) rfl (by decide) ?_
                refine r_istore (ls' := [(2, 178), (0, q), (0, row), (0, lf), (0, 1), (0, c), (3, 0), (3, 0), (3, 0), (3, 0), (3, 0), (3, 0)]) (pc := 101) hX 57 rfl (by decide) rfl ?_
                refine r_iinc (ls' := [(2, 178), (0, q), (0, row), (0, lf), (0, 1), (0, (c + 1)), (3, 0), (3, 0), (3, 0), (3, 0), (3, 0), (3, 0)]) (pc := 103) hX 58 rfl rfl (by decide) rfl ?_
                refine r_goto (pc := 106) hX 59 (tgt := 18) rfl (by decide) ?_
                exact (ih18 1 (c + 1) v67 (hfr67) (hOwI_67) (hSInv_67) (by omega) (by omega) (jsc) (jow) (by omega))
              · refine t_getR (pc := 72) hX 41 rfl rfl rfl fl_X12_33 rfl hG.1 (a_s hG).1 ?_
                refine r_bipush (pc := 76) hX 43 rfl (by decide) ?_
                refine r_iload (pc := 78) hX 44 rfl rfl ?_
                refine r_iadd (pc := 80) hX 45 rfl ?_
                refine e_iald (y := (v67 180 (10 + c))) (pc := 81) hX 46 rfl (a_s hG).2.1 (a_s hG).2.2 (by omega) (by omega) (rfl) ?_
                have hb81 := hSInv_67.c10 c (by omega) (by omega)
                refine r_iconst (pc := 82) hX 47 rfl ?_
                first | refine r_icmp_ne (pc := 83) hX 48 (tgt := 100) rfl (by decide) (⟨by omega, by omega⟩) (⟨by omega, by omega⟩) (fun h83 => ?_) (fun h83 => ?_) | refine r_icmp_ne_any (pc := 83) hX 48 (tgt := 100) rfl (by decide) ?_ ?_
                · refine r_iconst (pc := 100) hX 56 rfl ?_
                  refine r_istore (ls' := [(2, 178), (0, q), (0, row), (0, lf), (0, 0), (0, c), (3, 0), (3, 0), (3, 0), (3, 0), (3, 0), (3, 0)]) (pc := 101) hX 57 rfl (by decide) rfl ?_
                  refine r_iinc (ls' := [(2, 178), (0, q), (0, row), (0, lf), (0, 0), (0, (c + 1)), (3, 0), (3, 0), (3, 0), (3, 0), (3, 0), (3, 0)]) (pc := 103) hX 58 rfl rfl (by decide) rfl ?_
                  refine r_goto (pc := 106) hX 59 (tgt := 18) rfl (by decide) ?_
                  exact (ih18 0 (c + 1) v67 (hfr67) (hOwI_67) (hSInv_67) (by omega) (by omega) (jsc) (jow) (by omega))
                · refine t_getR (pc := 86) hX 49 rfl rfl rfl fl_X12_102 rfl hG.1 (a_since hG).1 ?_
                  refine r_iload (pc := 90) hX 51 rfl rfl ?_
                  refine e_iald (y := (v67 202 c)) (pc := 92) hX 52 rfl (a_since hG).2.1 (a_since hG).2.2 (by omega) (by omega) (rfl) ?_
                  have hb92 := hs67 c (by omega) (by omega)
                  first | refine r_if_le (pc := 93) hX 53 (tgt := 100) rfl (by decide) (⟨by omega, by omega⟩) (fun h93 => ?_) (fun h93 => ?_) | refine r_if_le_any (pc := 93) hX 53 (tgt := 100) rfl (by decide) ?_ ?_
                  · refine r_iconst (pc := 100) hX 56 rfl ?_
                    refine r_istore (ls' := [(2, 178), (0, q), (0, row), (0, lf), (0, 0), (0, c), (3, 0), (3, 0), (3, 0), (3, 0), (3, 0), (3, 0)]) (pc := 101) hX 57 rfl (by decide) rfl ?_
                    refine r_iinc (ls' := [(2, 178), (0, q), (0, row), (0, lf), (0, 0), (0, (c + 1)), (3, 0), (3, 0), (3, 0), (3, 0), (3, 0), (3, 0)]) (pc := 103) hX 58 rfl rfl (by decide) rfl ?_
                    refine r_goto (pc := 106) hX 59 (tgt := 18) rfl (by decide) ?_
                    exact (ih18 0 (c + 1) v67 (hfr67) (hOwI_67) (hSInv_67) (by omega) (by omega) (jsc) (jow) (by omega))
                  · refine r_iconst (pc := 96) hX 54 rfl ?_
                    refine r_goto (pc := 97) hX 55 (tgt := 101) rfl (by decide) ?_
                    refine r_istore (ls' := [(2, 178), (0, q), (0, row), (0, lf), (0, 1), (0, c), (3, 0), (3, 0), (3, 0), (3, 0), (3, 0), (3, 0)]) (pc := 101) hX 57 rfl (by decide) rfl ?_
                    refine r_iinc (ls' := [(2, 178), (0, q), (0, row), (0, lf), (0, 1), (0, (c + 1)), (3, 0), (3, 0), (3, 0), (3, 0), (3, 0), (3, 0)]) (pc := 103) hX 58 rfl rfl (by decide) rfl ?_
                    refine r_goto (pc := 106) hX 59 (tgt := 18) rfl (by decide) ?_
                    exact (ih18 1 (c + 1) v67 (hfr67) (hOwI_67) (hSInv_67) (by omega) (by omega) (jsc) (jow) (by omega))
            first | refine r_if_lt (pc := 31) hX 17 (tgt := 67) rfl (by decide) (⟨by omega, by omega⟩) (fun h31 => ?_) (fun h31 => ?_) | refine r_if_lt_any (pc := 31) hX 17 (tgt := 67) rfl (by decide) ?_ ?_
            · exact (L67  v18 (hfr18) (by first | exact hOwI_18 | (rw [up_f (by decide)]; exact hOwI_18)) (hSInv_18) (fun k a b => by
            have z := isc k a b
            first | omega | (by_cases e9 : k = v18 186 c; subst e9; rw [up_s]; omega; rw [up_k e9]; omega)) (by first | exact iow | (rw [up_f (by decide)]; exact iow)) )
            · refine t_getR (pc := 34) hX 18 rfl rfl rfl fl_X12_50 rfl hG.1 (a_scores hG).1 ?_
              refine t_getR (pc := 38) hX 20 rfl rfl rfl fl_X12_53 rfl hG.1 (a_own hG).1 ?_
              refine r_iload (pc := 42) hX 22 rfl rfl ?_
              refine e_iald (y := (v18 186 c)) (pc := 44) hX 23 rfl (a_own hG).2.1 (a_own hG).2.2 (by omega) (by omega) (rfl) ?_
              have hb44 := hOwI_18 c (by omega) (by omega)
              refine r_dup2i (pc := 45) hX 24 rfl (show (0 : Nat) ≠ 1 by decide) (show (2 : Nat) ≠ 1 by decide) ?_
              refine e_iald (y := (v18 185 (v18 186 c))) (pc := 46) hX 25 rfl (a_scores hG).2.1 (a_scores hG).2.2 (by omega) (by omega) (rfl) ?_
              have hb46 := isc (v18 186 c) (by omega) (by omega)
              have ho46 := iow c (by omega) (by omega)
              refine t_getR (pc := 47) hX 26 rfl rfl rfl fl_X12_33 rfl hG.1 (a_s hG).1 ?_
              refine r_bipush (pc := 51) hX 28 rfl (by decide) ?_
              refine r_iload (pc := 53) hX 29 rfl rfl ?_
              refine r_iadd (pc := 55) hX 30 rfl ?_
              refine e_iald (y := (v18 180 (6 + c))) (pc := 56) hX 31 rfl (a_s hG).2.1 (a_s hG).2.2 (by omega) (by omega) (rfl) ?_
              have hb56 := hSInv_18.c6 c (by omega) (by omega)
              refine t_getR (pc := 57) hX 32 rfl rfl rfl fl_X12_102 rfl hG.1 (a_since hG).1 ?_
              refine r_iload (pc := 61) hX 34 rfl rfl ?_
              refine e_iald (y := (v18 202 c)) (pc := 63) hX 35 rfl (a_since hG).2.1 (a_since hG).2.2 (by omega) (by omega) (rfl) ?_
              have hb63 := hs18 c (by omega) (by omega)
              refine r_imul (pc := 64) hX 36 rfl ?_
              have hb64 := mul_b hb56 hb63
              refine r_iadd (pc := 65) hX 37 rfl ?_
              refine e_iast (pc := 66) hX 38 rfl (a_scores hG).2.1 (a_scores hG).2.2 (by decide) (by omega) (by omega) ?_
              exact (L67  (up v18 185 (v18 186 c) ((v18 185 (v18 186 c)) + ((v18 180 (6 + c)) * (v18 202 c)))) ((hfr18).arr (r := 185) (by decide) (by decide)) (by first | exact hOwI_18 | (rw [up_f (by decide)]; exact hOwI_18)) (by rw [up_f (by decide)]; exact hSInv_18) (fun k a b => by
            have z := isc k a b
            first | omega | (by_cases e9 : k = v18 186 c; subst e9; rw [up_s]; omega; rw [up_k e9]; omega)) (by first | exact iow | (rw [up_f (by decide)]; exact iow)) )
      exact (L18 _ e 0 v12 ((Fr.rf).tr hfr12 (by decide) (by decide)) (hq12.2.1) (hSInv_12) (by omega) (by omega) (fun k a b => by
            have z := hS.c42 k a b
            rw [hq12.1 k a b]; omega) (hq12.2.2) (Nat.lt_succ_self _))
    exact (L11 1 (by omega) )
set_option maxHeartbeats 4000000 in
set_option maxRecDepth 100000 in
theorem c_rights (g : Gp) (v ρ : Mv) (Z : Mz) (hG : GM ρ Z) (q : Int) (hS : SInv (v 180)) (hq : 0 ≤ q ∧ q < v 180 2) (hh : 1 ≤ v 180 (36 + q)) : Ok g 4 0 0 F_m_rights [(2, 178), (0, q)] v ρ Z (fun o v' ρ' Z' => ρ = ρ' ∧ Z = Z' ∧ Fr [185, 186, 189, 197, 198, 199, 200, 201, 202] [42, 43] v v' ∧ ∃ r : Int, o = some (1, r) ∧ (WtN (v 180) (v' 189) (v 180 35).toNat)) := by
  refine Ok.of mo_m_rights (Nat.le_of_ble_eq_true rfl) ?_
  intro X hX hRm hxn hQ
  show wp g X F_m_rights 0 0 0 [(2, 178), (0, q), (3, 0), (3, 0), (3, 0), (3, 0), (3, 0), (3, 0)] [] v ρ Z
  have hb2 := hS.c2
  have hb0 := hS.c0
  have hb36 := hS.c36 q (by omega) (by omega)
  refine r_aload_n (pc := 0) hX 0 rfl rfl ?_
  refine r_callV (as := []) (st := []) (K := 12) (pc := 1) hX 1 rfl mo_m_weighs ml_X12_319 im_m_weighs se_m_weighs (c_weighs g v ρ Z hG  (hS)) rfl rfl rfl hG.1 (by rw [hRm]; exact ⟨by decide, by decide⟩) (by rw [hRm]; exact ⟨by decide, by decide⟩) (Nat.le_of_ble_eq_true rfl) (fun o1 v1 ρ1 Z1 hq1 _ => ?_)
  obtain ⟨rfl, rfl, hfr1, rfl, hq1⟩ := hq1
  have hSInv_1 : SInv (v1 180) := by rw [hfr1.1 180 (by decide) (by decide)]; exact hS
  show wp g X F_m_rights 0 0 4 [(2, 178), (0, q), (3, 0), (3, 0), (3, 0), (3, 0), (3, 0), (3, 0)] [] v1 ρ Z
  have e136 : v1 180 = v 180 := hfr1.1 180 (by decide) (by decide)
  refine r_aload_n (pc := 4) hX 2 rfl rfl ?_
  refine r_callV (as := []) (st := []) (K := 12) (pc := 5) hX 3 rfl mo_m_carsLeft ml_X12_374 im_m_carsLeft se_m_carsLeft (c_carsLeft g v1 ρ Z hG  (hSInv_1)) rfl rfl rfl hG.1 (by rw [hRm]; exact ⟨by decide, by decide⟩) (by rw [hRm]; exact ⟨by decide, by decide⟩) (Nat.le_of_ble_eq_true rfl) (fun o5 v5 ρ5 Z5 hq5 _ => ?_)
  obtain ⟨rfl, rfl, rfl, r5, rfl, hq5⟩ := hq5
  show wp g X F_m_rights 0 0 8 [(2, 178), (0, q), (3, 0), (3, 0), (3, 0), (3, 0), (3, 0), (3, 0)] [(0, r5)] v1 ρ Z
  refine r_istore_n (ls' := [(2, 178), (0, q), (0, r5), (3, 0), (3, 0), (3, 0), (3, 0), (3, 0)]) (pc := 8) hX 4 rfl (by decide) rfl ?_
  refine r_aload_n (pc := 9) hX 5 rfl rfl ?_
  refine r_iconst (pc := 10) hX 6 rfl ?_
  refine r_putI (pc := 11) hX 7 rfl fl_X12_436 rfl (fun _ h => by cases h; rfl) hG.1 (by decide) ?_
  refine r_iconst (pc := 14) hX 8 rfl ?_
  refine r_istore_n (ls' := [(2, 178), (0, q), (0, r5), (0, 0), (3, 0), (3, 0), (3, 0), (3, 0)]) (pc := 15) hX 9 rfl (by decide) rfl ?_
  have L16 : ∀ (n16 : Nat) (i : Int) (v16 : Mv) , (Fr [185, 186, 189, 197, 198, 199, 200, 201, 202] [42, 43] v v16) → (SInv (v16 180)) → (0 ≤ i ∧ i ≤ v 180 0) → (0 ≤ v16 178 42 ∧ v16 178 42 ≤ i ∧ (v 180 (36 + q) ≤ i → v16 178 42 ≤ i - 1)) → (∀ k, 0 ≤ k → k < v16 178 42 → 0 ≤ v16 201 k ∧ v16 201 k ≤ 3) → (WtN (v 180) (v16 189) (v 180 35).toNat) → (v 180 0 - i).toNat < n16 → wp g X F_m_rights 0 0 16 [(2, 178), (0, q), (0, r5), (0, i), (3, 0), (3, 0), (3, 0), (3, 0)] [] v16 ρ Z := by
    intro n16
    induction n16 with
    | zero => intro i v16 hfr16 hSInv_16 ii im ifr iw hme16; exact absurd hme16 (Nat.not_lt_zero _)
    | succ n16 ih16 =>
      intro i v16 hfr16 hSInv_16 ii im ifr iw hme16
      have es16 : v16 180 = v 180 := hfr16.1 180 (by decide) (by decide)
      have e016 : v16 180 0 = v 180 0 := by rw [es16]
      refine r_iload_n (pc := 16) hX 10 rfl rfl ?_
      refine t_getR (pc := 17) hX 11 rfl rfl rfl fl_X12_33 rfl hG.1 (a_s hG).1 ?_
      refine r_iconst (pc := 21) hX 13 rfl ?_
      refine e_iald (y := (v16 180 0)) (pc := 22) hX 14 rfl (a_s hG).2.1 (a_s hG).2.2 (by omega) (by omega) (rfl) ?_
      have hb22 := hSInv_16.c0
      first | refine r_icmp_ge (pc := 23) hX 15 (tgt := 63) rfl (by decide) (⟨by omega, by omega⟩) (⟨by omega, by omega⟩) (fun h23 => ?_) (fun h23 => ?_) | refine r_icmp_ge_any (pc := 23) hX 15 (tgt := 63) rfl (by decide) ?_ ?_
      · refine r_iconst (pc := 63) hX 35 rfl ?_
        refine r_istore_n (ls' := [(2, 178), (0, q), (0, r5), (0, 0), (3, 0), (3, 0), (3, 0), (3, 0)]) (pc := 64) hX 36 rfl (by decide) rfl ?_
        have L65 : ∀ (n65 : Nat) (l : Int) (v65 : Mv) , (Fr [185, 186, 189, 197, 198, 199, 200, 201, 202] [42, 43] v v65) → (SInv (v65 180)) → (0 ≤ l ∧ l ≤ 3) → (RtI v v65) → (3 - l).toNat < n65 → wp g X F_m_rights 0 0 65 [(2, 178), (0, q), (0, r5), (0, l), (3, 0), (3, 0), (3, 0), (3, 0)] [] v65 ρ Z := by
          intro n65
          induction n65 with
          | zero => intro l v65 hfr65 hSInv_65 il it hme65; exact absurd hme65 (Nat.not_lt_zero _)
          | succ n65 ih65 =>
            intro l v65 hfr65 hSInv_65 il it hme65
            refine r_iload_n (pc := 65) hX 37 rfl rfl ?_
            refine r_aload_n (pc := 66) hX 38 rfl rfl ?_
            refine r_callV (as := []) (st := [(0, l)]) (K := 12) (pc := 67) hX 39 rfl mo_m_lands ml_X12_322 im_m_lands se_m_lands (c_lands g v65 ρ Z hG  (hSInv_65)) rfl rfl rfl hG.1 (by rw [hRm]; exact ⟨by decide, by decide⟩) (by rw [hRm]; exact ⟨by decide, by decide⟩) (Nat.le_of_ble_eq_true rfl) (fun o67 v67 ρ67 Z67 hq67 _ => ?_)
            obtain ⟨rfl, rfl, rfl, r67, rfl, hq67⟩ := hq67
            show wp g X F_m_rights 0 0 70 [(2, 178), (0, q), (0, r5), (0, l), (3, 0), (3, 0), (3, 0), (3, 0)] [(0, r67), (0, l)] v65 ρ Z
            first | refine r_icmp_ge (pc := 70) hX 40 (tgt := 198) rfl (by decide) (⟨by omega, by omega⟩) (⟨by omega, by omega⟩) (fun h70 => ?_) (fun h70 => ?_) | refine r_icmp_ge_any (pc := 70) hX 40 (tgt := 198) rfl (by decide) ?_ ?_
            · refine r_iload_n (pc := 198) hX 113 rfl rfl ?_
              refine r_istore_n (ls' := [(2, 178), (0, q), (0, r5), (0, r5), (3, 0), (3, 0), (3, 0), (3, 0)]) (pc := 199) hX 114 rfl (by decide) rfl ?_
              have L200 : ∀ (n200 : Nat) (n : Int) (v200 : Mv) , (Fr [185, 186, 189, 197, 198, 199, 200, 201, 202] [42, 43] v v200) → (SInv (v200 180)) → (-1 ≤ n ∧ n ≤ r5) → (RtI v v200) → (n + 1).toNat < n200 → wp g X F_m_rights 0 0 200 [(2, 178), (0, q), (0, r5), (0, n), (3, 0), (3, 0), (3, 0), (3, 0)] [] v200 ρ Z := by
                intro n200
                induction n200 with
                | zero => intro n v200 hfr200 hSInv_200 in_ it hme200; exact absurd hme200 (Nat.not_lt_zero _)
                | succ n200 ih200 =>
                  intro n v200 hfr200 hSInv_200 in_ it hme200
                  refine r_iload_n (pc := 200) hX 115 rfl rfl ?_
                  first | refine r_if_lt (pc := 201) hX 116 (tgt := 405) rfl (by decide) (⟨by omega, by omega⟩) (fun h201 => ?_) (fun h201 => ?_) | refine r_if_lt_any (pc := 201) hX 116 (tgt := 405) rfl (by decide) ?_ ?_
                  · refine t_getR (pc := 405) hX 226 rfl rfl rfl fl_X12_90 rfl hG.1 (a_behind hG).1 ?_
                    refine r_iconst (pc := 409) hX 228 rfl ?_
                    refine e_lald (y := (v200 198 0)) (pc := 410) hX 229 rfl (a_behind hG).2.1 (a_behind hG).2.2 (by omega) (by omega) (rfl) ?_
                    exact r_lret (pc := 411) hX 230 hQ rfl rfl (Nat.le_refl 0) (Nat.le_refl 0) ⟨rfl, rfl, hfr200, (v200 198 0), rfl, (it.2.2)⟩
                  · refine r_iconst (pc := 204) hX 117 rfl ?_
                    refine r_istore (ls' := [(2, 178), (0, q), (0, r5), (0, n), (0, 0), (3, 0), (3, 0), (3, 0)]) (pc := 205) hX 118 rfl (by decide) rfl ?_
                    have L207 : ∀ (n207 : Nat) (a : Int) (v207 : Mv) , (Fr [185, 186, 189, 197, 198, 199, 200, 201, 202] [42, 43] v v207) → (SInv (v207 180)) → (0 ≤ a ∧ a ≤ n + 1) → (RtI v v207) → (n + 1 - a).toNat < n207 → wp g X F_m_rights 0 0 207 [(2, 178), (0, q), (0, r5), (0, n), (0, a), (3, 0), (3, 0), (3, 0)] [] v207 ρ Z := by
                      intro n207
                      induction n207 with
                      | zero => intro a v207 hfr207 hSInv_207 ia it hme207; exact absurd hme207 (Nat.not_lt_zero _)
                      | succ n207 ih207 =>
                        intro a v207 hfr207 hSInv_207 ia it hme207
                        refine r_iload (pc := 207) hX 119 rfl rfl ?_
                        refine r_iload_n (pc := 209) hX 120 rfl rfl ?_
                        first | refine r_icmp_gt (pc := 210) hX 121 (tgt := 368) rfl (by decide) (⟨by omega, by omega⟩) (⟨by omega, by omega⟩) (fun h210 => ?_) (fun h210 => ?_) | refine r_icmp_gt_any (pc := 210) hX 121 (tgt := 368) rfl (by decide) ?_ ?_
                        · refine r_iconst (pc := 368) hX 209 rfl ?_
                          refine r_istore (ls' := [(2, 178), (0, q), (0, r5), (0, n), (0, 0), (3, 0), (3, 0), (3, 0)]) (pc := 369) hX 210 rfl (by decide) rfl ?_
                          have L371 : ∀ (n371 : Nat) (k : Int) (v371 : Mv) , (Fr [185, 186, 189, 197, 198, 199, 200, 201, 202] [42, 43] v v371) → (SInv (v371 180)) → (0 ≤ k ∧ k ≤ 28561) → (RtI v v371) → (28561 - k).toNat < n371 → wp g X F_m_rights 0 0 371 [(2, 178), (0, q), (0, r5), (0, n), (0, k), (3, 0), (3, 0), (3, 0)] [] v371 ρ Z := by
                            intro n371
                            induction n371 with
                            | zero => intro k v371 hfr371 hSInv_371 ik it hme371; exact absurd hme371 (Nat.not_lt_zero _)
                            | succ n371 ih371 =>
                              intro k v371 hfr371 hSInv_371 ik it hme371
                              refine r_iload (pc := 371) hX 211 rfl rfl ?_
                              refine r_sipush (pc := 373) hX 212 rfl (by decide) ?_
                              first | refine r_icmp_ge (pc := 376) hX 213 (tgt := 399) rfl (by decide) (⟨by omega, by omega⟩) (⟨by omega, by omega⟩) (fun h376 => ?_) (fun h376 => ?_) | refine r_icmp_ge_any (pc := 376) hX 213 (tgt := 399) rfl (by decide) ?_ ?_
                              · refine r_iinc (ls' := [(2, 178), (0, q), (0, r5), (0, (n + (-1))), (0, k), (3, 0), (3, 0), (3, 0)]) (pc := 399) hX 224 rfl rfl (by decide) rfl ?_
                                refine r_goto (pc := 402) hX 225 (tgt := 200) rfl (by decide) ?_
                                refine r_wk (ls' := [(2, 178), (0, q), (0, r5), (0, (n + (-1))), (3, 0), (3, 0), (3, 0), (3, 0)]) ⟨Or.inr rfl, Or.inr rfl, Or.inr rfl, Or.inr rfl, Or.inl rfl, Or.inr rfl, Or.inr rfl, Or.inr rfl, trivial⟩ ?_
                                exact (ih200 (n + (-1)) v371 (hfr371) (hSInv_371) (by omega) (it) (by omega))
                              · refine t_getR (pc := 379) hX 214 rfl rfl rfl fl_X12_90 rfl hG.1 (a_behind hG).1 ?_
                                refine r_iload (pc := 383) hX 216 rfl rfl ?_
                                refine t_getR (pc := 385) hX 217 rfl rfl rfl fl_X12_93 rfl hG.1 (a_rowsNow hG).1 ?_
                                refine r_iload (pc := 389) hX 219 rfl rfl ?_
                                refine e_lald (y := (v371 199 k)) (pc := 391) hX 220 rfl (a_rowsNow hG).2.1 (a_rowsNow hG).2.2 (by omega) (by omega) (rfl) ?_
                                refine e_last (pc := 392) hX 221 rfl (a_behind hG).2.1 (a_behind hG).2.2 (by decide) (by omega) (by omega) ?_
                                refine r_iinc (ls' := [(2, 178), (0, q), (0, r5), (0, n), (0, (k + 1)), (3, 0), (3, 0), (3, 0)]) (pc := 393) hX 222 rfl rfl (by decide) rfl ?_
                                refine r_goto (pc := 396) hX 223 (tgt := 371) rfl (by decide) ?_
                                exact (ih371 (k + 1) (up v371 198 k (v371 199 k)) ((hfr371).arr (r := 198) (by decide) (by decide)) (by rw [up_f (by decide)]; exact hSInv_371) (by omega) (it.fr (by (repeat rw [up_r (by decide)])) (by (repeat rw [up_f (by decide)])) (by (repeat rw [up_f (by decide)]))) (by omega))
                          exact (L371 _ 0 v207 (hfr207) (hSInv_207) (by omega) (it) (Nat.lt_succ_self _))
                        · refine r_iconst (pc := 213) hX 122 rfl ?_
                          refine r_istore (ls' := [(2, 178), (0, q), (0, r5), (0, n), (0, a), (0, 0), (3, 0), (3, 0)]) (pc := 214) hX 123 rfl (by decide) rfl ?_
                          have L216 : ∀ (n216 : Nat) (b : Int) (v216 : Mv) , (Fr [185, 186, 189, 197, 198, 199, 200, 201, 202] [42, 43] v v216) → (SInv (v216 180)) → (0 ≤ b ∧ a + b ≤ n + 1) → (RtI v v216) → (n + 1 - a - b).toNat < n216 → wp g X F_m_rights 0 0 216 [(2, 178), (0, q), (0, r5), (0, n), (0, a), (0, b), (3, 0), (3, 0)] [] v216 ρ Z := by
                            intro n216
                            induction n216 with
                            | zero => intro b v216 hfr216 hSInv_216 ib it hme216; exact absurd hme216 (Nat.not_lt_zero _)
                            | succ n216 ih216 =>
                              intro b v216 hfr216 hSInv_216 ib it hme216
                              refine r_iload (pc := 216) hX 124 rfl rfl ?_
                              refine r_iload (pc := 218) hX 125 rfl rfl ?_
                              refine r_iadd (pc := 220) hX 126 rfl ?_
                              refine r_iload_n (pc := 221) hX 127 rfl rfl ?_
                              first | refine r_icmp_gt (pc := 222) hX 128 (tgt := 362) rfl (by decide) (⟨by omega, by omega⟩) (⟨by omega, by omega⟩) (fun h222 => ?_) (fun h222 => ?_) | refine r_icmp_gt_any (pc := 222) hX 128 (tgt := 362) rfl (by decide) ?_ ?_
                              · refine r_iinc (ls' := [(2, 178), (0, q), (0, r5), (0, n), (0, (a + 1)), (0, b), (3, 0), (3, 0)]) (pc := 362) hX 207 rfl rfl (by decide) rfl ?_
                                refine r_goto (pc := 365) hX 208 (tgt := 207) rfl (by decide) ?_
                                refine r_wk (ls' := [(2, 178), (0, q), (0, r5), (0, n), (0, (a + 1)), (3, 0), (3, 0), (3, 0)]) ⟨Or.inr rfl, Or.inr rfl, Or.inr rfl, Or.inr rfl, Or.inr rfl, Or.inl rfl, Or.inr rfl, Or.inr rfl, trivial⟩ ?_
                                exact (ih207 (a + 1) v216 (hfr216) (hSInv_216) (by omega) (it) (by omega))
                              · refine r_iconst (pc := 225) hX 129 rfl ?_
                                refine r_istore (ls' := [(2, 178), (0, q), (0, r5), (0, n), (0, a), (0, b), (0, 0), (3, 0)]) (pc := 226) hX 130 rfl (by decide) rfl ?_
                                have L228 : ∀ (n228 : Nat) (c : Int) (v228 : Mv) , (Fr [185, 186, 189, 197, 198, 199, 200, 201, 202] [42, 43] v v228) → (SInv (v228 180)) → (0 ≤ c ∧ a + b + c ≤ n + 1) → (RtI v v228) → (n + 1 - a - b - c).toNat < n228 → wp g X F_m_rights 0 0 228 [(2, 178), (0, q), (0, r5), (0, n), (0, a), (0, b), (0, c), (3, 0)] [] v228 ρ Z := by
                                  intro n228
                                  induction n228 with
                                  | zero => intro c v228 hfr228 hSInv_228 ic it hme228; exact absurd hme228 (Nat.not_lt_zero _)
                                  | succ n228 ih228 =>
                                    intro c v228 hfr228 hSInv_228 ic it hme228
                                    refine r_iload (pc := 228) hX 131 rfl rfl ?_
                                    refine r_iload (pc := 230) hX 132 rfl rfl ?_
                                    refine r_iadd (pc := 232) hX 133 rfl ?_
                                    refine r_iload (pc := 233) hX 134 rfl rfl ?_
                                    refine r_iadd (pc := 235) hX 135 rfl ?_
                                    refine r_iload_n (pc := 236) hX 136 rfl rfl ?_
                                    first | refine r_icmp_gt (pc := 237) hX 137 (tgt := 356) rfl (by decide) (⟨by omega, by omega⟩) (⟨by omega, by omega⟩) (fun h237 => ?_) (fun h237 => ?_) | refine r_icmp_gt_any (pc := 237) hX 137 (tgt := 356) rfl (by decide) ?_ ?_
                                    · refine r_iinc (ls' := [(2, 178), (0, q), (0, r5), (0, n), (0, a), (0, (b + 1)), (0, c), (3, 0)]) (pc := 356) hX 205 rfl rfl (by decide) rfl ?_
                                      refine r_goto (pc := 359) hX 206 (tgt := 216) rfl (by decide) ?_
                                      refine r_wk (ls' := [(2, 178), (0, q), (0, r5), (0, n), (0, a), (0, (b + 1)), (3, 0), (3, 0)]) ⟨Or.inr rfl, Or.inr rfl, Or.inr rfl, Or.inr rfl, Or.inr rfl, Or.inr rfl, Or.inl rfl, Or.inr rfl, trivial⟩ ?_
                                      exact (ih216 (b + 1) v228 (hfr228) (hSInv_228) (by omega) (it) (by omega))
                                    · refine r_iconst (pc := 240) hX 138 rfl ?_
                                      refine r_istore (ls' := [(2, 178), (0, q), (0, r5), (0, n), (0, a), (0, b), (0, c), (0, 0)]) (pc := 241) hX 139 rfl (by decide) rfl ?_
                                      have L243 : ∀ (n243 : Nat) (d : Int) (v243 : Mv) , (Fr [185, 186, 189, 197, 198, 199, 200, 201, 202] [42, 43] v v243) → (SInv (v243 180)) → (0 ≤ d ∧ a + b + c + d ≤ n + 1) → (RtI v v243) → (n + 1 - a - b - c - d).toNat < n243 → wp g X F_m_rights 0 0 243 [(2, 178), (0, q), (0, r5), (0, n), (0, a), (0, b), (0, c), (0, d)] [] v243 ρ Z := by
                                        intro n243
                                        induction n243 with
                                        | zero => intro d v243 hfr243 hSInv_243 id it hme243; exact absurd hme243 (Nat.not_lt_zero _)
                                        | succ n243 ih243 =>
                                          intro d v243 hfr243 hSInv_243 id it hme243
                                          refine r_iload (pc := 243) hX 140 rfl rfl ?_
                                          refine r_iload (pc := 245) hX 141 rfl rfl ?_
                                          refine r_iadd (pc := 247) hX 142 rfl ?_
                                          refine r_iload (pc := 248) hX 143 rfl rfl ?_
                                          refine r_iadd (pc := 250) hX 144 rfl ?_
                                          refine r_iload (pc := 251) hX 145 rfl rfl ?_
                                          refine r_iadd (pc := 253) hX 146 rfl ?_
                                          refine r_iload_n (pc := 254) hX 147 rfl rfl ?_
                                          first | refine r_icmp_gt (pc := 255) hX 148 (tgt := 350) rfl (by decide) (⟨by omega, by omega⟩) (⟨by omega, by omega⟩) (fun h255 => ?_) (fun h255 => ?_) | refine r_icmp_gt_any (pc := 255) hX 148 (tgt := 350) rfl (by decide) ?_ ?_
                                          · refine r_iinc (ls' := [(2, 178), (0, q), (0, r5), (0, n), (0, a), (0, b), (0, (c + 1)), (0, d)]) (pc := 350) hX 203 rfl rfl (by decide) rfl ?_
                                            refine r_goto (pc := 353) hX 204 (tgt := 228) rfl (by decide) ?_
                                            refine r_wk (ls' := [(2, 178), (0, q), (0, r5), (0, n), (0, a), (0, b), (0, (c + 1)), (3, 0)]) ⟨Or.inr rfl, Or.inr rfl, Or.inr rfl, Or.inr rfl, Or.inr rfl, Or.inr rfl, Or.inr rfl, Or.inl rfl, trivial⟩ ?_
                                            exact (ih228 (c + 1) v243 (hfr243) (hSInv_243) (by omega) (it) (by omega))
                                          · refine t_getR (pc := 258) hX 149 rfl rfl rfl fl_X12_102 rfl hG.1 (a_since hG).1 ?_
                                            refine r_iconst (pc := 262) hX 151 rfl ?_
                                            refine r_iload (pc := 263) hX 152 rfl rfl ?_
                                            refine e_iast (pc := 265) hX 153 rfl (a_since hG).2.1 (a_since hG).2.2 (by decide) (by omega) (by omega) ?_
                                            refine t_getR (pc := 266) hX 154 rfl rfl rfl fl_X12_102 rfl hG.1 (a_since hG).1 ?_
                                            refine r_iconst (pc := 270) hX 156 rfl ?_
                                            refine r_iload (pc := 271) hX 157 rfl rfl ?_
                                            refine e_iast (pc := 273) hX 158 rfl (a_since hG).2.1 (a_since hG).2.2 (by decide) (by omega) (by omega) ?_
                                            refine t_getR (pc := 274) hX 159 rfl rfl rfl fl_X12_102 rfl hG.1 (a_since hG).1 ?_
                                            refine r_iconst (pc := 278) hX 161 rfl ?_
                                            refine r_iload (pc := 279) hX 162 rfl rfl ?_
                                            refine e_iast (pc := 281) hX 163 rfl (a_since hG).2.1 (a_since hG).2.2 (by decide) (by omega) (by omega) ?_
                                            refine t_getR (pc := 282) hX 164 rfl rfl rfl fl_X12_102 rfl hG.1 (a_since hG).1 ?_
                                            refine r_iconst (pc := 286) hX 166 rfl ?_
                                            refine r_iload (pc := 287) hX 167 rfl rfl ?_
                                            refine e_iast (pc := 289) hX 168 rfl (a_since hG).2.1 (a_since hG).2.2 (by decide) (by omega) (by omega) ?_
                                            refine t_getR (pc := 290) hX 169 rfl rfl rfl fl_X12_102 rfl hG.1 (a_since hG).1 ?_
                                            refine r_iconst (pc := 294) hX 171 rfl ?_
                                            refine r_iload_n (pc := 295) hX 172 rfl rfl ?_
                                            refine r_iload (pc := 296) hX 173 rfl rfl ?_
                                            refine r_isub (pc := 298) hX 174 rfl ?_
                                            refine r_iload (pc := 299) hX 175 rfl rfl ?_
                                            refine r_isub (pc := 301) hX 176 rfl ?_
                                            refine r_iload (pc := 302) hX 177 rfl rfl ?_
                                            refine r_isub (pc := 304) hX 178 rfl ?_
                                            refine r_iload (pc := 305) hX 179 rfl rfl ?_
                                            refine r_isub (pc := 307) hX 180 rfl ?_
                                            refine e_iast (pc := 308) hX 181 rfl (a_since hG).2.1 (a_since hG).2.2 (by decide) (by omega) (by omega) ?_
                                            refine t_getR (pc := 309) hX 182 rfl rfl rfl fl_X12_93 rfl hG.1 (a_rowsNow hG).1 ?_
                                            refine r_iload (pc := 313) hX 184 rfl rfl ?_
                                            refine r_iload (pc := 315) hX 185 rfl rfl ?_
                                            refine r_iload (pc := 317) hX 186 rfl rfl ?_
                                            refine r_iload (pc := 319) hX 187 rfl rfl ?_
                                            refine r_callS (as := [(0, a), (0, b), (0, c), (0, d)]) (st := [(2, 199)]) (pc := 321) hX 188 rfl mo_m_rowOf ml_X12_442 stt_m_rowOf (c_rowOf g (up (up (up (up (up v243 202 0 a) 202 1 b) 202 2 c) 202 3 d) 202 4 ((((n - a) - b) - c) - d)) ρ Z hG (a) (b) (c) (d) ) rfl (by rw [hRm]; exact ⟨by decide, by decide⟩) (by rw [hRm]; exact ⟨by decide, by decide⟩) (Nat.le_of_ble_eq_true rfl) (fun o321 v321 ρ321 Z321 hq321 _ => ?_)
                                            obtain ⟨rfl, rfl, rfl, r321, rfl, hq321⟩ := hq321
                                            try simp only [up_f (show (180 : Int) ≠ 202 by decide)] at hq321
                                            show wp g X F_m_rights 0 0 324 [(2, 178), (0, q), (0, r5), (0, n), (0, a), (0, b), (0, c), (0, d)] [(0, r321), (2, 199)] (up (up (up (up (up v243 202 0 a) 202 1 b) 202 2 c) 202 3 d) 202 4 ((((n - a) - b) - c) - d)) ρ Z
                                            refine r_aload_n (pc := 324) hX 189 rfl rfl ?_
                                            refine r_iload_n (pc := 325) hX 190 rfl rfl ?_
                                            refine r_iload (pc := 326) hX 191 rfl rfl ?_
                                            refine r_iload (pc := 328) hX 192 rfl rfl ?_
                                            refine r_iload (pc := 330) hX 193 rfl rfl ?_
                                            refine r_iload (pc := 332) hX 194 rfl rfl ?_
                                            refine r_callS (as := [(0, a), (0, b), (0, c), (0, d)]) (st := [(0, q), (2, 178), (0, r321), (2, 199)]) (pc := 334) hX 195 rfl mo_m_rowOf ml_X12_442 stt_m_rowOf (c_rowOf g (up (up (up (up (up v243 202 0 a) 202 1 b) 202 2 c) 202 3 d) 202 4 ((((n - a) - b) - c) - d)) ρ Z hG (a) (b) (c) (d) ) rfl (by rw [hRm]; exact ⟨by decide, by decide⟩) (by rw [hRm]; exact ⟨by decide, by decide⟩) (Nat.le_of_ble_eq_true rfl) (fun o334 v334 ρ334 Z334 hq334 _ => ?_)
                                            obtain ⟨rfl, rfl, rfl, r334, rfl, hq334⟩ := hq334
                                            try simp only [up_f (show (180 : Int) ≠ 202 by decide)] at hq334
                                            show wp g X F_m_rights 0 0 337 [(2, 178), (0, q), (0, r5), (0, n), (0, a), (0, b), (0, c), (0, d)] [(0, r334), (0, q), (2, 178), (0, r321), (2, 199)] (up (up (up (up (up v243 202 0 a) 202 1 b) 202 2 c) 202 3 d) 202 4 ((((n - a) - b) - c) - d)) ρ Z
                                            refine r_iload_n (pc := 337) hX 196 rfl rfl ?_
                                            refine r_iload_n (pc := 338) hX 197 rfl rfl ?_
                                            refine r_isub (pc := 339) hX 198 rfl ?_
                                            refine r_callV (as := [(0, q), (0, r334), (0, (r5 - n))]) (st := [(0, r321), (2, 199)]) (K := 12) (pc := 340) hX 199 rfl mo_m_rightOf ml_X12_445 im_m_rightOf se_m_rightOf (c_rightOf g (up (up (up (up (up v243 202 0 a) 202 1 b) 202 2 c) 202 3 d) 202 4 ((((n - a) - b) - c) - d)) ρ Z hG (q) (r334) ((r5 - n)) (by rw [up_f (by decide), up_f (by decide), up_f (by decide), up_f (by decide), up_f (by decide)]; exact hSInv_243) (by omega) (fun k h0 h1 => by
                          have hk : k = 0 ∨ k = 1 ∨ k = 2 ∨ k = 3 ∨ k = 4 := by omega
                          rcases hk with rfl | rfl | rfl | rfl | rfl <;> simp [up] <;> omega) (by (repeat rw [up_r (by decide)]); exact it.1) (by omega) (by omega)) rfl rfl rfl hG.1 (by rw [hRm]; exact ⟨by decide, by decide⟩) (by rw [hRm]; exact ⟨by decide, by decide⟩) (Nat.le_of_ble_eq_true rfl) (fun o340 v340 ρ340 Z340 hq340 _ => ?_)
                                            obtain ⟨rfl, rfl, hfr340, r340, rfl, hq340⟩ := hq340
                                            try simp only [up_f (show (180 : Int) ≠ 202 by decide)] at hq340
                                            have hSInv_340 : SInv (v340 180) := by rw [hfr340.1 180 (by decide) (by decide), up_f (by decide), up_f (by decide), up_f (by decide), up_f (by decide), up_f (by decide)]; exact hSInv_243
                                            show wp g X F_m_rights 0 0 343 [(2, 178), (0, q), (0, r5), (0, n), (0, a), (0, b), (0, c), (0, d)] [(1, r340), (0, r321), (2, 199)] v340 ρ Z
                                            refine e_last (pc := 343) hX 200 rfl (a_rowsNow hG).2.1 (a_rowsNow hG).2.2 (by decide) (by omega) (by omega) ?_
                                            refine r_iinc (ls' := [(2, 178), (0, q), (0, r5), (0, n), (0, a), (0, b), (0, c), (0, (d + 1))]) (pc := 344) hX 201 rfl rfl (by decide) rfl ?_
                                            refine r_goto (pc := 347) hX 202 (tgt := 243) rfl (by decide) ?_
                                            exact (ih243 (d + 1) (up v340 199 r321 r340) ((((((((hfr243).arr (r := 202) (by decide) (by decide)).arr (r := 202) (by decide) (by decide)).arr (r := 202) (by decide) (by decide)).arr (r := 202) (by decide) (by decide)).arr (r := 202) (by decide) (by decide)).tr hfr340 (by decide) (by decide)).arr (r := 199) (by decide) (by decide)) (by rw [up_f (by decide)]; exact hSInv_340) (by omega) (it.fr (by (repeat rw [up_r (by decide)]); rw [hfr340.2 42 (by decide)]; (repeat rw [up_r (by decide)])) (by (repeat rw [up_f (by decide)]); rw [hfr340.1 201 (by decide) (by decide)]; (repeat rw [up_f (by decide)])) (by (repeat rw [up_f (by decide)]); rw [hfr340.1 189 (by decide) (by decide)]; (repeat rw [up_f (by decide)]))) (by omega))
                                      exact (L243 _ 0 v228 (hfr228) (hSInv_228) (by omega) (it) (Nat.lt_succ_self _))
                                exact (L228 _ 0 v216 (hfr216) (hSInv_216) (by omega) (it) (Nat.lt_succ_self _))
                          exact (L216 _ 0 v207 (hfr207) (hSInv_207) (by omega) (it) (Nat.lt_succ_self _))
                    exact (L207 _ 0 v200 (hfr200) (hSInv_200) (by omega) (it) (Nat.lt_succ_self _))
              exact (L200 _ r5 v65 (hfr65) (hSInv_65) (by omega) (it) (Nat.lt_succ_self _))
            · refine r_iconst (pc := 73) hX 41 rfl ?_
              refine r_istore (ls' := [(2, 178), (0, q), (0, r5), (0, l), (0, 0), (3, 0), (3, 0), (3, 0)]) (pc := 74) hX 42 rfl (by decide) rfl ?_
              have L76 : ∀ (n76 : Nat) (i : Int) (v76 : Mv) , (Fr [185, 186, 189, 197, 198, 199, 200, 201, 202] [42, 43] v v76) → (SInv (v76 180)) → (0 ≤ i ∧ i ≤ 3) → (RtI v v76) → (3 - i).toNat < n76 → wp g X F_m_rights 0 0 76 [(2, 178), (0, q), (0, r5), (0, l), (0, i), (3, 0), (3, 0), (3, 0)] [] v76 ρ Z := by
                intro n76
                induction n76 with
                | zero => intro i v76 hfr76 hSInv_76 ii it hme76; exact absurd hme76 (Nat.not_lt_zero _)
                | succ n76 ih76 =>
                  intro i v76 hfr76 hSInv_76 ii it hme76
                  have es76 : v76 180 = v 180 := hfr76.1 180 (by decide) (by decide)
                  have im := it.1
                  refine r_iload (pc := 76) hX 43 rfl rfl ?_
                  refine t_getI (y := (v76 178 42)) (pc := 78) hX 44 rfl rfl rfl fl_X12_436 rfl hG.1 (rfl) ?_
                  first | refine r_icmp_ge (pc := 82) hX 46 (tgt := 100) rfl (by decide) (⟨by omega, by omega⟩) (⟨by omega, by omega⟩) (fun h82 => ?_) (fun h82 => ?_) | refine r_icmp_ge_any (pc := 82) hX 46 (tgt := 100) rfl (by decide) ?_ ?_
                  · refine r_iconst (pc := 100) hX 55 rfl ?_
                    refine r_istore (ls' := [(2, 178), (0, q), (0, r5), (0, l), (0, 0), (3, 0), (3, 0), (3, 0)]) (pc := 101) hX 56 rfl (by decide) rfl ?_
                    have L103 : ∀ (n103 : Nat) (c : Int) (v103 : Mv) , (Fr [185, 186, 189, 197, 198, 199, 200, 201, 202] [42, 43] v v103) → (SInv (v103 180)) → (0 ≤ c ∧ c ≤ 5) → (RtI v v103) → (5 - c).toNat < n103 → wp g X F_m_rights 0 0 103 [(2, 178), (0, q), (0, r5), (0, l), (0, c), (3, 0), (3, 0), (3, 0)] [] v103 ρ Z := by
                      intro n103
                      induction n103 with
                      | zero => intro c v103 hfr103 hSInv_103 ic it hme103; exact absurd hme103 (Nat.not_lt_zero _)
                      | succ n103 ih103 =>
                        intro c v103 hfr103 hSInv_103 ic it hme103
                        refine r_iload (pc := 103) hX 57 rfl rfl ?_
                        refine r_iconst (pc := 105) hX 58 rfl ?_
                        first | refine r_icmp_ge (pc := 106) hX 59 (tgt := 192) rfl (by decide) (⟨by omega, by omega⟩) (⟨by omega, by omega⟩) (fun h106 => ?_) (fun h106 => ?_) | refine r_icmp_ge_any (pc := 106) hX 59 (tgt := 192) rfl (by decide) ?_ ?_
                        · refine r_iinc (ls' := [(2, 178), (0, q), (0, r5), (0, (l + 1)), (0, c), (3, 0), (3, 0), (3, 0)]) (pc := 192) hX 111 rfl rfl (by decide) rfl ?_
                          refine r_goto (pc := 195) hX 112 (tgt := 65) rfl (by decide) ?_
                          refine r_wk (ls' := [(2, 178), (0, q), (0, r5), (0, (l + 1)), (3, 0), (3, 0), (3, 0), (3, 0)]) ⟨Or.inr rfl, Or.inr rfl, Or.inr rfl, Or.inr rfl, Or.inl rfl, Or.inr rfl, Or.inr rfl, Or.inr rfl, trivial⟩ ?_
                          exact (ih65 (l + 1) v103 (hfr103) (hSInv_103) (by omega) (it) (by omega))
                        · refine r_iconst (pc := 109) hX 60 rfl ?_
                          refine r_istore (ls' := [(2, 178), (0, q), (0, r5), (0, l), (0, c), (0, 0), (3, 0), (3, 0)]) (pc := 110) hX 61 rfl (by decide) rfl ?_
                          have L112 : ∀ (n112 : Nat) (n : Int) (v112 : Mv) , (Fr [185, 186, 189, 197, 198, 199, 200, 201, 202] [42, 43] v v112) → (SInv (v112 180)) → (0 ≤ n ∧ n ≤ 13) → (RtI v v112) → (13 - n).toNat < n112 → wp g X F_m_rights 0 0 112 [(2, 178), (0, q), (0, r5), (0, l), (0, c), (0, n), (3, 0), (3, 0)] [] v112 ρ Z := by
                            intro n112
                            induction n112 with
                            | zero => intro n v112 hfr112 hSInv_112 in_ it hme112; exact absurd hme112 (Nat.not_lt_zero _)
                            | succ n112 ih112 =>
                              intro n v112 hfr112 hSInv_112 in_ it hme112
                              refine r_iload (pc := 112) hX 62 rfl rfl ?_
                              refine r_bipush (pc := 114) hX 63 rfl (by decide) ?_
                              first | refine r_icmp_ge (pc := 116) hX 64 (tgt := 186) rfl (by decide) (⟨by omega, by omega⟩) (⟨by omega, by omega⟩) (fun h116 => ?_) (fun h116 => ?_) | refine r_icmp_ge_any (pc := 116) hX 64 (tgt := 186) rfl (by decide) ?_ ?_
                              · refine r_iinc (ls' := [(2, 178), (0, q), (0, r5), (0, l), (0, (c + 1)), (0, n), (3, 0), (3, 0)]) (pc := 186) hX 109 rfl rfl (by decide) rfl ?_
                                refine r_goto (pc := 189) hX 110 (tgt := 103) rfl (by decide) ?_
                                refine r_wk (ls' := [(2, 178), (0, q), (0, r5), (0, l), (0, (c + 1)), (3, 0), (3, 0), (3, 0)]) ⟨Or.inr rfl, Or.inr rfl, Or.inr rfl, Or.inr rfl, Or.inr rfl, Or.inl rfl, Or.inr rfl, Or.inr rfl, trivial⟩ ?_
                                exact (ih103 (c + 1) v112 (hfr112) (hSInv_112) (by omega) (it) (by omega))
                              · refine t_getR (pc := 119) hX 65 rfl rfl rfl fl_X12_96 rfl hG.1 (a_powers hG).1 ?_
                                refine r_iconst (pc := 123) hX 67 rfl ?_
                                refine r_iload_n (pc := 124) hX 68 rfl rfl ?_
                                refine r_imul (pc := 125) hX 69 rfl ?_
                                refine r_iload (pc := 126) hX 70 rfl rfl ?_
                                refine r_iadd (pc := 128) hX 71 rfl ?_
                                refine r_bipush (pc := 129) hX 72 rfl (by decide) ?_
                                refine r_imul (pc := 131) hX 73 rfl ?_
                                refine r_iload (pc := 132) hX 74 rfl rfl ?_
                                refine r_iadd (pc := 134) hX 75 rfl ?_
                                refine r_iload (pc := 135) hX 76 rfl rfl ?_
                                first | refine r_if_ne (pc := 137) hX 77 (tgt := 144) rfl (by decide) (⟨by omega, by omega⟩) (fun h137 => ?_) (fun h137 => ?_) | refine r_if_ne_any (pc := 137) hX 77 (tgt := 144) rfl (by decide) ?_ ?_
                                · refine t_getR (pc := 144) hX 80 rfl rfl rfl fl_X12_96 rfl hG.1 (a_powers hG).1 ?_
                                  refine r_iconst (pc := 148) hX 82 rfl ?_
                                  refine r_iload_n (pc := 149) hX 83 rfl rfl ?_
                                  refine r_imul (pc := 150) hX 84 rfl ?_
                                  refine r_iload (pc := 151) hX 85 rfl rfl ?_
                                  refine r_iadd (pc := 153) hX 86 rfl ?_
                                  refine r_bipush (pc := 154) hX 87 rfl (by decide) ?_
                                  refine r_imul (pc := 156) hX 88 rfl ?_
                                  refine r_iload (pc := 157) hX 89 rfl rfl ?_
                                  refine r_iadd (pc := 159) hX 90 rfl ?_
                                  refine r_iconst (pc := 160) hX 91 rfl ?_
                                  refine r_isub (pc := 161) hX 92 rfl ?_
                                  refine e_lald (y := (v112 200 (((((5 * l) + c) * 13) + n) - 1))) (pc := 162) hX 93 rfl (a_powers hG).2.1 (a_powers hG).2.2 (by omega) (by omega) (rfl) ?_
                                  refine t_getR (pc := 163) hX 94 rfl rfl rfl fl_X12_33 rfl hG.1 (a_s hG).1 ?_
                                  refine r_bipush (pc := 167) hX 96 rfl (by decide) ?_
                                  refine r_iconst (pc := 169) hX 97 rfl ?_
                                  refine r_iload_n (pc := 170) hX 98 rfl rfl ?_
                                  refine r_imul (pc := 171) hX 99 rfl ?_
                                  refine r_iadd (pc := 172) hX 100 rfl ?_
                                  refine r_iload (pc := 173) hX 101 rfl rfl ?_
                                  refine r_iadd (pc := 175) hX 102 rfl ?_
                                  refine e_iald (y := (v112 180 ((17 + (5 * l)) + c))) (pc := 176) hX 103 rfl (a_s hG).2.1 (a_s hG).2.2 (by omega) (by omega) (rfl) ?_
                                  have hb176 := hSInv_112.c17 l c (by omega) (by omega) (by omega) (by omega)
                                  refine r_i2l (pc := 177) hX 104 rfl ⟨by omega, by omega⟩ ?_
                                  refine r_lmul (pc := 178) hX 105 rfl ?_
                                  refine e_last (pc := 179) hX 106 rfl (a_powers hG).2.1 (a_powers hG).2.2 (by decide) (by omega) (by omega) ?_
                                  refine r_iinc (ls' := [(2, 178), (0, q), (0, r5), (0, l), (0, c), (0, (n + 1)), (3, 0), (3, 0)]) (pc := 180) hX 107 rfl rfl (by decide) rfl ?_
                                  refine r_goto (pc := 183) hX 108 (tgt := 112) rfl (by decide) ?_
                                  exact (ih112 (n + 1) (up v112 200 ((((5 * l) + c) * 13) + n) ((v112 200 (((((5 * l) + c) * 13) + n) - 1)) * (v112 180 ((17 + (5 * l)) + c)))) ((hfr112).arr (r := 200) (by decide) (by decide)) (by rw [up_f (by decide)]; exact hSInv_112) (by omega) (it.fr (by (repeat rw [up_r (by decide)])) (by (repeat rw [up_f (by decide)])) (by (repeat rw [up_f (by decide)]))) (by omega))
                                · refine r_lconst (pc := 140) hX 78 rfl ?_
                                  show wp g X F_m_rights 0 0 141 [(2, 178), (0, q), (0, r5), (0, l), (0, c), (0, n), (3, 0), (3, 0)] [(1, 1), (0, ((((5 * l) + c) * 13) + n)), (2, 200)] v112 ρ Z
                                  refine r_goto (pc := 141) hX 79 (tgt := 179) rfl (by decide) ?_
                                  refine e_last (pc := 179) hX 106 rfl (a_powers hG).2.1 (a_powers hG).2.2 (by decide) (by omega) (by omega) ?_
                                  refine r_iinc (ls' := [(2, 178), (0, q), (0, r5), (0, l), (0, c), (0, (n + 1)), (3, 0), (3, 0)]) (pc := 180) hX 107 rfl rfl (by decide) rfl ?_
                                  refine r_goto (pc := 183) hX 108 (tgt := 112) rfl (by decide) ?_
                                  exact (ih112 (n + 1) (up v112 200 ((((5 * l) + c) * 13) + n) 1) ((hfr112).arr (r := 200) (by decide) (by decide)) (by rw [up_f (by decide)]; exact hSInv_112) (by omega) (it.fr (by (repeat rw [up_r (by decide)])) (by (repeat rw [up_f (by decide)])) (by (repeat rw [up_f (by decide)]))) (by omega))
                          exact (L112 _ 0 v103 (hfr103) (hSInv_103) (by omega) (it) (Nat.lt_succ_self _))
                    exact (L103 _ 0 v76 (hfr76) (hSInv_76) (by omega) (it) (Nat.lt_succ_self _))
                  · refine r_aload_n (pc := 85) hX 47 rfl rfl ?_
                    refine r_iload_n (pc := 86) hX 48 rfl rfl ?_
                    refine r_iload_n (pc := 87) hX 49 rfl rfl ?_
                    refine r_iload (pc := 88) hX 50 rfl rfl ?_
                    refine r_iload_n (pc := 90) hX 51 rfl rfl ?_
                    refine r_callV (as := [(0, q), (0, l), (0, i), (0, r5)]) (st := []) (K := 12) (pc := 91) hX 52 rfl mo_m_turnsTo ml_X12_439 im_m_turnsTo se_m_turnsTo (c_turnsTo g v76 ρ Z hG (q) (l) (i) (r5) (hSInv_76) (by omega) (by rw [es76]; exact hh) (by omega) (by omega) (it.2.1 i (by omega) (by omega)) (by omega)) rfl rfl rfl hG.1 (by rw [hRm]; exact ⟨by decide, by decide⟩) (by rw [hRm]; exact ⟨by decide, by decide⟩) (Nat.le_of_ble_eq_true rfl) (fun o91 v91 ρ91 Z91 hq91 _ => ?_)
                    obtain ⟨rfl, rfl, hfr91, rfl, hq91⟩ := hq91
                    have hSInv_91 : SInv (v91 180) := by rw [hfr91.1 180 (by decide) (by decide)]; exact hSInv_76
                    show wp g X F_m_rights 0 0 94 [(2, 178), (0, q), (0, r5), (0, l), (0, i), (3, 0), (3, 0), (3, 0)] [] v91 ρ Z
                    refine r_iinc (ls' := [(2, 178), (0, q), (0, r5), (0, l), (0, (i + 1)), (3, 0), (3, 0), (3, 0)]) (pc := 94) hX 53 rfl rfl (by decide) rfl ?_
                    refine r_goto (pc := 97) hX 54 (tgt := 76) rfl (by decide) ?_
                    exact (ih76 (i + 1) v91 ((hfr76).tr hfr91 (by decide) (by decide)) (hSInv_91) (by omega) (it.fr (by rw [hfr91.2 42 (by decide)]) (by rw [hfr91.1 201 (by decide) (by decide)]) (by rw [hfr91.1 189 (by decide) (by decide)])) (by omega))
              exact (L76 _ 0 v65 (hfr65) (hSInv_65) (by omega) (it) (Nat.lt_succ_self _))
        exact (L65 _ 0 v16 (hfr16) (hSInv_16) (by omega) (⟨by omega, ifr, iw⟩) (Nat.lt_succ_self _))
      · refine r_aload_n (pc := 26) hX 16 rfl rfl ?_
        refine r_iload_n (pc := 27) hX 17 rfl rfl ?_
        refine r_callV (as := [(0, i)]) (st := []) (K := 12) (pc := 28) hX 18 rfl mo_m_ownerOf ml_X12_284 im_m_ownerOf se_m_ownerOf (c_ownerOfX g v16 ρ Z hG (i) (hSInv_16) (by omega)) rfl rfl rfl hG.1 (by rw [hRm]; exact ⟨by decide, by decide⟩) (by rw [hRm]; exact ⟨by decide, by decide⟩) (Nat.le_of_ble_eq_true rfl) (fun o28 v28 ρ28 Z28 hq28 _ => ?_)
        obtain ⟨rfl, rfl, rfl, r28, rfl, hq28⟩ := hq28
        show wp g X F_m_rights 0 0 31 [(2, 178), (0, q), (0, r5), (0, i), (3, 0), (3, 0), (3, 0), (3, 0)] [(0, r28)] v16 ρ Z
        have L57 : ∀ (v57 : Mv) , (Fr [185, 186, 189, 197, 198, 199, 200, 201, 202] [42, 43] v v57) → (SInv (v57 180)) → (0 ≤ v57 178 42 ∧ v57 178 42 ≤ i + 1 ∧ (v 180 (36 + q) ≤ i + 1 → v57 178 42 ≤ i)) → (∀ k, 0 ≤ k → k < v57 178 42 → 0 ≤ v57 201 k ∧ v57 201 k ≤ 3) → (WtN (v 180) (v57 189) (v 180 35).toNat) → wp g X F_m_rights 0 0 57 [(2, 178), (0, q), (0, r5), (0, i), (3, 0), (3, 0), (3, 0), (3, 0)] [] v57 ρ Z := by
          intro v57 hfr57 hSInv_57 im ifr iw
          refine r_iinc (ls' := [(2, 178), (0, q), (0, r5), (0, (i + 1)), (3, 0), (3, 0), (3, 0), (3, 0)]) (pc := 57) hX 33 rfl rfl (by decide) rfl ?_
          refine r_goto (pc := 60) hX 34 (tgt := 16) rfl (by decide) ?_
          exact (ih16 (i + 1) v57 (hfr57) (hSInv_57) (by omega) (by omega) (ifr) (iw) (by omega))
        first | refine r_if_lt (pc := 31) hX 19 (tgt := 37) rfl (by decide) (⟨by omega, by omega⟩) (fun h31 => ?_) (fun h31 => ?_) | refine r_if_lt_any (pc := 31) hX 19 (tgt := 37) rfl (by decide) ?_ ?_
        · refine t_getR (pc := 37) hX 21 rfl rfl rfl fl_X12_99 rfl hG.1 (a_freeRow hG).1 ?_
          refine t_getI (y := (v16 178 42)) (pc := 41) hX 23 rfl rfl rfl fl_X12_436 rfl hG.1 (rfl) ?_
          refine r_iload_n (pc := 45) hX 25 rfl rfl ?_
          refine e_iast (pc := 46) hX 26 rfl (a_freeRow hG).2.1 (a_freeRow hG).2.2 (by decide) (by omega) (by omega) ?_
          refine r_aload_n (pc := 47) hX 27 rfl rfl ?_
          refine r_dup (pc := 48) hX 28 rfl (show (2 : Nat) ≠ 1 by decide) ?_
          refine e_getI (y := (v16 178 42)) (pc := 49) hX 29 rfl fl_X12_436 rfl hG.1 ((up_r (by decide)).trans (rfl)) ?_
          refine r_iconst (pc := 52) hX 30 rfl ?_
          refine r_iadd (pc := 53) hX 31 rfl ?_
          refine r_putI (pc := 54) hX 32 rfl fl_X12_436 rfl (fun _ h => by cases h; rfl) hG.1 (by decide) ?_
          exact (L57  (up (up v16 201 (v16 178 42) i) 178 42 ((v16 178 42) + 1)) (((hfr16).arr (r := 201) (by decide) (by decide)).fld (k := 42) (by decide)) (by rw [up_f (by decide), up_f (by decide)]; exact hSInv_16) (by first | omega | (rw [up_s]; have z9 := hq28.2 (by omega) q (by omega) (by rw [es16]; omega); rw [es16] at z9; omega)) (by first | exact ifr | (intro k a b; rw [up_s] at b; rw [up_r (show (201 : Int) ≠ 178 by decide)]; by_cases e9 : k = v16 178 42; subst e9; rw [up_s]; omega; rw [up_k e9]; exact ifr k a (by omega))) (by first | exact iw | (rw [up_f (by decide), up_f (by decide)]; exact iw)) )
        · refine r_goto (pc := 34) hX 20 (tgt := 57) rfl (by decide) ?_
          exact (L57  v16 (hfr16) (hSInv_16) (by first | omega | (rw [up_s]; have z9 := hq28.2 (by omega) q (by omega) (by rw [es16]; omega); rw [es16] at z9; omega)) (by first | exact ifr | (intro k a b; rw [up_s] at b; rw [up_r (show (201 : Int) ≠ 178 by decide)]; by_cases e9 : k = v16 178 42; subst e9; rw [up_s]; omega; rw [up_k e9]; exact ifr k a (by omega))) (by first | exact iw | (rw [up_f (by decide), up_f (by decide)]; exact iw)) )
  exact (L16 _ 0 (up v1 178 42 0) (((Fr.rf).tr hfr1 (by decide) (by decide)).fld (k := 42) (by decide)) (by rw [up_f (by decide)]; exact hSInv_1) (by omega) (by rw [up_s]; omega) (fun k a b => by rw [up_s] at b; omega) (by rw [up_f (by decide)]; exact hq1) (Nat.lt_succ_self _))
set_option maxHeartbeats 4000000 in
set_option maxRecDepth 100000 in
theorem c_right (g : Gp) (v ρ : Mv) (Z : Mz) (hG : GM ρ Z) (q what : Int) (hS : SInv (v 180)) (hq : inR q) (hw : inR what) : Ok g 6 0 0 F_m_right [(2, 178), (0, q), (0, what)] v ρ Z (fun o v' ρ' Z' => ρ = ρ' ∧ Z = Z' ∧ Fr [185, 186, 189, 190, 191, 192, 193, 197, 198, 199, 200, 201, 202] [0, 31, 42, 43] v v' ∧ ∃ r : Int, o = some (1, r) ∧ True) := by
  refine Ok.of mo_m_right (Nat.le_of_ble_eq_true rfl) ?_
  intro X hX hRm hxn hQ
  show wp g X F_m_right 0 0 0 [(2, 178), (0, q), (0, what), (3, 0), (3, 0)] [] v ρ Z
  have hb2 := hS.c2
  have hb35 := hS.c35
  refine r_aload_n (pc := 0) hX 0 rfl rfl ?_
  refine r_aload_n (pc := 1) hX 1 rfl rfl ?_
  refine r_iload_n (pc := 2) hX 2 rfl rfl ?_
  refine r_callV (as := [(0, q)]) (st := [(2, 178)]) (K := 12) (pc := 3) hX 3 rfl mo_m_isPlayer ml_X12_294 im_m_isPlayer se_m_isPlayer (c_isPlayer g v ρ Z hG (q) (hS) (by omega)) rfl rfl rfl hG.1 (by rw [hRm]; exact ⟨by decide, by decide⟩) (by rw [hRm]; exact ⟨by decide, by decide⟩) (Nat.le_of_ble_eq_true rfl) (fun o3 v3 ρ3 Z3 hq3 _ => ?_)
  obtain ⟨rfl, rfl, rfl, r3, rfl, hq3⟩ := hq3
  show wp g X F_m_right 0 0 6 [(2, 178), (0, q), (0, what), (3, 0), (3, 0)] [(0, r3), (2, 178)] v ρ Z
  first | refine r_if_eq (pc := 6) hX 4 (tgt := 16) rfl (by decide) (⟨by omega, by omega⟩) (fun h6 => ?_) (fun h6 => ?_) | refine r_if_eq_any (pc := 6) hX 4 (tgt := 16) rfl (by decide) ?_ ?_
  · refine r_iconst (pc := 16) hX 8 rfl ?_
    refine r_goto (pc := 17) hX 9 (tgt := 21) rfl (by decide) ?_
    refine r_callV (as := [(0, 1)]) (st := []) (K := 12) (pc := 21) hX 11 rfl mo_m_throwsIf ml_X12_297 im_m_throwsIf se_m_throwsIf (c_throwsIf g v ρ Z hG (1) (by omega)) rfl rfl rfl hG.1 (by rw [hRm]; exact ⟨by decide, by decide⟩) (by rw [hRm]; exact ⟨by decide, by decide⟩) (Nat.le_of_ble_eq_true rfl) (fun o21 v21 ρ21 Z21 hq21 _ => ?_)
    obtain ⟨rfl, rfl, hfr21, r21, rfl, hq21⟩ := hq21
    have hSInv_21 : SInv (v21 180) := by rw [hfr21.1 180 (by decide) (by decide)]; exact hS
    obtain rfl : r21 = 1 := by omega
    show wp g X F_m_right 0 0 24 [(2, 178), (0, q), (0, what), (3, 0), (3, 0)] [(0, 1)] v21 ρ Z
    have es21 : v21 180 = v 180 := hfr21.1 180 (by decide) (by decide)
    first | refine r_if_eq (pc := 24) hX 12 (tgt := 29) rfl (by decide) (⟨by omega, by omega⟩) (fun h24 => ?_) (fun h24 => ?_) | refine r_if_eq_any (pc := 24) hX 12 (tgt := 29) rfl (by decide) ?_ ?_
    · exact absurd h24 (by decide)
    · refine r_lconst (pc := 27) hX 13 rfl ?_
      show wp g X F_m_right 0 0 28 [(2, 178), (0, q), (0, what), (3, 0), (3, 0)] [(1, 0)] v21 ρ Z
      exact r_lret (pc := 28) hX 14 hQ rfl rfl (Nat.le_refl 0) (Nat.le_refl 0) ⟨rfl, rfl, (Fr.rf).tr hfr21 (by decide) (by decide), 0, rfl, trivial⟩
  · refine r_iload_n (pc := 9) hX 5 rfl rfl ?_
    refine r_callS (as := [(0, what)]) (st := [(2, 178)]) (pc := 10) hX 6 rfl mo_m_isPart ml_X12_381 stt_m_isPart (c_isPart g v ρ Z hG (what) (by omega)) rfl (by rw [hRm]; exact ⟨by decide, by decide⟩) (by rw [hRm]; exact ⟨by decide, by decide⟩) (Nat.le_of_ble_eq_true rfl) (fun o10 v10 ρ10 Z10 hq10 _ => ?_)
    obtain ⟨rfl, rfl, rfl, r10, rfl, hq10⟩ := hq10
    show wp g X F_m_right 0 0 13 [(2, 178), (0, q), (0, what), (3, 0), (3, 0)] [(0, r10), (2, 178)] v ρ Z
    first | refine r_if_ne (pc := 13) hX 7 (tgt := 20) rfl (by decide) (⟨by omega, by omega⟩) (fun h13 => ?_) (fun h13 => ?_) | refine r_if_ne_any (pc := 13) hX 7 (tgt := 20) rfl (by decide) ?_ ?_
    · refine r_iconst (pc := 20) hX 10 rfl ?_
      refine r_callV (as := [(0, 0)]) (st := []) (K := 12) (pc := 21) hX 11 rfl mo_m_throwsIf ml_X12_297 im_m_throwsIf se_m_throwsIf (c_throwsIf g v ρ Z hG (0) (by omega)) rfl rfl rfl hG.1 (by rw [hRm]; exact ⟨by decide, by decide⟩) (by rw [hRm]; exact ⟨by decide, by decide⟩) (Nat.le_of_ble_eq_true rfl) (fun o21 v21 ρ21 Z21 hq21 _ => ?_)
      obtain ⟨rfl, rfl, hfr21, r21, rfl, hq21⟩ := hq21
      have hSInv_21 : SInv (v21 180) := by rw [hfr21.1 180 (by decide) (by decide)]; exact hS
      obtain rfl : r21 = 0 := by omega
      show wp g X F_m_right 0 0 24 [(2, 178), (0, q), (0, what), (3, 0), (3, 0)] [(0, 0)] v21 ρ Z
      have es21 : v21 180 = v 180 := hfr21.1 180 (by decide) (by decide)
      first | refine r_if_eq (pc := 24) hX 12 (tgt := 29) rfl (by decide) (⟨by omega, by omega⟩) (fun h24 => ?_) (fun h24 => ?_) | refine r_if_eq_any (pc := 24) hX 12 (tgt := 29) rfl (by decide) ?_ ?_
      · refine r_aload_n (pc := 29) hX 15 rfl rfl ?_
        refine r_iload_n (pc := 30) hX 16 rfl rfl ?_
        refine r_callV (as := [(0, q)]) (st := []) (K := 12) (pc := 31) hX 17 rfl mo_m_mayTurn ml_X12_449 im_m_mayTurn se_m_mayTurn (c_mayTurn g v21 ρ Z hG (q) (hSInv_21) (by rw [es21]; omega)) rfl rfl rfl hG.1 (by rw [hRm]; exact ⟨by decide, by decide⟩) (by rw [hRm]; exact ⟨by decide, by decide⟩) (Nat.le_of_ble_eq_true rfl) (fun o31 v31 ρ31 Z31 hq31 _ => ?_)
        obtain ⟨rfl, rfl, hfr31, r31, rfl, hq31⟩ := hq31
        have hSInv_31 : SInv (v31 180) := by rw [hfr31.1 180 (by decide) (by decide)]; exact hSInv_21
        show wp g X F_m_right 0 0 34 [(2, 178), (0, q), (0, what), (3, 0), (3, 0)] [(0, r31)] v31 ρ Z
        rw [es21] at hq31
        have es31 : v31 180 = v 180 := by rw [hfr31.1 180 (by decide) (by decide), hfr21.1 180 (by decide) (by decide)]
        first | refine r_if_ne (pc := 34) hX 18 (tgt := 44) rfl (by decide) (⟨by omega, by omega⟩) (fun h34 => ?_) (fun h34 => ?_) | refine r_if_ne_any (pc := 34) hX 18 (tgt := 44) rfl (by decide) ?_ ?_
        · refine r_aload_n (pc := 44) hX 24 rfl rfl ?_
          refine r_iload_n (pc := 45) hX 25 rfl rfl ?_
          refine r_callV (as := [(0, q)]) (st := []) (K := 12) (pc := 46) hX 26 rfl mo_m_rights ml_X12_455 im_m_rights se_m_rights (c_rights g v31 ρ Z hG (q) (hSInv_31) (by rw [es31]; omega) (by rw [es31]; omega)) rfl rfl rfl hG.1 (by rw [hRm]; exact ⟨by decide, by decide⟩) (by rw [hRm]; exact ⟨by decide, by decide⟩) (Nat.le_of_ble_eq_true rfl) (fun o46 v46 ρ46 Z46 hq46 _ => ?_)
          obtain ⟨rfl, rfl, hfr46, r46, rfl, hq46⟩ := hq46
          have hSInv_46 : SInv (v46 180) := by rw [hfr46.1 180 (by decide) (by decide)]; exact hSInv_31
          show wp g X F_m_right 0 0 49 [(2, 178), (0, q), (0, what), (3, 0), (3, 0)] [(1, r46)] v46 ρ Z
          have es46 : v46 180 = v 180 := (hfr46.1 180 (by decide) (by decide)).trans es31
          rw [es31] at hq46
          refine r_lstore_n (ls' := [(2, 178), (0, q), (0, what), (1, r46), (3, 0)]) (pc := 49) hX 27 rfl (by decide) rfl ?_
          refine r_lload_n (pc := 50) hX 28 rfl rfl ?_
          refine r_lany _ (fun z50 hz50 => ?_)
          refine r_aload_n (pc := 51) hX 29 rfl rfl ?_
          refine r_callV (as := []) (st := [(1, z50)]) (K := 12) (pc := 52) hX 30 rfl mo_m_weights ml_X12_349 im_m_weights se_m_weights (c_weights g v46 ρ Z hG  (hSInv_46)) rfl rfl rfl hG.1 (by rw [hRm]; exact ⟨by decide, by decide⟩) (by rw [hRm]; exact ⟨by decide, by decide⟩) (Nat.le_of_ble_eq_true rfl) (fun o52 v52 ρ52 Z52 hq52 _ => ?_)
          obtain ⟨rfl, rfl, rfl, r52, rfl, hq52⟩ := hq52
          show wp g X F_m_right 0 0 55 [(2, 178), (0, q), (0, what), (1, r46), (3, 0)] [(1, r52), (1, z50)] v46 ρ Z
          refine r_aload_n (pc := 55) hX 31 rfl rfl ?_
          refine r_callV (as := []) (st := [(1, r52), (1, z50)]) (K := 12) (pc := 56) hX 32 rfl mo_m_carsLeft ml_X12_374 im_m_carsLeft se_m_carsLeft (c_carsLeft g v46 ρ Z hG  (hSInv_46)) rfl rfl rfl hG.1 (by rw [hRm]; exact ⟨by decide, by decide⟩) (by rw [hRm]; exact ⟨by decide, by decide⟩) (Nat.le_of_ble_eq_true rfl) (fun o56 v56 ρ56 Z56 hq56 _ => ?_)
          obtain ⟨rfl, rfl, rfl, r56, rfl, hq56⟩ := hq56
          show wp g X F_m_right 0 0 59 [(2, 178), (0, q), (0, what), (1, r46), (3, 0)] [(0, r56), (1, r52), (1, z50)] v46 ρ Z
          refine r_callS (as := [(0, r56)]) (st := [(1, r52), (1, z50)]) (pc := 59) hX 33 rfl mo_m_twelves ml_X12_353 stt_m_twelves (c_twelves g v46 ρ Z hG (r56) (by omega)) rfl (by rw [hRm]; exact ⟨by decide, by decide⟩) (by rw [hRm]; exact ⟨by decide, by decide⟩) (Nat.le_of_ble_eq_true rfl) (fun o59 v59 ρ59 Z59 hq59 _ => ?_)
          obtain ⟨rfl, rfl, rfl, r59, rfl, hq59⟩ := hq59
          show wp g X F_m_right 0 0 62 [(2, 178), (0, q), (0, what), (1, r46), (3, 0)] [(1, r59), (1, r52), (1, z50)] v46 ρ Z
          have hT := (TotOK.now hS hq46).tot (by omega)
          have hbl : r52 * r59 = swF (v46 189) (ldsF (v 180)).toNat * 12 ^ (v 180 4 - v 180 35).toNat := by rw [hq52, hq59 (by omega), hq56.2.2, es46]
          refine r_lmul (pc := 62) hX 34 rfl ?_
          refine r_iload_n (pc := 63) hX 35 rfl rfl ?_
          refine r_callS (as := [(1, z50), (1, (r52 * r59)), (0, what)]) (st := []) (pc := 64) hX 36 rfl mo_m_part ml_X12_387 stt_m_part (c_part g v46 ρ Z hG (z50) ((r52 * r59)) (what) (hz50) (by rw [hbl]; exact ⟨by omega, by omega⟩) (by rw [hbl]; omega)) rfl (by rw [hRm]; exact ⟨by decide, by decide⟩) (by rw [hRm]; exact ⟨by decide, by decide⟩) (Nat.le_of_ble_eq_true rfl) (fun o64 v64 ρ64 Z64 hq64 _ => ?_)
          obtain ⟨rfl, rfl, rfl, r64, rfl, hq64⟩ := hq64
          show wp g X F_m_right 0 0 67 [(2, 178), (0, q), (0, what), (1, r46), (3, 0)] [(1, r64)] v46 ρ Z
          exact r_lret (pc := 67) hX 37 hQ rfl rfl (Nat.le_refl 0) (Nat.le_refl 0) ⟨rfl, rfl, (((Fr.rf).tr hfr21 (by decide) (by decide)).tr hfr31 (by decide) (by decide)).tr hfr46 (by decide) (by decide), r64, rfl, trivial⟩
        · refine r_aload_n (pc := 37) hX 19 rfl rfl ?_
          refine r_iload_n (pc := 38) hX 20 rfl rfl ?_
          refine r_iload_n (pc := 39) hX 21 rfl rfl ?_
          refine r_callV (as := [(0, q), (0, what)]) (st := []) (K := 12) (pc := 40) hX 22 rfl mo_m_likely ml_X12_452 im_m_likely se_m_likely (c_likely g v31 ρ Z hG (q) (what) (hSInv_31) (by omega) (by omega)) rfl rfl rfl hG.1 (by rw [hRm]; exact ⟨by decide, by decide⟩) (by rw [hRm]; exact ⟨by decide, by decide⟩) (Nat.le_of_ble_eq_true rfl) (fun o40 v40 ρ40 Z40 hq40 _ => ?_)
          obtain ⟨rfl, rfl, hfr40, r40, rfl, hq40⟩ := hq40
          have hSInv_40 : SInv (v40 180) := by rw [hfr40.1 180 (by decide) (by decide)]; exact hSInv_31
          show wp g X F_m_right 0 0 43 [(2, 178), (0, q), (0, what), (3, 0), (3, 0)] [(1, r40)] v40 ρ Z
          exact r_lret (pc := 43) hX 23 hQ rfl rfl (Nat.le_refl 0) (Nat.le_refl 0) ⟨rfl, rfl, (((Fr.rf).tr hfr21 (by decide) (by decide)).tr hfr31 (by decide) (by decide)).tr hfr40 (by decide) (by decide), r40, rfl, trivial⟩
      · exact absurd (by decide) h24
    · refine r_iconst (pc := 16) hX 8 rfl ?_
      refine r_goto (pc := 17) hX 9 (tgt := 21) rfl (by decide) ?_
      refine r_callV (as := [(0, 1)]) (st := []) (K := 12) (pc := 21) hX 11 rfl mo_m_throwsIf ml_X12_297 im_m_throwsIf se_m_throwsIf (c_throwsIf g v ρ Z hG (1) (by omega)) rfl rfl rfl hG.1 (by rw [hRm]; exact ⟨by decide, by decide⟩) (by rw [hRm]; exact ⟨by decide, by decide⟩) (Nat.le_of_ble_eq_true rfl) (fun o21 v21 ρ21 Z21 hq21 _ => ?_)
      obtain ⟨rfl, rfl, hfr21, r21, rfl, hq21⟩ := hq21
      have hSInv_21 : SInv (v21 180) := by rw [hfr21.1 180 (by decide) (by decide)]; exact hS
      obtain rfl : r21 = 1 := by omega
      show wp g X F_m_right 0 0 24 [(2, 178), (0, q), (0, what), (3, 0), (3, 0)] [(0, 1)] v21 ρ Z
      have es21 : v21 180 = v 180 := hfr21.1 180 (by decide) (by decide)
      first | refine r_if_eq (pc := 24) hX 12 (tgt := 29) rfl (by decide) (⟨by omega, by omega⟩) (fun h24 => ?_) (fun h24 => ?_) | refine r_if_eq_any (pc := 24) hX 12 (tgt := 29) rfl (by decide) ?_ ?_
      · exact absurd h24 (by decide)
      · refine r_lconst (pc := 27) hX 13 rfl ?_
        show wp g X F_m_right 0 0 28 [(2, 178), (0, q), (0, what), (3, 0), (3, 0)] [(1, 0)] v21 ρ Z
        exact r_lret (pc := 28) hX 14 hQ rfl rfl (Nat.le_refl 0) (Nat.le_refl 0) ⟨rfl, rfl, (Fr.rf).tr hfr21 (by decide) (by decide), 0, rfl, trivial⟩
set_option maxHeartbeats 4000000 in
set_option maxRecDepth 100000 in
theorem c_best (g : Gp) (v ρ : Mv) (Z : Mz) (hG : GM ρ Z) (q : Int) (hS : SInv (v 180)) (hq : inR q) : Ok g 5 0 0 F_m_best [(2, 178), (0, q)] v ρ Z (fun o v' ρ' Z' => ρ = ρ' ∧ Z = Z' ∧ Fr [185, 186, 189, 197, 198, 199, 200, 201, 202] [0, 42, 43] v v' ∧ ∃ r : Int, o = some (0, r) ∧ True) := by
  refine Ok.of mo_m_best (Nat.le_of_ble_eq_true rfl) ?_
  intro X hX hRm hxn hQ
  show wp g X F_m_best 0 0 0 [(2, 178), (0, q)] [] v ρ Z
  have hb2 := hS.c2
  refine r_aload_n (pc := 0) hX 0 rfl rfl ?_
  refine r_iconst (pc := 1) hX 1 rfl ?_
  refine r_putI (pc := 2) hX 2 rfl fl_X12_1 rfl (fun _ h => by cases h; rfl) hG.1 (by decide) ?_
  refine r_aload_n (pc := 5) hX 3 rfl rfl ?_
  refine r_iload_n (pc := 6) hX 4 rfl rfl ?_
  refine r_callV (as := [(0, q)]) (st := []) (K := 12) (pc := 7) hX 5 rfl mo_m_isPlayer ml_X12_294 im_m_isPlayer se_m_isPlayer (c_isPlayer g (up v 178 0 0) ρ Z hG (q) (by rw [up_f (by decide)]; exact hS) (by omega)) rfl rfl rfl hG.1 (by rw [hRm]; exact ⟨by decide, by decide⟩) (by rw [hRm]; exact ⟨by decide, by decide⟩) (Nat.le_of_ble_eq_true rfl) (fun o7 v7 ρ7 Z7 hq7 _ => ?_)
  obtain ⟨rfl, rfl, rfl, r7, rfl, hq7⟩ := hq7
  try simp only [up_f (show (180 : Int) ≠ 178 by decide)] at hq7
  show wp g X F_m_best 0 0 10 [(2, 178), (0, q)] [(0, r7)] (up v 178 0 0) ρ Z
  first | refine r_if_eq (pc := 10) hX 6 (tgt := 21) rfl (by decide) (⟨by omega, by omega⟩) (fun h10 => ?_) (fun h10 => ?_) | refine r_if_eq_any (pc := 10) hX 6 (tgt := 21) rfl (by decide) ?_ ?_
  · refine r_iconst (pc := 21) hX 11 rfl ?_
    exact r_iret (pc := 22) hX 12 hQ rfl rfl (Nat.le_refl 0) (Nat.le_refl 0) ⟨rfl, rfl, (Fr.rf).fld (k := 0) (by decide), (-1), rfl, trivial⟩
  · refine r_aload_n (pc := 13) hX 7 rfl rfl ?_
    refine r_iload_n (pc := 14) hX 8 rfl rfl ?_
    refine r_callV (as := [(0, q)]) (st := []) (K := 12) (pc := 15) hX 9 rfl mo_m_mayTurn ml_X12_449 im_m_mayTurn se_m_mayTurn (c_mayTurn g (up v 178 0 0) ρ Z hG (q) (by rw [up_f (by decide)]; exact hS) (by rw [up_f (by decide)]; omega)) rfl rfl rfl hG.1 (by rw [hRm]; exact ⟨by decide, by decide⟩) (by rw [hRm]; exact ⟨by decide, by decide⟩) (Nat.le_of_ble_eq_true rfl) (fun o15 v15 ρ15 Z15 hq15 _ => ?_)
    obtain ⟨rfl, rfl, hfr15, r15, rfl, hq15⟩ := hq15
    try simp only [up_f (show (180 : Int) ≠ 178 by decide)] at hq15
    have hSInv_15 : SInv (v15 180) := by rw [hfr15.1 180 (by decide) (by decide), up_f (by decide)]; exact hS
    show wp g X F_m_best 0 0 18 [(2, 178), (0, q)] [(0, r15)] v15 ρ Z
    have es15 : v15 180 = v 180 := by rw [hfr15.1 180 (by decide) (by decide), up_f (by decide)]
    first | refine r_if_ne (pc := 18) hX 10 (tgt := 23) rfl (by decide) (⟨by omega, by omega⟩) (fun h18 => ?_) (fun h18 => ?_) | refine r_if_ne_any (pc := 18) hX 10 (tgt := 23) rfl (by decide) ?_ ?_
    · refine r_aload_n (pc := 23) hX 13 rfl rfl ?_
      refine r_iload_n (pc := 24) hX 14 rfl rfl ?_
      refine r_callV (as := [(0, q)]) (st := []) (K := 12) (pc := 25) hX 15 rfl mo_m_rights ml_X12_455 im_m_rights se_m_rights (c_rights g v15 ρ Z hG (q) (hSInv_15) (by rw [es15]; omega) (by rw [es15]; omega)) rfl rfl rfl hG.1 (by rw [hRm]; exact ⟨by decide, by decide⟩) (by rw [hRm]; exact ⟨by decide, by decide⟩) (Nat.le_of_ble_eq_true rfl) (fun o25 v25 ρ25 Z25 hq25 _ => ?_)
      obtain ⟨rfl, rfl, hfr25, r25, rfl, hq25⟩ := hq25
      have hSInv_25 : SInv (v25 180) := by rw [hfr25.1 180 (by decide) (by decide)]; exact hSInv_15
      show wp g X F_m_best 0 0 28 [(2, 178), (0, q)] [(1, r25)] v25 ρ Z
      refine r_pop2l (pc := 28) hX 16 rfl ?_
      refine t_getI (y := (v25 178 43)) (pc := 29) hX 17 rfl rfl rfl fl_X12_433 rfl hG.1 (rfl) ?_
      exact r_iret (pc := 33) hX 19 hQ rfl rfl (Nat.le_refl 0) (Nat.le_refl 0) ⟨rfl, rfl, (((Fr.rf).fld (k := 0) (by decide)).tr hfr15 (by decide) (by decide)).tr hfr25 (by decide) (by decide), (v25 178 43), rfl, trivial⟩
    · refine r_iconst (pc := 21) hX 11 rfl ?_
      exact r_iret (pc := 22) hX 12 hQ rfl rfl (Nat.le_refl 0) (Nat.le_refl 0) ⟨rfl, rfl, ((Fr.rf).fld (k := 0) (by decide)).tr hfr15 (by decide) (by decide), (-1), rfl, trivial⟩
set_option maxHeartbeats 4000000 in
set_option maxRecDepth 100000 in
theorem c_scores (g : Gp) (v ρ : Mv) (Z : Mz) (hG : GM ρ Z)  (hS : SInv (v 180)) (ht : -1 ≤ v 178 45 ∧ v 178 45 ≤ 3) : Ok g 3 0 0 F_m_scores [(2, 178)] v ρ Z (fun o v' ρ' Z' => ρ = ρ' ∧ Z = Z' ∧ Fr [203] [0, 2, 3, 4, 5, 45] v v' ∧ ∃ r : Int, o = some (0, r) ∧ (-1 ≤ v' 178 45 ∧ v' 178 45 ≤ 3) ∧ (v' 178 2 = 0)) := by
  refine Ok.of mo_m_scores (Nat.le_of_ble_eq_true rfl) ?_
  intro X hX hRm hxn hQ
  show wp g X F_m_scores 0 0 0 [(2, 178), (3, 0), (3, 0), (3, 0), (3, 0), (3, 0), (3, 0), (3, 0)] [] v ρ Z
  have hb2 := hS.c2
  refine r_aload_n (pc := 0) hX 0 rfl rfl ?_
  refine r_iconst (pc := 1) hX 1 rfl ?_
  refine r_putI (pc := 2) hX 2 rfl fl_X12_1 rfl (fun _ h => by cases h; rfl) hG.1 (by decide) ?_
  refine r_aload_n (pc := 5) hX 3 rfl rfl ?_
  refine r_sipush (pc := 6) hX 4 rfl (by decide) ?_
  refine r_callV (as := [(0, 940)]) (st := []) (K := 12) (pc := 9) hX 5 rfl mo_m_taken ml_X12_266 im_m_taken se_m_taken (c_taken g (up v 178 0 0) ρ Z hG (940) ) rfl rfl rfl hG.1 (by rw [hRm]; exact ⟨by decide, by decide⟩) (by rw [hRm]; exact ⟨by decide, by decide⟩) (Nat.le_of_ble_eq_true rfl) (fun o9 v9 ρ9 Z9 hq9 _ => ?_)
  obtain ⟨rfl, rfl, hfr9, rfl, hq9⟩ := hq9
  try simp only [up_f (show (180 : Int) ≠ 178 by decide), up_k (show (2 : Int) ≠ 0 by decide)] at hq9
  have hSInv_9 : SInv (v9 180) := by rw [hfr9.1 180 (by decide) (by decide), up_f (by decide)]; exact hS
  have hk9_45 : v9 178 45 = (v 178 45) := (hfr9.2 45 (by decide)).trans ((up_k (by decide)).trans (rfl))
  show wp g X F_m_scores 0 0 12 [(2, 178), (3, 0), (3, 0), (3, 0), (3, 0), (3, 0), (3, 0), (3, 0)] [] v9 ρ Z
  refine t_getR (pc := 12) hX 6 rfl rfl rfl fl_X12_33 rfl hG.1 (a_s hG).1 ?_
  refine r_iconst (pc := 16) hX 8 rfl ?_
  refine e_iald (y := (v9 180 2)) (pc := 17) hX 9 rfl (a_s hG).2.1 (a_s hG).2.2 (by omega) (by omega) (rfl) ?_
  have hb17 := hSInv_9.c2
  refine r_istore_n (ls' := [(2, 178), (0, (v9 180 2)), (3, 0), (3, 0), (3, 0), (3, 0), (3, 0), (3, 0)]) (pc := 18) hX 10 rfl (by decide) rfl ?_
  refine r_iload_n (pc := 19) hX 11 rfl rfl ?_
  first | refine r_if_eq (pc := 20) hX 12 (tgt := 31) rfl (by decide) (⟨by omega, by omega⟩) (fun h20 => ?_) (fun h20 => ?_) | refine r_if_eq_any (pc := 20) hX 12 (tgt := 31) rfl (by decide) ?_ ?_
  · refine r_iconst (pc := 31) hX 17 rfl ?_
    exact r_iret (pc := 32) hX 18 hQ rfl rfl (Nat.le_refl 0) (Nat.le_refl 0) ⟨rfl, rfl, ((Fr.rf).fld (k := 0) (by decide)).tr hfr9 (by decide) (by decide), (-1), rfl, (by omega), (by omega)⟩
  · refine t_getI (y := (v9 178 3)) (pc := 23) hX 13 rfl rfl rfl fl_X12_18 rfl hG.1 (rfl) ?_
    refine r_iload_n (pc := 27) hX 15 rfl rfl ?_
    first | refine r_icmp_eq (pc := 28) hX 16 (tgt := 33) rfl (by decide) (⟨by omega, by omega⟩) (⟨by omega, by omega⟩) (fun h28 => ?_) (fun h28 => ?_) | refine r_icmp_eq_any (pc := 28) hX 16 (tgt := 33) rfl (by decide) ?_ ?_
    · refine r_iconst (pc := 33) hX 19 rfl ?_
      refine r_istore_n (ls' := [(2, 178), (0, (v9 180 2)), (0, 0), (3, 0), (3, 0), (3, 0), (3, 0), (3, 0)]) (pc := 34) hX 20 rfl (by decide) rfl ?_
      refine r_iconst (pc := 35) hX 21 rfl ?_
      refine r_istore_n (ls' := [(2, 178), (0, (v9 180 2)), (0, 0), (0, 0), (3, 0), (3, 0), (3, 0), (3, 0)]) (pc := 36) hX 22 rfl (by decide) rfl ?_
      have L37 : ∀ (n37 : Nat) (cnt m : Int) (v37 : Mv) , (Fr [203] [0, 2, 3, 4, 5, 45] v v37) → (SInv (v37 180)) → (0 ≤ m ∧ m ≤ 64 ∧ 0 ≤ cnt ∧ cnt ≤ m) → (-1 ≤ v37 178 45 ∧ v37 178 45 ≤ 3) → (v37 178 2 = 0) → (64 - m).toNat < n37 → wp g X F_m_scores 0 0 37 [(2, 178), (0, (v9 180 2)), (0, cnt), (0, m), (3, 0), (3, 0), (3, 0), (3, 0)] [] v37 ρ Z := by
        intro n37
        induction n37 with
        | zero => intro cnt m v37 hfr37 hSInv_37 im it il hme37; exact absurd hme37 (Nat.not_lt_zero _)
        | succ n37 ih37 =>
          intro cnt m v37 hfr37 hSInv_37 im it il hme37
          have e237 : v37 180 2 = v9 180 2 := by rw [hfr37.1 180 (by decide) (by decide), hfr9.1 180 (by decide) (by decide), up_f (by decide)]
          refine r_iload_n (pc := 37) hX 23 rfl rfl ?_
          refine r_iconst (pc := 38) hX 24 rfl ?_
          refine r_iconst (pc := 39) hX 25 rfl ?_
          refine r_iload_n (pc := 40) hX 26 rfl rfl ?_
          refine r_imul (pc := 41) hX 27 rfl ?_
          refine r_ishl4 (pc := 42) hX 28 rfl rfl (by omega) (fun z42 hz42 => ?_)
          first | refine r_icmp_ge (pc := 43) hX 29 (tgt := 222) rfl (by decide) (⟨by omega, by omega⟩) (⟨by omega, by omega⟩) (fun h43 => ?_) (fun h43 => ?_) | refine r_icmp_ge_any (pc := 43) hX 29 (tgt := 222) rfl (by decide) ?_ ?_
          · refine r_iload_n (pc := 222) hX 129 rfl rfl ?_
            exact r_iret (pc := 223) hX 130 hQ rfl rfl (Nat.le_refl 0) (Nat.le_refl 0) ⟨rfl, rfl, hfr37, cnt, rfl, (it), (il)⟩
          · refine r_iconst (pc := 46) hX 30 rfl ?_
            refine r_istore (ls' := [(2, 178), (0, (v9 180 2)), (0, cnt), (0, m), (0, 1), (3, 0), (3, 0), (3, 0)]) (pc := 47) hX 31 rfl (by decide) rfl ?_
            refine r_iconst (pc := 49) hX 32 rfl ?_
            refine r_istore (ls' := [(2, 178), (0, (v9 180 2)), (0, cnt), (0, m), (0, 1), (0, 0), (3, 0), (3, 0)]) (pc := 50) hX 33 rfl (by decide) rfl ?_
            refine r_iconst (pc := 52) hX 34 rfl ?_
            refine r_istore (ls' := [(2, 178), (0, (v9 180 2)), (0, cnt), (0, m), (0, 1), (0, 0), (0, 0), (3, 0)]) (pc := 53) hX 35 rfl (by decide) rfl ?_
            have L55 : ∀ (n55 : Nat) (ok bt p : Int) , (0 ≤ p ∧ p ≤ 3 ∧ 0 ≤ ok ∧ ok ≤ 1) → (3 - p).toNat < n55 → wp g X F_m_scores 0 0 55 [(2, 178), (0, (v9 180 2)), (0, cnt), (0, m), (0, ok), (0, bt), (0, p), (3, 0)] [] v37 ρ Z := by
              intro n55
              induction n55 with
              | zero => intro ok bt p ip hme55; exact absurd hme55 (Nat.not_lt_zero _)
              | succ n55 ih55 =>
                intro ok bt p ip hme55
                refine r_iload (pc := 55) hX 36 rfl rfl ?_
                refine r_iload_n (pc := 57) hX 37 rfl rfl ?_
                first | refine r_icmp_ge (pc := 58) hX 38 (tgt := 158) rfl (by decide) (⟨by omega, by omega⟩) (⟨by omega, by omega⟩) (fun h58 => ?_) (fun h58 => ?_) | refine r_icmp_ge_any (pc := 58) hX 38 (tgt := 158) rfl (by decide) ?_ ?_
                · refine r_iload (pc := 158) hX 94 rfl rfl ?_
                  have L216 : ∀ (cnt : Int) (v216 : Mv) , (Fr [203] [0, 2, 3, 4, 5, 45] v v216) → (SInv (v216 180)) → (0 ≤ cnt ∧ cnt ≤ m + 1) → (-1 ≤ v216 178 45 ∧ v216 178 45 ≤ 3) → (v216 178 2 = 0) → wp g X F_m_scores 0 0 216 [(2, 178), (0, (v9 180 2)), (0, cnt), (0, m), (3, 0), (3, 0), (3, 0), (3, 0)] [] v216 ρ Z := by
                    intro cnt v216 hfr216 hSInv_216 kc kt kl
                    refine r_iinc (ls' := [(2, 178), (0, (v9 180 2)), (0, cnt), (0, (m + 1)), (3, 0), (3, 0), (3, 0), (3, 0)]) (pc := 216) hX 127 rfl rfl (by decide) rfl ?_
                    refine r_goto (pc := 219) hX 128 (tgt := 37) rfl (by decide) ?_
                    exact (ih37 cnt (m + 1) v216 (hfr216) (hSInv_216) (by omega) (kt) (kl) (by omega))
                  first | refine r_if_ne (pc := 160) hX 95 (tgt := 166) rfl (by decide) (⟨by omega, by omega⟩) (fun h160 => ?_) (fun h160 => ?_) | refine r_if_ne_any (pc := 160) hX 95 (tgt := 166) rfl (by decide) ?_ ?_
                  · refine r_iinc (ls' := [(2, 178), (0, (v9 180 2)), (0, (cnt + 1)), (0, m), (0, ok), (0, bt), (0, p), (3, 0)]) (pc := 166) hX 97 rfl rfl (by decide) rfl ?_
                    refine r_iload_n (pc := 169) hX 98 rfl rfl ?_
                    refine r_iconst (pc := 170) hX 99 rfl ?_
                    first | refine r_icmp_le (pc := 171) hX 100 (tgt := 177) rfl (by decide) (⟨by omega, by omega⟩) (⟨by omega, by omega⟩) (fun h171 => ?_) (fun h171 => ?_) | refine r_icmp_le_any (pc := 171) hX 100 (tgt := 177) rfl (by decide) ?_ ?_
                    · refine r_aload_n (pc := 177) hX 102 rfl rfl ?_
                      refine r_iload_n (pc := 178) hX 103 rfl rfl ?_
                      refine r_putI (pc := 179) hX 104 rfl fl_X12_108 rfl (fun _ h => by cases h; rfl) hG.1 (by decide) ?_
                      refine r_iconst (pc := 182) hX 105 rfl ?_
                      refine r_istore (ls' := [(2, 178), (0, (v9 180 2)), (0, (cnt + 1)), (0, m), (0, ok), (0, bt), (0, 0), (3, 0)]) (pc := 183) hX 106 rfl (by decide) rfl ?_
                      have L185 : ∀ (n185 : Nat) (p : Int) (v185 : Mv) , (Fr [203] [0, 2, 3, 4, 5, 45] v v185) → (SInv (v185 180)) → (0 ≤ p ∧ p ≤ 3) → (-1 ≤ v185 178 45 ∧ v185 178 45 ≤ 3) → (v185 178 2 = 0) → (3 - p).toNat < n185 → wp g X F_m_scores 0 0 185 [(2, 178), (0, (v9 180 2)), (0, (cnt + 1)), (0, m), (0, ok), (0, bt), (0, p), (3, 0)] [] v185 ρ Z := by
                        intro n185
                        induction n185 with
                        | zero => intro p v185 hfr185 hSInv_185 ip jt jl hme185; exact absurd hme185 (Nat.not_lt_zero _)
                        | succ n185 ih185 =>
                          intro p v185 hfr185 hSInv_185 ip jt jl hme185
                          refine r_iload (pc := 185) hX 107 rfl rfl ?_
                          refine r_iload_n (pc := 187) hX 108 rfl rfl ?_
                          first | refine r_icmp_ge (pc := 188) hX 109 (tgt := 216) rfl (by decide) (⟨by omega, by omega⟩) (⟨by omega, by omega⟩) (fun h188 => ?_) (fun h188 => ?_) | refine r_icmp_ge_any (pc := 188) hX 109 (tgt := 216) rfl (by decide) ?_ ?_
                          · refine r_wk (ls' := [(2, 178), (0, (v9 180 2)), (0, (cnt + 1)), (0, m), (3, 0), (3, 0), (3, 0), (3, 0)]) ⟨Or.inr rfl, Or.inr rfl, Or.inr rfl, Or.inr rfl, Or.inl rfl, Or.inl rfl, Or.inl rfl, Or.inr rfl, trivial⟩ ?_
                            exact (L216 (cnt + 1) v185 (hfr185) (hSInv_185) (by omega) (by first | exact it | exact jt) (by first | exact il | exact jl) )
                          · refine t_getR (pc := 191) hX 110 rfl rfl rfl fl_X12_105 rfl hG.1 (a_tookRow hG).1 ?_
                            refine r_iload (pc := 195) hX 112 rfl rfl ?_
                            refine r_iload_n (pc := 197) hX 113 rfl rfl ?_
                            refine r_iconst (pc := 198) hX 114 rfl ?_
                            refine r_iload_n (pc := 199) hX 115 rfl rfl ?_
                            refine r_iconst (pc := 200) hX 116 rfl ?_
                            refine r_isub (pc := 201) hX 117 rfl ?_
                            refine r_iload (pc := 202) hX 118 rfl rfl ?_
                            refine r_isub (pc := 204) hX 119 rfl ?_
                            refine r_imul (pc := 205) hX 120 rfl ?_
                            refine r_ishr_any (pc := 206) hX 121 rfl (fun z206 hz206 => ?_)
                            refine r_iconst (pc := 207) hX 122 rfl ?_
                            refine r_iandm (pc := 208) hX 123 2 rfl (by decide) (by decide) (m := 4) (by decide) ?_
                            refine e_iast (pc := 209) hX 124 rfl (a_tookRow hG).2.1 (a_tookRow hG).2.2 (by decide) (by omega) (by omega) ?_
                            refine r_iinc (ls' := [(2, 178), (0, (v9 180 2)), (0, (cnt + 1)), (0, m), (0, ok), (0, bt), (0, (p + 1)), (3, 0)]) (pc := 210) hX 125 rfl rfl (by decide) rfl ?_
                            refine r_goto (pc := 213) hX 126 (tgt := 185) rfl (by decide) ?_
                            exact (ih185 (p + 1) (up v185 203 p (z206 % 4)) ((hfr185).arr (r := 203) (by decide) (by decide)) (by rw [up_f (by decide)]; exact hSInv_185) (by omega) (by rw [up_r (by decide)]; exact jt) (by rw [up_r (by decide)]; exact jl) (by omega))
                      exact (L185 _ 0 (up v37 178 45 (v9 180 2)) ((hfr37).fld (k := 45) (by decide)) (by rw [up_f (by decide)]; exact hSInv_37) (by omega) (by rw [up_s]; omega) (by rw [up_k (by decide)]; exact il) (Nat.lt_succ_self _))
                    · refine r_goto (pc := 174) hX 101 (tgt := 216) rfl (by decide) ?_
                      refine r_wk (ls' := [(2, 178), (0, (v9 180 2)), (0, (cnt + 1)), (0, m), (3, 0), (3, 0), (3, 0), (3, 0)]) ⟨Or.inr rfl, Or.inr rfl, Or.inr rfl, Or.inr rfl, Or.inl rfl, Or.inl rfl, Or.inl rfl, Or.inr rfl, trivial⟩ ?_
                      exact (L216 (cnt + 1) v37 (hfr37) (hSInv_37) (by omega) (by first | exact it | exact jt) (by first | exact il | exact jl) )
                  · refine r_goto (pc := 163) hX 96 (tgt := 216) rfl (by decide) ?_
                    refine r_wk (ls' := [(2, 178), (0, (v9 180 2)), (0, cnt), (0, m), (3, 0), (3, 0), (3, 0), (3, 0)]) ⟨Or.inr rfl, Or.inr rfl, Or.inr rfl, Or.inr rfl, Or.inl rfl, Or.inl rfl, Or.inl rfl, Or.inr rfl, trivial⟩ ?_
                    exact (L216 cnt v37 (hfr37) (hSInv_37) (by omega) (by first | exact it | exact jt) (by first | exact il | exact jl) )
                · refine r_iload_n (pc := 61) hX 39 rfl rfl ?_
                  refine r_iconst (pc := 62) hX 40 rfl ?_
                  refine r_iload_n (pc := 63) hX 41 rfl rfl ?_
                  refine r_iconst (pc := 64) hX 42 rfl ?_
                  refine r_isub (pc := 65) hX 43 rfl ?_
                  refine r_iload (pc := 66) hX 44 rfl rfl ?_
                  refine r_isub (pc := 68) hX 45 rfl ?_
                  refine r_imul (pc := 69) hX 46 rfl ?_
                  refine r_ishr_any (pc := 70) hX 47 rfl (fun z70 hz70 => ?_)
                  refine r_iconst (pc := 71) hX 48 rfl ?_
                  refine r_iandm (pc := 72) hX 49 2 rfl (by decide) (by decide) (m := 4) (by decide) ?_
                  refine r_istore (ls' := [(2, 178), (0, (v9 180 2)), (0, cnt), (0, m), (0, ok), (0, bt), (0, p), (0, (z70 % 4))]) (pc := 73) hX 50 rfl (by decide) rfl ?_
                  refine r_iload (pc := 75) hX 51 rfl rfl ?_
                  have L141 : ∀ (okn : Int) , (0 ≤ okn ∧ okn ≤ 1) → wp g X F_m_scores 0 0 141 [(2, 178), (0, (v9 180 2)), (0, cnt), (0, m), (3, 0), (0, bt), (0, p), (0, (z70 % 4))] [(0, okn)] v37 ρ Z := by
                    intro okn iok
                    refine r_istore (ls' := [(2, 178), (0, (v9 180 2)), (0, cnt), (0, m), (0, okn), (0, bt), (0, p), (0, (z70 % 4))]) (pc := 141) hX 85 rfl (by decide) rfl ?_
                    refine r_iload (pc := 143) hX 86 rfl rfl ?_
                    refine r_iconst (pc := 145) hX 87 rfl ?_
                    refine r_iload (pc := 146) hX 88 rfl rfl ?_
                    refine r_ishl_any (pc := 148) hX 89 rfl (fun z148 hz148 => ?_)
                    refine r_ior_any (pc := 149) hX 90 rfl (fun z149 hz149 => ?_)
                    refine r_istore (ls' := [(2, 178), (0, (v9 180 2)), (0, cnt), (0, m), (0, okn), (0, z149), (0, p), (0, (z70 % 4))]) (pc := 150) hX 91 rfl (by decide) rfl ?_
                    refine r_iinc (ls' := [(2, 178), (0, (v9 180 2)), (0, cnt), (0, m), (0, okn), (0, z149), (0, (p + 1)), (0, (z70 % 4))]) (pc := 152) hX 92 rfl rfl (by decide) rfl ?_
                    refine r_goto (pc := 155) hX 93 (tgt := 55) rfl (by decide) ?_
                    refine r_wk (ls' := [(2, 178), (0, (v9 180 2)), (0, cnt), (0, m), (0, okn), (0, z149), (0, (p + 1)), (3, 0)]) ⟨Or.inr rfl, Or.inr rfl, Or.inr rfl, Or.inr rfl, Or.inr rfl, Or.inr rfl, Or.inr rfl, Or.inl rfl, trivial⟩ ?_
                    exact (ih55 okn z149 (p + 1) (by omega) (by omega))
                  first | refine r_if_eq (pc := 77) hX 52 (tgt := 140) rfl (by decide) (⟨by omega, by omega⟩) (fun h77 => ?_) (fun h77 => ?_) | refine r_if_eq_any (pc := 77) hX 52 (tgt := 140) rfl (by decide) ?_ ?_
                  · refine r_iconst (pc := 140) hX 84 rfl ?_
                    refine r_wk (ls' := [(2, 178), (0, (v9 180 2)), (0, cnt), (0, m), (3, 0), (0, bt), (0, p), (0, (z70 % 4))]) ⟨Or.inr rfl, Or.inr rfl, Or.inr rfl, Or.inr rfl, Or.inl rfl, Or.inr rfl, Or.inr rfl, Or.inr rfl, trivial⟩ ?_
                    exact (L141 0 (by omega) )
                  · refine r_aload_n (pc := 80) hX 53 rfl rfl ?_
                    refine r_iload (pc := 81) hX 54 rfl rfl ?_
                    refine r_callV (as := [(0, (z70 % 4))]) (st := []) (K := 12) (pc := 83) hX 55 rfl mo_m_isColour ml_X12_281 im_m_isColour se_m_isColour (c_isColour g v37 ρ Z hG ((z70 % 4)) (hSInv_37) (by omega)) rfl rfl rfl hG.1 (by rw [hRm]; exact ⟨by decide, by decide⟩) (by rw [hRm]; exact ⟨by decide, by decide⟩) (Nat.le_of_ble_eq_true rfl) (fun o83 v83 ρ83 Z83 hq83 _ => ?_)
                    obtain ⟨rfl, rfl, rfl, r83, rfl, hq83⟩ := hq83
                    show wp g X F_m_scores 0 0 86 [(2, 178), (0, (v9 180 2)), (0, cnt), (0, m), (0, ok), (0, bt), (0, p), (0, (z70 % 4))] [(0, r83)] v37 ρ Z
                    first | refine r_if_eq (pc := 86) hX 56 (tgt := 140) rfl (by decide) (⟨by omega, by omega⟩) (fun h86 => ?_) (fun h86 => ?_) | refine r_if_eq_any (pc := 86) hX 56 (tgt := 140) rfl (by decide) ?_ ?_
                    · refine r_iconst (pc := 140) hX 84 rfl ?_
                      refine r_wk (ls' := [(2, 178), (0, (v9 180 2)), (0, cnt), (0, m), (3, 0), (0, bt), (0, p), (0, (z70 % 4))]) ⟨Or.inr rfl, Or.inr rfl, Or.inr rfl, Or.inr rfl, Or.inl rfl, Or.inr rfl, Or.inr rfl, Or.inr rfl, trivial⟩ ?_
                      exact (L141 0 (by omega) )
                    · refine r_iload (pc := 89) hX 57 rfl rfl ?_
                      refine r_iload (pc := 91) hX 58 rfl rfl ?_
                      refine r_callS (as := [(0, bt), (0, (z70 % 4))]) (st := []) (pc := 93) hX 59 rfl mo_m_bitOf ml_X12_244 stt_m_bitOf (c_bitOf g v37 ρ Z hG (bt) ((z70 % 4)) ) rfl (by rw [hRm]; exact ⟨by decide, by decide⟩) (by rw [hRm]; exact ⟨by decide, by decide⟩) (Nat.le_of_ble_eq_true rfl) (fun o93 v93 ρ93 Z93 hq93 _ => ?_)
                      obtain ⟨rfl, rfl, rfl, r93, rfl, hq93⟩ := hq93
                      show wp g X F_m_scores 0 0 96 [(2, 178), (0, (v9 180 2)), (0, cnt), (0, m), (0, ok), (0, bt), (0, p), (0, (z70 % 4))] [(0, r93)] v37 ρ Z
                      first | refine r_if_ne (pc := 96) hX 60 (tgt := 140) rfl (by decide) (⟨by omega, by omega⟩) (fun h96 => ?_) (fun h96 => ?_) | refine r_if_ne_any (pc := 96) hX 60 (tgt := 140) rfl (by decide) ?_ ?_
                      · refine r_iconst (pc := 140) hX 84 rfl ?_
                        refine r_wk (ls' := [(2, 178), (0, (v9 180 2)), (0, cnt), (0, m), (3, 0), (0, bt), (0, p), (0, (z70 % 4))]) ⟨Or.inr rfl, Or.inr rfl, Or.inr rfl, Or.inr rfl, Or.inl rfl, Or.inr rfl, Or.inr rfl, Or.inr rfl, trivial⟩ ?_
                        exact (L141 0 (by omega) )
                      · refine t_getR (pc := 99) hX 61 rfl rfl rfl fl_X12_33 rfl hG.1 (a_s hG).1 ?_
                        refine r_bipush (pc := 103) hX 63 rfl (by decide) ?_
                        refine r_iload (pc := 105) hX 64 rfl rfl ?_
                        refine r_iadd (pc := 107) hX 65 rfl ?_
                        refine e_iald (y := (v37 180 (32 + p))) (pc := 108) hX 66 rfl (a_s hG).2.1 (a_s hG).2.2 (by omega) (by omega) (rfl) ?_
                        have hb108 := hSInv_37.c32 p (by omega) (by omega)
                        refine t_getR (pc := 109) hX 67 rfl rfl rfl fl_X12_33 rfl hG.1 (a_s hG).1 ?_
                        refine r_bipush (pc := 113) hX 69 rfl (by decide) ?_
                        refine r_iload (pc := 115) hX 70 rfl rfl ?_
                        refine r_iadd (pc := 117) hX 71 rfl ?_
                        refine e_iald (y := (v37 180 (6 + (z70 % 4)))) (pc := 118) hX 72 rfl (a_s hG).2.1 (a_s hG).2.2 (by omega) (by omega) (rfl) ?_
                        have hb118 := hSInv_37.c6 (z70 % 4) (by omega) (by omega)
                        refine r_aload_n (pc := 119) hX 73 rfl rfl ?_
                        refine r_iload (pc := 120) hX 74 rfl rfl ?_
                        refine r_callV (as := [(0, (z70 % 4))]) (st := [(0, (v37 180 (6 + (z70 % 4)))), (0, (v37 180 (32 + p)))]) (K := 12) (pc := 122) hX 75 rfl mo_m_cameOf ml_X12_288 im_m_cameOf se_m_cameOf (c_cameOf g v37 ρ Z hG ((z70 % 4)) (hSInv_37)) rfl rfl rfl hG.1 (by rw [hRm]; exact ⟨by decide, by decide⟩) (by rw [hRm]; exact ⟨by decide, by decide⟩) (Nat.le_of_ble_eq_true rfl) (fun o122 v122 ρ122 Z122 hq122 _ => ?_)
                        obtain ⟨rfl, rfl, rfl, r122, rfl, hq122⟩ := hq122
                        show wp g X F_m_scores 0 0 125 [(2, 178), (0, (v9 180 2)), (0, cnt), (0, m), (0, ok), (0, bt), (0, p), (0, (z70 % 4))] [(0, r122), (0, (v37 180 (6 + (z70 % 4)))), (0, (v37 180 (32 + p)))] v37 ρ Z
                        refine r_imul (pc := 125) hX 76 rfl ?_
                        refine r_iadd (pc := 126) hX 77 rfl ?_
                        refine r_aload_n (pc := 127) hX 78 rfl rfl ?_
                        refine r_iload (pc := 128) hX 79 rfl rfl ?_
                        refine r_callV (as := [(0, p)]) (st := [(0, ((v37 180 (32 + p)) + ((v37 180 (6 + (z70 % 4))) * r122)))]) (K := 12) (pc := 130) hX 80 rfl mo_m_octet ml_X12_458 im_m_octet se_m_octet (c_octet g v37 ρ Z hG (p) (by omega)) rfl rfl rfl hG.1 (by rw [hRm]; exact ⟨by decide, by decide⟩) (by rw [hRm]; exact ⟨by decide, by decide⟩) (Nat.le_of_ble_eq_true rfl) (fun o130 v130 ρ130 Z130 hq130 _ => ?_)
                        obtain ⟨rfl, rfl, rfl, r130, rfl, hq130⟩ := hq130
                        show wp g X F_m_scores 0 0 133 [(2, 178), (0, (v9 180 2)), (0, cnt), (0, m), (0, ok), (0, bt), (0, p), (0, (z70 % 4))] [(0, r130), (0, ((v37 180 (32 + p)) + ((v37 180 (6 + (z70 % 4))) * r122)))] v37 ρ Z
                        first | refine r_icmp_ne (pc := 133) hX 81 (tgt := 140) rfl (by decide) (⟨by omega, by omega⟩) (⟨by omega, by omega⟩) (fun h133 => ?_) (fun h133 => ?_) | refine r_icmp_ne_any (pc := 133) hX 81 (tgt := 140) rfl (by decide) ?_ ?_
                        · refine r_iconst (pc := 140) hX 84 rfl ?_
                          refine r_wk (ls' := [(2, 178), (0, (v9 180 2)), (0, cnt), (0, m), (3, 0), (0, bt), (0, p), (0, (z70 % 4))]) ⟨Or.inr rfl, Or.inr rfl, Or.inr rfl, Or.inr rfl, Or.inl rfl, Or.inr rfl, Or.inr rfl, Or.inr rfl, trivial⟩ ?_
                          exact (L141 0 (by omega) )
                        · refine r_iconst (pc := 136) hX 82 rfl ?_
                          refine r_goto (pc := 137) hX 83 (tgt := 141) rfl (by decide) ?_
                          refine r_wk (ls' := [(2, 178), (0, (v9 180 2)), (0, cnt), (0, m), (3, 0), (0, bt), (0, p), (0, (z70 % 4))]) ⟨Or.inr rfl, Or.inr rfl, Or.inr rfl, Or.inr rfl, Or.inl rfl, Or.inr rfl, Or.inr rfl, Or.inr rfl, trivial⟩ ?_
                          exact (L141 1 (by omega) )
            exact (L55 _ 1 0 0 (by omega) (Nat.lt_succ_self _))
      exact (L37 _ 0 0 v9 (((Fr.rf).fld (k := 0) (by decide)).tr hfr9 (by decide) (by decide)) (hSInv_9) (by omega) (by omega) (by omega) (Nat.lt_succ_self _))
    · refine r_iconst (pc := 31) hX 17 rfl ?_
      exact r_iret (pc := 32) hX 18 hQ rfl rfl (Nat.le_refl 0) (Nat.le_refl 0) ⟨rfl, rfl, ((Fr.rf).fld (k := 0) (by decide)).tr hfr9 (by decide) (by decide), (-1), rfl, (by omega), (by omega)⟩
