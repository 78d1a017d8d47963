set_option maxHeartbeats 4000000 in
set_option maxRecDepth 100000 in
theorem c_lineF (g : Gp) (v ρ : Mv) (Z : Mz) (hG : GM ρ Z) {F : Int → Int} {n m : Int} {s : Rd}  (hL : 0 ≤ v 178 4 ∧ v 178 4 ≤ v 178 3 ∧ v 178 3 ≤ 940 ∧ 0 ≤ v 178 11 ∧ v 178 11 ≤ 4 ∧ inR (v 178 5) ∧ inR (v 178 14)) (hV : HInv (v 181)) (hR : RdM F n m v s) (hrs : RsI (v 184)) : Ok g 6 0 0 F_m_line [(2, 178)] v ρ Z (fun o v' ρ' Z' => ρ = ρ' ∧ Z = Z' ∧ Fr [181, 183] [4, 11, 12, 13, 14, 15, 16, 17, 18, 20] v v' ∧ ∃ r : Int, o = some (0, r) ∧ (0 ≤ v' 178 4 ∧ v' 178 4 ≤ v' 178 3 ∧ v' 178 3 ≤ 940 ∧ 0 ≤ v' 178 11 ∧ v' 178 11 ≤ 4 ∧ inR (v' 178 5) ∧ inR (v' 178 14) ∧ v 178 4 ≤ v' 178 4 ∧ v' 178 3 = v 178 3) ∧ (0 ≤ r ∧ r ≤ 1) ∧ (Hd (r = 1 → HInv (v' 181))) ∧ (PoL F n m v' r (rLine F n m s)) ∧ (∀ j, j < 10 → v' 183 j = v 183 j)) := by
  refine Ok.of mo_m_line (Nat.le_of_ble_eq_true rfl) ?_
  intro X hX hRm hxn hQ
  show wp g X F_m_line 0 0 0 [(2, 178), (3, 0)] [] v ρ Z
  have hz := hV.h0
  have hT := hR.1
  have h12 := hR.1.2.2.2.2.2.2.2.1
  have hH0 : v 181 0 = s.H 0 := hR.2.1 0 (by decide) (by decide)
  have hH1 : v 181 1 = s.H 1 := hR.2.1 1 (by decide) (by decide)
  have hH2 : v 181 2 = s.H 2 := hR.2.1 2 (by decide) (by decide)
  have hH5 : v 181 5 = s.H 5 := hR.2.1 5 (by decide) (by decide)
  have hob := hR.ob
  refine r_aload_n (pc := 0) hX 0 rfl rfl ?_
  refine r_ldc2 (y := 109330211763570) (pc := 1) hX 1 rfl kl_X12_130 (by decide) ?_
  refine r_callV (as := [(1, 109330211763570)]) (st := []) (K := 12) (pc := 4) hX 2 rfl mo_m_isWord ml_X12_247 im_m_isWord se_m_isWord (c_isWordT g v ρ Z hG (109330211763570) (hT) (by omega) (by decide)) rfl rfl rfl hG.1 (by rw [hRm]; exact ⟨by decide, by decide⟩) (by rw [hRm]; exact ⟨by decide, by decide⟩) (Nat.le_of_ble_eq_true rfl) (fun o4 v4 ρ4 Z4 hq4 _ => ?_)
  obtain ⟨rfl, rfl, rfl, r4, rfl, hq4⟩ := hq4
  show wp g X F_m_line 0 0 7 [(2, 178), (3, 0)] [(0, r4)] v ρ Z
  have hk4 := ky_of hT 0 (by decide) (by decide) hq4
  replace hq4 := Hd.i hq4
  first | refine r_if_eq (pc := 7) hX 3 (tgt := 70) rfl (by decide) (⟨by omega, by omega⟩) (fun h7 => ?_) (fun h7 => ?_) | refine r_if_eq_any (pc := 7) hX 3 (tgt := 70) rfl (by decide) ?_ ?_
  · refine r_aload_n (pc := 70) hX 44 rfl rfl ?_
    refine r_ldc2 (y := 1701733491) (pc := 71) hX 45 rfl kl_X12_132 (by decide) ?_
    refine r_callV (as := [(1, 1701733491)]) (st := []) (K := 12) (pc := 74) hX 46 rfl mo_m_isWord ml_X12_247 im_m_isWord se_m_isWord (c_isWordT g v ρ Z hG (1701733491) (hT) (by omega) (by decide)) rfl rfl rfl hG.1 (by rw [hRm]; exact ⟨by decide, by decide⟩) (by rw [hRm]; exact ⟨by decide, by decide⟩) (Nat.le_of_ble_eq_true rfl) (fun o74 v74 ρ74 Z74 hq74 _ => ?_)
    obtain ⟨rfl, rfl, rfl, r74, rfl, hq74⟩ := hq74
    show wp g X F_m_line 0 0 77 [(2, 178), (3, 0)] [(0, r74)] v ρ Z
    have hk74 := ky_of hT 1 (by decide) (by decide) hq74
    replace hq74 := Hd.i hq74
    first | refine r_if_eq (pc := 77) hX 47 (tgt := 142) rfl (by decide) (⟨by omega, by omega⟩) (fun h77 => ?_) (fun h77 => ?_) | refine r_if_eq_any (pc := 77) hX 47 (tgt := 142) rfl (by decide) ?_ ?_
    · refine r_aload_n (pc := 142) hX 85 rfl rfl ?_
      refine r_ldc2 (y := 1818324580) (pc := 143) hX 86 rfl kl_X12_134 (by decide) ?_
      refine r_callV (as := [(1, 1818324580)]) (st := []) (K := 12) (pc := 146) hX 87 rfl mo_m_isWord ml_X12_247 im_m_isWord se_m_isWord (c_isWordT g v ρ Z hG (1818324580) (hT) (by omega) (by decide)) rfl rfl rfl hG.1 (by rw [hRm]; exact ⟨by decide, by decide⟩) (by rw [hRm]; exact ⟨by decide, by decide⟩) (Nat.le_of_ble_eq_true rfl) (fun o146 v146 ρ146 Z146 hq146 _ => ?_)
      obtain ⟨rfl, rfl, rfl, r146, rfl, hq146⟩ := hq146
      show wp g X F_m_line 0 0 149 [(2, 178), (3, 0)] [(0, r146)] v ρ Z
      have hk146 := ky_of hT 2 (by decide) (by decide) hq146
      replace hq146 := Hd.i hq146
      first | refine r_if_eq (pc := 149) hX 88 (tgt := 157) rfl (by decide) (⟨by omega, by omega⟩) (fun h149 => ?_) (fun h149 => ?_) | refine r_if_eq_any (pc := 149) hX 88 (tgt := 157) rfl (by decide) ?_ ?_
      · refine r_aload_n (pc := 157) hX 92 rfl rfl ?_
        refine r_ldc2 (y := 123610794124658) (pc := 158) hX 93 rfl kl_X12_136 (by decide) ?_
        refine r_callV (as := [(1, 123610794124658)]) (st := []) (K := 12) (pc := 161) hX 94 rfl mo_m_isWord ml_X12_247 im_m_isWord se_m_isWord (c_isWordT g v ρ Z hG (123610794124658) (hT) (by omega) (by decide)) rfl rfl rfl hG.1 (by rw [hRm]; exact ⟨by decide, by decide⟩) (by rw [hRm]; exact ⟨by decide, by decide⟩) (Nat.le_of_ble_eq_true rfl) (fun o161 v161 ρ161 Z161 hq161 _ => ?_)
        obtain ⟨rfl, rfl, rfl, r161, rfl, hq161⟩ := hq161
        show wp g X F_m_line 0 0 164 [(2, 178), (3, 0)] [(0, r161)] v ρ Z
        have hk161 := ky_of hT 3 (by decide) (by decide) hq161
        replace hq161 := Hd.i hq161
        first | refine r_if_eq (pc := 164) hX 95 (tgt := 228) rfl (by decide) (⟨by omega, by omega⟩) (fun h164 => ?_) (fun h164 => ?_) | refine r_if_eq_any (pc := 164) hX 95 (tgt := 228) rfl (by decide) ?_ ?_
        · refine r_aload_n (pc := 228) hX 136 rfl rfl ?_
          refine r_ldc2 (y := 1735352684) (pc := 229) hX 137 rfl kl_X12_138 (by decide) ?_
          refine r_callV (as := [(1, 1735352684)]) (st := []) (K := 12) (pc := 232) hX 138 rfl mo_m_isWord ml_X12_247 im_m_isWord se_m_isWord (c_isWordT g v ρ Z hG (1735352684) (hT) (by omega) (by decide)) rfl rfl rfl hG.1 (by rw [hRm]; exact ⟨by decide, by decide⟩) (by rw [hRm]; exact ⟨by decide, by decide⟩) (Nat.le_of_ble_eq_true rfl) (fun o232 v232 ρ232 Z232 hq232 _ => ?_)
          obtain ⟨rfl, rfl, rfl, r232, rfl, hq232⟩ := hq232
          show wp g X F_m_line 0 0 235 [(2, 178), (3, 0)] [(0, r232)] v ρ Z
          have hk232 := ky_of hT 4 (by decide) (by decide) hq232
          replace hq232 := Hd.i hq232
          first | refine r_if_eq (pc := 235) hX 139 (tgt := 263) rfl (by decide) (⟨by omega, by omega⟩) (fun h235 => ?_) (fun h235 => ?_) | refine r_if_eq_any (pc := 235) hX 139 (tgt := 263) rfl (by decide) ?_ ?_
          · refine r_aload_n (pc := 263) hX 154 rfl rfl ?_
            refine r_ldc2 (y := 1667330675) (pc := 264) hX 155 rfl kl_X12_140 (by decide) ?_
            refine r_callV (as := [(1, 1667330675)]) (st := []) (K := 12) (pc := 267) hX 156 rfl mo_m_isWord ml_X12_247 im_m_isWord se_m_isWord (c_isWordT g v ρ Z hG (1667330675) (hT) (by omega) (by decide)) rfl rfl rfl hG.1 (by rw [hRm]; exact ⟨by decide, by decide⟩) (by rw [hRm]; exact ⟨by decide, by decide⟩) (Nat.le_of_ble_eq_true rfl) (fun o267 v267 ρ267 Z267 hq267 _ => ?_)
            obtain ⟨rfl, rfl, rfl, r267, rfl, hq267⟩ := hq267
            show wp g X F_m_line 0 0 270 [(2, 178), (3, 0)] [(0, r267)] v ρ Z
            have hk267 := ky_of hT 5 (by decide) (by decide) hq267
            replace hq267 := Hd.i hq267
            first | refine r_if_eq (pc := 270) hX 157 (tgt := 298) rfl (by decide) (⟨by omega, by omega⟩) (fun h270 => ?_) (fun h270 => ?_) | refine r_if_eq_any (pc := 270) hX 157 (tgt := 298) rfl (by decide) ?_ ?_
            · refine r_aload_n (pc := 298) hX 172 rfl rfl ?_
              refine r_ldc2 (y := 109299962373989) (pc := 299) hX 173 rfl kl_X12_142 (by decide) ?_
              refine r_callV (as := [(1, 109299962373989)]) (st := []) (K := 12) (pc := 302) hX 174 rfl mo_m_isWord ml_X12_247 im_m_isWord se_m_isWord (c_isWordT g v ρ Z hG (109299962373989) (hT) (by omega) (by decide)) rfl rfl rfl hG.1 (by rw [hRm]; exact ⟨by decide, by decide⟩) (by rw [hRm]; exact ⟨by decide, by decide⟩) (Nat.le_of_ble_eq_true rfl) (fun o302 v302 ρ302 Z302 hq302 _ => ?_)
              obtain ⟨rfl, rfl, rfl, r302, rfl, hq302⟩ := hq302
              show wp g X F_m_line 0 0 305 [(2, 178), (3, 0)] [(0, r302)] v ρ Z
              have hk302 := ky_of hT 6 (by decide) (by decide) hq302
              replace hq302 := Hd.i hq302
              first | refine r_if_ne (pc := 305) hX 175 (tgt := 314) rfl (by decide) (⟨by omega, by omega⟩) (fun h305 => ?_) (fun h305 => ?_) | refine r_if_ne_any (pc := 305) hX 175 (tgt := 314) rfl (by decide) ?_ ?_
              · refine t_getR (pc := 314) hX 180 rfl rfl rfl fl_X12_37 rfl hG.1 (a_h hG).1 ?_
                refine r_iconst (pc := 318) hX 182 rfl ?_
                refine r_iconst (pc := 319) hX 183 rfl ?_
                refine e_iast (pc := 320) hX 184 rfl (a_h hG).2.1 (a_h hG).2.2 (by decide) (by omega) (by omega) ?_
                refine r_aload_n (pc := 321) hX 185 rfl rfl ?_
                refine r_iconst (pc := 322) hX 186 rfl ?_
                refine r_callV (as := [(0, 2)]) (st := []) (K := 12) (pc := 323) hX 187 rfl mo_m_isOnce ml_X12_263 im_m_isOnce se_m_isOnce (c_isOnceF g (up v 181 5 1) ρ Z hG (2) (by (repeat (first | rw [up_k (by decide)] | rw [up_s] | rw [up_r (by decide)])); omega) (hT.arr (by decide) (by decide)) (by omega) (hob.1)) rfl rfl rfl hG.1 (by rw [hRm]; exact ⟨by decide, by decide⟩) (by rw [hRm]; exact ⟨by decide, by decide⟩) (Nat.le_of_ble_eq_true rfl) (fun o323 v323 ρ323 Z323 hq323 _ => ?_)
                obtain ⟨rfl, rfl, hfr323, r323, rfl, hq323⟩ := hq323
                try simp only [up_f (show (178 : Int) ≠ 181 by decide), up_f (show (180 : Int) ≠ 181 by decide)] at hq323
                have hRsI_323 : RsI (v323 184) := by rw [hfr323.1 184 (by decide) (by decide), up_f (by decide)]; exact hrs
                have hk323_3 : v323 178 3 = (v 178 3) := (hfr323.2 3 (by decide)).trans ((up_r (by decide)).trans (rfl))
                have hk323_5 : v323 178 5 = (v 178 5) := (hfr323.2 5 (by decide)).trans ((up_r (by decide)).trans (rfl))
                show wp g X F_m_line 0 0 326 [(2, 178), (3, 0)] [(0, r323)] v323 ρ Z
                exact r_zret (pc := 326) hX 188 hQ rfl rfl ⟨by omega, by omega⟩ (Nat.le_refl 0) (Nat.le_refl 0) ⟨rfl, rfl, ((Fr.rf).arr (r := 181) (by decide) (by decide)).tr hfr323 (by decide) (by decide), r323, rfl, (by omega), (by omega), (Hd.i (fun _ => by rw [hfr323.1 181 (by decide) (by decide)]; exact HInv.put hV (k := 5) (fun j hj => up_k hj) (by omega) (HB.mk5 (by rw [up_s]; omega)) (by omega))), (by
        rcases hq323.2.2 with ⟨a, b, c, d⟩ | ⟨a, b, c, d⟩
        · have e : s.H 5 = 0 := hob.2.2.2.symm.trans b
          rw [a, rLine_6 (by omega)]
          unfold rChange
          rw [if_neg (fun z => z e)]
          exact Or.inl ⟨rfl, rfl, hR.once2 e d c (hfr323.1 181 (by decide) (by decide)) ((hfr323.1 183 (by decide) (by decide)).trans (up_f (by decide)))⟩
        · have e : s.H 5 = 1 := hob.2.2.2.symm.trans b
          rw [a]
          exact (PoM.bad (s := s) ((rLine_6 (by omega)).trans (if_pos (by omega))) (show (3 : Int) ≠ 0 by decide) c d).L), (fun j hj => by first | exact hn37 j hj | exact hn194 j hj | (rw [hfr50.1 183 (by decide) (by decide)]; exact hn37 j hj) | (rw [hfr208.1 183 (by decide) (by decide)]; exact hn194 j hj) | (rw [up_f (by decide), hfr50.1 183 (by decide) (by decide)]; exact hn37 j hj) | (rw [up_f (by decide), hfr208.1 183 (by decide) (by decide)]; exact hn194 j hj) | rw [hfr24.1 183 (by decide) (by decide)] | rw [hfr181.1 183 (by decide) (by decide)] | rw [hfr310.1 183 (by decide) (by decide)] | rw [hfr93.1 183 (by decide) (by decide), hfr81.1 183 (by decide) (by decide)] | rw [hfr119.1 183 (by decide) (by decide), hfr93.1 183 (by decide) (by decide), hfr81.1 183 (by decide) (by decide)] | rw [hfr240.1 183 (by decide) (by decide)] | rw [hfr251.1 183 (by decide) (by decide), hfr240.1 183 (by decide) (by decide)] | rw [hfr275.1 183 (by decide) (by decide)] | rw [hfr286.1 183 (by decide) (by decide), hfr275.1 183 (by decide) (by decide)] | rw [hfr137.1 183 (by decide) (by decide), up_f (by decide), hfr93.1 183 (by decide) (by decide), hfr81.1 183 (by decide) (by decide)] | rw [hfr323.1 183 (by decide) (by decide), up_f (by decide)])⟩
              · refine r_aload_n (pc := 308) hX 176 rfl rfl ?_
                refine r_iconst (pc := 309) hX 177 rfl ?_
                refine r_callV (as := [(0, 1)]) (st := []) (K := 12) (pc := 310) hX 178 rfl mo_m_bad ml_X12_216 im_m_bad se_m_bad (c_badF g v ρ Z hG (1) (by omega)) rfl rfl rfl hG.1 (by rw [hRm]; exact ⟨by decide, by decide⟩) (by rw [hRm]; exact ⟨by decide, by decide⟩) (Nat.le_of_ble_eq_true rfl) (fun o310 v310 ρ310 Z310 hq310 _ => ?_)
                obtain ⟨rfl, rfl, hfr310, r310, rfl, hq310⟩ := hq310
                have hRsI_310 : RsI (v310 184) := by rw [hfr310.1 184 (by decide) (by decide)]; exact hrs
                have hk310_3 : v310 178 3 = (v 178 3) := (hfr310.2 3 (by decide)).trans (rfl)
                have hk310_4 : v310 178 4 = (v 178 4) := (hfr310.2 4 (by decide)).trans (rfl)
                have hk310_5 : v310 178 5 = (v 178 5) := (hfr310.2 5 (by decide)).trans (rfl)
                have hk310_11 : v310 178 11 = (v 178 11) := (hfr310.2 11 (by decide)).trans (rfl)
                have hk310_14 : v310 178 14 = (v 178 14) := (hfr310.2 14 (by decide)).trans (rfl)
                show wp g X F_m_line 0 0 313 [(2, 178), (3, 0)] [(0, r310)] v310 ρ Z
                exact r_zret (pc := 313) hX 179 hQ rfl rfl ⟨by omega, by omega⟩ (Nat.le_refl 0) (Nat.le_refl 0) ⟨rfl, rfl, (Fr.rf).tr hfr310 (by decide) (by decide), r310, rfl, (by (repeat (first | rw [up_k (by decide)] | rw [up_s] | rw [up_r (by decide)])); omega), (by omega), (Hd.i (fun z => absurd z (by first | decide | omega))), (by rw [hq310.1]; exact (PoM.bad (s := s) (rLine_7 (by have := ky_r (F := F) (n := n) (m := m) (s := s); omega)) (show (1 : Int) ≠ 0 by decide) hq310.2.1 (hq310.2.2.trans h12)).L), (fun j hj => by first | exact hn37 j hj | exact hn194 j hj | (rw [hfr50.1 183 (by decide) (by decide)]; exact hn37 j hj) | (rw [hfr208.1 183 (by decide) (by decide)]; exact hn194 j hj) | (rw [up_f (by decide), hfr50.1 183 (by decide) (by decide)]; exact hn37 j hj) | (rw [up_f (by decide), hfr208.1 183 (by decide) (by decide)]; exact hn194 j hj) | rw [hfr24.1 183 (by decide) (by decide)] | rw [hfr181.1 183 (by decide) (by decide)] | rw [hfr310.1 183 (by decide) (by decide)] | rw [hfr93.1 183 (by decide) (by decide), hfr81.1 183 (by decide) (by decide)] | rw [hfr119.1 183 (by decide) (by decide), hfr93.1 183 (by decide) (by decide), hfr81.1 183 (by decide) (by decide)] | rw [hfr240.1 183 (by decide) (by decide)] | rw [hfr251.1 183 (by decide) (by decide), hfr240.1 183 (by decide) (by decide)] | rw [hfr275.1 183 (by decide) (by decide)] | rw [hfr286.1 183 (by decide) (by decide), hfr275.1 183 (by decide) (by decide)] | rw [hfr137.1 183 (by decide) (by decide), up_f (by decide), hfr93.1 183 (by decide) (by decide), hfr81.1 183 (by decide) (by decide)] | rw [hfr323.1 183 (by decide) (by decide), up_f (by decide)])⟩
            · refine r_aload_n (pc := 273) hX 158 rfl rfl ?_
              refine r_iconst (pc := 274) hX 159 rfl ?_
              refine r_callV (as := [(0, 1)]) (st := []) (K := 12) (pc := 275) hX 160 rfl mo_m_isOnce ml_X12_263 im_m_isOnce se_m_isOnce (c_isOnceF g v ρ Z hG (1) (by omega) (hT) (by omega) (hob.1)) rfl rfl rfl hG.1 (by rw [hRm]; exact ⟨by decide, by decide⟩) (by rw [hRm]; exact ⟨by decide, by decide⟩) (Nat.le_of_ble_eq_true rfl) (fun o275 v275 ρ275 Z275 hq275 _ => ?_)
              obtain ⟨rfl, rfl, hfr275, r275, rfl, hq275⟩ := hq275
              have hRsI_275 : RsI (v275 184) := by rw [hfr275.1 184 (by decide) (by decide)]; exact hrs
              have hk275_3 : v275 178 3 = (v 178 3) := (hfr275.2 3 (by decide)).trans (rfl)
              have hk275_5 : v275 178 5 = (v 178 5) := (hfr275.2 5 (by decide)).trans (rfl)
              show wp g X F_m_line 0 0 278 [(2, 178), (3, 0)] [(0, r275)] v275 ρ Z
              have eh275 : v275 181 = v 181 := hfr275.1 181 (by decide) (by decide)
              have hO275 := hq275.2.2
              replace hq275 := And.intro hq275.1 hq275.2.1
              first | refine r_if_eq (pc := 278) hX 161 (tgt := 296) rfl (by decide) (⟨by omega, by omega⟩) (fun h278 => ?_) (fun h278 => ?_) | refine r_if_eq_any (pc := 278) hX 161 (tgt := 296) rfl (by decide) ?_ ?_
              · refine r_iconst (pc := 296) hX 170 rfl ?_
                exact r_zret (pc := 297) hX 171 hQ rfl rfl ⟨by omega, by omega⟩ (Nat.le_refl 0) (Nat.le_refl 0) ⟨rfl, rfl, (Fr.rf).tr hfr275 (by decide) (by decide), 0, rfl, (by (repeat (first | rw [up_k (by decide)] | rw [up_s] | rw [up_r (by decide)])); omega), (by omega), (by first | exact Hd.i (fun z => absurd z (by decide)) | exact Hd.i (fun _ => hI286 (by omega))), (by
        first
        | (exact once_b (q := rNum F n m s 4 1 12) hP286 (by omega) rfl rfl ((rLine_5 (by omega)).trans (if_neg (fun z => z ho1))))
        | (obtain ⟨a, b⟩ := hP286.p1 (by omega); rw [rLine_5 (by omega)]; unfold rCars; rw [if_neg (fun z => z ho1), thn_0 (show (rNum F n m s 4 1 12).1 = 0 from a)]; exact Or.inl ⟨rfl, rfl, b⟩)
        | (rcases hO275 with ⟨a, _⟩ | ⟨_, a, b, c⟩; exact absurd a (by omega); exact (PoM.bad (s := s) ((rLine_5 (by omega)).trans (if_pos (by omega))) (show (3 : Int) ≠ 0 by decide) b c).L)), (fun j hj => by first | exact hn37 j hj | exact hn194 j hj | (rw [hfr50.1 183 (by decide) (by decide)]; exact hn37 j hj) | (rw [hfr208.1 183 (by decide) (by decide)]; exact hn194 j hj) | (rw [up_f (by decide), hfr50.1 183 (by decide) (by decide)]; exact hn37 j hj) | (rw [up_f (by decide), hfr208.1 183 (by decide) (by decide)]; exact hn194 j hj) | rw [hfr24.1 183 (by decide) (by decide)] | rw [hfr181.1 183 (by decide) (by decide)] | rw [hfr310.1 183 (by decide) (by decide)] | rw [hfr93.1 183 (by decide) (by decide), hfr81.1 183 (by decide) (by decide)] | rw [hfr119.1 183 (by decide) (by decide), hfr93.1 183 (by decide) (by decide), hfr81.1 183 (by decide) (by decide)] | rw [hfr240.1 183 (by decide) (by decide)] | rw [hfr251.1 183 (by decide) (by decide), hfr240.1 183 (by decide) (by decide)] | rw [hfr275.1 183 (by decide) (by decide)] | rw [hfr286.1 183 (by decide) (by decide), hfr275.1 183 (by decide) (by decide)] | rw [hfr137.1 183 (by decide) (by decide), up_f (by decide), hfr93.1 183 (by decide) (by decide), hfr81.1 183 (by decide) (by decide)] | rw [hfr323.1 183 (by decide) (by decide), up_f (by decide)])⟩
              · have hC275 : s.o1 = 0 ∧ RdM F n m v275 (nx F n m (Rd.w1 s 1)) := by
                  rcases hO275 with ⟨_, a, b, c⟩ | ⟨a, _⟩
                  · exact ⟨by omega, hR.once1 (by omega) c b eh275 (hfr275.1 183 (by decide) (by decide))⟩
                  · exact absurd a (by omega)
                obtain ⟨ho1, hR275⟩ := hC275
                refine r_aload_n (pc := 281) hX 162 rfl rfl ?_
                refine r_iconst (pc := 282) hX 163 rfl ?_
                refine r_iconst (pc := 283) hX 164 rfl ?_
                refine r_bipush (pc := 284) hX 165 rfl (by decide) ?_
                refine r_callV (as := [(0, 4), (0, 1), (0, 12)]) (st := []) (K := 12) (pc := 286) hX 166 rfl mo_m_puts ml_X12_254 im_m_puts se_m_puts (c_putsF g v275 ρ Z hG (4) (1) (12) (by omega) (hR275.1) (by omega) (by omega) (by omega)) rfl rfl rfl hG.1 (by rw [hRm]; exact ⟨by decide, by decide⟩) (by rw [hRm]; exact ⟨by decide, by decide⟩) (Nat.le_of_ble_eq_true rfl) (fun o286 v286 ρ286 Z286 hq286 _ => ?_)
                obtain ⟨rfl, rfl, hfr286, r286, rfl, hq286⟩ := hq286
                have hRsI_286 : RsI (v286 184) := by rw [hfr286.1 184 (by decide) (by decide)]; exact hRsI_275
                have hk286_3 : v286 178 3 = (v275 178 3) := (hfr286.2 3 (by decide)).trans (rfl)
                have hk286_5 : v286 178 5 = (v275 178 5) := (hfr286.2 5 (by decide)).trans (rfl)
                show wp g X F_m_line 0 0 289 [(2, 178), (3, 0)] [(0, r286)] v286 ρ Z
                have hP286 := hq286.2.2.1.po hR275 (by omega) (fun _ => hq286.2.2.2) (hfr286.1 183 (by decide) (by decide)) (hfr286.2 20 (by decide))
                have hU286 := hq286.2.2.1
                have hof286 := hq286.2.2.2
                replace hq286 := And.intro hq286.1 hq286.2.1
                have eo286 : ∀ j, j ≠ 4 → v286 181 j = v 181 j := fun j a => by rw [hof286 j a, eh275]
                have hI286 : r286 ≠ 0 → HInv (v286 181) := fun b => by
                  have hUb := hU286.b b
                  exact HInv.put hV (k := 4) (fun j a => eo286 j a) (by omega) (HB.mk4 (by omega)) (by omega)
                rw [rNumAt_o1] at hP286
                first | refine r_if_eq (pc := 289) hX 167 (tgt := 296) rfl (by decide) (⟨by omega, by omega⟩) (fun h289 => ?_) (fun h289 => ?_) | refine r_if_eq_any (pc := 289) hX 167 (tgt := 296) rfl (by decide) ?_ ?_
                · refine r_iconst (pc := 296) hX 170 rfl ?_
                  exact r_zret (pc := 297) hX 171 hQ rfl rfl ⟨by omega, by omega⟩ (Nat.le_refl 0) (Nat.le_refl 0) ⟨rfl, rfl, ((Fr.rf).tr hfr275 (by decide) (by decide)).tr hfr286 (by decide) (by decide), 0, rfl, (by (repeat (first | rw [up_k (by decide)] | rw [up_s] | rw [up_r (by decide)])); omega), (by omega), (by first | exact Hd.i (fun z => absurd z (by decide)) | exact Hd.i (fun _ => hI286 (by omega))), (by
        first
        | (exact once_b (q := rNum F n m s 4 1 12) hP286 (by omega) rfl rfl ((rLine_5 (by omega)).trans (if_neg (fun z => z ho1))))
        | (obtain ⟨a, b⟩ := hP286.p1 (by omega); rw [rLine_5 (by omega)]; unfold rCars; rw [if_neg (fun z => z ho1), thn_0 (show (rNum F n m s 4 1 12).1 = 0 from a)]; exact Or.inl ⟨rfl, rfl, b⟩)
        | (rcases hO275 with ⟨a, _⟩ | ⟨_, a, b, c⟩; exact absurd a (by omega); exact (PoM.bad (s := s) ((rLine_5 (by omega)).trans (if_pos (by omega))) (show (3 : Int) ≠ 0 by decide) b c).L)), (fun j hj => by first | exact hn37 j hj | exact hn194 j hj | (rw [hfr50.1 183 (by decide) (by decide)]; exact hn37 j hj) | (rw [hfr208.1 183 (by decide) (by decide)]; exact hn194 j hj) | (rw [up_f (by decide), hfr50.1 183 (by decide) (by decide)]; exact hn37 j hj) | (rw [up_f (by decide), hfr208.1 183 (by decide) (by decide)]; exact hn194 j hj) | rw [hfr24.1 183 (by decide) (by decide)] | rw [hfr181.1 183 (by decide) (by decide)] | rw [hfr310.1 183 (by decide) (by decide)] | rw [hfr93.1 183 (by decide) (by decide), hfr81.1 183 (by decide) (by decide)] | rw [hfr119.1 183 (by decide) (by decide), hfr93.1 183 (by decide) (by decide), hfr81.1 183 (by decide) (by decide)] | rw [hfr240.1 183 (by decide) (by decide)] | rw [hfr251.1 183 (by decide) (by decide), hfr240.1 183 (by decide) (by decide)] | rw [hfr275.1 183 (by decide) (by decide)] | rw [hfr286.1 183 (by decide) (by decide), hfr275.1 183 (by decide) (by decide)] | rw [hfr137.1 183 (by decide) (by decide), up_f (by decide), hfr93.1 183 (by decide) (by decide), hfr81.1 183 (by decide) (by decide)] | rw [hfr323.1 183 (by decide) (by decide), up_f (by decide)])⟩
                · refine r_iconst (pc := 292) hX 168 rfl ?_
                  refine r_goto (pc := 293) hX 169 (tgt := 297) rfl (by decide) ?_
                  exact r_zret (pc := 297) hX 171 hQ rfl rfl ⟨by omega, by omega⟩ (Nat.le_refl 0) (Nat.le_refl 0) ⟨rfl, rfl, ((Fr.rf).tr hfr275 (by decide) (by decide)).tr hfr286 (by decide) (by decide), 1, rfl, (by (repeat (first | rw [up_k (by decide)] | rw [up_s] | rw [up_r (by decide)])); omega), (by omega), (by first | exact Hd.i (fun z => absurd z (by decide)) | exact Hd.i (fun _ => hI286 (by omega))), (by
        first
        | (exact once_b (q := rNum F n m s 4 1 12) hP286 (by omega) rfl rfl ((rLine_5 (by omega)).trans (if_neg (fun z => z ho1))))
        | (obtain ⟨a, b⟩ := hP286.p1 (by omega); rw [rLine_5 (by omega)]; unfold rCars; rw [if_neg (fun z => z ho1), thn_0 (show (rNum F n m s 4 1 12).1 = 0 from a)]; exact Or.inl ⟨rfl, rfl, b⟩)
        | (rcases hO275 with ⟨a, _⟩ | ⟨_, a, b, c⟩; exact absurd a (by omega); exact (PoM.bad (s := s) ((rLine_5 (by omega)).trans (if_pos (by omega))) (show (3 : Int) ≠ 0 by decide) b c).L)), (fun j hj => by first | exact hn37 j hj | exact hn194 j hj | (rw [hfr50.1 183 (by decide) (by decide)]; exact hn37 j hj) | (rw [hfr208.1 183 (by decide) (by decide)]; exact hn194 j hj) | (rw [up_f (by decide), hfr50.1 183 (by decide) (by decide)]; exact hn37 j hj) | (rw [up_f (by decide), hfr208.1 183 (by decide) (by decide)]; exact hn194 j hj) | rw [hfr24.1 183 (by decide) (by decide)] | rw [hfr181.1 183 (by decide) (by decide)] | rw [hfr310.1 183 (by decide) (by decide)] | rw [hfr93.1 183 (by decide) (by decide), hfr81.1 183 (by decide) (by decide)] | rw [hfr119.1 183 (by decide) (by decide), hfr93.1 183 (by decide) (by decide), hfr81.1 183 (by decide) (by decide)] | rw [hfr240.1 183 (by decide) (by decide)] | rw [hfr251.1 183 (by decide) (by decide), hfr240.1 183 (by decide) (by decide)] | rw [hfr275.1 183 (by decide) (by decide)] | rw [hfr286.1 183 (by decide) (by decide), hfr275.1 183 (by decide) (by decide)] | rw [hfr137.1 183 (by decide) (by decide), up_f (by decide), hfr93.1 183 (by decide) (by decide), hfr81.1 183 (by decide) (by decide)] | rw [hfr323.1 183 (by decide) (by decide), up_f (by decide)])⟩
          · refine r_aload_n (pc := 238) hX 140 rfl rfl ?_
            refine r_iconst (pc := 239) hX 141 rfl ?_
            refine r_callV (as := [(0, 0)]) (st := []) (K := 12) (pc := 240) hX 142 rfl mo_m_isOnce ml_X12_263 im_m_isOnce se_m_isOnce (c_isOnceF g v ρ Z hG (0) (by omega) (hT) (by omega) (hob.1)) rfl rfl rfl hG.1 (by rw [hRm]; exact ⟨by decide, by decide⟩) (by rw [hRm]; exact ⟨by decide, by decide⟩) (Nat.le_of_ble_eq_true rfl) (fun o240 v240 ρ240 Z240 hq240 _ => ?_)
            obtain ⟨rfl, rfl, hfr240, r240, rfl, hq240⟩ := hq240
            have hRsI_240 : RsI (v240 184) := by rw [hfr240.1 184 (by decide) (by decide)]; exact hrs
            have hk240_3 : v240 178 3 = (v 178 3) := (hfr240.2 3 (by decide)).trans (rfl)
            have hk240_5 : v240 178 5 = (v 178 5) := (hfr240.2 5 (by decide)).trans (rfl)
            show wp g X F_m_line 0 0 243 [(2, 178), (3, 0)] [(0, r240)] v240 ρ Z
            have eh240 : v240 181 = v 181 := hfr240.1 181 (by decide) (by decide)
            have hO240 := hq240.2.2
            replace hq240 := And.intro hq240.1 hq240.2.1
            first | refine r_if_eq (pc := 243) hX 143 (tgt := 261) rfl (by decide) (⟨by omega, by omega⟩) (fun h243 => ?_) (fun h243 => ?_) | refine r_if_eq_any (pc := 243) hX 143 (tgt := 261) rfl (by decide) ?_ ?_
            · refine r_iconst (pc := 261) hX 152 rfl ?_
              exact r_zret (pc := 262) hX 153 hQ rfl rfl ⟨by omega, by omega⟩ (Nat.le_refl 0) (Nat.le_refl 0) ⟨rfl, rfl, (Fr.rf).tr hfr240 (by decide) (by decide), 0, rfl, (by (repeat (first | rw [up_k (by decide)] | rw [up_s] | rw [up_r (by decide)])); omega), (by omega), (by first | exact Hd.i (fun z => absurd z (by decide)) | exact Hd.i (fun _ => hI251 (by omega))), (by
        first
        | (exact once_b (q := rNum F n m s 3 1 9) hP251 (by omega) rfl rfl ((rLine_4 (by omega)).trans (if_neg (fun z => z ho0))))
        | (obtain ⟨a, b⟩ := hP251.p1 (by omega); rw [rLine_4 (by omega)]; unfold rGoal; rw [if_neg (fun z => z ho0), thn_0 (show (rNum F n m s 3 1 9).1 = 0 from a)]; exact Or.inl ⟨rfl, rfl, b⟩)
        | (rcases hO240 with ⟨a, _⟩ | ⟨_, a, b, c⟩; exact absurd a (by omega); exact (PoM.bad (s := s) ((rLine_4 (by omega)).trans (if_pos (by omega))) (show (3 : Int) ≠ 0 by decide) b c).L)), (fun j hj => by first | exact hn37 j hj | exact hn194 j hj | (rw [hfr50.1 183 (by decide) (by decide)]; exact hn37 j hj) | (rw [hfr208.1 183 (by decide) (by decide)]; exact hn194 j hj) | (rw [up_f (by decide), hfr50.1 183 (by decide) (by decide)]; exact hn37 j hj) | (rw [up_f (by decide), hfr208.1 183 (by decide) (by decide)]; exact hn194 j hj) | rw [hfr24.1 183 (by decide) (by decide)] | rw [hfr181.1 183 (by decide) (by decide)] | rw [hfr310.1 183 (by decide) (by decide)] | rw [hfr93.1 183 (by decide) (by decide), hfr81.1 183 (by decide) (by decide)] | rw [hfr119.1 183 (by decide) (by decide), hfr93.1 183 (by decide) (by decide), hfr81.1 183 (by decide) (by decide)] | rw [hfr240.1 183 (by decide) (by decide)] | rw [hfr251.1 183 (by decide) (by decide), hfr240.1 183 (by decide) (by decide)] | rw [hfr275.1 183 (by decide) (by decide)] | rw [hfr286.1 183 (by decide) (by decide), hfr275.1 183 (by decide) (by decide)] | rw [hfr137.1 183 (by decide) (by decide), up_f (by decide), hfr93.1 183 (by decide) (by decide), hfr81.1 183 (by decide) (by decide)] | rw [hfr323.1 183 (by decide) (by decide), up_f (by decide)])⟩
            · have hC240 : s.o0 = 0 ∧ RdM F n m v240 (nx F n m (Rd.w0 s 1)) := by
                rcases hO240 with ⟨_, a, b, c⟩ | ⟨a, _⟩
                · exact ⟨by omega, hR.once0 (by omega) c b eh240 (hfr240.1 183 (by decide) (by decide))⟩
                · exact absurd a (by omega)
              obtain ⟨ho0, hR240⟩ := hC240
              refine r_aload_n (pc := 246) hX 144 rfl rfl ?_
              refine r_iconst (pc := 247) hX 145 rfl ?_
              refine r_iconst (pc := 248) hX 146 rfl ?_
              refine r_bipush (pc := 249) hX 147 rfl (by decide) ?_
              refine r_callV (as := [(0, 3), (0, 1), (0, 9)]) (st := []) (K := 12) (pc := 251) hX 148 rfl mo_m_puts ml_X12_254 im_m_puts se_m_puts (c_putsF g v240 ρ Z hG (3) (1) (9) (by omega) (hR240.1) (by omega) (by omega) (by omega)) rfl rfl rfl hG.1 (by rw [hRm]; exact ⟨by decide, by decide⟩) (by rw [hRm]; exact ⟨by decide, by decide⟩) (Nat.le_of_ble_eq_true rfl) (fun o251 v251 ρ251 Z251 hq251 _ => ?_)
              obtain ⟨rfl, rfl, hfr251, r251, rfl, hq251⟩ := hq251
              have hRsI_251 : RsI (v251 184) := by rw [hfr251.1 184 (by decide) (by decide)]; exact hRsI_240
              have hk251_3 : v251 178 3 = (v240 178 3) := (hfr251.2 3 (by decide)).trans (rfl)
              have hk251_5 : v251 178 5 = (v240 178 5) := (hfr251.2 5 (by decide)).trans (rfl)
              show wp g X F_m_line 0 0 254 [(2, 178), (3, 0)] [(0, r251)] v251 ρ Z
              have hP251 := hq251.2.2.1.po hR240 (by omega) (fun _ => hq251.2.2.2) (hfr251.1 183 (by decide) (by decide)) (hfr251.2 20 (by decide))
              have hU251 := hq251.2.2.1
              have hof251 := hq251.2.2.2
              replace hq251 := And.intro hq251.1 hq251.2.1
              have eo251 : ∀ j, j ≠ 3 → v251 181 j = v 181 j := fun j a => by rw [hof251 j a, eh240]
              have hI251 : r251 ≠ 0 → HInv (v251 181) := fun b => by
                have hUb := hU251.b b
                exact HInv.put hV (k := 3) (fun j a => eo251 j a) (by omega) (HB.mk3 (by omega)) (by omega)
              rw [rNumAt_o0] at hP251
              first | refine r_if_eq (pc := 254) hX 149 (tgt := 261) rfl (by decide) (⟨by omega, by omega⟩) (fun h254 => ?_) (fun h254 => ?_) | refine r_if_eq_any (pc := 254) hX 149 (tgt := 261) rfl (by decide) ?_ ?_
              · refine r_iconst (pc := 261) hX 152 rfl ?_
                exact r_zret (pc := 262) hX 153 hQ rfl rfl ⟨by omega, by omega⟩ (Nat.le_refl 0) (Nat.le_refl 0) ⟨rfl, rfl, ((Fr.rf).tr hfr240 (by decide) (by decide)).tr hfr251 (by decide) (by decide), 0, rfl, (by (repeat (first | rw [up_k (by decide)] | rw [up_s] | rw [up_r (by decide)])); omega), (by omega), (by first | exact Hd.i (fun z => absurd z (by decide)) | exact Hd.i (fun _ => hI251 (by omega))), (by
        first
        | (exact once_b (q := rNum F n m s 3 1 9) hP251 (by omega) rfl rfl ((rLine_4 (by omega)).trans (if_neg (fun z => z ho0))))
        | (obtain ⟨a, b⟩ := hP251.p1 (by omega); rw [rLine_4 (by omega)]; unfold rGoal; rw [if_neg (fun z => z ho0), thn_0 (show (rNum F n m s 3 1 9).1 = 0 from a)]; exact Or.inl ⟨rfl, rfl, b⟩)
        | (rcases hO240 with ⟨a, _⟩ | ⟨_, a, b, c⟩; exact absurd a (by omega); exact (PoM.bad (s := s) ((rLine_4 (by omega)).trans (if_pos (by omega))) (show (3 : Int) ≠ 0 by decide) b c).L)), (fun j hj => by first | exact hn37 j hj | exact hn194 j hj | (rw [hfr50.1 183 (by decide) (by decide)]; exact hn37 j hj) | (rw [hfr208.1 183 (by decide) (by decide)]; exact hn194 j hj) | (rw [up_f (by decide), hfr50.1 183 (by decide) (by decide)]; exact hn37 j hj) | (rw [up_f (by decide), hfr208.1 183 (by decide) (by decide)]; exact hn194 j hj) | rw [hfr24.1 183 (by decide) (by decide)] | rw [hfr181.1 183 (by decide) (by decide)] | rw [hfr310.1 183 (by decide) (by decide)] | rw [hfr93.1 183 (by decide) (by decide), hfr81.1 183 (by decide) (by decide)] | rw [hfr119.1 183 (by decide) (by decide), hfr93.1 183 (by decide) (by decide), hfr81.1 183 (by decide) (by decide)] | rw [hfr240.1 183 (by decide) (by decide)] | rw [hfr251.1 183 (by decide) (by decide), hfr240.1 183 (by decide) (by decide)] | rw [hfr275.1 183 (by decide) (by decide)] | rw [hfr286.1 183 (by decide) (by decide), hfr275.1 183 (by decide) (by decide)] | rw [hfr137.1 183 (by decide) (by decide), up_f (by decide), hfr93.1 183 (by decide) (by decide), hfr81.1 183 (by decide) (by decide)] | rw [hfr323.1 183 (by decide) (by decide), up_f (by decide)])⟩
              · refine r_iconst (pc := 257) hX 150 rfl ?_
                refine r_goto (pc := 258) hX 151 (tgt := 262) rfl (by decide) ?_
                exact r_zret (pc := 262) hX 153 hQ rfl rfl ⟨by omega, by omega⟩ (Nat.le_refl 0) (Nat.le_refl 0) ⟨rfl, rfl, ((Fr.rf).tr hfr240 (by decide) (by decide)).tr hfr251 (by decide) (by decide), 1, rfl, (by (repeat (first | rw [up_k (by decide)] | rw [up_s] | rw [up_r (by decide)])); omega), (by omega), (by first | exact Hd.i (fun z => absurd z (by decide)) | exact Hd.i (fun _ => hI251 (by omega))), (by
        first
        | (exact once_b (q := rNum F n m s 3 1 9) hP251 (by omega) rfl rfl ((rLine_4 (by omega)).trans (if_neg (fun z => z ho0))))
        | (obtain ⟨a, b⟩ := hP251.p1 (by omega); rw [rLine_4 (by omega)]; unfold rGoal; rw [if_neg (fun z => z ho0), thn_0 (show (rNum F n m s 3 1 9).1 = 0 from a)]; exact Or.inl ⟨rfl, rfl, b⟩)
        | (rcases hO240 with ⟨a, _⟩ | ⟨_, a, b, c⟩; exact absurd a (by omega); exact (PoM.bad (s := s) ((rLine_4 (by omega)).trans (if_pos (by omega))) (show (3 : Int) ≠ 0 by decide) b c).L)), (fun j hj => by first | exact hn37 j hj | exact hn194 j hj | (rw [hfr50.1 183 (by decide) (by decide)]; exact hn37 j hj) | (rw [hfr208.1 183 (by decide) (by decide)]; exact hn194 j hj) | (rw [up_f (by decide), hfr50.1 183 (by decide) (by decide)]; exact hn37 j hj) | (rw [up_f (by decide), hfr208.1 183 (by decide) (by decide)]; exact hn194 j hj) | rw [hfr24.1 183 (by decide) (by decide)] | rw [hfr181.1 183 (by decide) (by decide)] | rw [hfr310.1 183 (by decide) (by decide)] | rw [hfr93.1 183 (by decide) (by decide), hfr81.1 183 (by decide) (by decide)] | rw [hfr119.1 183 (by decide) (by decide), hfr93.1 183 (by decide) (by decide), hfr81.1 183 (by decide) (by decide)] | rw [hfr240.1 183 (by decide) (by decide)] | rw [hfr251.1 183 (by decide) (by decide), hfr240.1 183 (by decide) (by decide)] | rw [hfr275.1 183 (by decide) (by decide)] | rw [hfr286.1 183 (by decide) (by decide), hfr275.1 183 (by decide) (by decide)] | rw [hfr137.1 183 (by decide) (by decide), up_f (by decide), hfr93.1 183 (by decide) (by decide), hfr81.1 183 (by decide) (by decide)] | rw [hfr323.1 183 (by decide) (by decide), up_f (by decide)])⟩
        · refine t_getR (pc := 167) hX 96 rfl rfl rfl fl_X12_37 rfl hG.1 (a_h hG).1 ?_
          refine r_iconst (pc := 171) hX 98 rfl ?_
          refine e_iald (y := (v 181 2)) (pc := 172) hX 99 rfl (a_h hG).2.1 (a_h hG).2.2 (by omega) (by omega) (rfl) ?_
          obtain ⟨k0, hk0_e⟩ : ∃ z : Int, z = (v 181 2) := ⟨_, rfl⟩
          rw [← hk0_e]
          refine r_istore_n (ls' := [(2, 178), (0, k0)]) (pc := 173) hX 100 rfl (by decide) rfl ?_
          refine r_iload_n (pc := 174) hX 101 rfl rfl ?_
          refine r_iconst (pc := 175) hX 102 rfl ?_
          first | refine r_icmp_ne (pc := 176) hX 103 (tgt := 185) rfl (by decide) (⟨by omega, by omega⟩) (⟨by omega, by omega⟩) (fun h176 => ?_) (fun h176 => ?_) | refine r_icmp_ne_any (pc := 176) hX 103 (tgt := 185) rfl (by decide) ?_ ?_
          · refine r_aload_n (pc := 185) hX 108 rfl rfl ?_
            refine r_callV (as := []) (st := []) (K := 12) (pc := 186) hX 109 rfl mo_m_go ml_X12_219 im_m_go se_m_go (c_goT g v ρ Z hG  (by omega) (hT)) rfl rfl rfl hG.1 (by rw [hRm]; exact ⟨by decide, by decide⟩) (by rw [hRm]; exact ⟨by decide, by decide⟩) (Nat.le_of_ble_eq_true rfl) (fun o186 v186 ρ186 Z186 hq186 _ => ?_)
            obtain ⟨rfl, rfl, hfr186, rfl, hq186⟩ := hq186
            have hRsI_186 : RsI (v186 184) := by rw [hfr186.1 184 (by decide) (by decide)]; exact hrs
            have hk186_3 : v186 178 3 = (v 178 3) := (hfr186.2 3 (by decide)).trans (rfl)
            have hk186_5 : v186 178 5 = (v 178 5) := (hfr186.2 5 (by decide)).trans (rfl)
            show wp g X F_m_line 0 0 189 [(2, 178), (0, k0)] [] v186 ρ Z
            have eh186 : v186 181 = v 181 := hfr186.1 181 (by decide) (by decide)
            have hR186 : RdM F n m v186 (nx F n m s) := hR.go hfr186 (by decide) (by decide) hq186.2
            refine r_aload_n (pc := 189) hX 110 rfl rfl ?_
            refine r_bipush (pc := 190) hX 111 rfl (by decide) ?_
            refine r_iload_n (pc := 192) hX 112 rfl rfl ?_
            refine r_iadd (pc := 193) hX 113 rfl ?_
            refine r_callV (as := [(0, (17 + k0))]) (st := []) (K := 12) (pc := 194) hX 114 rfl mo_m_fresh ml_X12_251 im_m_fresh se_m_fresh (c_freshF g v186 ρ Z hG ((17 + k0)) (by omega) (by rw [eh186]; exact hz) (hR186) (hRsI_186) (by rw [eh186]; omega)) rfl rfl rfl hG.1 (by rw [hRm]; exact ⟨by decide, by decide⟩) (by rw [hRm]; exact ⟨by decide, by decide⟩) (Nat.le_of_ble_eq_true rfl) (fun o194 v194 ρ194 Z194 hq194 _ => ?_)
            obtain ⟨rfl, rfl, hfr194, r194, rfl, hq194⟩ := hq194
            have hRsI_194 : RsI (v194 184) := by rw [hfr194.1 184 (by decide) (by decide)]; exact hRsI_186
            have hk194_3 : v194 178 3 = (v186 178 3) := (hfr194.2 3 (by decide)).trans (rfl)
            have hk194_5 : v194 178 5 = (v186 178 5) := (hfr194.2 5 (by decide)).trans (rfl)
            show wp g X F_m_line 0 0 197 [(2, 178), (0, k0)] [(0, r194)] v194 ρ Z
            have eh194 : v194 181 = v186 181 := hfr194.1 181 (by decide) (by decide)
            have hF194 := hq194.2.2.1
            have hN194 := hq194.2.2.2
            have hn194 : ∀ j, j < 10 → v194 183 j = v 183 j := fun j hj => by rw [hN194 j (by omega), hfr186.1 183 (by decide) (by decide)]
            replace hq194 := And.intro hq194.1 hq194.2.1
            have hF194a : PoM F n m v194 r194 (adv F n m (rNewAt F n m (nx F n m s) (7 + s.H 2))) := by
              have z := hF194.1
              rw [show 17 + k0 - 10 = 7 + s.H 2 by omega] at z
              exact z
            first | refine r_if_eq (pc := 197) hX 115 (tgt := 214) rfl (by decide) (⟨by omega, by omega⟩) (fun h197 => ?_) (fun h197 => ?_) | refine r_if_eq_any (pc := 197) hX 115 (tgt := 214) rfl (by decide) ?_ ?_
            · refine r_iconst (pc := 214) hX 124 rfl ?_
              exact r_zret (pc := 215) hX 125 hQ rfl rfl ⟨by omega, by omega⟩ (Nat.le_refl 0) (Nat.le_refl 0) ⟨rfl, rfl, ((Fr.rf).tr hfr186 (by decide) (by decide)).tr hfr194 (by decide) (by decide), 0, rfl, (by (repeat (first | rw [up_k (by decide)] | rw [up_s] | rw [up_r (by decide)])); omega), (by omega), (Hd.i (fun z => absurd z (by first | decide | omega))), (by first | exact two_b1 ((rLine_3 (by omega)).trans (if_neg (by omega))) hF194a (by omega) | exact two_b2 ((rLine_3 (by omega)).trans (if_neg (by omega))) hz194 rfl hP208 (by omega)), (fun j hj => by first | exact hn37 j hj | exact hn194 j hj | (rw [hfr50.1 183 (by decide) (by decide)]; exact hn37 j hj) | (rw [hfr208.1 183 (by decide) (by decide)]; exact hn194 j hj) | (rw [up_f (by decide), hfr50.1 183 (by decide) (by decide)]; exact hn37 j hj) | (rw [up_f (by decide), hfr208.1 183 (by decide) (by decide)]; exact hn194 j hj) | rw [hfr24.1 183 (by decide) (by decide)] | rw [hfr181.1 183 (by decide) (by decide)] | rw [hfr310.1 183 (by decide) (by decide)] | rw [hfr93.1 183 (by decide) (by decide), hfr81.1 183 (by decide) (by decide)] | rw [hfr119.1 183 (by decide) (by decide), hfr93.1 183 (by decide) (by decide), hfr81.1 183 (by decide) (by decide)] | rw [hfr240.1 183 (by decide) (by decide)] | rw [hfr251.1 183 (by decide) (by decide), hfr240.1 183 (by decide) (by decide)] | rw [hfr275.1 183 (by decide) (by decide)] | rw [hfr286.1 183 (by decide) (by decide), hfr275.1 183 (by decide) (by decide)] | rw [hfr137.1 183 (by decide) (by decide), up_f (by decide), hfr93.1 183 (by decide) (by decide), hfr81.1 183 (by decide) (by decide)] | rw [hfr323.1 183 (by decide) (by decide), up_f (by decide)])⟩
            · obtain ⟨hz194, hR194⟩ := hF194a.p1 (by omega)
              refine r_aload_n (pc := 200) hX 116 rfl rfl ?_
              refine r_bipush (pc := 201) hX 117 rfl (by decide) ?_
              refine r_iload_n (pc := 203) hX 118 rfl rfl ?_
              refine r_iadd (pc := 204) hX 119 rfl ?_
              refine r_iconst (pc := 205) hX 120 rfl ?_
              refine r_bipush (pc := 206) hX 121 rfl (by decide) ?_
              refine r_callV (as := [(0, (32 + k0)), (0, 0), (0, 8)]) (st := []) (K := 12) (pc := 208) hX 122 rfl mo_m_puts ml_X12_254 im_m_puts se_m_puts (c_putsF g v194 ρ Z hG ((32 + k0)) (0) (8) (by omega) (hR194.1) (by omega) (by omega) (by omega)) rfl rfl rfl hG.1 (by rw [hRm]; exact ⟨by decide, by decide⟩) (by rw [hRm]; exact ⟨by decide, by decide⟩) (Nat.le_of_ble_eq_true rfl) (fun o208 v208 ρ208 Z208 hq208 _ => ?_)
              obtain ⟨rfl, rfl, hfr208, r208, rfl, hq208⟩ := hq208
              have hRsI_208 : RsI (v208 184) := by rw [hfr208.1 184 (by decide) (by decide)]; exact hRsI_194
              have hk208_3 : v208 178 3 = (v194 178 3) := (hfr208.2 3 (by decide)).trans (rfl)
              have hk208_5 : v208 178 5 = (v194 178 5) := (hfr208.2 5 (by decide)).trans (rfl)
              show wp g X F_m_line 0 0 211 [(2, 178), (0, k0)] [(0, r208)] v208 ρ Z
              have hP208 := hq208.2.2.1.po hR194 (by omega) (fun _ => hq208.2.2.2) (hfr208.1 183 (by decide) (by decide)) (hfr208.2 20 (by decide))
              have hU208 := hq208.2.2.1
              have hof208 := hq208.2.2.2
              replace hq208 := And.intro hq208.1 hq208.2.1
              have eo208 : ∀ j, j ≠ 32 + k0 → v208 181 j = v 181 j := fun j a => by rw [hof208 j a, eh194, eh186]
              have hI208 : r208 ≠ 0 → HInv (v208 181) := fun b => by
                have hUb := hU208.b b
                exact HInv.put hV (k := 32 + k0) (fun j a => eo208 j a) (by omega) (HB.mk32 (by omega) (by omega)) (by omega)
              have hP208 : PoM F n m v208 r208 (adv F n m (rNum F n m (rNew F n m s (7 + s.H 2)).2 (32 + s.H 2) 0 8)) := by
                have z := hP208
                rw [show 32 + k0 = 32 + s.H 2 by omega] at z
                exact z
              first | refine r_if_ne (pc := 211) hX 123 (tgt := 216) rfl (by decide) (⟨by omega, by omega⟩) (fun h211 => ?_) (fun h211 => ?_) | refine r_if_ne_any (pc := 211) hX 123 (tgt := 216) rfl (by decide) ?_ ?_
              · obtain ⟨hy208, hR208⟩ := hP208.p1 (by omega)
                refine t_getR (pc := 216) hX 126 rfl rfl rfl fl_X12_37 rfl hG.1 (a_h hG).1 ?_
                refine r_iconst (pc := 220) hX 128 rfl ?_
                refine r_dup2i (pc := 221) hX 129 rfl (show (0 : Nat) ≠ 1 by decide) (show (2 : Nat) ≠ 1 by decide) ?_
                refine e_iald (y := (v208 181 2)) (pc := 222) hX 130 rfl (a_h hG).2.1 (a_h hG).2.2 (by omega) (by omega) (rfl) ?_
                refine r_iconst (pc := 223) hX 131 rfl ?_
                refine r_iadd (pc := 224) hX 132 rfl ?_
                refine e_iast (pc := 225) hX 133 rfl (a_h hG).2.1 (a_h hG).2.2 (by decide) (by omega) (by omega) ?_
                refine r_iconst (pc := 226) hX 134 rfl ?_
                show wp g X F_m_line 0 0 227 [(2, 178), (0, k0)] [(0, 1)] (up v208 181 2 ((v208 181 2) + 1)) ρ Z
                exact r_zret (pc := 227) hX 135 hQ rfl rfl ⟨by omega, by omega⟩ (Nat.le_refl 0) (Nat.le_refl 0) ⟨rfl, rfl, ((((Fr.rf).tr hfr186 (by decide) (by decide)).tr hfr194 (by decide) (by decide)).tr hfr208 (by decide) (by decide)).arr (r := 181) (by decide) (by decide), 1, rfl, (by (repeat (first | rw [up_k (by decide)] | rw [up_s] | rw [up_r (by decide)])); omega), (by omega), (Hd.i (fun _ => HInv.put (hI208 (by omega)) (k := 2) (fun j hj => up_k hj) (by omega) (HB.mk2 (by rw [up_s, eo208 2 (by omega)]; omega)) (by omega))), (two_ok ((rLine_3 (by omega)).trans (if_neg (by omega))) hz194 rfl hy208 rfl (RdM.line (k := 2) (a := 7) (c := 32 + s.H 2) (x := s.H 2) (y := v208 181 2 + 1) (w0 := 17 + k0) (q1 := (rNew F n m s (7 + s.H 2))) (q2 := (rNum F n m (rNew F n m s (7 + s.H 2)).2 (32 + s.H 2) 0 8)) (by rw [show 7 + s.H 2 = 7 + s.H 2 by omega]) rfl rfl (by omega) (by omega) hz194 hR208 (by rw [hfr208.1 183 (by decide) (by decide)]; exact hF194.2 (by omega)) (by omega) (by rw [eo208 2 (by omega)]; omega))), (fun j hj => by first | exact hn37 j hj | exact hn194 j hj | (rw [hfr50.1 183 (by decide) (by decide)]; exact hn37 j hj) | (rw [hfr208.1 183 (by decide) (by decide)]; exact hn194 j hj) | (rw [up_f (by decide), hfr50.1 183 (by decide) (by decide)]; exact hn37 j hj) | (rw [up_f (by decide), hfr208.1 183 (by decide) (by decide)]; exact hn194 j hj) | rw [hfr24.1 183 (by decide) (by decide)] | rw [hfr181.1 183 (by decide) (by decide)] | rw [hfr310.1 183 (by decide) (by decide)] | rw [hfr93.1 183 (by decide) (by decide), hfr81.1 183 (by decide) (by decide)] | rw [hfr119.1 183 (by decide) (by decide), hfr93.1 183 (by decide) (by decide), hfr81.1 183 (by decide) (by decide)] | rw [hfr240.1 183 (by decide) (by decide)] | rw [hfr251.1 183 (by decide) (by decide), hfr240.1 183 (by decide) (by decide)] | rw [hfr275.1 183 (by decide) (by decide)] | rw [hfr286.1 183 (by decide) (by decide), hfr275.1 183 (by decide) (by decide)] | rw [hfr137.1 183 (by decide) (by decide), up_f (by decide), hfr93.1 183 (by decide) (by decide), hfr81.1 183 (by decide) (by decide)] | rw [hfr323.1 183 (by decide) (by decide), up_f (by decide)])⟩
              · refine r_iconst (pc := 214) hX 124 rfl ?_
                exact r_zret (pc := 215) hX 125 hQ rfl rfl ⟨by omega, by omega⟩ (Nat.le_refl 0) (Nat.le_refl 0) ⟨rfl, rfl, (((Fr.rf).tr hfr186 (by decide) (by decide)).tr hfr194 (by decide) (by decide)).tr hfr208 (by decide) (by decide), 0, rfl, (by (repeat (first | rw [up_k (by decide)] | rw [up_s] | rw [up_r (by decide)])); omega), (by omega), (Hd.i (fun z => absurd z (by first | decide | omega))), (by first | exact two_b1 ((rLine_3 (by omega)).trans (if_neg (by omega))) hF194a (by omega) | exact two_b2 ((rLine_3 (by omega)).trans (if_neg (by omega))) hz194 rfl hP208 (by omega)), (fun j hj => by first | exact hn37 j hj | exact hn194 j hj | (rw [hfr50.1 183 (by decide) (by decide)]; exact hn37 j hj) | (rw [hfr208.1 183 (by decide) (by decide)]; exact hn194 j hj) | (rw [up_f (by decide), hfr50.1 183 (by decide) (by decide)]; exact hn37 j hj) | (rw [up_f (by decide), hfr208.1 183 (by decide) (by decide)]; exact hn194 j hj) | rw [hfr24.1 183 (by decide) (by decide)] | rw [hfr181.1 183 (by decide) (by decide)] | rw [hfr310.1 183 (by decide) (by decide)] | rw [hfr93.1 183 (by decide) (by decide), hfr81.1 183 (by decide) (by decide)] | rw [hfr119.1 183 (by decide) (by decide), hfr93.1 183 (by decide) (by decide), hfr81.1 183 (by decide) (by decide)] | rw [hfr240.1 183 (by decide) (by decide)] | rw [hfr251.1 183 (by decide) (by decide), hfr240.1 183 (by decide) (by decide)] | rw [hfr275.1 183 (by decide) (by decide)] | rw [hfr286.1 183 (by decide) (by decide), hfr275.1 183 (by decide) (by decide)] | rw [hfr137.1 183 (by decide) (by decide), up_f (by decide), hfr93.1 183 (by decide) (by decide), hfr81.1 183 (by decide) (by decide)] | rw [hfr323.1 183 (by decide) (by decide), up_f (by decide)])⟩
          · refine r_aload_n (pc := 179) hX 104 rfl rfl ?_
            refine r_iconst (pc := 180) hX 105 rfl ?_
            refine r_callV (as := [(0, 4)]) (st := []) (K := 12) (pc := 181) hX 106 rfl mo_m_bad ml_X12_216 im_m_bad se_m_bad (c_badF g v ρ Z hG (4) (by omega)) rfl rfl rfl hG.1 (by rw [hRm]; exact ⟨by decide, by decide⟩) (by rw [hRm]; exact ⟨by decide, by decide⟩) (Nat.le_of_ble_eq_true rfl) (fun o181 v181 ρ181 Z181 hq181 _ => ?_)
            obtain ⟨rfl, rfl, hfr181, r181, rfl, hq181⟩ := hq181
            have hRsI_181 : RsI (v181 184) := by rw [hfr181.1 184 (by decide) (by decide)]; exact hrs
            have hk181_3 : v181 178 3 = (v 178 3) := (hfr181.2 3 (by decide)).trans (rfl)
            have hk181_4 : v181 178 4 = (v 178 4) := (hfr181.2 4 (by decide)).trans (rfl)
            have hk181_5 : v181 178 5 = (v 178 5) := (hfr181.2 5 (by decide)).trans (rfl)
            have hk181_11 : v181 178 11 = (v 178 11) := (hfr181.2 11 (by decide)).trans (rfl)
            have hk181_14 : v181 178 14 = (v 178 14) := (hfr181.2 14 (by decide)).trans (rfl)
            show wp g X F_m_line 0 0 184 [(2, 178), (0, k0)] [(0, r181)] v181 ρ Z
            exact r_zret (pc := 184) hX 107 hQ rfl rfl ⟨by omega, by omega⟩ (Nat.le_refl 0) (Nat.le_refl 0) ⟨rfl, rfl, (Fr.rf).tr hfr181 (by decide) (by decide), r181, rfl, (by (repeat (first | rw [up_k (by decide)] | rw [up_s] | rw [up_r (by decide)])); omega), (by omega), (Hd.i (fun z => absurd z (by first | decide | omega))), (by rw [hq181.1]; exact (PoM.bad (s := s) ((rLine_3 (by omega)).trans (if_pos (by omega))) (show (4 : Int) ≠ 0 by decide) hq181.2.1 (hq181.2.2.trans h12)).L), (fun j hj => by first | exact hn37 j hj | exact hn194 j hj | (rw [hfr50.1 183 (by decide) (by decide)]; exact hn37 j hj) | (rw [hfr208.1 183 (by decide) (by decide)]; exact hn194 j hj) | (rw [up_f (by decide), hfr50.1 183 (by decide) (by decide)]; exact hn37 j hj) | (rw [up_f (by decide), hfr208.1 183 (by decide) (by decide)]; exact hn194 j hj) | rw [hfr24.1 183 (by decide) (by decide)] | rw [hfr181.1 183 (by decide) (by decide)] | rw [hfr310.1 183 (by decide) (by decide)] | rw [hfr93.1 183 (by decide) (by decide), hfr81.1 183 (by decide) (by decide)] | rw [hfr119.1 183 (by decide) (by decide), hfr93.1 183 (by decide) (by decide), hfr81.1 183 (by decide) (by decide)] | rw [hfr240.1 183 (by decide) (by decide)] | rw [hfr251.1 183 (by decide) (by decide), hfr240.1 183 (by decide) (by decide)] | rw [hfr275.1 183 (by decide) (by decide)] | rw [hfr286.1 183 (by decide) (by decide), hfr275.1 183 (by decide) (by decide)] | rw [hfr137.1 183 (by decide) (by decide), up_f (by decide), hfr93.1 183 (by decide) (by decide), hfr81.1 183 (by decide) (by decide)] | rw [hfr323.1 183 (by decide) (by decide), up_f (by decide)])⟩
      · refine r_aload_n (pc := 152) hX 89 rfl rfl ?_
        refine r_callV (as := []) (st := []) (K := 12) (pc := 153) hX 90 rfl mo_m_readLand ml_X12_260 im_m_readLand se_m_readLand (c_readLandF g v ρ Z hG  (by omega) (hV) (hR) (hrs)) rfl rfl rfl hG.1 (by rw [hRm]; exact ⟨by decide, by decide⟩) (by rw [hRm]; exact ⟨by decide, by decide⟩) (Nat.le_of_ble_eq_true rfl) (fun o153 v153 ρ153 Z153 hq153 _ => ?_)
        obtain ⟨rfl, rfl, hfr153, r153, rfl, hq153⟩ := hq153
        have hRsI_153 : RsI (v153 184) := by rw [hfr153.1 184 (by decide) (by decide)]; exact hrs
        have hk153_3 : v153 178 3 = (v 178 3) := (hfr153.2 3 (by decide)).trans (rfl)
        have hk153_5 : v153 178 5 = (v 178 5) := (hfr153.2 5 (by decide)).trans (rfl)
        show wp g X F_m_line 0 0 156 [(2, 178), (3, 0)] [(0, r153)] v153 ρ Z
        exact r_zret (pc := 156) hX 91 hQ rfl rfl ⟨by omega, by omega⟩ (Nat.le_refl 0) (Nat.le_refl 0) ⟨rfl, rfl, (Fr.rf).tr hfr153 (by decide) (by decide), r153, rfl, (hq153.1), (hq153.2.1), (hq153.2.2.1), (by rw [rLine_2 (by omega)]; exact hq153.2.2.2.1), (hq153.2.2.2.2)⟩
    · refine r_aload_n (pc := 80) hX 48 rfl rfl ?_
      refine r_callV (as := []) (st := []) (K := 12) (pc := 81) hX 49 rfl mo_m_go ml_X12_219 im_m_go se_m_go (c_goT g v ρ Z hG  (by omega) (hT)) rfl rfl rfl hG.1 (by rw [hRm]; exact ⟨by decide, by decide⟩) (by rw [hRm]; exact ⟨by decide, by decide⟩) (Nat.le_of_ble_eq_true rfl) (fun o81 v81 ρ81 Z81 hq81 _ => ?_)
      obtain ⟨rfl, rfl, hfr81, rfl, hq81⟩ := hq81
      have hRsI_81 : RsI (v81 184) := by rw [hfr81.1 184 (by decide) (by decide)]; exact hrs
      have hk81_3 : v81 178 3 = (v 178 3) := (hfr81.2 3 (by decide)).trans (rfl)
      have hk81_5 : v81 178 5 = (v 178 5) := (hfr81.2 5 (by decide)).trans (rfl)
      show wp g X F_m_line 0 0 84 [(2, 178), (3, 0)] [] v81 ρ Z
      have eh81 : v81 181 = v 181 := hfr81.1 181 (by decide) (by decide)
      have z81 : v81 181 0 = v 181 0 := by rw [eh81]
      have hR81 : RdM F n m v81 (nx F n m s) := hR.go hfr81 (by decide) (by decide) hq81.2
      refine r_aload_n (pc := 84) hX 50 rfl rfl ?_
      refine r_bipush (pc := 85) hX 51 rfl (by decide) ?_
      refine t_getR (pc := 87) hX 52 rfl rfl rfl fl_X12_37 rfl hG.1 (a_h hG).1 ?_
      refine r_iconst (pc := 91) hX 54 rfl ?_
      refine e_iald (y := (v81 181 0)) (pc := 92) hX 55 rfl (a_h hG).2.1 (a_h hG).2.2 (by omega) (by omega) (rfl) ?_
      refine r_callV (as := [(0, 10), (0, (v81 181 0))]) (st := []) (K := 12) (pc := 93) hX 56 rfl mo_m_looksAt ml_X12_257 im_m_looksAt se_m_looksAt (c_looksAtF g v81 ρ Z hG (10) ((v81 181 0)) (by omega) (by rw [eh81]; exact hz) (hR81) (hRsI_81) (by omega)) rfl rfl rfl hG.1 (by rw [hRm]; exact ⟨by decide, by decide⟩) (by rw [hRm]; exact ⟨by decide, by decide⟩) (Nat.le_of_ble_eq_true rfl) (fun o93 v93 ρ93 Z93 hq93 _ => ?_)
      obtain ⟨rfl, rfl, hfr93, r93, rfl, hq93⟩ := hq93
      have hRsI_93 : RsI (v93 184) := by rw [hfr93.1 184 (by decide) (by decide)]; exact hRsI_81
      have hk93_3 : v93 178 3 = (v81 178 3) := (hfr93.2 3 (by decide)).trans (rfl)
      have hk93_4 : v93 178 4 = (v81 178 4) := (hfr93.2 4 (by decide)).trans (rfl)
      have hk93_5 : v93 178 5 = (v81 178 5) := (hfr93.2 5 (by decide)).trans (rfl)
      have hk93_11 : v93 178 11 = (v81 178 11) := (hfr93.2 11 (by decide)).trans (rfl)
      have hk93_14 : v93 178 14 = (v81 178 14) := (hfr93.2 14 (by decide)).trans (rfl)
      show wp g X F_m_line 0 0 96 [(2, 178), (3, 0)] [(0, r93)] v93 ρ Z
      have eh93 : v93 181 = v81 181 := hfr93.1 181 (by decide) (by decide)
      have hL93 := hq93.2.2
      replace hq93 := And.intro hq93.1 hq93.2.1
      first | refine r_if_ne (pc := 96) hX 57 (tgt := 101) rfl (by decide) (⟨by omega, by omega⟩) (fun h96 => ?_) (fun h96 => ?_) | refine r_if_ne_any (pc := 96) hX 57 (tgt := 101) rfl (by decide) ?_ ?_
      · have hc93 := hL93.b (show 0 ≤ (nx F n m s).H 0 from (by omega : 0 ≤ s.H 0)) (by omega)
        have hc93x : v93 178 18 < s.H 0 := hc93.2.2.2.2
        have hR93 : RdM F n m v93 (nx F n m s) := hR81.fr hfr93 (by decide) (by decide) (by decide)
        have hsg : v93 181 (10 + v93 178 18) = (nx F n m s).H (10 + v93 178 18) := hR93.2.1 _ (by omega) (by omega)
        have hbv : 0 ≤ v93 181 (10 + v93 178 18) ∧ v93 181 (10 + v93 178 18) ≤ 1 := by
          rw [eh93, eh81]
          exact (hV.1 _ (by omega) (by omega)).2.2.2.2.2.2.1 (by omega)
        refine t_getR (pc := 101) hX 60 rfl rfl rfl fl_X12_37 rfl hG.1 (a_h hG).1 ?_
        refine r_bipush (pc := 105) hX 62 rfl (by decide) ?_
        refine t_getI (y := (v93 178 18)) (pc := 107) hX 63 rfl rfl rfl fl_X12_226 rfl hG.1 (rfl) ?_
        refine r_iadd (pc := 111) hX 65 rfl ?_
        refine e_iald (y := (v93 181 (10 + (v93 178 18)))) (pc := 112) hX 66 rfl (a_h hG).2.1 (a_h hG).2.2 (by omega) (by omega) (rfl) ?_
        refine r_iconst (pc := 113) hX 67 rfl ?_
        first | refine r_icmp_ne (pc := 114) hX 68 (tgt := 123) rfl (by decide) (⟨by omega, by omega⟩) (⟨by omega, by omega⟩) (fun h114 => ?_) (fun h114 => ?_) | refine r_icmp_ne_any (pc := 114) hX 68 (tgt := 123) rfl (by decide) ?_ ?_
        · refine t_getR (pc := 123) hX 73 rfl rfl rfl fl_X12_37 rfl hG.1 (a_h hG).1 ?_
          refine r_bipush (pc := 127) hX 75 rfl (by decide) ?_
          refine t_getI (y := (v93 178 18)) (pc := 129) hX 76 rfl rfl rfl fl_X12_226 rfl hG.1 (rfl) ?_
          refine r_iadd (pc := 133) hX 78 rfl ?_
          refine r_iconst (pc := 134) hX 79 rfl ?_
          refine e_iast (pc := 135) hX 80 rfl (a_h hG).2.1 (a_h hG).2.2 (by decide) (by omega) (by omega) ?_
          refine r_aload_n (pc := 136) hX 81 rfl rfl ?_
          refine r_callV (as := []) (st := []) (K := 12) (pc := 137) hX 82 rfl mo_m_go ml_X12_219 im_m_go se_m_go (c_goT g (up v93 181 (10 + (v93 178 18)) 1) ρ Z hG  (by (repeat (first | rw [up_k (by decide)] | rw [up_s] | rw [up_r (by decide)])); omega) (hR93.1.arr (by decide) (by decide))) rfl rfl rfl hG.1 (by rw [hRm]; exact ⟨by decide, by decide⟩) (by rw [hRm]; exact ⟨by decide, by decide⟩) (Nat.le_of_ble_eq_true rfl) (fun o137 v137 ρ137 Z137 hq137 _ => ?_)
          obtain ⟨rfl, rfl, hfr137, rfl, hq137⟩ := hq137
          try simp only [up_f (show (178 : Int) ≠ 181 by decide), up_f (show (180 : Int) ≠ 181 by decide)] at hq137
          have hRsI_137 : RsI (v137 184) := by rw [hfr137.1 184 (by decide) (by decide), up_f (by decide)]; exact hRsI_93
          have hk137_3 : v137 178 3 = (v93 178 3) := (hfr137.2 3 (by decide)).trans ((up_r (by decide)).trans (rfl))
          have hk137_5 : v137 178 5 = (v93 178 5) := (hfr137.2 5 (by decide)).trans ((up_r (by decide)).trans (rfl))
          show wp g X F_m_line 0 0 140 [(2, 178), (3, 0)] [] v137 ρ Z
          refine r_iconst (pc := 140) hX 83 rfl ?_
          exact r_zret (pc := 141) hX 84 hQ rfl rfl ⟨by omega, by omega⟩ (Nat.le_refl 0) (Nat.le_refl 0) ⟨rfl, rfl, ((((Fr.rf).tr hfr81 (by decide) (by decide)).tr hfr93 (by decide) (by decide)).arr (r := 181) (by decide) (by decide)).tr hfr137 (by decide) (by decide), 1, rfl, (by omega), (by omega), (Hd.i (fun _ => by rw [hfr137.1 181 (by decide) (by decide)]; exact HInv.put hV (k := 10 + v93 178 18) (fun j hj => by rw [up_k hj, eh93, eh81]) (by omega) (HB.mk10 (by omega) (by rw [up_s]; omega)) (by omega))), (ends_0 (by omega) hc93.1 hc93.2.1 (by rw [← hc93.2.2.1]; omega) (by rw [← hc93.2.2.1]; exact (hR93.put (k := 10 + v93 178 18) (x := 1) (by omega)).go hfr137 (by decide) (by decide) hq137.2)), (fun j hj => by first | exact hn37 j hj | exact hn194 j hj | (rw [hfr50.1 183 (by decide) (by decide)]; exact hn37 j hj) | (rw [hfr208.1 183 (by decide) (by decide)]; exact hn194 j hj) | (rw [up_f (by decide), hfr50.1 183 (by decide) (by decide)]; exact hn37 j hj) | (rw [up_f (by decide), hfr208.1 183 (by decide) (by decide)]; exact hn194 j hj) | rw [hfr24.1 183 (by decide) (by decide)] | rw [hfr181.1 183 (by decide) (by decide)] | rw [hfr310.1 183 (by decide) (by decide)] | rw [hfr93.1 183 (by decide) (by decide), hfr81.1 183 (by decide) (by decide)] | rw [hfr119.1 183 (by decide) (by decide), hfr93.1 183 (by decide) (by decide), hfr81.1 183 (by decide) (by decide)] | rw [hfr240.1 183 (by decide) (by decide)] | rw [hfr251.1 183 (by decide) (by decide), hfr240.1 183 (by decide) (by decide)] | rw [hfr275.1 183 (by decide) (by decide)] | rw [hfr286.1 183 (by decide) (by decide), hfr275.1 183 (by decide) (by decide)] | rw [hfr137.1 183 (by decide) (by decide), up_f (by decide), hfr93.1 183 (by decide) (by decide), hfr81.1 183 (by decide) (by decide)] | rw [hfr323.1 183 (by decide) (by decide), up_f (by decide)])⟩
        · refine r_aload_n (pc := 117) hX 69 rfl rfl ?_
          refine r_iconst (pc := 118) hX 70 rfl ?_
          refine r_callV (as := [(0, 3)]) (st := []) (K := 12) (pc := 119) hX 71 rfl mo_m_bad ml_X12_216 im_m_bad se_m_bad (c_badF g v93 ρ Z hG (3) (by omega)) rfl rfl rfl hG.1 (by rw [hRm]; exact ⟨by decide, by decide⟩) (by rw [hRm]; exact ⟨by decide, by decide⟩) (Nat.le_of_ble_eq_true rfl) (fun o119 v119 ρ119 Z119 hq119 _ => ?_)
          obtain ⟨rfl, rfl, hfr119, r119, rfl, hq119⟩ := hq119
          have hRsI_119 : RsI (v119 184) := by rw [hfr119.1 184 (by decide) (by decide)]; exact hRsI_93
          have hk119_3 : v119 178 3 = (v93 178 3) := (hfr119.2 3 (by decide)).trans (rfl)
          have hk119_4 : v119 178 4 = (v93 178 4) := (hfr119.2 4 (by decide)).trans (rfl)
          have hk119_5 : v119 178 5 = (v93 178 5) := (hfr119.2 5 (by decide)).trans (rfl)
          have hk119_11 : v119 178 11 = (v93 178 11) := (hfr119.2 11 (by decide)).trans (rfl)
          have hk119_14 : v119 178 14 = (v93 178 14) := (hfr119.2 14 (by decide)).trans (rfl)
          show wp g X F_m_line 0 0 122 [(2, 178), (3, 0)] [(0, r119)] v119 ρ Z
          exact r_zret (pc := 122) hX 72 hQ rfl rfl ⟨by omega, by omega⟩ (Nat.le_refl 0) (Nat.le_refl 0) ⟨rfl, rfl, (((Fr.rf).tr hfr81 (by decide) (by decide)).tr hfr93 (by decide) (by decide)).tr hfr119 (by decide) (by decide), r119, rfl, (by (repeat (first | rw [up_k (by decide)] | rw [up_s] | rw [up_r (by decide)])); omega), (by omega), (Hd.i (fun z => absurd z (by first | decide | omega))), (by rw [hq119.1]; exact ends_3 (by omega) hc93.1 (by rw [← hc93.2.2.1]; omega) hq119.2.1 (hq119.2.2.trans hR93.1.2.2.2.2.2.2.2.1)), (fun j hj => by first | exact hn37 j hj | exact hn194 j hj | (rw [hfr50.1 183 (by decide) (by decide)]; exact hn37 j hj) | (rw [hfr208.1 183 (by decide) (by decide)]; exact hn194 j hj) | (rw [up_f (by decide), hfr50.1 183 (by decide) (by decide)]; exact hn37 j hj) | (rw [up_f (by decide), hfr208.1 183 (by decide) (by decide)]; exact hn194 j hj) | rw [hfr24.1 183 (by decide) (by decide)] | rw [hfr181.1 183 (by decide) (by decide)] | rw [hfr310.1 183 (by decide) (by decide)] | rw [hfr93.1 183 (by decide) (by decide), hfr81.1 183 (by decide) (by decide)] | rw [hfr119.1 183 (by decide) (by decide), hfr93.1 183 (by decide) (by decide), hfr81.1 183 (by decide) (by decide)] | rw [hfr240.1 183 (by decide) (by decide)] | rw [hfr251.1 183 (by decide) (by decide), hfr240.1 183 (by decide) (by decide)] | rw [hfr275.1 183 (by decide) (by decide)] | rw [hfr286.1 183 (by decide) (by decide), hfr275.1 183 (by decide) (by decide)] | rw [hfr137.1 183 (by decide) (by decide), up_f (by decide), hfr93.1 183 (by decide) (by decide), hfr81.1 183 (by decide) (by decide)] | rw [hfr323.1 183 (by decide) (by decide), up_f (by decide)])⟩
      · refine r_iconst (pc := 99) hX 58 rfl ?_
        exact r_zret (pc := 100) hX 59 hQ rfl rfl ⟨by omega, by omega⟩ (Nat.le_refl 0) (Nat.le_refl 0) ⟨rfl, rfl, ((Fr.rf).tr hfr81 (by decide) (by decide)).tr hfr93 (by decide) (by decide), 0, rfl, (by (repeat (first | rw [up_k (by decide)] | rw [up_s] | rw [up_r (by decide)])); omega), (by omega), (Hd.i (fun z => absurd z (by first | decide | omega))), (ends_b (by omega) hL93 (by omega)), (fun j hj => by first | exact hn37 j hj | exact hn194 j hj | (rw [hfr50.1 183 (by decide) (by decide)]; exact hn37 j hj) | (rw [hfr208.1 183 (by decide) (by decide)]; exact hn194 j hj) | (rw [up_f (by decide), hfr50.1 183 (by decide) (by decide)]; exact hn37 j hj) | (rw [up_f (by decide), hfr208.1 183 (by decide) (by decide)]; exact hn194 j hj) | rw [hfr24.1 183 (by decide) (by decide)] | rw [hfr181.1 183 (by decide) (by decide)] | rw [hfr310.1 183 (by decide) (by decide)] | rw [hfr93.1 183 (by decide) (by decide), hfr81.1 183 (by decide) (by decide)] | rw [hfr119.1 183 (by decide) (by decide), hfr93.1 183 (by decide) (by decide), hfr81.1 183 (by decide) (by decide)] | rw [hfr240.1 183 (by decide) (by decide)] | rw [hfr251.1 183 (by decide) (by decide), hfr240.1 183 (by decide) (by decide)] | rw [hfr275.1 183 (by decide) (by decide)] | rw [hfr286.1 183 (by decide) (by decide), hfr275.1 183 (by decide) (by decide)] | rw [hfr137.1 183 (by decide) (by decide), up_f (by decide), hfr93.1 183 (by decide) (by decide), hfr81.1 183 (by decide) (by decide)] | rw [hfr323.1 183 (by decide) (by decide), up_f (by decide)])⟩
  · refine t_getR (pc := 10) hX 4 rfl rfl rfl fl_X12_37 rfl hG.1 (a_h hG).1 ?_
    refine r_iconst (pc := 14) hX 6 rfl ?_
    refine e_iald (y := (v 181 0)) (pc := 15) hX 7 rfl (a_h hG).2.1 (a_h hG).2.2 (by omega) (by omega) (rfl) ?_
    obtain ⟨k0, hk0_e⟩ : ∃ z : Int, z = (v 181 0) := ⟨_, rfl⟩
    rw [← hk0_e]
    refine r_istore_n (ls' := [(2, 178), (0, k0)]) (pc := 16) hX 8 rfl (by decide) rfl ?_
    refine r_iload_n (pc := 17) hX 9 rfl rfl ?_
    refine r_iconst (pc := 18) hX 10 rfl ?_
    first | refine r_icmp_ne (pc := 19) hX 11 (tgt := 28) rfl (by decide) (⟨by omega, by omega⟩) (⟨by omega, by omega⟩) (fun h19 => ?_) (fun h19 => ?_) | refine r_icmp_ne_any (pc := 19) hX 11 (tgt := 28) rfl (by decide) ?_ ?_
    · refine r_aload_n (pc := 28) hX 16 rfl rfl ?_
      refine r_callV (as := []) (st := []) (K := 12) (pc := 29) hX 17 rfl mo_m_go ml_X12_219 im_m_go se_m_go (c_goT g v ρ Z hG  (by omega) (hT)) rfl rfl rfl hG.1 (by rw [hRm]; exact ⟨by decide, by decide⟩) (by rw [hRm]; exact ⟨by decide, by decide⟩) (Nat.le_of_ble_eq_true rfl) (fun o29 v29 ρ29 Z29 hq29 _ => ?_)
      obtain ⟨rfl, rfl, hfr29, rfl, hq29⟩ := hq29
      have hRsI_29 : RsI (v29 184) := by rw [hfr29.1 184 (by decide) (by decide)]; exact hrs
      have hk29_3 : v29 178 3 = (v 178 3) := (hfr29.2 3 (by decide)).trans (rfl)
      have hk29_5 : v29 178 5 = (v 178 5) := (hfr29.2 5 (by decide)).trans (rfl)
      show wp g X F_m_line 0 0 32 [(2, 178), (0, k0)] [] v29 ρ Z
      have eh29 : v29 181 = v 181 := hfr29.1 181 (by decide) (by decide)
      have hR29 : RdM F n m v29 (nx F n m s) := hR.go hfr29 (by decide) (by decide) hq29.2
      refine r_aload_n (pc := 32) hX 18 rfl rfl ?_
      refine r_bipush (pc := 33) hX 19 rfl (by decide) ?_
      refine r_iload_n (pc := 35) hX 20 rfl rfl ?_
      refine r_iadd (pc := 36) hX 21 rfl ?_
      refine r_callV (as := [(0, (10 + k0))]) (st := []) (K := 12) (pc := 37) hX 22 rfl mo_m_fresh ml_X12_251 im_m_fresh se_m_fresh (c_freshF g v29 ρ Z hG ((10 + k0)) (by omega) (by rw [eh29]; exact hz) (hR29) (hRsI_29) (by rw [eh29]; omega)) rfl rfl rfl hG.1 (by rw [hRm]; exact ⟨by decide, by decide⟩) (by rw [hRm]; exact ⟨by decide, by decide⟩) (Nat.le_of_ble_eq_true rfl) (fun o37 v37 ρ37 Z37 hq37 _ => ?_)
      obtain ⟨rfl, rfl, hfr37, r37, rfl, hq37⟩ := hq37
      have hRsI_37 : RsI (v37 184) := by rw [hfr37.1 184 (by decide) (by decide)]; exact hRsI_29
      have hk37_3 : v37 178 3 = (v29 178 3) := (hfr37.2 3 (by decide)).trans (rfl)
      have hk37_5 : v37 178 5 = (v29 178 5) := (hfr37.2 5 (by decide)).trans (rfl)
      show wp g X F_m_line 0 0 40 [(2, 178), (0, k0)] [(0, r37)] v37 ρ Z
      have eh37 : v37 181 = v29 181 := hfr37.1 181 (by decide) (by decide)
      have hF37 := hq37.2.2.1
      have hN37 := hq37.2.2.2
      have hn37 : ∀ j, j < 10 → v37 183 j = v 183 j := fun j hj => by rw [hN37 j (by omega), hfr29.1 183 (by decide) (by decide)]
      replace hq37 := And.intro hq37.1 hq37.2.1
      have hF37a : PoM F n m v37 r37 (adv F n m (rNewAt F n m (nx F n m s) (s.H 0))) := by
        have z := hF37.1
        rw [show 10 + k0 - 10 = s.H 0 by omega] at z
        exact z
      first | refine r_if_eq (pc := 40) hX 23 (tgt := 56) rfl (by decide) (⟨by omega, by omega⟩) (fun h40 => ?_) (fun h40 => ?_) | refine r_if_eq_any (pc := 40) hX 23 (tgt := 56) rfl (by decide) ?_ ?_
      · refine r_iconst (pc := 56) hX 32 rfl ?_
        exact r_zret (pc := 57) hX 33 hQ rfl rfl ⟨by omega, by omega⟩ (Nat.le_refl 0) (Nat.le_refl 0) ⟨rfl, rfl, ((Fr.rf).tr hfr29 (by decide) (by decide)).tr hfr37 (by decide) (by decide), 0, rfl, (by (repeat (first | rw [up_k (by decide)] | rw [up_s] | rw [up_r (by decide)])); omega), (by omega), (Hd.i (fun z => absurd z (by first | decide | omega))), (by first | exact two_b1 ((rLine_0 (by omega)).trans (if_neg (by omega))) hF37a (by omega) | exact two_b2 ((rLine_0 (by omega)).trans (if_neg (by omega))) hz37 rfl hP50 (by omega)), (fun j hj => by first | exact hn37 j hj | exact hn194 j hj | (rw [hfr50.1 183 (by decide) (by decide)]; exact hn37 j hj) | (rw [hfr208.1 183 (by decide) (by decide)]; exact hn194 j hj) | (rw [up_f (by decide), hfr50.1 183 (by decide) (by decide)]; exact hn37 j hj) | (rw [up_f (by decide), hfr208.1 183 (by decide) (by decide)]; exact hn194 j hj) | rw [hfr24.1 183 (by decide) (by decide)] | rw [hfr181.1 183 (by decide) (by decide)] | rw [hfr310.1 183 (by decide) (by decide)] | rw [hfr93.1 183 (by decide) (by decide), hfr81.1 183 (by decide) (by decide)] | rw [hfr119.1 183 (by decide) (by decide), hfr93.1 183 (by decide) (by decide), hfr81.1 183 (by decide) (by decide)] | rw [hfr240.1 183 (by decide) (by decide)] | rw [hfr251.1 183 (by decide) (by decide), hfr240.1 183 (by decide) (by decide)] | rw [hfr275.1 183 (by decide) (by decide)] | rw [hfr286.1 183 (by decide) (by decide), hfr275.1 183 (by decide) (by decide)] | rw [hfr137.1 183 (by decide) (by decide), up_f (by decide), hfr93.1 183 (by decide) (by decide), hfr81.1 183 (by decide) (by decide)] | rw [hfr323.1 183 (by decide) (by decide), up_f (by decide)])⟩
      · obtain ⟨hz37, hR37⟩ := hF37a.p1 (by omega)
        refine r_aload_n (pc := 43) hX 24 rfl rfl ?_
        refine r_bipush (pc := 44) hX 25 rfl (by decide) ?_
        refine r_iload_n (pc := 46) hX 26 rfl rfl ?_
        refine r_iadd (pc := 47) hX 27 rfl ?_
        refine r_iconst (pc := 48) hX 28 rfl ?_
        refine r_iconst (pc := 49) hX 29 rfl ?_
        refine r_callV (as := [(0, (6 + k0)), (0, 1), (0, 3)]) (st := []) (K := 12) (pc := 50) hX 30 rfl mo_m_puts ml_X12_254 im_m_puts se_m_puts (c_putsF g v37 ρ Z hG ((6 + k0)) (1) (3) (by omega) (hR37.1) (by omega) (by omega) (by omega)) rfl rfl rfl hG.1 (by rw [hRm]; exact ⟨by decide, by decide⟩) (by rw [hRm]; exact ⟨by decide, by decide⟩) (Nat.le_of_ble_eq_true rfl) (fun o50 v50 ρ50 Z50 hq50 _ => ?_)
        obtain ⟨rfl, rfl, hfr50, r50, rfl, hq50⟩ := hq50
        have hRsI_50 : RsI (v50 184) := by rw [hfr50.1 184 (by decide) (by decide)]; exact hRsI_37
        have hk50_3 : v50 178 3 = (v37 178 3) := (hfr50.2 3 (by decide)).trans (rfl)
        have hk50_5 : v50 178 5 = (v37 178 5) := (hfr50.2 5 (by decide)).trans (rfl)
        show wp g X F_m_line 0 0 53 [(2, 178), (0, k0)] [(0, r50)] v50 ρ Z
        have hP50 := hq50.2.2.1.po hR37 (by omega) (fun _ => hq50.2.2.2) (hfr50.1 183 (by decide) (by decide)) (hfr50.2 20 (by decide))
        have hU50 := hq50.2.2.1
        have hof50 := hq50.2.2.2
        replace hq50 := And.intro hq50.1 hq50.2.1
        have eo50 : ∀ j, j ≠ 6 + k0 → v50 181 j = v 181 j := fun j a => by rw [hof50 j a, eh37, eh29]
        have hI50 : r50 ≠ 0 → HInv (v50 181) := fun b => by
          have hUb := hU50.b b
          exact HInv.put hV (k := 6 + k0) (fun j a => eo50 j a) (by omega) (HB.mk6 (by omega) (by omega)) (by omega)
        have hP50 : PoM F n m v50 r50 (adv F n m (rNum F n m (rNew F n m s (s.H 0)).2 (6 + s.H 0) 1 3)) := by
          have z := hP50
          rw [show 6 + k0 = 6 + s.H 0 by omega] at z
          exact z
        first | refine r_if_ne (pc := 53) hX 31 (tgt := 58) rfl (by decide) (⟨by omega, by omega⟩) (fun h53 => ?_) (fun h53 => ?_) | refine r_if_ne_any (pc := 53) hX 31 (tgt := 58) rfl (by decide) ?_ ?_
        · obtain ⟨hy50, hR50⟩ := hP50.p1 (by omega)
          refine t_getR (pc := 58) hX 34 rfl rfl rfl fl_X12_37 rfl hG.1 (a_h hG).1 ?_
          refine r_iconst (pc := 62) hX 36 rfl ?_
          refine r_dup2i (pc := 63) hX 37 rfl (show (0 : Nat) ≠ 1 by decide) (show (2 : Nat) ≠ 1 by decide) ?_
          refine e_iald (y := (v50 181 0)) (pc := 64) hX 38 rfl (a_h hG).2.1 (a_h hG).2.2 (by omega) (by omega) (rfl) ?_
          refine r_iconst (pc := 65) hX 39 rfl ?_
          refine r_iadd (pc := 66) hX 40 rfl ?_
          refine e_iast (pc := 67) hX 41 rfl (a_h hG).2.1 (a_h hG).2.2 (by decide) (by omega) (by omega) ?_
          refine r_iconst (pc := 68) hX 42 rfl ?_
          show wp g X F_m_line 0 0 69 [(2, 178), (0, k0)] [(0, 1)] (up v50 181 0 ((v50 181 0) + 1)) ρ Z
          exact r_zret (pc := 69) hX 43 hQ rfl rfl ⟨by omega, by omega⟩ (Nat.le_refl 0) (Nat.le_refl 0) ⟨rfl, rfl, ((((Fr.rf).tr hfr29 (by decide) (by decide)).tr hfr37 (by decide) (by decide)).tr hfr50 (by decide) (by decide)).arr (r := 181) (by decide) (by decide), 1, rfl, (by (repeat (first | rw [up_k (by decide)] | rw [up_s] | rw [up_r (by decide)])); omega), (by omega), (Hd.i (fun _ => HInv.put (hI50 (by omega)) (k := 0) (fun j hj => up_k hj) (by omega) (HB.mk0 (by rw [up_s, eo50 0 (by omega)]; omega)) (by omega))), (two_ok ((rLine_0 (by omega)).trans (if_neg (by omega))) hz37 rfl hy50 rfl (RdM.line (k := 0) (a := 0) (c := 6 + s.H 0) (x := s.H 0) (y := v50 181 0 + 1) (w0 := 10 + k0) (q1 := (rNew F n m s (s.H 0))) (q2 := (rNum F n m (rNew F n m s (s.H 0)).2 (6 + s.H 0) 1 3)) (by rw [show 0 + s.H 0 = s.H 0 by omega]) rfl rfl (by omega) (by omega) hz37 hR50 (by rw [hfr50.1 183 (by decide) (by decide)]; exact hF37.2 (by omega)) (by omega) (by rw [eo50 0 (by omega)]; omega))), (fun j hj => by first | exact hn37 j hj | exact hn194 j hj | (rw [hfr50.1 183 (by decide) (by decide)]; exact hn37 j hj) | (rw [hfr208.1 183 (by decide) (by decide)]; exact hn194 j hj) | (rw [up_f (by decide), hfr50.1 183 (by decide) (by decide)]; exact hn37 j hj) | (rw [up_f (by decide), hfr208.1 183 (by decide) (by decide)]; exact hn194 j hj) | rw [hfr24.1 183 (by decide) (by decide)] | rw [hfr181.1 183 (by decide) (by decide)] | rw [hfr310.1 183 (by decide) (by decide)] | rw [hfr93.1 183 (by decide) (by decide), hfr81.1 183 (by decide) (by decide)] | rw [hfr119.1 183 (by decide) (by decide), hfr93.1 183 (by decide) (by decide), hfr81.1 183 (by decide) (by decide)] | rw [hfr240.1 183 (by decide) (by decide)] | rw [hfr251.1 183 (by decide) (by decide), hfr240.1 183 (by decide) (by decide)] | rw [hfr275.1 183 (by decide) (by decide)] | rw [hfr286.1 183 (by decide) (by decide), hfr275.1 183 (by decide) (by decide)] | rw [hfr137.1 183 (by decide) (by decide), up_f (by decide), hfr93.1 183 (by decide) (by decide), hfr81.1 183 (by decide) (by decide)] | rw [hfr323.1 183 (by decide) (by decide), up_f (by decide)])⟩
        · refine r_iconst (pc := 56) hX 32 rfl ?_
          exact r_zret (pc := 57) hX 33 hQ rfl rfl ⟨by omega, by omega⟩ (Nat.le_refl 0) (Nat.le_refl 0) ⟨rfl, rfl, (((Fr.rf).tr hfr29 (by decide) (by decide)).tr hfr37 (by decide) (by decide)).tr hfr50 (by decide) (by decide), 0, rfl, (by (repeat (first | rw [up_k (by decide)] | rw [up_s] | rw [up_r (by decide)])); omega), (by omega), (Hd.i (fun z => absurd z (by first | decide | omega))), (by first | exact two_b1 ((rLine_0 (by omega)).trans (if_neg (by omega))) hF37a (by omega) | exact two_b2 ((rLine_0 (by omega)).trans (if_neg (by omega))) hz37 rfl hP50 (by omega)), (fun j hj => by first | exact hn37 j hj | exact hn194 j hj | (rw [hfr50.1 183 (by decide) (by decide)]; exact hn37 j hj) | (rw [hfr208.1 183 (by decide) (by decide)]; exact hn194 j hj) | (rw [up_f (by decide), hfr50.1 183 (by decide) (by decide)]; exact hn37 j hj) | (rw [up_f (by decide), hfr208.1 183 (by decide) (by decide)]; exact hn194 j hj) | rw [hfr24.1 183 (by decide) (by decide)] | rw [hfr181.1 183 (by decide) (by decide)] | rw [hfr310.1 183 (by decide) (by decide)] | rw [hfr93.1 183 (by decide) (by decide), hfr81.1 183 (by decide) (by decide)] | rw [hfr119.1 183 (by decide) (by decide), hfr93.1 183 (by decide) (by decide), hfr81.1 183 (by decide) (by decide)] | rw [hfr240.1 183 (by decide) (by decide)] | rw [hfr251.1 183 (by decide) (by decide), hfr240.1 183 (by decide) (by decide)] | rw [hfr275.1 183 (by decide) (by decide)] | rw [hfr286.1 183 (by decide) (by decide), hfr275.1 183 (by decide) (by decide)] | rw [hfr137.1 183 (by decide) (by decide), up_f (by decide), hfr93.1 183 (by decide) (by decide), hfr81.1 183 (by decide) (by decide)] | rw [hfr323.1 183 (by decide) (by decide), up_f (by decide)])⟩
    · refine r_aload_n (pc := 22) hX 12 rfl rfl ?_
      refine r_iconst (pc := 23) hX 13 rfl ?_
      refine r_callV (as := [(0, 4)]) (st := []) (K := 12) (pc := 24) hX 14 rfl mo_m_bad ml_X12_216 im_m_bad se_m_bad (c_badF g v ρ Z hG (4) (by omega)) rfl rfl rfl hG.1 (by rw [hRm]; exact ⟨by decide, by decide⟩) (by rw [hRm]; exact ⟨by decide, by decide⟩) (Nat.le_of_ble_eq_true rfl) (fun o24 v24 ρ24 Z24 hq24 _ => ?_)
      obtain ⟨rfl, rfl, hfr24, r24, rfl, hq24⟩ := hq24
      have hRsI_24 : RsI (v24 184) := by rw [hfr24.1 184 (by decide) (by decide)]; exact hrs
      have hk24_3 : v24 178 3 = (v 178 3) := (hfr24.2 3 (by decide)).trans (rfl)
      have hk24_4 : v24 178 4 = (v 178 4) := (hfr24.2 4 (by decide)).trans (rfl)
      have hk24_5 : v24 178 5 = (v 178 5) := (hfr24.2 5 (by decide)).trans (rfl)
      have hk24_11 : v24 178 11 = (v 178 11) := (hfr24.2 11 (by decide)).trans (rfl)
      have hk24_14 : v24 178 14 = (v 178 14) := (hfr24.2 14 (by decide)).trans (rfl)
      show wp g X F_m_line 0 0 27 [(2, 178), (0, k0)] [(0, r24)] v24 ρ Z
      exact r_zret (pc := 27) hX 15 hQ rfl rfl ⟨by omega, by omega⟩ (Nat.le_refl 0) (Nat.le_refl 0) ⟨rfl, rfl, (Fr.rf).tr hfr24 (by decide) (by decide), r24, rfl, (by (repeat (first | rw [up_k (by decide)] | rw [up_s] | rw [up_r (by decide)])); omega), (by omega), (Hd.i (fun z => absurd z (by first | decide | omega))), (by rw [hq24.1]; exact (PoM.bad (s := s) ((rLine_0 (by omega)).trans (if_pos (by omega))) (show (4 : Int) ≠ 0 by decide) hq24.2.1 (hq24.2.2.trans h12)).L), (fun j hj => by first | exact hn37 j hj | exact hn194 j hj | (rw [hfr50.1 183 (by decide) (by decide)]; exact hn37 j hj) | (rw [hfr208.1 183 (by decide) (by decide)]; exact hn194 j hj) | (rw [up_f (by decide), hfr50.1 183 (by decide) (by decide)]; exact hn37 j hj) | (rw [up_f (by decide), hfr208.1 183 (by decide) (by decide)]; exact hn194 j hj) | rw [hfr24.1 183 (by decide) (by decide)] | rw [hfr181.1 183 (by decide) (by decide)] | rw [hfr310.1 183 (by decide) (by decide)] | rw [hfr93.1 183 (by decide) (by decide), hfr81.1 183 (by decide) (by decide)] | rw [hfr119.1 183 (by decide) (by decide), hfr93.1 183 (by decide) (by decide), hfr81.1 183 (by decide) (by decide)] | rw [hfr240.1 183 (by decide) (by decide)] | rw [hfr251.1 183 (by decide) (by decide), hfr240.1 183 (by decide) (by decide)] | rw [hfr275.1 183 (by decide) (by decide)] | rw [hfr286.1 183 (by decide) (by decide), hfr275.1 183 (by decide) (by decide)] | rw [hfr137.1 183 (by decide) (by decide), up_f (by decide), hfr93.1 183 (by decide) (by decide), hfr81.1 183 (by decide) (by decide)] | rw [hfr323.1 183 (by decide) (by decide), up_f (by decide)])⟩
