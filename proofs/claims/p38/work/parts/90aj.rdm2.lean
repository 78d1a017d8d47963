set_option maxHeartbeats 4000000 in
set_option maxRecDepth 100000 in
theorem c_goT (g : Gp) (v ρ : Mv) (Z : Mz) (hG : GM ρ Z) {F : Int → Int} {n m p : Int}  (hL : 0 ≤ v 178 4 ∧ v 178 4 ≤ v 178 3 ∧ v 178 3 ≤ 940 ∧ 0 ≤ v 178 11 ∧ v 178 11 ≤ 4 ∧ inR (v 178 5) ∧ inR (v 178 14)) (hT : TkM F n m v p) : Ok g 2 0 0 F_m_go [(2, 178)] v ρ Z (fun o v' ρ' Z' => ρ = ρ' ∧ Z = Z' ∧ Fr [] [4, 11, 12, 13, 14, 17] v v' ∧ o = none ∧ (0 ≤ v' 178 4 ∧ v' 178 4 ≤ v' 178 3 ∧ v' 178 3 ≤ 940 ∧ 0 ≤ v' 178 11 ∧ v' 178 11 ≤ 4 ∧ inR (v' 178 5) ∧ inR (v' 178 14) ∧ v 178 4 ≤ v' 178 4 ∧ v' 178 3 = v 178 3) ∧ (TkM F n m v' (tp F n m p))) := by
  refine (c_goF g v ρ Z hG hL).imp fun o v' ρ' Z' h => ?_
  obtain ⟨hp0, hp1, hn3, hm5, hsm, h4p, h11, h12, h14, h17⟩ := hT
  obtain ⟨a1, a2, a3, a4, a5, a6, a7, a8, a9, a10⟩ := h
  exact ⟨a1, a2, a3, a4, by omega, h4p ▸ tkM_of hn3 hm5 hsm (a3.1 179 (by decide) (by decide)) (by omega) (by omega) (by omega) (a3.2 5 (by decide)) a6 a7 a8 a9 a10⟩
set_option maxHeartbeats 4000000 in
set_option maxRecDepth 100000 in
theorem c_isNameT (g : Gp) (v ρ : Mv) (Z : Mz) (hG : GM ρ Z) {F : Int → Int} {n m p : Int}  (hT : TkM F n m v p) (hrs : RsI (v 184)) (ht : 0 ≤ v 178 11 ∧ v 178 11 ≤ 4) : Ok g 1 0 0 F_m_isName [(2, 178)] v ρ Z (fun o v' ρ' Z' => ρ = ρ' ∧ Z = Z' ∧ v = v' ∧ ∃ r : Int, o = some (0, r) ∧ ((r = 1 ∧ nm F n m p = true ∧ v 178 11 = 1 ∨ r = 0 ∧ nm F n m p = false))) := by
  refine (c_isNameF g v ρ Z hG ht (Hd.i fun z => (hT.nw z).2) (Hd.i hrs.rg)).imp fun o v' ρ' Z' h => ?_
  obtain ⟨a1, a2, a3, r, a4, a5⟩ := h
  exact ⟨a1, a2, a3, r, a4, nm_of hT hrs a5⟩
set_option maxHeartbeats 4000000 in
set_option maxRecDepth 100000 in
theorem c_isWordT (g : Gp) (v ρ : Mv) (Z : Mz) (hG : GM ρ Z) {F : Int → Int} {n m p : Int} (w : Int) (hT : TkM F n m v p) (ht : 0 ≤ v 178 11 ∧ v 178 11 ≤ 4) (hx : inL w) : Ok g 1 0 0 F_m_isWord [(2, 178), (1, w)] v ρ Z (fun o v' ρ' Z' => ρ = ρ' ∧ Z = Z' ∧ v = v' ∧ ∃ r : Int, o = some (0, r) ∧ ((r = 1 ∧ (v 178 11 = 1 ∧ v 178 17 = w) ∨ r = 0 ∧ ¬ (v 178 11 = 1 ∧ v 178 17 = w)))) := by
  exact c_isWordF g v ρ Z hG w ht (Hd.i fun z => (hT.nw z).2) hx
set_option maxHeartbeats 4000000 in
set_option maxRecDepth 100000 in
theorem c_isSignT (g : Gp) (v ρ : Mv) (Z : Mz) (hG : GM ρ Z) {F : Int → Int} {n m p : Int} (c : Int) (hT : TkM F n m v p) (ht : 0 ≤ v 178 11 ∧ v 178 11 ≤ 4) (hc : inR c) (hn : inR (v 178 14)) : Ok g 1 0 0 F_m_isSign [(2, 178), (0, c)] v ρ Z (fun o v' ρ' Z' => ρ = ρ' ∧ Z = Z' ∧ v = v' ∧ ∃ r : Int, o = some (0, r) ∧ ((r = 1 ∧ mk F n m p c = true ∨ r = 0 ∧ mk F n m p c = false))) := by
  refine (c_isSignF g v ρ Z hG c ht hc hn).imp fun o v' ρ' Z' h => ?_
  obtain ⟨a1, a2, a3, r, a4, a5⟩ := h
  exact ⟨a1, a2, a3, r, a4, mk_of hT a5⟩
set_option maxHeartbeats 4000000 in
set_option maxRecDepth 100000 in
theorem c_bitOfB (g : Gp) (v ρ : Mv) (Z : Mz) (hG : GM ρ Z) (a k : Int) (ha : 0 ≤ a ∧ a ≤ 7) (hk : 0 ≤ k ∧ k ≤ 2) : Ok g 1 0 0 F_m_bitOf [(0, a), (0, k)] v ρ Z (fun o v' ρ' Z' => ρ = ρ' ∧ Z = Z' ∧ v = v' ∧ ∃ r : Int, o = some (0, r) ∧ (0 ≤ r ∧ r ≤ 1) ∧ ((k = 0 → r = a % 2) ∧ (k = 1 → r = a / 2 % 2) ∧ (k = 2 → r = a / 4 % 2))) := by
  refine Ok.of mo_m_bitOf (Nat.le_of_ble_eq_true rfl) ?_
  intro X hX hRm hxn hQ
  show wp g X F_m_bitOf 0 0 0 [(0, a), (0, k)] [] v ρ Z
  refine r_iload_n (pc := 0) hX 0 rfl rfl ?_
  refine r_iload_n (pc := 1) hX 1 rfl rfl ?_
  refine r_ishrB (pc := 2) hX 2 rfl (by omega) (by omega) (fun z2 hz2 => ?_)
  refine r_iconst (pc := 3) hX 3 rfl ?_
  refine r_iandm (pc := 4) hX 4 1 rfl (by decide) (by decide) (m := 2) (by decide) ?_
  refine r_iconst (pc := 5) hX 5 rfl ?_
  first | refine r_icmp_ne (pc := 6) hX 6 (tgt := 13) rfl (by decide) (⟨by omega, by omega⟩) (⟨by omega, by omega⟩) (fun h6 => ?_) (fun h6 => ?_) | refine r_icmp_ne_any (pc := 6) hX 6 (tgt := 13) rfl (by decide) ?_ ?_
  · refine r_iconst (pc := 13) hX 9 rfl ?_
    exact r_zret (pc := 14) hX 10 hQ rfl rfl ⟨by omega, by omega⟩ (Nat.le_refl 0) (Nat.le_refl 0) ⟨rfl, rfl, rfl, 0, rfl, (by omega), (by omega)⟩
  · refine r_iconst (pc := 9) hX 7 rfl ?_
    refine r_goto (pc := 10) hX 8 (tgt := 14) rfl (by decide) ?_
    exact r_zret (pc := 14) hX 10 hQ rfl rfl ⟨by omega, by omega⟩ (Nat.le_refl 0) (Nat.le_refl 0) ⟨rfl, rfl, rfl, 1, rfl, (by omega), (by omega)⟩
set_option maxHeartbeats 4000000 in
set_option maxRecDepth 100000 in
theorem c_signF (g : Gp) (v ρ : Mv) (Z : Mz) (hG : GM ρ Z) {F : Int → Int} {n m p : Int} (c : Int) (hL : 0 ≤ v 178 4 ∧ v 178 4 ≤ v 178 3 ∧ v 178 3 ≤ 940 ∧ 0 ≤ v 178 11 ∧ v 178 11 ≤ 4 ∧ inR (v 178 5) ∧ inR (v 178 14)) (hT : TkM F n m v p) (hc : inR c) : Ok g 3 0 0 F_m_sign [(2, 178), (0, c)] v ρ Z (fun o v' ρ' Z' => ρ = ρ' ∧ Z = Z' ∧ Fr [] [4, 11, 12, 13, 14, 15, 16, 17] v v' ∧ ∃ r : Int, o = some (0, r) ∧ (0 ≤ v' 178 4 ∧ v' 178 4 ≤ v' 178 3 ∧ v' 178 3 ≤ 940 ∧ 0 ≤ v' 178 11 ∧ v' 178 11 ≤ 4 ∧ inR (v' 178 5) ∧ inR (v' 178 14) ∧ v 178 4 ≤ v' 178 4 ∧ v' 178 3 = v 178 3) ∧ (0 ≤ r ∧ r ≤ 1) ∧ (SgP F n m p c v' r)) := by
  refine Ok.of mo_m_sign (Nat.le_of_ble_eq_true rfl) ?_
  intro X hX hRm hxn hQ
  show wp g X F_m_sign 0 0 0 [(2, 178), (0, c)] [] v ρ Z
  have hT0 := hT
  obtain ⟨hp0, hp1, hn3, hm5, hsm, h4p, h11, h12, h14, h17⟩ := hT0
  refine r_aload_n (pc := 0) hX 0 rfl rfl ?_
  refine r_iload_n (pc := 1) hX 1 rfl rfl ?_
  refine r_callV (as := [(0, c)]) (st := []) (K := 12) (pc := 2) hX 2 rfl mo_m_isSign ml_X12_213 im_m_isSign se_m_isSign (c_isSignT g v ρ Z hG (c) (hT) (by omega) (by omega) (by omega)) rfl rfl rfl hG.1 (by rw [hRm]; exact ⟨by decide, by decide⟩) (by rw [hRm]; exact ⟨by decide, by decide⟩) (Nat.le_of_ble_eq_true rfl) (fun o2 v2 ρ2 Z2 hq2 _ => ?_)
  obtain ⟨rfl, rfl, rfl, r2, rfl, hq2⟩ := hq2
  show wp g X F_m_sign 0 0 5 [(2, 178), (0, c)] [(0, r2)] v ρ Z
  have hb2 : 0 ≤ r2 ∧ r2 ≤ 1 := by omega
  replace hq2 := Hd.i hq2
  first | refine r_if_ne (pc := 5) hX 3 (tgt := 14) rfl (by decide) (⟨by omega, by omega⟩) (fun h5 => ?_) (fun h5 => ?_) | refine r_if_ne_any (pc := 5) hX 3 (tgt := 14) rfl (by decide) ?_ ?_
  · refine r_aload_n (pc := 14) hX 8 rfl rfl ?_
    refine r_callV (as := []) (st := []) (K := 12) (pc := 15) hX 9 rfl mo_m_go ml_X12_219 im_m_go se_m_go (c_goT g v ρ Z hG  (by omega) (hT)) rfl rfl rfl hG.1 (by rw [hRm]; exact ⟨by decide, by decide⟩) (by rw [hRm]; exact ⟨by decide, by decide⟩) (Nat.le_of_ble_eq_true rfl) (fun o15 v15 ρ15 Z15 hq15 _ => ?_)
    obtain ⟨rfl, rfl, hfr15, rfl, hq15⟩ := hq15
    have hk15_3 : v15 178 3 = (v 178 3) := (hfr15.2 3 (by decide)).trans (rfl)
    have hk15_5 : v15 178 5 = (v 178 5) := (hfr15.2 5 (by decide)).trans (rfl)
    show wp g X F_m_sign 0 0 18 [(2, 178), (0, c)] [] v15 ρ Z
    refine r_iconst (pc := 18) hX 10 rfl ?_
    exact r_zret (pc := 19) hX 11 hQ rfl rfl ⟨by omega, by omega⟩ (Nat.le_refl 0) (Nat.le_refl 0) ⟨rfl, rfl, (Fr.rf).tr hfr15 (by decide) (by decide), 1, rfl, (by (repeat (first | rw [up_k (by decide)] | rw [up_s] | rw [up_r (by decide)])); omega), (by omega), (by
        rcases Hd.o hq2 with ⟨a, b⟩ | ⟨a, b⟩
        · first | exact Or.inl ⟨rfl, b, hq15.2⟩ | (exfalso; omega)
        · first | exact Or.inr ⟨hq10.1, b, hq10.2.1, hq10.2.2.trans h12⟩ | (exfalso; omega))⟩
  · refine r_aload_n (pc := 8) hX 4 rfl rfl ?_
    refine r_iconst (pc := 9) hX 5 rfl ?_
    refine r_callV (as := [(0, 1)]) (st := []) (K := 12) (pc := 10) hX 6 rfl mo_m_bad ml_X12_216 im_m_bad se_m_bad (c_badF g v ρ Z hG (1) (by omega)) rfl rfl rfl hG.1 (by rw [hRm]; exact ⟨by decide, by decide⟩) (by rw [hRm]; exact ⟨by decide, by decide⟩) (Nat.le_of_ble_eq_true rfl) (fun o10 v10 ρ10 Z10 hq10 _ => ?_)
    obtain ⟨rfl, rfl, hfr10, r10, rfl, hq10⟩ := hq10
    have hk10_3 : v10 178 3 = (v 178 3) := (hfr10.2 3 (by decide)).trans (rfl)
    have hk10_4 : v10 178 4 = (v 178 4) := (hfr10.2 4 (by decide)).trans (rfl)
    have hk10_5 : v10 178 5 = (v 178 5) := (hfr10.2 5 (by decide)).trans (rfl)
    have hk10_11 : v10 178 11 = (v 178 11) := (hfr10.2 11 (by decide)).trans (rfl)
    have hk10_14 : v10 178 14 = (v 178 14) := (hfr10.2 14 (by decide)).trans (rfl)
    show wp g X F_m_sign 0 0 13 [(2, 178), (0, c)] [(0, r10)] v10 ρ Z
    exact r_zret (pc := 13) hX 7 hQ rfl rfl ⟨by omega, by omega⟩ (Nat.le_refl 0) (Nat.le_refl 0) ⟨rfl, rfl, (Fr.rf).tr hfr10 (by decide) (by decide), r10, rfl, (by (repeat (first | rw [up_k (by decide)] | rw [up_s] | rw [up_r (by decide)])); omega), (by omega), (by
        rcases Hd.o hq2 with ⟨a, b⟩ | ⟨a, b⟩
        · first | exact Or.inl ⟨rfl, b, hq15.2⟩ | (exfalso; omega)
        · first | exact Or.inr ⟨hq10.1, b, hq10.2.1, hq10.2.2.trans h12⟩ | (exfalso; omega))⟩
set_option maxHeartbeats 4000000 in
set_option maxRecDepth 100000 in
theorem c_takesF (g : Gp) (v ρ : Mv) (Z : Mz) (hG : GM ρ Z) {F : Int → Int} {n m p : Int} (lo hi : Int) (hL : 0 ≤ v 178 4 ∧ v 178 4 ≤ v 178 3 ∧ v 178 3 ≤ 940 ∧ 0 ≤ v 178 11 ∧ v 178 11 ≤ 4 ∧ inR (v 178 5) ∧ inR (v 178 14)) (hT : TkM F n m v p) (hlo : inR lo) (hhi : inR hi) : Ok g 3 0 0 F_m_takes [(2, 178), (0, lo), (0, hi)] v ρ Z (fun o v' ρ' Z' => ρ = ρ' ∧ Z = Z' ∧ Fr [] [4, 11, 12, 13, 14, 15, 16, 17, 18] v v' ∧ ∃ r : Int, o = some (0, r) ∧ (0 ≤ v' 178 4 ∧ v' 178 4 ≤ v' 178 3 ∧ v' 178 3 ≤ 940 ∧ 0 ≤ v' 178 11 ∧ v' 178 11 ≤ 4 ∧ inR (v' 178 5) ∧ inR (v' 178 14) ∧ v 178 4 ≤ v' 178 4 ∧ v' 178 3 = v 178 3) ∧ (0 ≤ r ∧ r ≤ 1) ∧ (TaP F n m p lo hi v' r)) := by
  refine Ok.of mo_m_takes (Nat.le_of_ble_eq_true rfl) ?_
  intro X hX hRm hxn hQ
  show wp g X F_m_takes 0 0 0 [(2, 178), (0, lo), (0, hi)] [] v ρ Z
  have hT0 := hT
  obtain ⟨hp0, hp1, hn3, hm5, hsm, h4p, h11, h12, h14, h17⟩ := hT0
  refine t_getI (y := (v 178 11)) (pc := 0) hX 0 rfl rfl rfl fl_X12_190 rfl hG.1 (rfl) ?_
  refine r_iconst (pc := 4) hX 2 rfl ?_
  first | refine r_icmp_eq (pc := 5) hX 3 (tgt := 14) rfl (by decide) (⟨by omega, by omega⟩) (⟨by omega, by omega⟩) (fun h5 => ?_) (fun h5 => ?_) | refine r_icmp_eq_any (pc := 5) hX 3 (tgt := 14) rfl (by decide) ?_ ?_
  · refine t_getI (y := (v 178 14)) (pc := 14) hX 8 rfl rfl rfl fl_X12_200 rfl hG.1 (rfl) ?_
    refine r_iload_n (pc := 18) hX 10 rfl rfl ?_
    refine r_iload_n (pc := 19) hX 11 rfl rfl ?_
    refine r_callS (as := [(0, (v 178 14)), (0, lo), (0, hi)]) (st := []) (pc := 20) hX 12 rfl mo_m_isIn ml_X12_222 stt_m_isIn (c_isIn g v ρ Z hG ((v 178 14)) (lo) (hi) (by omega) (by omega) (by omega)) rfl (by rw [hRm]; exact ⟨by decide, by decide⟩) (by rw [hRm]; exact ⟨by decide, by decide⟩) (Nat.le_of_ble_eq_true rfl) (fun o20 v20 ρ20 Z20 hq20 _ => ?_)
    obtain ⟨rfl, rfl, rfl, r20, rfl, hq20⟩ := hq20
    show wp g X F_m_takes 0 0 23 [(2, 178), (0, lo), (0, hi)] [(0, r20)] v ρ Z
    first | refine r_if_ne (pc := 23) hX 13 (tgt := 32) rfl (by decide) (⟨by omega, by omega⟩) (fun h23 => ?_) (fun h23 => ?_) | refine r_if_ne_any (pc := 23) hX 13 (tgt := 32) rfl (by decide) ?_ ?_
    · refine r_aload_n (pc := 32) hX 18 rfl rfl ?_
      refine t_getI (y := (v 178 14)) (pc := 33) hX 19 rfl rfl rfl fl_X12_200 rfl hG.1 (rfl) ?_
      refine r_putI (pc := 37) hX 21 rfl fl_X12_226 rfl (fun _ h => by cases h; rfl) hG.1 (by decide) ?_
      refine r_aload_n (pc := 40) hX 22 rfl rfl ?_
      refine r_callV (as := []) (st := []) (K := 12) (pc := 41) hX 23 rfl mo_m_go ml_X12_219 im_m_go se_m_go (c_goT g (up v 178 18 (v 178 14)) ρ Z hG  (by (repeat (first | rw [up_k (by decide)] | rw [up_s] | rw [up_r (by decide)])); omega) (hT.fld (by decide))) rfl rfl rfl hG.1 (by rw [hRm]; exact ⟨by decide, by decide⟩) (by rw [hRm]; exact ⟨by decide, by decide⟩) (Nat.le_of_ble_eq_true rfl) (fun o41 v41 ρ41 Z41 hq41 _ => ?_)
      obtain ⟨rfl, rfl, hfr41, rfl, hq41⟩ := hq41
      try simp only [up_f (show (180 : Int) ≠ 178 by decide), up_k (show (3 : Int) ≠ 18 by decide), up_k (show (4 : Int) ≠ 18 by decide)] at hq41
      have hk41_3 : v41 178 3 = (v 178 3) := (hfr41.2 3 (by decide)).trans ((up_k (by decide)).trans (rfl))
      have hk41_5 : v41 178 5 = (v 178 5) := (hfr41.2 5 (by decide)).trans ((up_k (by decide)).trans (rfl))
      have hk41_18 : v41 178 18 = (v 178 14) := (hfr41.2 18 (by decide)).trans (up_s _ _ _ _)
      show wp g X F_m_takes 0 0 44 [(2, 178), (0, lo), (0, hi)] [] v41 ρ Z
      refine r_iconst (pc := 44) hX 24 rfl ?_
      exact r_zret (pc := 45) hX 25 hQ rfl rfl ⟨by omega, by omega⟩ (Nat.le_refl 0) (Nat.le_refl 0) ⟨rfl, rfl, ((Fr.rf).fld (k := 18) (by decide)).tr hfr41 (by decide) (by decide), 1, rfl, (by (repeat (first | rw [up_k (by decide)] | rw [up_s] | rw [up_r (by decide)])); omega), (by omega), (by first | exact Or.inr ⟨hq10.1, Or.inl ⟨by omega, hq10.2.1⟩, hq10.2.2.trans h12⟩ | exact Or.inr ⟨hq28.1, Or.inr ⟨by omega, fun z => by have z2 := h14 (by omega); omega, hq28.2.1⟩, hq28.2.2.trans h12⟩ | (have z2 := h14 (by omega); exact Or.inl ⟨rfl, by omega, by omega, hq41.2⟩))⟩
    · refine r_aload_n (pc := 26) hX 14 rfl rfl ?_
      refine r_iconst (pc := 27) hX 15 rfl ?_
      refine r_callV (as := [(0, 2)]) (st := []) (K := 12) (pc := 28) hX 16 rfl mo_m_bad ml_X12_216 im_m_bad se_m_bad (c_badF g v ρ Z hG (2) (by omega)) rfl rfl rfl hG.1 (by rw [hRm]; exact ⟨by decide, by decide⟩) (by rw [hRm]; exact ⟨by decide, by decide⟩) (Nat.le_of_ble_eq_true rfl) (fun o28 v28 ρ28 Z28 hq28 _ => ?_)
      obtain ⟨rfl, rfl, hfr28, r28, rfl, hq28⟩ := hq28
      have hk28_3 : v28 178 3 = (v 178 3) := (hfr28.2 3 (by decide)).trans (rfl)
      have hk28_4 : v28 178 4 = (v 178 4) := (hfr28.2 4 (by decide)).trans (rfl)
      have hk28_5 : v28 178 5 = (v 178 5) := (hfr28.2 5 (by decide)).trans (rfl)
      have hk28_11 : v28 178 11 = (v 178 11) := (hfr28.2 11 (by decide)).trans (rfl)
      have hk28_14 : v28 178 14 = (v 178 14) := (hfr28.2 14 (by decide)).trans (rfl)
      have hk28_18 : v28 178 18 = (v 178 18) := (hfr28.2 18 (by decide)).trans (rfl)
      show wp g X F_m_takes 0 0 31 [(2, 178), (0, lo), (0, hi)] [(0, r28)] v28 ρ Z
      exact r_zret (pc := 31) hX 17 hQ rfl rfl ⟨by omega, by omega⟩ (Nat.le_refl 0) (Nat.le_refl 0) ⟨rfl, rfl, (Fr.rf).tr hfr28 (by decide) (by decide), r28, rfl, (by (repeat (first | rw [up_k (by decide)] | rw [up_s] | rw [up_r (by decide)])); omega), (by omega), (by first | exact Or.inr ⟨hq10.1, Or.inl ⟨by omega, hq10.2.1⟩, hq10.2.2.trans h12⟩ | exact Or.inr ⟨hq28.1, Or.inr ⟨by omega, fun z => by have z2 := h14 (by omega); omega, hq28.2.1⟩, hq28.2.2.trans h12⟩ | (have z2 := h14 (by omega); exact Or.inl ⟨rfl, by omega, by omega, hq41.2⟩))⟩
  · refine r_aload_n (pc := 8) hX 4 rfl rfl ?_
    refine r_iconst (pc := 9) hX 5 rfl ?_
    refine r_callV (as := [(0, 1)]) (st := []) (K := 12) (pc := 10) hX 6 rfl mo_m_bad ml_X12_216 im_m_bad se_m_bad (c_badF g v ρ Z hG (1) (by omega)) rfl rfl rfl hG.1 (by rw [hRm]; exact ⟨by decide, by decide⟩) (by rw [hRm]; exact ⟨by decide, by decide⟩) (Nat.le_of_ble_eq_true rfl) (fun o10 v10 ρ10 Z10 hq10 _ => ?_)
    obtain ⟨rfl, rfl, hfr10, r10, rfl, hq10⟩ := hq10
    have hk10_3 : v10 178 3 = (v 178 3) := (hfr10.2 3 (by decide)).trans (rfl)
    have hk10_4 : v10 178 4 = (v 178 4) := (hfr10.2 4 (by decide)).trans (rfl)
    have hk10_5 : v10 178 5 = (v 178 5) := (hfr10.2 5 (by decide)).trans (rfl)
    have hk10_11 : v10 178 11 = (v 178 11) := (hfr10.2 11 (by decide)).trans (rfl)
    have hk10_14 : v10 178 14 = (v 178 14) := (hfr10.2 14 (by decide)).trans (rfl)
    have hk10_18 : v10 178 18 = (v 178 18) := (hfr10.2 18 (by decide)).trans (rfl)
    show wp g X F_m_takes 0 0 13 [(2, 178), (0, lo), (0, hi)] [(0, r10)] v10 ρ Z
    exact r_zret (pc := 13) hX 7 hQ rfl rfl ⟨by omega, by omega⟩ (Nat.le_refl 0) (Nat.le_refl 0) ⟨rfl, rfl, (Fr.rf).tr hfr10 (by decide) (by decide), r10, rfl, (by (repeat (first | rw [up_k (by decide)] | rw [up_s] | rw [up_r (by decide)])); omega), (by omega), (by first | exact Or.inr ⟨hq10.1, Or.inl ⟨by omega, hq10.2.1⟩, hq10.2.2.trans h12⟩ | exact Or.inr ⟨hq28.1, Or.inr ⟨by omega, fun z => by have z2 := h14 (by omega); omega, hq28.2.1⟩, hq28.2.2.trans h12⟩ | (have z2 := h14 (by omega); exact Or.inl ⟨rfl, by omega, by omega, hq41.2⟩))⟩
set_option maxHeartbeats 4000000 in
set_option maxRecDepth 100000 in
theorem c_putsF (g : Gp) (v ρ : Mv) (Z : Mz) (hG : GM ρ Z) {F : Int → Int} {n m p : Int} (k lo hi : Int) (hL : 0 ≤ v 178 4 ∧ v 178 4 ≤ v 178 3 ∧ v 178 3 ≤ 940 ∧ 0 ≤ v 178 11 ∧ v 178 11 ≤ 4 ∧ inR (v 178 5) ∧ inR (v 178 14)) (hT : TkM F n m v p) (hk : 0 ≤ k ∧ k < 35) (hlo : inR lo) (hhi : inR hi) : Ok g 4 0 0 F_m_puts [(2, 178), (0, k), (0, lo), (0, hi)] v ρ Z (fun o v' ρ' Z' => ρ = ρ' ∧ Z = Z' ∧ Fr [181] [4, 11, 12, 13, 14, 15, 16, 17, 18] v v' ∧ ∃ r : Int, o = some (0, r) ∧ (0 ≤ v' 178 4 ∧ v' 178 4 ≤ v' 178 3 ∧ v' 178 3 ≤ 940 ∧ 0 ≤ v' 178 11 ∧ v' 178 11 ≤ 4 ∧ inR (v' 178 5) ∧ inR (v' 178 14) ∧ v 178 4 ≤ v' 178 4 ∧ v' 178 3 = v 178 3) ∧ (0 ≤ r ∧ r ≤ 1) ∧ (PuP F n m p k lo hi v' r) ∧ ((∀ j, j ≠ k → v' 181 j = v 181 j))) := by
  refine Ok.of mo_m_puts (Nat.le_of_ble_eq_true rfl) ?_
  intro X hX hRm hxn hQ
  show wp g X F_m_puts 0 0 0 [(2, 178), (0, k), (0, lo), (0, hi)] [] v ρ Z
  refine r_aload_n (pc := 0) hX 0 rfl rfl ?_
  refine r_iload_n (pc := 1) hX 1 rfl rfl ?_
  refine r_iload_n (pc := 2) hX 2 rfl rfl ?_
  refine r_callV (as := [(0, lo), (0, hi)]) (st := []) (K := 12) (pc := 3) hX 3 rfl mo_m_takes ml_X12_229 im_m_takes se_m_takes (c_takesF g v ρ Z hG (lo) (hi) (by omega) (hT) (by omega) (by omega)) rfl rfl rfl hG.1 (by rw [hRm]; exact ⟨by decide, by decide⟩) (by rw [hRm]; exact ⟨by decide, by decide⟩) (Nat.le_of_ble_eq_true rfl) (fun o3 v3 ρ3 Z3 hq3 _ => ?_)
  obtain ⟨rfl, rfl, hfr3, r3, rfl, hq3⟩ := hq3
  have hk3_3 : v3 178 3 = (v 178 3) := (hfr3.2 3 (by decide)).trans (rfl)
  have hk3_5 : v3 178 5 = (v 178 5) := (hfr3.2 5 (by decide)).trans (rfl)
  show wp g X F_m_puts 0 0 6 [(2, 178), (0, k), (0, lo), (0, hi)] [(0, r3)] v3 ρ Z
  have e3 : v3 181 = v 181 := hfr3.1 181 (by decide) (by decide)
  first | refine r_if_ne (pc := 6) hX 4 (tgt := 11) rfl (by decide) (⟨by omega, by omega⟩) (fun h6 => ?_) (fun h6 => ?_) | refine r_if_ne_any (pc := 6) hX 4 (tgt := 11) rfl (by decide) ?_ ?_
  · refine t_getR (pc := 11) hX 7 rfl rfl rfl fl_X12_37 rfl hG.1 (a_h hG).1 ?_
    refine r_iload_n (pc := 15) hX 9 rfl rfl ?_
    refine t_getI (y := (v3 178 18)) (pc := 16) hX 10 rfl rfl rfl fl_X12_226 rfl hG.1 (rfl) ?_
    refine e_iast (pc := 20) hX 12 rfl (a_h hG).2.1 (a_h hG).2.2 (by decide) (by omega) (by omega) ?_
    refine r_iconst (pc := 21) hX 13 rfl ?_
    show wp g X F_m_puts 0 0 22 [(2, 178), (0, k), (0, lo), (0, hi)] [(0, 1)] (up v3 181 k (v3 178 18)) ρ Z
    exact r_zret (pc := 22) hX 14 hQ rfl rfl ⟨by omega, by omega⟩ (Nat.le_refl 0) (Nat.le_refl 0) ⟨rfl, rfl, ((Fr.rf).tr hfr3 (by decide) (by decide)).arr (r := 181) (by decide) (by decide), 1, rfl, (by (repeat (first | rw [up_k (by decide)] | rw [up_s] | rw [up_r (by decide)])); omega), (by omega), (hq3.2.2.p1 (by omega)), (fun j hj => by rw [up_k hj, e3])⟩
  · refine r_iconst (pc := 9) hX 5 rfl ?_
    exact r_zret (pc := 10) hX 6 hQ rfl rfl ⟨by omega, by omega⟩ (Nat.le_refl 0) (Nat.le_refl 0) ⟨rfl, rfl, (Fr.rf).tr hfr3 (by decide) (by decide), 0, rfl, (by (repeat (first | rw [up_k (by decide)] | rw [up_s] | rw [up_r (by decide)])); omega), (by omega), (hq3.2.2.p0 (by omega)), (fun j _ => by rw [e3])⟩
set_option maxHeartbeats 4000000 in
set_option maxRecDepth 100000 in
theorem c_freshF (g : Gp) (v ρ : Mv) (Z : Mz) (hG : GM ρ Z) {F : Int → Int} {n m : Int} {s : Rd} (k : Int) (hL : 0 ≤ v 178 4 ∧ v 178 4 ≤ v 178 3 ∧ v 178 3 ≤ 940 ∧ 0 ≤ v 178 11 ∧ v 178 11 ≤ 4 ∧ inR (v 178 5) ∧ inR (v 178 14)) (hh0 : (0 ≤ v 181 0 ∧ v 181 0 ≤ 4) ∧ (0 ≤ v 181 1 ∧ v 181 1 ≤ 3) ∧ (0 ≤ v 181 2 ∧ v 181 2 ≤ 3)) (hR : RdM F n m v s) (hrs : RsI (v 184)) (hk : k = 10 + v 181 0 ∧ v 181 0 < 4 ∨ k = 14 + v 181 1 ∧ v 181 1 < 3 ∨ k = 17 + v 181 2 ∧ v 181 2 < 3) : Ok g 3 0 0 F_m_fresh [(2, 178), (0, k)] v ρ Z (fun o v' ρ' Z' => ρ = ρ' ∧ Z = Z' ∧ Fr [183] [4, 11, 12, 13, 14, 15, 16, 17] v v' ∧ ∃ r : Int, o = some (0, r) ∧ (0 ≤ v' 178 4 ∧ v' 178 4 ≤ v' 178 3 ∧ v' 178 3 ≤ 940 ∧ 0 ≤ v' 178 11 ∧ v' 178 11 ≤ 4 ∧ inR (v' 178 5) ∧ inR (v' 178 14) ∧ v 178 4 ≤ v' 178 4 ∧ v' 178 3 = v 178 3) ∧ (0 ≤ r ∧ r ≤ 1) ∧ (FsP F n m s k v' r) ∧ (∀ j, j ≠ k → v' 183 j = v 183 j)) := by
  refine Ok.of mo_m_fresh (Nat.le_of_ble_eq_true rfl) ?_
  intro X hX hRm hxn hQ
  show wp g X F_m_fresh 0 0 0 [(2, 178), (0, k)] [] v ρ Z
  have hT := hR.1
  have hT0 := hR.1
  obtain ⟨hp0, hp1, hn3, hm5, hsm, h4p, h11, h12, h14, h17⟩ := hT0
  have hH0 : v 181 0 = s.H 0 := hR.2.1 0 (by decide) (by decide)
  have hH1 : v 181 1 = s.H 1 := hR.2.1 1 (by decide) (by decide)
  have hH2 : v 181 2 = s.H 2 := hR.2.1 2 (by decide) (by decide)
  refine r_aload_n (pc := 0) hX 0 rfl rfl ?_
  refine r_callV (as := []) (st := []) (K := 12) (pc := 1) hX 1 rfl mo_m_isName ml_X12_233 im_m_isName se_m_isName (c_isNameT g v ρ Z hG  (hT) (hrs) (by omega)) rfl rfl rfl hG.1 (by rw [hRm]; exact ⟨by decide, by decide⟩) (by rw [hRm]; exact ⟨by decide, by decide⟩) (Nat.le_of_ble_eq_true rfl) (fun o1 v1 ρ1 Z1 hq1 _ => ?_)
  obtain ⟨rfl, rfl, rfl, r1, rfl, hq1⟩ := hq1
  show wp g X F_m_fresh 0 0 4 [(2, 178), (0, k)] [(0, r1)] v ρ Z
  first | refine r_if_ne (pc := 4) hX 2 (tgt := 13) rfl (by decide) (⟨by omega, by omega⟩) (fun h4 => ?_) (fun h4 => ?_) | refine r_if_ne_any (pc := 4) hX 2 (tgt := 13) rfl (by decide) ?_ ?_
  · have hn1 : nm F n m s.p = true ∧ v 178 11 = 1 := by
      rcases hq1 with ⟨_, a, b⟩ | ⟨a, _⟩
      · exact ⟨a, b⟩
      · exact absurd a (by omega)
    replace hq1 := Hd.i hq1
    refine r_aload_n (pc := 13) hX 7 rfl rfl ?_
    refine r_bipush (pc := 14) hX 8 rfl (by decide) ?_
    refine t_getR (pc := 16) hX 9 rfl rfl rfl fl_X12_37 rfl hG.1 (a_h hG).1 ?_
    refine r_iconst (pc := 20) hX 11 rfl ?_
    refine e_iald (y := (v 181 0)) (pc := 21) hX 12 rfl (a_h hG).2.1 (a_h hG).2.2 (by omega) (by omega) (rfl) ?_
    refine r_callV (as := [(0, 10), (0, (v 181 0))]) (st := []) (K := 12) (pc := 22) hX 13 rfl mo_m_find ml_X12_237 im_m_find se_m_find (c_findF g v ρ Z hG (10) ((v 181 0)) (by omega) (by omega) ((hT.nw hn1.2).2) (Hd.i (by rw [hH0]; exact fun j a b => ⟨by have := (hR.2.2.1.1 j a b).2; omega, by have := (hR.2.2.1.1 j a b).2; omega⟩))) rfl rfl rfl hG.1 (by rw [hRm]; exact ⟨by decide, by decide⟩) (by rw [hRm]; exact ⟨by decide, by decide⟩) (Nat.le_of_ble_eq_true rfl) (fun o22 v22 ρ22 Z22 hq22 _ => ?_)
    obtain ⟨rfl, rfl, rfl, r22, rfl, hq22⟩ := hq22
    show wp g X F_m_fresh 0 0 25 [(2, 178), (0, k)] [(0, r22)] v ρ Z
    have e22 : r22 = fnd s.N (tn F n s.p) 0 (s.H 0).toNat 0 := by
      have z := hR.fd hn1.2 (a := 0) (by omega) hq22.1 (by rw [hH0]; exact hR.2.2.1.1)
      rw [hH0] at z
      exact z
    replace hq22 := hq22.2
    have L58 : (tol s.N s.H (tn F n s.p) = true) → wp g X F_m_fresh 0 0 58 [(2, 178), (0, k)] [] v ρ Z := by
      intro i58
      refine r_aload_n (pc := 58) hX 31 rfl rfl ?_
      refine r_iconst (pc := 59) hX 32 rfl ?_
      refine r_callV (as := [(0, 3)]) (st := []) (K := 12) (pc := 60) hX 33 rfl mo_m_bad ml_X12_216 im_m_bad se_m_bad (c_badF g v ρ Z hG (3) (by omega)) rfl rfl rfl hG.1 (by rw [hRm]; exact ⟨by decide, by decide⟩) (by rw [hRm]; exact ⟨by decide, by decide⟩) (Nat.le_of_ble_eq_true rfl) (fun o60 v60 ρ60 Z60 hq60 _ => ?_)
      obtain ⟨rfl, rfl, hfr60, r60, rfl, hq60⟩ := hq60
      have hRsI_60 : RsI (v60 184) := by rw [hfr60.1 184 (by decide) (by decide)]; exact hrs
      have hk60_3 : v60 178 3 = (v 178 3) := (hfr60.2 3 (by decide)).trans (rfl)
      have hk60_4 : v60 178 4 = (v 178 4) := (hfr60.2 4 (by decide)).trans (rfl)
      have hk60_5 : v60 178 5 = (v 178 5) := (hfr60.2 5 (by decide)).trans (rfl)
      have hk60_11 : v60 178 11 = (v 178 11) := (hfr60.2 11 (by decide)).trans (rfl)
      have hk60_14 : v60 178 14 = (v 178 14) := (hfr60.2 14 (by decide)).trans (rfl)
      have hk60_20 : v60 178 20 = (v 178 20) := (hfr60.2 20 (by decide)).trans (rfl)
      show wp g X F_m_fresh 0 0 63 [(2, 178), (0, k)] [(0, r60)] v60 ρ Z
      exact r_zret (pc := 63) hX 34 hQ rfl rfl ⟨by omega, by omega⟩ (Nat.le_refl 0) (Nat.le_refl 0) ⟨rfl, rfl, (Fr.rf).tr hfr60 (by decide) (by decide), r60, rfl, (by (repeat (first | rw [up_k (by decide)] | rw [up_s] | rw [up_r (by decide)])); omega), (by omega), (by rw [hq60.1]; exact FsP.bad (rNewAt_3 hn1.1 i58) (by decide) hq60.2.1 (hq60.2.2.trans h12)), (fun j _ => by rw [hfr60.1 183 (by decide) (by decide)])⟩
    first | refine r_if_ge (pc := 25) hX 14 (tgt := 58) rfl (by decide) (⟨by omega, by omega⟩) (fun h25 => ?_) (fun h25 => ?_) | refine r_if_ge_any (pc := 25) hX 14 (tgt := 58) rfl (by decide) ?_ ?_
    · exact (L58  (by first | exact tol_t (Or.inl (by omega)) | exact tol_t (Or.inr (Or.inr (by omega))) | exact tol_t (Or.inr (Or.inl (by omega)))) )
    · refine r_aload_n (pc := 28) hX 15 rfl rfl ?_
      refine r_bipush (pc := 29) hX 16 rfl (by decide) ?_
      refine t_getR (pc := 31) hX 17 rfl rfl rfl fl_X12_37 rfl hG.1 (a_h hG).1 ?_
      refine r_iconst (pc := 35) hX 19 rfl ?_
      refine e_iald (y := (v 181 1)) (pc := 36) hX 20 rfl (a_h hG).2.1 (a_h hG).2.2 (by omega) (by omega) (rfl) ?_
      refine r_callV (as := [(0, 14), (0, (v 181 1))]) (st := []) (K := 12) (pc := 37) hX 21 rfl mo_m_find ml_X12_237 im_m_find se_m_find (c_findF g v ρ Z hG (14) ((v 181 1)) (by omega) (by omega) ((hT.nw hn1.2).2) (Hd.i (by rw [hH1]; exact fun j a b => ⟨by have := (hR.2.2.1.2.1 j a b).2; omega, by have := (hR.2.2.1.2.1 j a b).2; omega⟩))) rfl rfl rfl hG.1 (by rw [hRm]; exact ⟨by decide, by decide⟩) (by rw [hRm]; exact ⟨by decide, by decide⟩) (Nat.le_of_ble_eq_true rfl) (fun o37 v37 ρ37 Z37 hq37 _ => ?_)
      obtain ⟨rfl, rfl, rfl, r37, rfl, hq37⟩ := hq37
      show wp g X F_m_fresh 0 0 40 [(2, 178), (0, k)] [(0, r37)] v ρ Z
      have e37 : r37 = fnd s.N (tn F n s.p) 4 (s.H 1).toNat 0 := by
        have z := hR.fd hn1.2 (a := 4) (by omega) hq37.1 (by rw [hH1]; exact hR.2.2.1.2.1)
        rw [hH1] at z
        exact z
      replace hq37 := hq37.2
      first | refine r_if_ge (pc := 40) hX 22 (tgt := 58) rfl (by decide) (⟨by omega, by omega⟩) (fun h40 => ?_) (fun h40 => ?_) | refine r_if_ge_any (pc := 40) hX 22 (tgt := 58) rfl (by decide) ?_ ?_
      · exact (L58  (by first | exact tol_t (Or.inl (by omega)) | exact tol_t (Or.inr (Or.inr (by omega))) | exact tol_t (Or.inr (Or.inl (by omega)))) )
      · refine r_aload_n (pc := 43) hX 23 rfl rfl ?_
        refine r_bipush (pc := 44) hX 24 rfl (by decide) ?_
        refine t_getR (pc := 46) hX 25 rfl rfl rfl fl_X12_37 rfl hG.1 (a_h hG).1 ?_
        refine r_iconst (pc := 50) hX 27 rfl ?_
        refine e_iald (y := (v 181 2)) (pc := 51) hX 28 rfl (a_h hG).2.1 (a_h hG).2.2 (by omega) (by omega) (rfl) ?_
        refine r_callV (as := [(0, 17), (0, (v 181 2))]) (st := []) (K := 12) (pc := 52) hX 29 rfl mo_m_find ml_X12_237 im_m_find se_m_find (c_findF g v ρ Z hG (17) ((v 181 2)) (by omega) (by omega) ((hT.nw hn1.2).2) (Hd.i (by rw [hH2]; exact fun j a b => ⟨by have := (hR.2.2.1.2.2 j a b).2; omega, by have := (hR.2.2.1.2.2 j a b).2; omega⟩))) rfl rfl rfl hG.1 (by rw [hRm]; exact ⟨by decide, by decide⟩) (by rw [hRm]; exact ⟨by decide, by decide⟩) (Nat.le_of_ble_eq_true rfl) (fun o52 v52 ρ52 Z52 hq52 _ => ?_)
        obtain ⟨rfl, rfl, rfl, r52, rfl, hq52⟩ := hq52
        show wp g X F_m_fresh 0 0 55 [(2, 178), (0, k)] [(0, r52)] v ρ Z
        have e52 : r52 = fnd s.N (tn F n s.p) 7 (s.H 2).toNat 0 := by
          have z := hR.fd hn1.2 (a := 7) (by omega) hq52.1 (by rw [hH2]; exact hR.2.2.1.2.2)
          rw [hH2] at z
          exact z
        replace hq52 := hq52.2
        first | refine r_if_lt (pc := 55) hX 30 (tgt := 64) rfl (by decide) (⟨by omega, by omega⟩) (fun h55 => ?_) (fun h55 => ?_) | refine r_if_lt_any (pc := 55) hX 30 (tgt := 64) rfl (by decide) ?_ ?_
        · refine t_getR (pc := 64) hX 35 rfl rfl rfl fl_X12_43 rfl hG.1 (a_names hG).1 ?_
          refine r_iload_n (pc := 68) hX 37 rfl rfl ?_
          refine t_getL (y := (v 178 17)) (pc := 69) hX 38 rfl rfl rfl fl_X12_203 rfl hG.1 (rfl) ?_
          refine e_last (pc := 73) hX 40 rfl (a_names hG).2.1 (a_names hG).2.2 (by decide) (by omega) (by omega) ?_
          refine r_aload_n (pc := 74) hX 41 rfl rfl ?_
          refine r_callV (as := []) (st := []) (K := 12) (pc := 75) hX 42 rfl mo_m_go ml_X12_219 im_m_go se_m_go (c_goT g (up v 183 k (v 178 17)) ρ Z hG  (by (repeat (first | rw [up_k (by decide)] | rw [up_s] | rw [up_r (by decide)])); omega) (hT.arr (by decide) (by decide))) rfl rfl rfl hG.1 (by rw [hRm]; exact ⟨by decide, by decide⟩) (by rw [hRm]; exact ⟨by decide, by decide⟩) (Nat.le_of_ble_eq_true rfl) (fun o75 v75 ρ75 Z75 hq75 _ => ?_)
          obtain ⟨rfl, rfl, hfr75, rfl, hq75⟩ := hq75
          try simp only [up_f (show (178 : Int) ≠ 183 by decide), up_f (show (180 : Int) ≠ 183 by decide)] at hq75
          have hRsI_75 : RsI (v75 184) := by rw [hfr75.1 184 (by decide) (by decide), up_f (by decide)]; exact hrs
          have hk75_3 : v75 178 3 = (v 178 3) := (hfr75.2 3 (by decide)).trans ((up_r (by decide)).trans (rfl))
          have hk75_5 : v75 178 5 = (v 178 5) := (hfr75.2 5 (by decide)).trans ((up_r (by decide)).trans (rfl))
          have hk75_20 : v75 178 20 = (v 178 20) := (hfr75.2 20 (by decide)).trans ((up_r (by decide)).trans (rfl))
          show wp g X F_m_fresh 0 0 78 [(2, 178), (0, k)] [] v75 ρ Z
          refine r_iconst (pc := 78) hX 43 rfl ?_
          exact r_zret (pc := 79) hX 44 hQ rfl rfl ⟨by omega, by omega⟩ (Nat.le_refl 0) (Nat.le_refl 0) ⟨rfl, rfl, ((Fr.rf).arr (r := 183) (by decide) (by decide)).tr hfr75 (by decide) (by decide), 1, rfl, (by (repeat (first | rw [up_k (by decide)] | rw [up_s] | rw [up_r (by decide)])); omega), (by (repeat (first | rw [up_k (by decide)] | rw [up_s] | rw [up_r (by decide)])); omega), (FsP.good hR hn1.2 hn1.1 (tol_f (by omega) (by omega) (by omega)) hq75.2 ((hfr75.1 181 (by decide) (by decide)).trans (up_f (by decide))) ((hfr75.2 20 (by decide)).trans (up_r (by decide))) (by rw [hfr75.1 183 (by decide) (by decide)]; exact up_s _ _ _ _) (fun j e => by rw [hfr75.1 183 (by decide) (by decide)]; exact up_k e) (by omega) (by omega)), (fun j e => by rw [hfr75.1 183 (by decide) (by decide)]; exact up_k e)⟩
        · exact (L58  (by first | exact tol_t (Or.inl (by omega)) | exact tol_t (Or.inr (Or.inr (by omega))) | exact tol_t (Or.inr (Or.inl (by omega)))) )
  · have hn0 : nm F n m s.p = false := by
      rcases hq1 with ⟨a, _⟩ | ⟨_, a⟩
      · exact absurd a (by omega)
      · exact a
    replace hq1 := Hd.i hq1
    refine r_aload_n (pc := 7) hX 3 rfl rfl ?_
    refine r_iconst (pc := 8) hX 4 rfl ?_
    refine r_callV (as := [(0, 1)]) (st := []) (K := 12) (pc := 9) hX 5 rfl mo_m_bad ml_X12_216 im_m_bad se_m_bad (c_badF g v ρ Z hG (1) (by omega)) rfl rfl rfl hG.1 (by rw [hRm]; exact ⟨by decide, by decide⟩) (by rw [hRm]; exact ⟨by decide, by decide⟩) (Nat.le_of_ble_eq_true rfl) (fun o9 v9 ρ9 Z9 hq9 _ => ?_)
    obtain ⟨rfl, rfl, hfr9, r9, rfl, hq9⟩ := hq9
    have hRsI_9 : RsI (v9 184) := by rw [hfr9.1 184 (by decide) (by decide)]; exact hrs
    have hk9_3 : v9 178 3 = (v 178 3) := (hfr9.2 3 (by decide)).trans (rfl)
    have hk9_4 : v9 178 4 = (v 178 4) := (hfr9.2 4 (by decide)).trans (rfl)
    have hk9_5 : v9 178 5 = (v 178 5) := (hfr9.2 5 (by decide)).trans (rfl)
    have hk9_11 : v9 178 11 = (v 178 11) := (hfr9.2 11 (by decide)).trans (rfl)
    have hk9_14 : v9 178 14 = (v 178 14) := (hfr9.2 14 (by decide)).trans (rfl)
    have hk9_20 : v9 178 20 = (v 178 20) := (hfr9.2 20 (by decide)).trans (rfl)
    show wp g X F_m_fresh 0 0 12 [(2, 178), (0, k)] [(0, r9)] v9 ρ Z
    exact r_zret (pc := 12) hX 6 hQ rfl rfl ⟨by omega, by omega⟩ (Nat.le_refl 0) (Nat.le_refl 0) ⟨rfl, rfl, (Fr.rf).tr hfr9 (by decide) (by decide), r9, rfl, (by (repeat (first | rw [up_k (by decide)] | rw [up_s] | rw [up_r (by decide)])); omega), (by omega), (by rw [hq9.1]; exact FsP.bad (rNewAt_1 hn0) (by decide) hq9.2.1 (hq9.2.2.trans h12)), (fun j _ => by rw [hfr9.1 183 (by decide) (by decide)])⟩
set_option maxHeartbeats 4000000 in
set_option maxRecDepth 100000 in
theorem c_looksAtF (g : Gp) (v ρ : Mv) (Z : Mz) (hG : GM ρ Z) {F : Int → Int} {n m : Int} {s : Rd} (fr many : Int) (hL : 0 ≤ v 178 4 ∧ v 178 4 ≤ v 178 3 ∧ v 178 3 ≤ 940 ∧ 0 ≤ v 178 11 ∧ v 178 11 ≤ 4 ∧ inR (v 178 5) ∧ inR (v 178 14)) (hh0 : (0 ≤ v 181 0 ∧ v 181 0 ≤ 4) ∧ (0 ≤ v 181 1 ∧ v 181 1 ≤ 3) ∧ (0 ≤ v 181 2 ∧ v 181 2 ≤ 3)) (hR : RdM F n m v s) (hrs : RsI (v 184)) (hf : fr = 10 ∧ many = v 181 0) : Ok g 2 0 0 F_m_looksAt [(2, 178), (0, fr), (0, many)] v ρ Z (fun o v' ρ' Z' => ρ = ρ' ∧ Z = Z' ∧ Fr [] [15, 16, 18] v v' ∧ ∃ r : Int, o = some (0, r) ∧ (0 ≤ v' 178 4 ∧ v' 178 4 ≤ v' 178 3 ∧ v' 178 3 ≤ 940 ∧ 0 ≤ v' 178 11 ∧ v' 178 11 ≤ 4 ∧ inR (v' 178 5) ∧ inR (v' 178 14) ∧ v 178 4 ≤ v' 178 4 ∧ v' 178 3 = v 178 3 ∧ v' 178 4 = v 178 4 ∧ v' 178 11 = v 178 11) ∧ (0 ≤ r ∧ r ≤ 1) ∧ (LkP F n m s v' r)) := by
  refine Ok.of mo_m_looksAt (Nat.le_of_ble_eq_true rfl) ?_
  intro X hX hRm hxn hQ
  show wp g X F_m_looksAt 0 0 0 [(2, 178), (0, fr), (0, many)] [] v ρ Z
  have hT := hR.1
  have hT0 := hR.1
  obtain ⟨hp0, hp1, hn3, hm5, hsm, h4p, h11, h12, h14, h17⟩ := hT0
  have hH0 : v 181 0 = s.H 0 := hR.2.1 0 (by decide) (by decide)
  have hH1 : v 181 1 = s.H 1 := hR.2.1 1 (by decide) (by decide)
  have hH2 : v 181 2 = s.H 2 := hR.2.1 2 (by decide) (by decide)
  obtain ⟨hfr0, hmany0⟩ := hf
  refine r_aload_n (pc := 0) hX 0 rfl rfl ?_
  refine r_callV (as := []) (st := []) (K := 12) (pc := 1) hX 1 rfl mo_m_isName ml_X12_233 im_m_isName se_m_isName (c_isNameT g v ρ Z hG  (hT) (hrs) (by omega)) rfl rfl rfl hG.1 (by rw [hRm]; exact ⟨by decide, by decide⟩) (by rw [hRm]; exact ⟨by decide, by decide⟩) (Nat.le_of_ble_eq_true rfl) (fun o1 v1 ρ1 Z1 hq1 _ => ?_)
  obtain ⟨rfl, rfl, rfl, r1, rfl, hq1⟩ := hq1
  show wp g X F_m_looksAt 0 0 4 [(2, 178), (0, fr), (0, many)] [(0, r1)] v ρ Z
  first | refine r_if_ne (pc := 4) hX 2 (tgt := 13) rfl (by decide) (⟨by omega, by omega⟩) (fun h4 => ?_) (fun h4 => ?_) | refine r_if_ne_any (pc := 4) hX 2 (tgt := 13) rfl (by decide) ?_ ?_
  · have hn1 : nm F n m s.p = true ∧ v 178 11 = 1 := by
      rcases hq1 with ⟨_, a, b⟩ | ⟨a, _⟩
      · exact ⟨a, b⟩
      · exact absurd a (by omega)
    replace hq1 := Hd.i hq1
    refine r_aload_n (pc := 13) hX 7 rfl rfl ?_
    refine r_aload_n (pc := 14) hX 8 rfl rfl ?_
    refine r_iload_n (pc := 15) hX 9 rfl rfl ?_
    refine r_iload_n (pc := 16) hX 10 rfl rfl ?_
    refine r_callV (as := [(0, fr), (0, many)]) (st := [(2, 178)]) (K := 12) (pc := 17) hX 11 rfl mo_m_find ml_X12_237 im_m_find se_m_find (c_findF g v ρ Z hG (fr) (many) (by omega) (by omega) ((hT.nw hn1.2).2) (Hd.i (by rw [hfr0, hmany0, hH0]; exact fun j a b => ⟨by have := (hR.2.2.1.1 j a b).2; omega, by have := (hR.2.2.1.1 j a b).2; omega⟩))) rfl rfl rfl hG.1 (by rw [hRm]; exact ⟨by decide, by decide⟩) (by rw [hRm]; exact ⟨by decide, by decide⟩) (Nat.le_of_ble_eq_true rfl) (fun o17 v17 ρ17 Z17 hq17 _ => ?_)
    obtain ⟨rfl, rfl, rfl, r17, rfl, hq17⟩ := hq17
    show wp g X F_m_looksAt 0 0 20 [(2, 178), (0, fr), (0, many)] [(0, r17), (2, 178)] v ρ Z
    have e17 : r17 = fnd s.N (tn F n s.p) 0 (s.H 0).toNat 0 := by
      have z := hR.fd hn1.2 (a := 0) (by omega) hq17.1 (by rw [hfr0, hmany0, hH0]; exact hR.2.2.1.1)
      rw [hmany0, hH0] at z
      exact z
    replace hq17 := hq17.2
    refine r_putI (pc := 20) hX 12 rfl fl_X12_226 rfl (fun _ h => by cases h; rfl) hG.1 (by decide) ?_
    refine t_getI (y := r17) (pc := 23) hX 13 rfl rfl rfl fl_X12_226 rfl hG.1 (up_s _ _ _ _) ?_
    first | refine r_if_ge (pc := 27) hX 15 (tgt := 38) rfl (by decide) (⟨by omega, by omega⟩) (fun h27 => ?_) (fun h27 => ?_) | refine r_if_ge_any (pc := 27) hX 15 (tgt := 38) rfl (by decide) ?_ ?_
    · refine r_iconst (pc := 38) hX 20 rfl ?_
      refine r_goto (pc := 39) hX 21 (tgt := 43) rfl (by decide) ?_
      show wp g X F_m_looksAt 0 0 43 [(2, 178), (0, fr), (0, many)] [(0, 1)] (up v 178 18 r17) ρ Z
      exact r_zret (pc := 43) hX 23 hQ rfl rfl ⟨by omega, by omega⟩ (Nat.le_refl 0) (Nat.le_refl 0) ⟨rfl, rfl, (Fr.rf).fld (k := 18) (by decide), 1, rfl, (by (repeat (first | rw [up_k (by decide)] | rw [up_s] | rw [up_r (by decide)])); omega), (by (repeat (first | rw [up_k (by decide)] | rw [up_s] | rw [up_r (by decide)])); omega), (by first | exact Or.inl ⟨rfl, hn1.1, by unfold rCol; omega, (up_s _ _ _ _).trans e17⟩ | exact Or.inr ⟨rfl, Or.inr ⟨hn1.1, by unfold rCol; omega, hq32.2.1⟩, hq32.2.2.trans h12⟩ | exact Or.inr ⟨rfl, Or.inr ⟨hn1.1, by unfold rCol; omega, hq32.2.1⟩, hq32.2.2.trans ((up_k (by decide)).trans h12)⟩)⟩
    · refine r_aload_n (pc := 30) hX 16 rfl rfl ?_
      refine r_iconst (pc := 31) hX 17 rfl ?_
      refine r_callV (as := [(0, 3)]) (st := []) (K := 12) (pc := 32) hX 18 rfl mo_m_bad ml_X12_216 im_m_bad se_m_bad (c_badF g (up v 178 18 r17) ρ Z hG (3) (by omega)) rfl rfl rfl hG.1 (by rw [hRm]; exact ⟨by decide, by decide⟩) (by rw [hRm]; exact ⟨by decide, by decide⟩) (Nat.le_of_ble_eq_true rfl) (fun o32 v32 ρ32 Z32 hq32 _ => ?_)
      obtain ⟨rfl, rfl, hfr32, r32, rfl, hq32⟩ := hq32
      try simp only [up_f (show (180 : Int) ≠ 178 by decide), up_k (show (12 : Int) ≠ 18 by decide)] at hq32
      have hRsI_32 : RsI (v32 184) := by rw [hfr32.1 184 (by decide) (by decide), up_f (by decide)]; exact hrs
      have hk32_3 : v32 178 3 = (v 178 3) := (hfr32.2 3 (by decide)).trans ((up_k (by decide)).trans (rfl))
      have hk32_4 : v32 178 4 = (v 178 4) := (hfr32.2 4 (by decide)).trans ((up_k (by decide)).trans (rfl))
      have hk32_5 : v32 178 5 = (v 178 5) := (hfr32.2 5 (by decide)).trans ((up_k (by decide)).trans (rfl))
      have hk32_11 : v32 178 11 = (v 178 11) := (hfr32.2 11 (by decide)).trans ((up_k (by decide)).trans (rfl))
      have hk32_14 : v32 178 14 = (v 178 14) := (hfr32.2 14 (by decide)).trans ((up_k (by decide)).trans (rfl))
      have hk32_18 : v32 178 18 = r17 := (hfr32.2 18 (by decide)).trans (up_s _ _ _ _)
      show wp g X F_m_looksAt 0 0 35 [(2, 178), (0, fr), (0, many)] [(0, r32)] v32 ρ Z
      first | refine r_if_eq (pc := 35) hX 19 (tgt := 42) rfl (by decide) (⟨by omega, by omega⟩) (fun h35 => ?_) (fun h35 => ?_) | refine r_if_eq_any (pc := 35) hX 19 (tgt := 42) rfl (by decide) ?_ ?_
      · refine r_iconst (pc := 42) hX 22 rfl ?_
        exact r_zret (pc := 43) hX 23 hQ rfl rfl ⟨by omega, by omega⟩ (Nat.le_refl 0) (Nat.le_refl 0) ⟨rfl, rfl, ((Fr.rf).fld (k := 18) (by decide)).tr hfr32 (by decide) (by decide), 0, rfl, (by (repeat (first | rw [up_k (by decide)] | rw [up_s] | rw [up_r (by decide)])); omega), (by (repeat (first | rw [up_k (by decide)] | rw [up_s] | rw [up_r (by decide)])); omega), (by first | exact Or.inl ⟨rfl, hn1.1, by unfold rCol; omega, (up_s _ _ _ _).trans e17⟩ | exact Or.inr ⟨rfl, Or.inr ⟨hn1.1, by unfold rCol; omega, hq32.2.1⟩, hq32.2.2.trans h12⟩ | exact Or.inr ⟨rfl, Or.inr ⟨hn1.1, by unfold rCol; omega, hq32.2.1⟩, hq32.2.2.trans ((up_k (by decide)).trans h12)⟩)⟩
      · exact absurd h35 (by omega)
  · have hn0 : nm F n m s.p = false := by
      rcases hq1 with ⟨a, _⟩ | ⟨_, a⟩
      · exact absurd a (by omega)
      · exact a
    replace hq1 := Hd.i hq1
    refine r_aload_n (pc := 7) hX 3 rfl rfl ?_
    refine r_iconst (pc := 8) hX 4 rfl ?_
    refine r_callV (as := [(0, 1)]) (st := []) (K := 12) (pc := 9) hX 5 rfl mo_m_bad ml_X12_216 im_m_bad se_m_bad (c_badF g v ρ Z hG (1) (by omega)) rfl rfl rfl hG.1 (by rw [hRm]; exact ⟨by decide, by decide⟩) (by rw [hRm]; exact ⟨by decide, by decide⟩) (Nat.le_of_ble_eq_true rfl) (fun o9 v9 ρ9 Z9 hq9 _ => ?_)
    obtain ⟨rfl, rfl, hfr9, r9, rfl, hq9⟩ := hq9
    have hRsI_9 : RsI (v9 184) := by rw [hfr9.1 184 (by decide) (by decide)]; exact hrs
    have hk9_3 : v9 178 3 = (v 178 3) := (hfr9.2 3 (by decide)).trans (rfl)
    have hk9_4 : v9 178 4 = (v 178 4) := (hfr9.2 4 (by decide)).trans (rfl)
    have hk9_5 : v9 178 5 = (v 178 5) := (hfr9.2 5 (by decide)).trans (rfl)
    have hk9_11 : v9 178 11 = (v 178 11) := (hfr9.2 11 (by decide)).trans (rfl)
    have hk9_14 : v9 178 14 = (v 178 14) := (hfr9.2 14 (by decide)).trans (rfl)
    have hk9_18 : v9 178 18 = (v 178 18) := (hfr9.2 18 (by decide)).trans (rfl)
    show wp g X F_m_looksAt 0 0 12 [(2, 178), (0, fr), (0, many)] [(0, r9)] v9 ρ Z
    exact r_zret (pc := 12) hX 6 hQ rfl rfl ⟨by omega, by omega⟩ (Nat.le_refl 0) (Nat.le_refl 0) ⟨rfl, rfl, (Fr.rf).tr hfr9 (by decide) (by decide), r9, rfl, (by (repeat (first | rw [up_k (by decide)] | rw [up_s] | rw [up_r (by decide)])); omega), (by (repeat (first | rw [up_k (by decide)] | rw [up_s] | rw [up_r (by decide)])); omega), (Or.inr ⟨hq9.1, Or.inl ⟨hn0, hq9.2.1⟩, hq9.2.2.trans h12⟩)⟩
set_option maxHeartbeats 4000000 in
set_option maxRecDepth 100000 in
theorem c_isOnceF (g : Gp) (v ρ : Mv) (Z : Mz) (hG : GM ρ Z) {F : Int → Int} {n m p : Int} (k : Int) (hL : 0 ≤ v 178 4 ∧ v 178 4 ≤ v 178 3 ∧ v 178 3 ≤ 940 ∧ 0 ≤ v 178 11 ∧ v 178 11 ≤ 4 ∧ inR (v 178 5) ∧ inR (v 178 14)) (hT : TkM F n m v p) (hk : 0 ≤ k ∧ k ≤ 2) (hon : 0 ≤ v 178 20 ∧ v 178 20 ≤ 7) : Ok g 3 0 0 F_m_isOnce [(2, 178), (0, k)] v ρ Z (fun o v' ρ' Z' => ρ = ρ' ∧ Z = Z' ∧ Fr [] [4, 11, 12, 13, 14, 15, 16, 17, 20] v v' ∧ ∃ r : Int, o = some (0, r) ∧ (0 ≤ v' 178 4 ∧ v' 178 4 ≤ v' 178 3 ∧ v' 178 3 ≤ 940 ∧ 0 ≤ v' 178 11 ∧ v' 178 11 ≤ 4 ∧ inR (v' 178 5) ∧ inR (v' 178 14) ∧ v 178 4 ≤ v' 178 4 ∧ v' 178 3 = v 178 3) ∧ (0 ≤ r ∧ r ≤ 1) ∧ (OnP F n m p k (v 178 20) v' r)) := by
  refine Ok.of mo_m_isOnce (Nat.le_of_ble_eq_true rfl) ?_
  intro X hX hRm hxn hQ
  show wp g X F_m_isOnce 0 0 0 [(2, 178), (0, k)] [] v ρ Z
  have hT0 := hT
  obtain ⟨hp0, hp1, hn3, hm5, hsm, h4p, h11, h12, h14, h17⟩ := hT0
  have hbt : ∀ x : Int, (k = 0 → x = v 178 20 % 2) ∧ (k = 1 → x = v 178 20 / 2 % 2) ∧ (k = 2 → x = v 178 20 / 4 % 2) → bt (v 178 20) k = x := fun x hx => by
    unfold bt
    split
    · omega
    · split <;> omega
  have hpw : (k = 0 → pw k = 1) ∧ (k = 1 → pw k = 2) ∧ (k = 2 → pw k = 4) := by
    unfold pw
    split
    · omega
    · split <;> omega
  replace hpw := Hd.i hpw
  refine t_getI (y := (v 178 20)) (pc := 0) hX 0 rfl rfl rfl fl_X12_241 rfl hG.1 (rfl) ?_
  refine r_iload_n (pc := 4) hX 2 rfl rfl ?_
  refine r_callS (as := [(0, (v 178 20)), (0, k)]) (st := []) (pc := 5) hX 3 rfl mo_m_bitOf ml_X12_244 stt_m_bitOf (c_bitOfB g v ρ Z hG ((v 178 20)) (k) (by omega) (by omega)) rfl (by rw [hRm]; exact ⟨by decide, by decide⟩) (by rw [hRm]; exact ⟨by decide, by decide⟩) (Nat.le_of_ble_eq_true rfl) (fun o5 v5 ρ5 Z5 hq5 _ => ?_)
  obtain ⟨rfl, rfl, rfl, r5, rfl, hq5⟩ := hq5
  show wp g X F_m_isOnce 0 0 8 [(2, 178), (0, k)] [(0, r5)] v ρ Z
  have hb5 := hbt r5 hq5.2
  have hq5c := Hd.i hq5.2
  replace hq5 := hq5.1
  first | refine r_if_eq (pc := 8) hX 4 (tgt := 17) rfl (by decide) (⟨by omega, by omega⟩) (fun h8 => ?_) (fun h8 => ?_) | refine r_if_eq_any (pc := 8) hX 4 (tgt := 17) rfl (by decide) ?_ ?_
  · refine r_aload_n (pc := 17) hX 9 rfl rfl ?_
    refine r_dup (pc := 18) hX 10 rfl (show (2 : Nat) ≠ 1 by decide) ?_
    refine e_getI (y := (v 178 20)) (pc := 19) hX 11 rfl fl_X12_241 rfl hG.1 (rfl) ?_
    refine r_iconst (pc := 22) hX 12 rfl ?_
    refine r_iload_n (pc := 23) hX 13 rfl rfl ?_
    refine r_ishlB (pc := 24) hX 14 rfl (rfl) (by omega) (fun z24 hz24 => ?_)
    refine r_iorB (pc := 25) hX 15 rfl (by omega) (by omega) (fun z25 hz25 => ?_)
    have hz9 : z25 = v 178 20 + pw k := by
      have a1 := Hd.o hq5c
      have a2 := Hd.o hpw
      have a3 : z24 = pw k := by omega
      rw [← a3]
      exact hz25 (by omega)
    refine r_putI (pc := 26) hX 16 rfl fl_X12_241 rfl (fun _ h => by cases h; rfl) hG.1 (by decide) ?_
    refine r_aload_n (pc := 29) hX 17 rfl rfl ?_
    refine r_callV (as := []) (st := []) (K := 12) (pc := 30) hX 18 rfl mo_m_go ml_X12_219 im_m_go se_m_go (c_goT g (up v 178 20 z25) ρ Z hG  (by (repeat (first | rw [up_k (by decide)] | rw [up_s] | rw [up_r (by decide)])); omega) (hT.fld (by decide))) rfl rfl rfl hG.1 (by rw [hRm]; exact ⟨by decide, by decide⟩) (by rw [hRm]; exact ⟨by decide, by decide⟩) (Nat.le_of_ble_eq_true rfl) (fun o30 v30 ρ30 Z30 hq30 _ => ?_)
    obtain ⟨rfl, rfl, hfr30, rfl, hq30⟩ := hq30
    try simp only [up_f (show (180 : Int) ≠ 178 by decide), up_k (show (3 : Int) ≠ 20 by decide), up_k (show (4 : Int) ≠ 20 by decide)] at hq30
    have hk30_3 : v30 178 3 = (v 178 3) := (hfr30.2 3 (by decide)).trans ((up_k (by decide)).trans (rfl))
    have hk30_5 : v30 178 5 = (v 178 5) := (hfr30.2 5 (by decide)).trans ((up_k (by decide)).trans (rfl))
    show wp g X F_m_isOnce 0 0 33 [(2, 178), (0, k)] [] v30 ρ Z
    refine r_iconst (pc := 33) hX 19 rfl ?_
    exact r_zret (pc := 34) hX 20 hQ rfl rfl ⟨by omega, by omega⟩ (Nat.le_refl 0) (Nat.le_refl 0) ⟨rfl, rfl, ((Fr.rf).fld (k := 20) (by decide)).tr hfr30 (by decide) (by decide), 1, rfl, (by (repeat (first | rw [up_k (by decide)] | rw [up_s] | rw [up_r (by decide)])); omega), (by (repeat (first | rw [up_k (by decide)] | rw [up_s] | rw [up_r (by decide)])); omega), (Or.inl ⟨rfl, by omega, ((hfr30.2 20 (by decide)).trans (up_s _ _ _ _)).trans hz9, hq30.2⟩)⟩
  · refine r_aload_n (pc := 11) hX 5 rfl rfl ?_
    refine r_iconst (pc := 12) hX 6 rfl ?_
    refine r_callV (as := [(0, 3)]) (st := []) (K := 12) (pc := 13) hX 7 rfl mo_m_bad ml_X12_216 im_m_bad se_m_bad (c_badF g v ρ Z hG (3) (by omega)) rfl rfl rfl hG.1 (by rw [hRm]; exact ⟨by decide, by decide⟩) (by rw [hRm]; exact ⟨by decide, by decide⟩) (Nat.le_of_ble_eq_true rfl) (fun o13 v13 ρ13 Z13 hq13 _ => ?_)
    obtain ⟨rfl, rfl, hfr13, r13, rfl, hq13⟩ := hq13
    have hk13_3 : v13 178 3 = (v 178 3) := (hfr13.2 3 (by decide)).trans (rfl)
    have hk13_4 : v13 178 4 = (v 178 4) := (hfr13.2 4 (by decide)).trans (rfl)
    have hk13_5 : v13 178 5 = (v 178 5) := (hfr13.2 5 (by decide)).trans (rfl)
    have hk13_11 : v13 178 11 = (v 178 11) := (hfr13.2 11 (by decide)).trans (rfl)
    have hk13_14 : v13 178 14 = (v 178 14) := (hfr13.2 14 (by decide)).trans (rfl)
    show wp g X F_m_isOnce 0 0 16 [(2, 178), (0, k)] [(0, r13)] v13 ρ Z
    exact r_zret (pc := 16) hX 8 hQ rfl rfl ⟨by omega, by omega⟩ (Nat.le_refl 0) (Nat.le_refl 0) ⟨rfl, rfl, (Fr.rf).tr hfr13 (by decide) (by decide), r13, rfl, (by (repeat (first | rw [up_k (by decide)] | rw [up_s] | rw [up_r (by decide)])); omega), (by (repeat (first | rw [up_k (by decide)] | rw [up_s] | rw [up_r (by decide)])); omega), (Or.inr ⟨hq13.1, by omega, hq13.2.1, hq13.2.2.trans h12⟩)⟩
