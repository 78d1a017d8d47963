set_option maxHeartbeats 4000000 in
set_option maxRecDepth 100000 in
theorem c_X8_advanceT (g : Gp) (ω : Rw) (v ρ : Mv) (Z : Mz) (hH : HT ω v ρ Z) {F : Int → Int} {n m p : Int} (t : Int) (ht : ω t = 2) (hT : TkC F n m v ρ t p) : Ok g 6 0 0 F_X8_advance [(2, t)] v ρ Z (fun o9 v' ρ' Z' => ρ = ρ' ∧ Z = Z' ∧ FrW ω [2] v v' ∧ HT ω v' ρ Z ∧ o9 = none ∧ (TkC F n m v' ρ t (tp F n m p))) := by
  have h0 := hT.1
  have hb := tp_bd (f := F) (m := m) hT.2.1
  refine (c_X8_advanceF g ω v ρ Z hH t ht (by have a := hT.2.2.1; have b := hT.2.2.2.2.2.1; omega)).imp fun o v' ρ' Z' h => ?_
  obtain ⟨h1, h2, h3, h4, h5, a1, a2, a3, a4, a5, a6, a7⟩ := h
  have h6 := hT.2.2.2.2.2.1
  exact ⟨h1, h2, h3, h4, h5, h6 ▸ tkC_of hT.2.2.1 hT.2.2.2.1 hT.2.2.2.2.1 (h3 _ (by rw [hH.rf ht (by decide) (show rfO 2 0 = some 3 from rfl)]; decide)) (by omega) (by omega) a1 a2 a3 a4 a5 a6 a7⟩
set_option maxHeartbeats 4000000 in
set_option maxRecDepth 100000 in
theorem c_X8_isNameT (g : Gp) (ω : Rw) (v ρ : Mv) (Z : Mz) (hH : HT ω v ρ Z) {F : Int → Int} {n m p : Int} (t : Int) (ht : ω t = 2) (hT : TkC F n m v ρ t p) : Ok g 1 0 0 F_X8_isName [(2, t)] v ρ Z (fun o9 v' ρ' Z' => ρ = ρ' ∧ Z = Z' ∧ v = v' ∧ ∃ r : Int, o9 = some (0, r) ∧ (0 ≤ r ∧ r ≤ 1) ∧ (Hd (r = 1 ∧ nm F n m p = true ∨ r = 0 ∧ nm F n m p = false))) := by
  refine (c_X8_isNameF g ω v ρ Z hH t ht).imp fun o v' ρ' Z' h => ?_
  obtain ⟨h1, h2, h3, r, h4, h5⟩ := h
  exact ⟨h1, h2, h3, r, h4, by omega, nmC hT h5⟩
set_option maxHeartbeats 4000000 in
set_option maxRecDepth 100000 in
theorem c_X8_isMarkT (g : Gp) (ω : Rw) (v ρ : Mv) (Z : Mz) (hH : HT ω v ρ Z) {F : Int → Int} {n m p : Int} (t : Int) (ht : ω t = 2) (c : Int) (hT : TkC F n m v ρ t p) (hcr : inR c) : Ok g 1 0 0 F_X8_isMark [(2, t), (0, c)] v ρ Z (fun o9 v' ρ' Z' => ρ = ρ' ∧ Z = Z' ∧ v = v' ∧ ∃ r : Int, o9 = some (0, r) ∧ (0 ≤ r ∧ r ≤ 1) ∧ (Hd (r = 1 ∧ mk F n m p c = true ∨ r = 0 ∧ mk F n m p c = false))) := by
  refine (c_X8_isMarkF g ω v ρ Z hH t ht c hcr).imp fun o v' ρ' Z' h => ?_
  obtain ⟨h1, h2, h3, r, h4, h5⟩ := h
  exact ⟨h1, h2, h3, r, h4, by omega, mkC hT h5⟩
set_option maxHeartbeats 4000000 in
set_option maxRecDepth 100000 in
theorem c_X4_indexInF (g : Gp) (ω : Rw) (v ρ : Mv) (Z : Mz) (hH : HT ω v ρ Z) (a : Int) (hak : Z.1 a = 14) (m : Int) (x : Int) (hm : 0 ≤ m ∧ m ≤ Z.2.1 a ∧ m ≤ 4) (hx : inL x) (hnl : Hd (∀ j, 0 ≤ j → j < m → inL (v a j))) : Ok g 1 0 0 F_X4_indexIn [(2, a), (0, m), (1, x)] v ρ Z (fun o9 v' ρ' Z' => ρ = ρ' ∧ Z = Z' ∧ v = v' ∧ ∃ r : Int, o9 = some (0, r) ∧ (-1 ≤ r ∧ r < m) ∧ (FdP (v a) x 0 m r)) := by
  refine Ok.of mo_X4_indexIn (Nat.le_of_ble_eq_true rfl) ?_
  intro X hX hRm hxn hQ
  show wp g X F_X4_indexIn 0 0 0 [(2, a), (0, m), (1, x), (3, 0), (3, 0)] [] v ρ Z
  refine r_iconst (pc := 0) hX 0 rfl ?_
  refine r_istore (ls' := [(2, a), (0, m), (1, x), (3, 0), (0, 0)]) (pc := 1) hX 1 rfl (by decide) rfl ?_
  have L3 : ∀ (n3 : Nat) (i : Int) , (0 ≤ i ∧ i ≤ m) → (∀ j, 0 ≤ j → j < i → v a (0 + j) ≠ x) → (m - i).toNat < n3 → wp g X F_X4_indexIn 0 0 3 [(2, a), (0, m), (1, x), (3, 0), (0, i)] [] v ρ Z := by
    intro n3
    induction n3 with
    | zero => intro i ii il hme3; exact absurd hme3 (Nat.not_lt_zero _)
    | succ n3 ih3 =>
      intro i ii il hme3
      refine r_iload (pc := 3) hX 2 rfl rfl ?_
      refine r_iload_n (pc := 5) hX 3 rfl rfl ?_
      have L34 : (m ≤ i) → wp g X F_X4_indexIn 0 0 34 [(2, a), (0, m), (1, x), (3, 0), (0, i)] [] v ρ Z := by
        intro i34
        refine r_iconst (pc := 34) hX 19 rfl ?_
        exact r_iret (pc := 35) hX 20 hQ rfl rfl (Nat.le_of_ble_eq_true rfl) (Nat.le_of_ble_eq_true rfl) ⟨rfl, rfl, rfl, (-1), rfl, (by omega), (Or.inl ⟨rfl, fun j p q => il j p (by omega)⟩)⟩
      first | refine r_icmp_ge (pc := 6) hX 4 (tgt := 34) rfl (by decide) (⟨by omega, by omega⟩) (⟨by omega, by omega⟩) (fun h6 => ?_) (fun h6 => ?_) | refine r_icmp_ge_any (pc := 6) hX 4 (tgt := 34) rfl (by decide) ?_ ?_
      · exact (L34  (by omega) )
      · refine r_iload (pc := 9) hX 5 rfl rfl ?_
        refine r_aload_n (pc := 11) hX 6 rfl rfl ?_
        refine r_alen (pc := 12) hX 7 14 rfl hak (by decide) (by decide) (fun _ _ => ?_)
        have hl12 : 0 ≤ (Z.2.1 a) ∧ (Z.2.1 a) < 2147483648 := ⟨by assumption, by assumption⟩
        first | refine r_icmp_ge (pc := 13) hX 8 (tgt := 34) rfl (by decide) (⟨by omega, by omega⟩) (⟨by omega, by omega⟩) (fun h13 => ?_) (fun h13 => ?_) | refine r_icmp_ge_any (pc := 13) hX 8 (tgt := 34) rfl (by decide) ?_ ?_
        · exact (L34  (by omega) )
        · refine r_aload_n (pc := 16) hX 9 rfl rfl ?_
          refine r_iload (pc := 17) hX 10 rfl rfl ?_
          refine e_lald (y := (v a i)) (n := (Z.2.1 a)) (pc := 19) hX 11 rfl hak rfl (by omega) (by omega) (rfl) ?_
          refine r_lload_n (pc := 20) hX 12 rfl rfl ?_
          refine r_lcmp (pc := 21) hX 13 rfl (Hd.o hnl _ (by omega) (by omega)) (hx) ?_
          refine r_if_ne (pc := 22) hX 14 (tgt := 28) rfl (by decide) (cmpI_in _ _) (fun h22 => ?_) (fun h22 => ?_)
          · rw [Ne, cmpI_eq] at h22
            refine r_iinc (ls' := [(2, a), (0, m), (1, x), (3, 0), (0, (i + 1))]) (pc := 28) hX 17 rfl rfl (by decide) rfl ?_
            refine r_goto (pc := 31) hX 18 (tgt := 3) rfl (by decide) ?_
            exact (ih3 (i + 1) (by omega) (fun j p q => by
          by_cases e : j = i
          · rw [e, Int.zero_add]; exact h22
          · exact il j p (by omega)) (by omega))
          · rw [Ne, cmpI_eq] at h22
            refine r_iload (pc := 25) hX 15 rfl rfl ?_
            exact r_iret (pc := 27) hX 16 hQ rfl rfl (Nat.le_of_ble_eq_true rfl) (Nat.le_of_ble_eq_true rfl) ⟨rfl, rfl, rfl, i, rfl, (by omega), (Or.inr ⟨by omega, by omega, by rw [Int.zero_add]; exact Classical.byContradiction (fun z => h22 z), il⟩)⟩
  exact (L3 _ 0 (by omega) (fun j p q => by omega) (Nat.lt_succ_self _))
set_option maxHeartbeats 4000000 in
set_option maxRecDepth 100000 in
theorem c_X4_colourNamedF (g : Gp) (ω : Rw) (v ρ : Mv) (Z : Mz) (hH : HT ω v ρ Z) {s : Rd} {L i : Int} (t : Int) (ht : ω t = 5) (x : Int) (hR : RcI v ρ t L i s) (hx : NmB x) : Ok g 2 0 0 F_X4_colourNamed [(2, t), (1, x)] v ρ Z (fun o9 v' ρ' Z' => ρ = ρ' ∧ Z = Z' ∧ v = v' ∧ ∃ r : Int, o9 = some (0, r) ∧ (-1 ≤ r ∧ r < v t 8) ∧ (r = fnd s.N x 0 (s.H 0).toNat 0)) := by
  refine Ok.of mo_X4_colourNamed (Nat.le_of_ble_eq_true rfl) ?_
  intro X hX hRm hxn hQ
  show wp g X F_X4_colourNamed 0 0 0 [(2, t), (1, x), (3, 0)] [] v ρ Z
  have hg_t_8 : 0 ≤ v t 8 ∧ v t 8 ≤ 4 := hH.rg ht (by decide) rfl
  have hg_t_9 : 0 ≤ v t 9 ∧ v t 9 ≤ 3 := hH.rg ht (by decide) rfl
  have hg_t_10 : 0 ≤ v t 10 ∧ v t 10 ≤ 3 := hH.rg ht (by decide) rfl
  have hk8 := hR.k8
  have hk9 := hR.k9
  have hk10 := hR.k10
  refine t_getR (q := (ρ t 0)) (pc := 0) hX 0 rfl rfl rfl fl_X4_9 rfl (hH.kd ht (by decide)) (rfl) ?_
  have hw0_ : ω (ρ t 0) = 6 := hH.rf ht (by decide) rfl
  refine t_getI (y := (v t 8)) (pc := 4) hX 2 rfl rfl rfl fl_X4_47 rfl (hH.kd ht (by decide)) (rfl) ?_
  have hb4 : 0 ≤ (v t 8) ∧ (v t 8) ≤ 4 := hH.rg ht (by decide) rfl
  refine r_lload_n (pc := 8) hX 4 rfl rfl ?_
  refine r_callS (as := [(2, (ρ t 0)), (0, (v t 8)), (1, x)]) (st := []) (pc := 9) hX 5 rfl mo_X4_indexIn ml_X4_64 stt_X4_indexIn (c_X4_indexInF g ω v ρ Z hH (ρ t 0) (hH.kd hw0_ (by decide)) ((v t 8)) (x) (by rw [hH.ln hw0_ (by decide)]; show _ ∧ _ ≤ (4 : Int) ∧ _; omega) (⟨by have := hx.1; omega, by have := hx.2; omega⟩) (Hd.i (fun j a b => by have z := hR.nc j a (by omega); rw [z.1]; exact ⟨by have := z.2.1; omega, by have := z.2.2; omega⟩))) rfl (by rw [hRm]; exact ⟨by decide, by decide⟩) (by rw [hRm]; exact ⟨by decide, by decide⟩) (Nat.le_of_ble_eq_true rfl) (fun o9 v9 ρv9 Zv9 hq9 _ => ?_)
  obtain ⟨rfl, rfl, rfl, r9, rfl, hq9⟩ := hq9
  show wp g X F_X4_colourNamed 0 0 12 [(2, t), (1, x), (3, 0)] [(0, r9)] v ρ Z
  exact r_iret (pc := 12) hX 6 hQ rfl rfl (Nat.le_of_ble_eq_true rfl) (Nat.le_of_ble_eq_true rfl) ⟨rfl, rfl, rfl, r9, rfl, (by omega), (by have z := hq9.2.fc (N := s.N) (a := 0) (by omega) (fun j p q => (hR.nc j p (by omega)).1); rw [hR.k8] at z; exact z)⟩
set_option maxHeartbeats 4000000 in
set_option maxRecDepth 100000 in
theorem c_X4_playerNamedF (g : Gp) (ω : Rw) (v ρ : Mv) (Z : Mz) (hH : HT ω v ρ Z) {s : Rd} {L i : Int} (t : Int) (ht : ω t = 5) (x : Int) (hR : RcI v ρ t L i s) (hx : NmB x) : Ok g 2 0 0 F_X4_playerNamed [(2, t), (1, x)] v ρ Z (fun o9 v' ρ' Z' => ρ = ρ' ∧ Z = Z' ∧ v = v' ∧ ∃ r : Int, o9 = some (0, r) ∧ (-1 ≤ r ∧ r < v t 10) ∧ (r = fnd s.N x 7 (s.H 2).toNat 0)) := by
  refine Ok.of mo_X4_playerNamed (Nat.le_of_ble_eq_true rfl) ?_
  intro X hX hRm hxn hQ
  show wp g X F_X4_playerNamed 0 0 0 [(2, t), (1, x), (3, 0)] [] v ρ Z
  have hg_t_8 : 0 ≤ v t 8 ∧ v t 8 ≤ 4 := hH.rg ht (by decide) rfl
  have hg_t_9 : 0 ≤ v t 9 ∧ v t 9 ≤ 3 := hH.rg ht (by decide) rfl
  have hg_t_10 : 0 ≤ v t 10 ∧ v t 10 ≤ 3 := hH.rg ht (by decide) rfl
  have hk8 := hR.k8
  have hk9 := hR.k9
  have hk10 := hR.k10
  refine t_getR (q := (ρ t 6)) (pc := 0) hX 0 rfl rfl rfl fl_X4_34 rfl (hH.kd ht (by decide)) (rfl) ?_
  have hw0_ : ω (ρ t 6) = 8 := hH.rf ht (by decide) rfl
  refine t_getI (y := (v t 10)) (pc := 4) hX 2 rfl rfl rfl fl_X4_57 rfl (hH.kd ht (by decide)) (rfl) ?_
  have hb4 : 0 ≤ (v t 10) ∧ (v t 10) ≤ 3 := hH.rg ht (by decide) rfl
  refine r_lload_n (pc := 8) hX 4 rfl rfl ?_
  refine r_callS (as := [(2, (ρ t 6)), (0, (v t 10)), (1, x)]) (st := []) (pc := 9) hX 5 rfl mo_X4_indexIn ml_X4_64 stt_X4_indexIn (c_X4_indexInF g ω v ρ Z hH (ρ t 6) (hH.kd hw0_ (by decide)) ((v t 10)) (x) (by rw [hH.ln hw0_ (by decide)]; show _ ∧ _ ≤ (3 : Int) ∧ _; omega) (⟨by have := hx.1; omega, by have := hx.2; omega⟩) (Hd.i (fun j a b => by have z := hR.np j a (by omega); rw [z.1]; exact ⟨by have := z.2.1; omega, by have := z.2.2; omega⟩))) rfl (by rw [hRm]; exact ⟨by decide, by decide⟩) (by rw [hRm]; exact ⟨by decide, by decide⟩) (Nat.le_of_ble_eq_true rfl) (fun o9 v9 ρv9 Zv9 hq9 _ => ?_)
  obtain ⟨rfl, rfl, rfl, r9, rfl, hq9⟩ := hq9
  show wp g X F_X4_playerNamed 0 0 12 [(2, t), (1, x), (3, 0)] [(0, r9)] v ρ Z
  exact r_iret (pc := 12) hX 6 hQ rfl rfl (Nat.le_of_ble_eq_true rfl) (Nat.le_of_ble_eq_true rfl) ⟨rfl, rfl, rfl, r9, rfl, (by omega), (by have z := hq9.2.fc (N := s.N) (a := 7) (by omega) (fun j p q => (hR.np j p (by omega)).1); rw [hR.k10] at z; exact z)⟩
set_option maxHeartbeats 4000000 in
set_option maxRecDepth 100000 in
theorem c_X4_tellsF (g : Gp) (ω : Rw) (v ρ : Mv) (Z : Mz) (hH : HT ω v ρ Z) {s : Rd} {L i : Int} (t : Int) (ht : ω t = 5) (x : Int) (hR : RcI v ρ t L i s) (hx : NmB x) : Ok g 3 0 0 F_X4_tells [(2, t), (1, x)] v ρ Z (fun o9 v' ρ' Z' => ρ = ρ' ∧ Z = Z' ∧ v = v' ∧ ∃ r : Int, o9 = some (0, r) ∧ (0 ≤ r ∧ r ≤ 1) ∧ (Hd (r = 1 ∧ tol s.N s.H x = true ∨ r = 0 ∧ tol s.N s.H x = false))) := by
  refine Ok.of mo_X4_tells (Nat.le_of_ble_eq_true rfl) ?_
  intro X hX hRm hxn hQ
  show wp g X F_X4_tells 0 0 0 [(2, t), (1, x), (3, 0)] [] v ρ Z
  have hg_t_8 : 0 ≤ v t 8 ∧ v t 8 ≤ 4 := hH.rg ht (by decide) rfl
  have hg_t_9 : 0 ≤ v t 9 ∧ v t 9 ≤ 3 := hH.rg ht (by decide) rfl
  have hg_t_10 : 0 ≤ v t 10 ∧ v t 10 ≤ 3 := hH.rg ht (by decide) rfl
  have hk8 := hR.k8
  have hk9 := hR.k9
  have hk10 := hR.k10
  refine r_aload_n (pc := 0) hX 0 rfl rfl ?_
  refine r_lload_n (pc := 1) hX 1 rfl rfl ?_
  refine r_callV (as := [(1, x)]) (st := []) (K := 4) (pc := 2) hX 2 rfl mo_X4_colourNamed ml_X4_68 im_X4_colourNamed se_X4_colourNamed (c_X4_colourNamedF g ω v ρ Z hH t ht (x) (hR) (hx)) rfl rfl rfl (hH.kd ht (by decide)) (by rw [hRm]; exact ⟨by decide, by decide⟩) (by rw [hRm]; exact ⟨by decide, by decide⟩) (Nat.le_of_ble_eq_true rfl) (fun o2 v2 ρv2 Zv2 hq2 _ => ?_)
  obtain ⟨rfl, rfl, rfl, r2, rfl, hq2⟩ := hq2
  show wp g X F_X4_tells 0 0 5 [(2, t), (1, x), (3, 0)] [(0, r2)] v ρ Z
  refine r_iconst (pc := 5) hX 3 rfl ?_
  have L34 : (tol s.N s.H x = true) → wp g X F_X4_tells 0 0 34 [(2, t), (1, x), (3, 0)] [] v ρ Z := by
    intro i34
    refine r_iconst (pc := 34) hX 18 rfl ?_
    refine r_goto (pc := 35) hX 19 (tgt := 39) rfl (by decide) ?_
    exact r_zret (pc := 39) hX 21 hQ rfl rfl ⟨by omega, by omega⟩ (Nat.le_of_ble_eq_true rfl) (Nat.le_of_ble_eq_true rfl) ⟨rfl, rfl, rfl, 1, rfl, (by omega), (by first | exact Hd.i (Or.inl ⟨rfl, i34⟩) | exact Hd.i (Or.inr ⟨rfl, tol_f (by omega) (by omega) (by omega)⟩))⟩
  first | refine r_icmp_ne (pc := 6) hX 4 (tgt := 34) rfl (by decide) (⟨by omega, by omega⟩) (⟨by omega, by omega⟩) (fun h6 => ?_) (fun h6 => ?_) | refine r_icmp_ne_any (pc := 6) hX 4 (tgt := 34) rfl (by decide) ?_ ?_
  · exact (L34  (by first | exact tol_t (Or.inl (by omega)) | exact tol_t (Or.inr (Or.inl (by omega))) | exact tol_t (Or.inr (Or.inr (by omega)))) )
  · refine r_aload_n (pc := 9) hX 5 rfl rfl ?_
    refine r_lload_n (pc := 10) hX 6 rfl rfl ?_
    refine r_callV (as := [(1, x)]) (st := []) (K := 4) (pc := 11) hX 7 rfl mo_X4_playerNamed ml_X4_72 im_X4_playerNamed se_X4_playerNamed (c_X4_playerNamedF g ω v ρ Z hH t ht (x) (hR) (hx)) rfl rfl rfl (hH.kd ht (by decide)) (by rw [hRm]; exact ⟨by decide, by decide⟩) (by rw [hRm]; exact ⟨by decide, by decide⟩) (Nat.le_of_ble_eq_true rfl) (fun o11 v11 ρv11 Zv11 hq11 _ => ?_)
    obtain ⟨rfl, rfl, rfl, r11, rfl, hq11⟩ := hq11
    show wp g X F_X4_tells 0 0 14 [(2, t), (1, x), (3, 0)] [(0, r11)] v ρ Z
    refine r_iconst (pc := 14) hX 8 rfl ?_
    first | refine r_icmp_ne (pc := 15) hX 9 (tgt := 34) rfl (by decide) (⟨by omega, by omega⟩) (⟨by omega, by omega⟩) (fun h15 => ?_) (fun h15 => ?_) | refine r_icmp_ne_any (pc := 15) hX 9 (tgt := 34) rfl (by decide) ?_ ?_
    · exact (L34  (by first | exact tol_t (Or.inl (by omega)) | exact tol_t (Or.inr (Or.inl (by omega))) | exact tol_t (Or.inr (Or.inr (by omega)))) )
    · refine t_getR (q := (ρ t 3)) (pc := 18) hX 10 rfl rfl rfl fl_X4_23 rfl (hH.kd ht (by decide)) (rfl) ?_
      have hw18_ : ω (ρ t 3) = 7 := hH.rf ht (by decide) rfl
      refine t_getI (y := (v t 9)) (pc := 22) hX 12 rfl rfl rfl fl_X4_54 rfl (hH.kd ht (by decide)) (rfl) ?_
      have hb22 : 0 ≤ (v t 9) ∧ (v t 9) ≤ 3 := hH.rg ht (by decide) rfl
      refine r_lload_n (pc := 26) hX 14 rfl rfl ?_
      refine r_callS (as := [(2, (ρ t 3)), (0, (v t 9)), (1, x)]) (st := []) (pc := 27) hX 15 rfl mo_X4_indexIn ml_X4_64 stt_X4_indexIn (c_X4_indexInF g ω v ρ Z hH (ρ t 3) (hH.kd hw18_ (by decide)) ((v t 9)) (x) (by rw [hH.ln hw18_ (by decide)]; show _ ∧ _ ≤ (3 : Int) ∧ _; omega) (⟨by have := hx.1; omega, by have := hx.2; omega⟩) (Hd.i (fun j a b => by have z := hR.nl j a (by omega); rw [z.1]; exact ⟨by have := z.2.1; omega, by have := z.2.2; omega⟩))) rfl (by rw [hRm]; exact ⟨by decide, by decide⟩) (by rw [hRm]; exact ⟨by decide, by decide⟩) (Nat.le_of_ble_eq_true rfl) (fun o27 v27 ρv27 Zv27 hq27 _ => ?_)
      obtain ⟨rfl, rfl, rfl, r27, rfl, hq27⟩ := hq27
      show wp g X F_X4_tells 0 0 30 [(2, t), (1, x), (3, 0)] [(0, r27)] v ρ Z
      have e27 : r27 = fnd s.N x 4 (s.H 1).toNat 0 := by
        have z := hq27.2.fc (N := s.N) (a := 4) (by omega) (fun j p q => (hR.nl j p (by omega)).1)
        rw [hR.k9] at z
        exact z
      replace hq27 := hq27.1
      refine r_iconst (pc := 30) hX 16 rfl ?_
      first | refine r_icmp_eq (pc := 31) hX 17 (tgt := 38) rfl (by decide) (⟨by omega, by omega⟩) (⟨by omega, by omega⟩) (fun h31 => ?_) (fun h31 => ?_) | refine r_icmp_eq_any (pc := 31) hX 17 (tgt := 38) rfl (by decide) ?_ ?_
      · refine r_iconst (pc := 38) hX 20 rfl ?_
        exact r_zret (pc := 39) hX 21 hQ rfl rfl ⟨by omega, by omega⟩ (Nat.le_of_ble_eq_true rfl) (Nat.le_of_ble_eq_true rfl) ⟨rfl, rfl, rfl, 0, rfl, (by omega), (by first | exact Hd.i (Or.inl ⟨rfl, i34⟩) | exact Hd.i (Or.inr ⟨rfl, tol_f (by omega) (by omega) (by omega)⟩))⟩
      · exact (L34  (by first | exact tol_t (Or.inl (by omega)) | exact tol_t (Or.inr (Or.inl (by omega))) | exact tol_t (Or.inr (Or.inr (by omega)))) )
