set_option maxHeartbeats 4000000 in
set_option maxRecDepth 100000 in
theorem c_X11_checkPlayer (g : Gp) (ω : Rw) (v ρ : Mv) (Z : Mz) (hH : HT ω v ρ Z) (t : Int) (ht : ω t = 1) (p : Int) (hst : (gL g).stackTraces = false) (hz4 : 4 ≤ Z.2.2) (hpr : inR p) : OkT g 2 1 6 F_X11_checkPlayer [(2, t), (0, p)] v ρ Z (fun o9 v' ρ' Z' => ρ = ρ' ∧ Z = Z' ∧ v = v' ∧ o9 = none ∧ (0 ≤ p ∧ p ≤ 2)) (fun v' ρ' Z' => ρ = ρ' ∧ Z = Z' ∧ v = v') := by
  refine OkT.of mo_X11_checkPlayer (Nat.le_of_ble_eq_true rfl) ?_
  intro X hX hRm hxn hQ hth
  show wp g X F_X11_checkPlayer 0 0 0 [(2, t), (0, p)] [] v ρ Z
  have hwT : ω (ρ t 4) = 22 := hH.rf ht (by decide) rfl
  have hwR : ω (ρ (ρ t 4) 0) = 5 := hH.rf hwT (by decide) rfl
  have hgR8 : 0 ≤ v (ρ (ρ t 4) 0) 8 ∧ v (ρ (ρ t 4) 0) 8 ≤ 4 := hH.rg hwR (by decide) rfl
  have hgR9 : 0 ≤ v (ρ (ρ t 4) 0) 9 ∧ v (ρ (ρ t 4) 0) 9 ≤ 3 := hH.rg hwR (by decide) rfl
  have hgR10 : 0 ≤ v (ρ (ρ t 4) 0) 10 ∧ v (ρ (ρ t 4) 0) 10 ≤ 3 := hH.rg hwR (by decide) rfl
  have hwX : ω (ρ t 0) = 2 := hH.rf ht (by decide) rfl
  have hgL : 0 ≤ v (ρ t 0) 1 ∧ v (ρ t 0) 1 ≤ 940 := hH.rg hwX (by decide) rfl
  refine t_getR (q := (ρ t 4)) (pc := 0) hX 0 rfl rfl rfl fl_X11_47 rfl (hH.kd ht (by decide)) (rfl) ?_
  have hw0_ : ω (ρ t 4) = 22 := hH.rf ht (by decide) rfl
  refine r_getR (q := (ρ (ρ t 4) 0)) (pc := 4) hX 2 rfl fl_X11_51 rfl (hH.kd hw0_ (by decide)) (rfl) ?_
  have hw4_ : ω (ρ (ρ t 4) 0) = 5 := hH.rf hw0_ (by decide) rfl
  refine r_iload_n (pc := 7) hX 3 rfl rfl ?_
  refine r_callV (as := [(0, p)]) (st := []) (K := 4) (pc := 8) hX 4 rfl mo_X4_hasPlayer ml_X11_211 im_X4_hasPlayer se_X4_hasPlayer (c_X4_hasPlayer g ω v ρ Z hH (ρ (ρ t 4) 0) hw4_ (p) (by omega)) rfl rfl rfl (hH.kd hw4_ (by decide)) (by rw [hRm]; exact ⟨by decide, by decide⟩) (by rw [hRm]; exact ⟨by decide, by decide⟩) (Nat.le_of_ble_eq_true rfl) (fun o8 v8 ρv8 Zv8 hq8 _ => ?_)
  obtain ⟨rfl, rfl, rfl, r8, rfl, hq8⟩ := hq8
  show wp g X F_X11_checkPlayer 0 0 11 [(2, t), (0, p)] [(0, r8)] v ρ Z
  first | refine r_if_ne (pc := 11) hX 5 (tgt := 22) rfl (by decide) (⟨by omega, by omega⟩) (fun h11 => ?_) (fun h11 => ?_) | refine r_if_ne_any (pc := 11) hX 5 (tgt := 22) rfl (by decide) ?_ ?_
  · exact wpT hQ (r_vret (X := rq g X _ 1 6) (pc := 22) hX 10 rfl rfl rfl (Nat.le_of_ble_eq_true rfl) (Nat.le_of_ble_eq_true rfl) ⟨rfl, rfl, rfl, rfl, (by omega)⟩)
  · exact r_thr (pc := 14) hX 6 hst hth hQ rfl rfl rfl rfl rfl hz4 (by rw [hRm]; exact Nat.le_of_ble_eq_true rfl) (by rw [hRm]; exact Nat.le_of_ble_eq_true rfl) (by rw [hRm]; exact Nat.le_of_ble_eq_true rfl) (by rw [hRm]; exact Nat.le_of_ble_eq_true rfl) (Nat.le_of_ble_eq_true rfl) (Nat.le_of_ble_eq_true rfl) ⟨rfl, rfl, rfl⟩

set_option maxHeartbeats 4000000 in
set_option maxRecDepth 100000 in
theorem c_X11_checkPart (g : Gp) (ω : Rw) (v ρ : Mv) (Z : Mz) (hH : HT ω v ρ Z) (w : Int) (hst : (gL g).stackTraces = false) (hz4 : 4 ≤ Z.2.2) (hwr : inR w) : OkT g 2 1 6 F_X11_checkPart [(0, w)] v ρ Z (fun o9 v' ρ' Z' => ρ = ρ' ∧ Z = Z' ∧ v = v' ∧ o9 = none ∧ (w = 0 ∨ w = 1)) (fun v' ρ' Z' => ρ = ρ' ∧ Z = Z' ∧ v = v') := by
  refine OkT.of mo_X11_checkPart (Nat.le_of_ble_eq_true rfl) ?_
  intro X hX hRm hxn hQ hth
  show wp g X F_X11_checkPart 0 0 0 [(0, w)] [] v ρ Z
  refine r_iload_n (pc := 0) hX 0 rfl rfl ?_
  first | refine r_if_eq (pc := 1) hX 1 (tgt := 17) rfl (by decide) (⟨by omega, by omega⟩) (fun h1 => ?_) (fun h1 => ?_) | refine r_if_eq_any (pc := 1) hX 1 (tgt := 17) rfl (by decide) ?_ ?_
  · exact wpT hQ (r_vret (X := rq g X _ 1 6) (pc := 17) hX 9 rfl rfl rfl (Nat.le_of_ble_eq_true rfl) (Nat.le_of_ble_eq_true rfl) ⟨rfl, rfl, rfl, rfl, (by omega)⟩)
  · refine r_iload_n (pc := 4) hX 2 rfl rfl ?_
    refine r_iconst (pc := 5) hX 3 rfl ?_
    first | refine r_icmp_eq (pc := 6) hX 4 (tgt := 17) rfl (by decide) (⟨by omega, by omega⟩) (⟨by omega, by omega⟩) (fun h6 => ?_) (fun h6 => ?_) | refine r_icmp_eq_any (pc := 6) hX 4 (tgt := 17) rfl (by decide) ?_ ?_
    · exact wpT hQ (r_vret (X := rq g X _ 1 6) (pc := 17) hX 9 rfl rfl rfl (Nat.le_of_ble_eq_true rfl) (Nat.le_of_ble_eq_true rfl) ⟨rfl, rfl, rfl, rfl, (by omega)⟩)
    · exact r_thr (pc := 9) hX 5 hst hth hQ rfl rfl rfl rfl rfl hz4 (by rw [hRm]; exact Nat.le_of_ble_eq_true rfl) (by rw [hRm]; exact Nat.le_of_ble_eq_true rfl) (by rw [hRm]; exact Nat.le_of_ble_eq_true rfl) (by rw [hRm]; exact Nat.le_of_ble_eq_true rfl) (Nat.le_of_ble_eq_true rfl) (Nat.le_of_ble_eq_true rfl) ⟨rfl, rfl, rfl⟩

set_option maxHeartbeats 4000000 in
set_option maxRecDepth 100000 in
theorem c_X11_player (g : Gp) (ω : Rw) (v ρ : Mv) (Z : Mz) (hH : HT ω v ρ Z) (t : Int) (ht : ω t = 1) (p : Int) (w : Int) (hst : (gL g).stackTraces = false) (hz4 : 4 ≤ Z.2.2) (hpr : inR p) (hwr : inR w) : OkT g 3 2 12 F_X11_player [(2, t), (0, p), (0, w)] v ρ Z (fun o9 v' ρ' Z' => ρ = ρ' ∧ Z = Z' ∧ v = v' ∧ ∃ r : Int, o9 = some (0, r) ∧ True) (fun v' ρ' Z' => ρ = ρ' ∧ Z = Z' ∧ v = v') := by
  refine OkT.of mo_X11_player (Nat.le_of_ble_eq_true rfl) ?_
  intro X hX hRm hxn hQ hth
  show wp g X F_X11_player 0 0 0 [(2, t), (0, p), (0, w)] [] v ρ Z
  have hwT : ω (ρ t 4) = 22 := hH.rf ht (by decide) rfl
  have hwR : ω (ρ (ρ t 4) 0) = 5 := hH.rf hwT (by decide) rfl
  have hgR8 : 0 ≤ v (ρ (ρ t 4) 0) 8 ∧ v (ρ (ρ t 4) 0) 8 ≤ 4 := hH.rg hwR (by decide) rfl
  have hgR9 : 0 ≤ v (ρ (ρ t 4) 0) 9 ∧ v (ρ (ρ t 4) 0) 9 ≤ 3 := hH.rg hwR (by decide) rfl
  have hgR10 : 0 ≤ v (ρ (ρ t 4) 0) 10 ∧ v (ρ (ρ t 4) 0) 10 ≤ 3 := hH.rg hwR (by decide) rfl
  have hwX : ω (ρ t 0) = 2 := hH.rf ht (by decide) rfl
  have hgL : 0 ≤ v (ρ t 0) 1 ∧ v (ρ t 0) 1 ≤ 940 := hH.rg hwX (by decide) rfl
  refine r_aload_n (pc := 0) hX 0 rfl rfl ?_
  refine r_iload_n (pc := 1) hX 1 rfl rfl ?_
  refine r_callVT (as := [(0, p)]) (st := []) (K := 11) (pc := 2) hX 2 hth hQ rfl mo_X11_checkPlayer ml_X11_179 im_X11_checkPlayer se_X11_checkPlayer (c_X11_checkPlayer g ω v ρ Z hH t ht (p) hst hz4 (by omega)) rfl rfl rfl (hH.kd ht (by decide)) (by rw [hRm]; exact ⟨Nat.le_of_ble_eq_true rfl, Nat.le_of_ble_eq_true rfl⟩) (by rw [hRm]; exact ⟨Nat.le_of_ble_eq_true rfl, Nat.le_of_ble_eq_true rfl⟩) (Nat.le_of_ble_eq_true rfl) (Nat.le_of_ble_eq_true rfl) (Nat.le_of_ble_eq_true rfl) (fun v9 ρ9 Z9 h9 _ => by obtain ⟨rfl, rfl, rfl⟩ := h9; exact ⟨rfl, rfl, rfl⟩) (fun o2 v2 ρv2 Zv2 hq2 _ => ?_)
  obtain ⟨rfl, rfl, rfl, rfl, hq2⟩ := hq2
  show wp g X F_X11_player 1 6 5 [(2, t), (0, p), (0, w)] [] v ρ Z
  refine r_iload_n (pc := 5) hX 3 rfl rfl ?_
  have hsw6 : w < 0 ∨ 3 < w ∨ w = 0 ∨ w = 1 ∨ w = 2 ∨ w = 3 := by omega
  rcases hsw6 with hsw6 | hsw6 | hsw6 | hsw6 | hsw6 | hsw6
  · refine r_tsOut (pc := 6) hX 4 (tgt := 87) rfl ⟨by omega, by omega⟩ (by omega) (by decide) ?_
    exact r_thr (pc := 87) hX 34 hst hth hQ rfl rfl rfl rfl rfl hz4 (by rw [hRm]; exact Nat.le_of_ble_eq_true rfl) (by rw [hRm]; exact Nat.le_of_ble_eq_true rfl) (by rw [hRm]; exact Nat.le_of_ble_eq_true rfl) (by rw [hRm]; exact Nat.le_of_ble_eq_true rfl) (Nat.le_of_ble_eq_true rfl) (Nat.le_of_ble_eq_true rfl) ⟨rfl, rfl, rfl⟩
  · refine r_tsOut (pc := 6) hX 4 (tgt := 87) rfl ⟨by omega, by omega⟩ (by omega) (by decide) ?_
    exact r_thr (pc := 87) hX 34 hst hth hQ rfl rfl rfl rfl rfl hz4 (by rw [hRm]; exact Nat.le_of_ble_eq_true rfl) (by rw [hRm]; exact Nat.le_of_ble_eq_true rfl) (by rw [hRm]; exact Nat.le_of_ble_eq_true rfl) (by rw [hRm]; exact Nat.le_of_ble_eq_true rfl) (Nat.le_of_ble_eq_true rfl) (Nat.le_of_ble_eq_true rfl) ⟨rfl, rfl, rfl⟩
  · refine r_tsIn (x := w) (pc := 6) hX 4 (tgt := 36) rfl ⟨by omega, by omega⟩ (by omega) (by omega) (by rw [hsw6]; rfl) (by decide) ?_
    refine t_getR (q := (ρ t 4)) (pc := 36) hX 5 rfl rfl rfl fl_X11_47 rfl (hH.kd ht (by decide)) (rfl) ?_
    have hw36_ : ω (ρ t 4) = 22 := hH.rf ht (by decide) rfl
    refine r_getR (q := (ρ (ρ t 4) 6)) (pc := 40) hX 7 rfl fl_X11_182 rfl (hH.kd hw36_ (by decide)) (rfl) ?_
    have hw40_ : ω (ρ (ρ t 4) 6) = 26 := hH.rf hw36_ (by decide) rfl
    refine r_iload_n (pc := 43) hX 8 rfl rfl ?_
    refine e_iald (y := (v (ρ (ρ t 4) 6) p)) (n := 3) (pc := 44) hX 9 rfl (hH.kd hw40_ (by decide)) (hH.ln hw40_ (by decide)) (by omega) (by omega) (rfl) ?_
    have hb44 : 0 ≤ (v (ρ (ρ t 4) 6) p) ∧ (v (ρ (ρ t 4) 6) p) ≤ 11 := hH.rg hw40_ (by decide) rfl
    exact wpT hQ (r_iret (X := rq g X _ 2 12) (pc := 45) hX 10 rfl rfl rfl (Nat.le_of_ble_eq_true rfl) (Nat.le_of_ble_eq_true rfl) ⟨rfl, rfl, rfl, (v (ρ (ρ t 4) 6) p), rfl, trivial⟩)
  · refine r_tsIn (x := w) (pc := 6) hX 4 (tgt := 46) rfl ⟨by omega, by omega⟩ (by omega) (by omega) (by rw [hsw6]; rfl) (by decide) ?_
    refine t_getR (q := (ρ t 4)) (pc := 46) hX 11 rfl rfl rfl fl_X11_47 rfl (hH.kd ht (by decide)) (rfl) ?_
    have hw46_ : ω (ρ t 4) = 22 := hH.rf ht (by decide) rfl
    refine r_getR (q := (ρ (ρ t 4) 0)) (pc := 50) hX 13 rfl fl_X11_51 rfl (hH.kd hw46_ (by decide)) (rfl) ?_
    have hw50_ : ω (ρ (ρ t 4) 0) = 5 := hH.rf hw46_ (by decide) rfl
    refine r_getR (q := (ρ (ρ (ρ t 4) 0) 7)) (pc := 53) hX 14 rfl fl_X11_185 rfl (hH.kd hw50_ (by decide)) (rfl) ?_
    have hw53_ : ω (ρ (ρ (ρ t 4) 0) 7) = 14 := hH.rf hw50_ (by decide) rfl
    refine r_iload_n (pc := 56) hX 15 rfl rfl ?_
    refine e_iald (y := (v (ρ (ρ (ρ t 4) 0) 7) p)) (n := 3) (pc := 57) hX 16 rfl (hH.kd hw53_ (by decide)) (hH.ln hw53_ (by decide)) (by omega) (by omega) (rfl) ?_
    have hb57 : 0 ≤ (v (ρ (ρ (ρ t 4) 0) 7) p) ∧ (v (ρ (ρ (ρ t 4) 0) 7) p) ≤ 8 := hH.rg hw53_ (by decide) rfl
    exact wpT hQ (r_iret (X := rq g X _ 2 12) (pc := 58) hX 17 rfl rfl rfl (Nat.le_of_ble_eq_true rfl) (Nat.le_of_ble_eq_true rfl) ⟨rfl, rfl, rfl, (v (ρ (ρ (ρ t 4) 0) 7) p), rfl, trivial⟩)
  · refine r_tsIn (x := w) (pc := 6) hX 4 (tgt := 59) rfl ⟨by omega, by omega⟩ (by omega) (by omega) (by rw [hsw6]; rfl) (by decide) ?_
    refine t_getR (q := (ρ t 4)) (pc := 59) hX 18 rfl rfl rfl fl_X11_47 rfl (hH.kd ht (by decide)) (rfl) ?_
    have hw59_ : ω (ρ t 4) = 22 := hH.rf ht (by decide) rfl
    refine r_getR (q := (ρ (ρ t 4) 4)) (pc := 63) hX 20 rfl fl_X11_188 rfl (hH.kd hw59_ (by decide)) (rfl) ?_
    have hw63_ : ω (ρ (ρ t 4) 4) = 24 := hH.rf hw59_ (by decide) rfl
    refine r_iload_n (pc := 66) hX 21 rfl rfl ?_
    refine e_iald (y := (v (ρ (ρ t 4) 4) p)) (n := 3) (pc := 67) hX 22 rfl (hH.kd hw63_ (by decide)) (hH.ln hw63_ (by decide)) (by omega) (by omega) (rfl) ?_
    have hb67 : (-1) ≤ (v (ρ (ρ t 4) 4) p) ∧ (v (ρ (ρ t 4) 4) p) ≤ 3 := hH.rg hw63_ (by decide) rfl
    exact wpT hQ (r_iret (X := rq g X _ 2 12) (pc := 68) hX 23 rfl rfl rfl (Nat.le_of_ble_eq_true rfl) (Nat.le_of_ble_eq_true rfl) ⟨rfl, rfl, rfl, (v (ρ (ρ t 4) 4) p), rfl, trivial⟩)
  · refine r_tsIn (x := w) (pc := 6) hX 4 (tgt := 69) rfl ⟨by omega, by omega⟩ (by omega) (by omega) (by rw [hsw6]; rfl) (by decide) ?_
    refine t_getR (q := (ρ t 4)) (pc := 69) hX 24 rfl rfl rfl fl_X11_47 rfl (hH.kd ht (by decide)) (rfl) ?_
    have hw69_ : ω (ρ t 4) = 22 := hH.rf ht (by decide) rfl
    refine r_getR (q := (ρ (ρ t 4) 5)) (pc := 73) hX 26 rfl fl_X11_191 rfl (hH.kd hw69_ (by decide)) (rfl) ?_
    have hw73_ : ω (ρ (ρ t 4) 5) = 25 := hH.rf hw69_ (by decide) rfl
    refine r_iload_n (pc := 76) hX 27 rfl rfl ?_
    refine e_zald (y := (v (ρ (ρ t 4) 5) p)) (n := 3) (pc := 77) hX 28 rfl (hH.kd hw73_ (by decide)) (hH.ln hw73_ (by decide)) (by omega) (by omega) (rfl) (fun hb77a hb77b => ?_)
    have L86 : ∀ (z9 : Int) , wp g X F_X11_player 1 6 86 [(2, t), (0, p), (0, w)] [(0, z9)] v ρ Z := by
      intro z9
      exact wpT hQ (r_iret (X := rq g X _ 2 12) (pc := 86) hX 33 rfl rfl rfl (Nat.le_of_ble_eq_true rfl) (Nat.le_of_ble_eq_true rfl) ⟨rfl, rfl, rfl, z9, rfl, trivial⟩)
    first | refine r_if_eq (pc := 78) hX 29 (tgt := 85) rfl (by decide) (⟨by omega, by omega⟩) (fun h78 => ?_) (fun h78 => ?_) | refine r_if_eq_any (pc := 78) hX 29 (tgt := 85) rfl (by decide) ?_ ?_
    · refine r_iconst (pc := 85) hX 32 rfl ?_
      exact (L86 0  )
    · refine r_iconst (pc := 81) hX 30 rfl ?_
      refine r_goto (pc := 82) hX 31 (tgt := 86) rfl (by decide) ?_
      exact (L86 1  )

set_option maxHeartbeats 4000000 in
set_option maxRecDepth 100000 in
theorem c_X11_likely (g : Gp) (ω : Rw) (v ρ : Mv) (Z : Mz) (hH : HT ω v ρ Z) (t : Int) (ht : ω t = 1) (p : Int) (w : Int) (hst : (gL g).stackTraces = false) (hz4 : 4 ≤ Z.2.2) (hpr : inR p) (hwr : inR w) : OkT g 6 2 12 F_X11_likely [(2, t), (0, p), (0, w)] v ρ Z (fun o9 v' ρ' Z' => Z = Z' ∧ FrW ω [29, 30, 31, 32, 33, 34, 35, 36, 37, 38] v v' ∧ FrW ω [29] ρ ρ' ∧ HT ω v' ρ' Z ∧ ∃ r : Int, o9 = some (1, r) ∧ True) (fun v' ρ' Z' => Z = Z' ∧ FrW ω [29, 30, 31, 32, 33, 34, 35, 36, 37, 38] v v' ∧ FrW ω [29] ρ ρ' ∧ HT ω v' ρ' Z) := by
  refine OkT.of mo_X11_likely (Nat.le_of_ble_eq_true rfl) ?_
  intro X hX hRm hxn hQ hth
  show wp g X F_X11_likely 0 0 0 [(2, t), (0, p), (0, w)] [] v ρ Z
  have hwT : ω (ρ t 4) = 22 := hH.rf ht (by decide) rfl
  have hwR : ω (ρ (ρ t 4) 0) = 5 := hH.rf hwT (by decide) rfl
  have hgR8 : 0 ≤ v (ρ (ρ t 4) 0) 8 ∧ v (ρ (ρ t 4) 0) 8 ≤ 4 := hH.rg hwR (by decide) rfl
  have hgR9 : 0 ≤ v (ρ (ρ t 4) 0) 9 ∧ v (ρ (ρ t 4) 0) 9 ≤ 3 := hH.rg hwR (by decide) rfl
  have hgR10 : 0 ≤ v (ρ (ρ t 4) 0) 10 ∧ v (ρ (ρ t 4) 0) 10 ≤ 3 := hH.rg hwR (by decide) rfl
  have hwX : ω (ρ t 0) = 2 := hH.rf ht (by decide) rfl
  have hgL : 0 ≤ v (ρ t 0) 1 ∧ v (ρ t 0) 1 ≤ 940 := hH.rg hwX (by decide) rfl
  refine r_aload_n (pc := 0) hX 0 rfl rfl ?_
  refine r_iload_n (pc := 1) hX 1 rfl rfl ?_
  refine r_callVT (as := [(0, p)]) (st := []) (K := 11) (pc := 2) hX 2 hth hQ rfl mo_X11_checkPlayer ml_X11_179 im_X11_checkPlayer se_X11_checkPlayer (c_X11_checkPlayer g ω v ρ Z hH t ht (p) hst hz4 (by omega)) rfl rfl rfl (hH.kd ht (by decide)) (by rw [hRm]; exact ⟨Nat.le_of_ble_eq_true rfl, Nat.le_of_ble_eq_true rfl⟩) (by rw [hRm]; exact ⟨Nat.le_of_ble_eq_true rfl, Nat.le_of_ble_eq_true rfl⟩) (Nat.le_of_ble_eq_true rfl) (Nat.le_of_ble_eq_true rfl) (Nat.le_of_ble_eq_true rfl) (fun v9 ρ9 Z9 h9 _ => by obtain ⟨rfl, rfl, rfl⟩ := h9; exact ⟨rfl, FrW.rf, FrW.rf, hH⟩) (fun o2 v2 ρv2 Zv2 hq2 _ => ?_)
  obtain ⟨rfl, rfl, rfl, rfl, hq2⟩ := hq2
  show wp g X F_X11_likely 1 6 5 [(2, t), (0, p), (0, w)] [] v ρ Z
  refine r_iload_n (pc := 5) hX 3 rfl rfl ?_
  refine r_callST (as := [(0, w)]) (st := []) (pc := 6) hX 4 hth hQ rfl mo_X11_checkPart ml_X11_242 stt_X11_checkPart (c_X11_checkPart g ω v ρ Z hH (w) hst hz4 (by omega)) rfl (by rw [hRm]; exact ⟨Nat.le_of_ble_eq_true rfl, Nat.le_of_ble_eq_true rfl⟩) (by rw [hRm]; exact ⟨Nat.le_of_ble_eq_true rfl, Nat.le_of_ble_eq_true rfl⟩) (Nat.le_of_ble_eq_true rfl) (Nat.le_of_ble_eq_true rfl) (Nat.le_of_ble_eq_true rfl) (fun v9 ρ9 Z9 h9 _ => by obtain ⟨rfl, rfl, rfl⟩ := h9; exact ⟨rfl, FrW.rf, FrW.rf, hH⟩) (fun o6 v6 ρv6 Zv6 hq6 _ => ?_)
  obtain ⟨rfl, rfl, rfl, rfl, hq6⟩ := hq6
  show wp g X F_X11_likely 2 12 9 [(2, t), (0, p), (0, w)] [] v ρ Z
  refine t_getR (q := (ρ t 7)) (pc := 9) hX 5 rfl rfl rfl fl_X11_68 rfl (hH.kd ht (by decide)) (rfl) ?_
  have hw9_ : ω (ρ t 7) = 29 := hH.rf ht (by decide) rfl
  refine t_getR (q := (ρ t 4)) (pc := 13) hX 7 rfl rfl rfl fl_X11_47 rfl (hH.kd ht (by decide)) (rfl) ?_
  have hw13_ : ω (ρ t 4) = 22 := hH.rf ht (by decide) rfl
  refine r_callV (as := [(2, (ρ t 4))]) (st := []) (K := 2) (pc := 17) hX 9 rfl mo_X2_reckonFor ml_X11_245 im_X2_reckonFor se_X2_reckonFor (c_X2_reckonFor g ω v ρ Z hH (ρ t 7) hw9_ (ρ t 4) hw13_ ) rfl rfl rfl (hH.kd hw9_ (by decide)) (by rw [hRm]; exact ⟨by decide, by decide⟩) (by rw [hRm]; exact ⟨by decide, by decide⟩) (Nat.le_of_ble_eq_true rfl) (fun o17 v17 ρv17 Zv17 hq17 _ => ?_)
  obtain ⟨rfl, hfr17, hfrR17, hH17, rfl, hq17⟩ := hq17
  show wp g X F_X11_likely 2 12 20 [(2, t), (0, p), (0, w)] [] v17 ρv17 Z
  refine t_getR (q := (ρ t 7)) (pc := 20) hX 10 rfl rfl rfl fl_X11_68 rfl (hH17.kd ht (by decide)) ((hfrR17.at ht (by decide) 7).trans (rfl)) ?_
  refine r_getR (q := (ρv17 (ρ t 7) 9)) (pc := 24) hX 12 rfl fl_X11_248 rfl (hH17.kd hw9_ (by decide)) (rfl) ?_
  have hw24_ : ω (ρv17 (ρ t 7) 9) = 33 := hH17.rf hw9_ (by decide) rfl
  refine r_iload_n (pc := 27) hX 13 rfl rfl ?_
  refine e_lald (y := (v17 (ρv17 (ρ t 7) 9) p)) (n := 3) (pc := 28) hX 14 rfl (hH17.kd hw24_ (by decide)) (hH17.ln hw24_ (by decide)) (by omega) (by omega) (rfl) ?_
  refine t_getR (q := (ρ t 7)) (pc := 29) hX 15 rfl rfl rfl fl_X11_68 rfl (hH17.kd ht (by decide)) ((hfrR17.at ht (by decide) 7).trans (rfl)) ?_
  refine e_getL (y := (v17 (ρ t 7) 7)) (pc := 33) hX 17 rfl fl_X11_252 rfl (hH17.kd hw9_ (by decide)) (rfl) ?_
  refine r_iload_n (pc := 36) hX 18 rfl rfl ?_
  refine r_callS (as := [(1, (v17 (ρv17 (ρ t 7) 9) p)), (1, (v17 (ρ t 7) 7)), (0, w)]) (st := []) (pc := 37) hX 19 rfl mo_X11_part ml_X11_256 stt_X11_part (c_X11_part g ω v17 ρv17 Z hH17 ((v17 (ρv17 (ρ t 7) 9) p)) ((v17 (ρ t 7) 7)) (w) (by omega)) rfl (by rw [hRm]; exact ⟨by decide, by decide⟩) (by rw [hRm]; exact ⟨by decide, by decide⟩) (Nat.le_of_ble_eq_true rfl) (fun o37 v37 ρv37 Zv37 hq37 _ => ?_)
  obtain ⟨rfl, rfl, rfl, r37, rfl, hq37⟩ := hq37
  show wp g X F_X11_likely 2 12 40 [(2, t), (0, p), (0, w)] [(1, r37)] v17 ρv17 Z
  exact wpT hQ (r_lret (X := rq g X _ 2 12) (pc := 40) hX 20 rfl rfl rfl (Nat.le_of_ble_eq_true rfl) (Nat.le_of_ble_eq_true rfl) ⟨rfl, (FrW.rf).tr hfr17 (by decide), (FrW.rf).tr hfrR17 (by decide), hH17, r37, rfl, trivial⟩)

set_option maxHeartbeats 4000000 in
set_option maxRecDepth 100000 in
theorem c_X11_nobody (g : Gp) (ω : Rw) (v ρ : Mv) (Z : Mz) (hH : HT ω v ρ Z) (t : Int) (ht : ω t = 1) (w : Int) (hst : (gL g).stackTraces = false) (hz4 : 4 ≤ Z.2.2) (hwr : inR w) : OkT g 6 1 6 F_X11_nobody [(2, t), (0, w)] v ρ Z (fun o9 v' ρ' Z' => Z = Z' ∧ FrW ω [29, 30, 31, 32, 33, 34, 35, 36, 37, 38] v v' ∧ FrW ω [29] ρ ρ' ∧ HT ω v' ρ' Z ∧ ∃ r : Int, o9 = some (1, r) ∧ True) (fun v' ρ' Z' => Z = Z' ∧ FrW ω [29, 30, 31, 32, 33, 34, 35, 36, 37, 38] v v' ∧ FrW ω [29] ρ ρ' ∧ HT ω v' ρ' Z) := by
  refine OkT.of mo_X11_nobody (Nat.le_of_ble_eq_true rfl) ?_
  intro X hX hRm hxn hQ hth
  show wp g X F_X11_nobody 0 0 0 [(2, t), (0, w)] [] v ρ Z
  have hwT : ω (ρ t 4) = 22 := hH.rf ht (by decide) rfl
  have hwR : ω (ρ (ρ t 4) 0) = 5 := hH.rf hwT (by decide) rfl
  have hgR8 : 0 ≤ v (ρ (ρ t 4) 0) 8 ∧ v (ρ (ρ t 4) 0) 8 ≤ 4 := hH.rg hwR (by decide) rfl
  have hgR9 : 0 ≤ v (ρ (ρ t 4) 0) 9 ∧ v (ρ (ρ t 4) 0) 9 ≤ 3 := hH.rg hwR (by decide) rfl
  have hgR10 : 0 ≤ v (ρ (ρ t 4) 0) 10 ∧ v (ρ (ρ t 4) 0) 10 ≤ 3 := hH.rg hwR (by decide) rfl
  have hwX : ω (ρ t 0) = 2 := hH.rf ht (by decide) rfl
  have hgL : 0 ≤ v (ρ t 0) 1 ∧ v (ρ t 0) 1 ≤ 940 := hH.rg hwX (by decide) rfl
  refine r_iload_n (pc := 0) hX 0 rfl rfl ?_
  refine r_callST (as := [(0, w)]) (st := []) (pc := 1) hX 1 hth hQ rfl mo_X11_checkPart ml_X11_242 stt_X11_checkPart (c_X11_checkPart g ω v ρ Z hH (w) hst hz4 (by omega)) rfl (by rw [hRm]; exact ⟨Nat.le_of_ble_eq_true rfl, Nat.le_of_ble_eq_true rfl⟩) (by rw [hRm]; exact ⟨Nat.le_of_ble_eq_true rfl, Nat.le_of_ble_eq_true rfl⟩) (Nat.le_of_ble_eq_true rfl) (Nat.le_of_ble_eq_true rfl) (Nat.le_of_ble_eq_true rfl) (fun v9 ρ9 Z9 h9 _ => by obtain ⟨rfl, rfl, rfl⟩ := h9; exact ⟨rfl, FrW.rf, FrW.rf, hH⟩) (fun o1 v1 ρv1 Zv1 hq1 _ => ?_)
  obtain ⟨rfl, rfl, rfl, rfl, hq1⟩ := hq1
  show wp g X F_X11_nobody 1 6 4 [(2, t), (0, w)] [] v ρ Z
  refine t_getR (q := (ρ t 7)) (pc := 4) hX 2 rfl rfl rfl fl_X11_68 rfl (hH.kd ht (by decide)) (rfl) ?_
  have hw4_ : ω (ρ t 7) = 29 := hH.rf ht (by decide) rfl
  refine t_getR (q := (ρ t 4)) (pc := 8) hX 4 rfl rfl rfl fl_X11_47 rfl (hH.kd ht (by decide)) (rfl) ?_
  have hw8_ : ω (ρ t 4) = 22 := hH.rf ht (by decide) rfl
  refine r_callV (as := [(2, (ρ t 4))]) (st := []) (K := 2) (pc := 12) hX 6 rfl mo_X2_reckonFor ml_X11_245 im_X2_reckonFor se_X2_reckonFor (c_X2_reckonFor g ω v ρ Z hH (ρ t 7) hw4_ (ρ t 4) hw8_ ) rfl rfl rfl (hH.kd hw4_ (by decide)) (by rw [hRm]; exact ⟨by decide, by decide⟩) (by rw [hRm]; exact ⟨by decide, by decide⟩) (Nat.le_of_ble_eq_true rfl) (fun o12 v12 ρv12 Zv12 hq12 _ => ?_)
  obtain ⟨rfl, hfr12, hfrR12, hH12, rfl, hq12⟩ := hq12
  show wp g X F_X11_nobody 1 6 15 [(2, t), (0, w)] [] v12 ρv12 Z
  refine t_getR (q := (ρ t 7)) (pc := 15) hX 7 rfl rfl rfl fl_X11_68 rfl (hH12.kd ht (by decide)) ((hfrR12.at ht (by decide) 7).trans (rfl)) ?_
  refine e_getL (y := (v12 (ρ t 7) 8)) (pc := 19) hX 9 rfl fl_X11_260 rfl (hH12.kd hw4_ (by decide)) (rfl) ?_
  refine t_getR (q := (ρ t 7)) (pc := 22) hX 10 rfl rfl rfl fl_X11_68 rfl (hH12.kd ht (by decide)) ((hfrR12.at ht (by decide) 7).trans (rfl)) ?_
  refine e_getL (y := (v12 (ρ t 7) 7)) (pc := 26) hX 12 rfl fl_X11_252 rfl (hH12.kd hw4_ (by decide)) (rfl) ?_
  refine r_iload_n (pc := 29) hX 13 rfl rfl ?_
  refine r_callS (as := [(1, (v12 (ρ t 7) 8)), (1, (v12 (ρ t 7) 7)), (0, w)]) (st := []) (pc := 30) hX 14 rfl mo_X11_part ml_X11_256 stt_X11_part (c_X11_part g ω v12 ρv12 Z hH12 ((v12 (ρ t 7) 8)) ((v12 (ρ t 7) 7)) (w) (by omega)) rfl (by rw [hRm]; exact ⟨by decide, by decide⟩) (by rw [hRm]; exact ⟨by decide, by decide⟩) (Nat.le_of_ble_eq_true rfl) (fun o30 v30 ρv30 Zv30 hq30 _ => ?_)
  obtain ⟨rfl, rfl, rfl, r30, rfl, hq30⟩ := hq30
  show wp g X F_X11_nobody 1 6 33 [(2, t), (0, w)] [(1, r30)] v12 ρv12 Z
  exact wpT hQ (r_lret (X := rq g X _ 1 6) (pc := 33) hX 15 rfl rfl rfl (Nat.le_of_ble_eq_true rfl) (Nat.le_of_ble_eq_true rfl) ⟨rfl, (FrW.rf).tr hfr12 (by decide), (FrW.rf).tr hfrR12 (by decide), hH12, r30, rfl, trivial⟩)

set_option maxHeartbeats 4000000 in
set_option maxRecDepth 100000 in
theorem c_X11_where (g : Gp) (ω : Rw) (v ρ : Mv) (Z : Mz) (hH : HT ω v ρ Z) (t : Int) (ht : ω t = 1) (p : Int) (w : Int) (hst : (gL g).stackTraces = false) (hz4 : 4 ≤ Z.2.2) (hpr : inR p) (hwr : inR w) : OkT g 4 2 12 F_X11_where [(2, t), (0, p), (0, w)] v ρ Z (fun o9 v' ρ' Z' => ρ = ρ' ∧ Z = Z' ∧ v = v' ∧ ∃ r : Int, o9 = some (1, r) ∧ True) (fun v' ρ' Z' => ρ = ρ' ∧ Z = Z' ∧ v = v') := by
  refine OkT.of mo_X11_where (Nat.le_of_ble_eq_true rfl) ?_
  intro X hX hRm hxn hQ hth
  show wp g X F_X11_where 0 0 0 [(2, t), (0, p), (0, w)] [] v ρ Z
  have hwT : ω (ρ t 4) = 22 := hH.rf ht (by decide) rfl
  have hwR : ω (ρ (ρ t 4) 0) = 5 := hH.rf hwT (by decide) rfl
  have hgR8 : 0 ≤ v (ρ (ρ t 4) 0) 8 ∧ v (ρ (ρ t 4) 0) 8 ≤ 4 := hH.rg hwR (by decide) rfl
  have hgR9 : 0 ≤ v (ρ (ρ t 4) 0) 9 ∧ v (ρ (ρ t 4) 0) 9 ≤ 3 := hH.rg hwR (by decide) rfl
  have hgR10 : 0 ≤ v (ρ (ρ t 4) 0) 10 ∧ v (ρ (ρ t 4) 0) 10 ≤ 3 := hH.rg hwR (by decide) rfl
  have hwX : ω (ρ t 0) = 2 := hH.rf ht (by decide) rfl
  have hgL : 0 ≤ v (ρ t 0) 1 ∧ v (ρ t 0) 1 ≤ 940 := hH.rg hwX (by decide) rfl
  refine t_getR (q := (ρ t 4)) (pc := 0) hX 0 rfl rfl rfl fl_X11_47 rfl (hH.kd ht (by decide)) (rfl) ?_
  have hw0_ : ω (ρ t 4) = 22 := hH.rf ht (by decide) rfl
  refine r_getR (q := (ρ (ρ t 4) 0)) (pc := 4) hX 2 rfl fl_X11_51 rfl (hH.kd hw0_ (by decide)) (rfl) ?_
  have hw4_ : ω (ρ (ρ t 4) 0) = 5 := hH.rf hw0_ (by decide) rfl
  refine r_iload_n (pc := 7) hX 3 rfl rfl ?_
  refine r_callV (as := [(0, p)]) (st := []) (K := 4) (pc := 8) hX 4 rfl mo_X4_hasLand ml_X11_166 im_X4_hasLand se_X4_hasLand (c_X4_hasLand g ω v ρ Z hH (ρ (ρ t 4) 0) hw4_ (p) (by omega)) rfl rfl rfl (hH.kd hw4_ (by decide)) (by rw [hRm]; exact ⟨by decide, by decide⟩) (by rw [hRm]; exact ⟨by decide, by decide⟩) (Nat.le_of_ble_eq_true rfl) (fun o8 v8 ρv8 Zv8 hq8 _ => ?_)
  obtain ⟨rfl, rfl, rfl, r8, rfl, hq8⟩ := hq8
  show wp g X F_X11_where 0 0 11 [(2, t), (0, p), (0, w)] [(0, r8)] v ρ Z
  first | refine r_if_ne (pc := 11) hX 5 (tgt := 22) rfl (by decide) (⟨by omega, by omega⟩) (fun h11 => ?_) (fun h11 => ?_) | refine r_if_ne_any (pc := 11) hX 5 (tgt := 22) rfl (by decide) ?_ ?_
  · refine r_iload_n (pc := 22) hX 10 rfl rfl ?_
    refine r_callST (as := [(0, w)]) (st := []) (pc := 23) hX 11 hth hQ rfl mo_X11_checkPart ml_X11_242 stt_X11_checkPart (c_X11_checkPart g ω v ρ Z hH (w) hst hz4 (by omega)) rfl (by rw [hRm]; exact ⟨Nat.le_of_ble_eq_true rfl, Nat.le_of_ble_eq_true rfl⟩) (by rw [hRm]; exact ⟨Nat.le_of_ble_eq_true rfl, Nat.le_of_ble_eq_true rfl⟩) (Nat.le_of_ble_eq_true rfl) (Nat.le_of_ble_eq_true rfl) (Nat.le_of_ble_eq_true rfl) (fun v9 ρ9 Z9 h9 _ => by obtain ⟨rfl, rfl, rfl⟩ := h9; exact ⟨rfl, rfl, rfl⟩) (fun o23 v23 ρv23 Zv23 hq23 _ => ?_)
    obtain ⟨rfl, rfl, rfl, rfl, hq23⟩ := hq23
    show wp g X F_X11_where 1 6 26 [(2, t), (0, p), (0, w)] [] v ρ Z
    refine t_getR (q := (ρ t 4)) (pc := 26) hX 12 rfl rfl rfl fl_X11_47 rfl (hH.kd ht (by decide)) (rfl) ?_
    refine r_iload_n (pc := 30) hX 14 rfl rfl ?_
    refine r_callV (as := [(0, p)]) (st := []) (K := 9) (pc := 31) hX 15 rfl mo_X9_weightOf ml_X11_263 im_X9_weightOf se_X9_weightOf (c_X9_weightOf g ω v ρ Z hH (ρ t 4) hw0_ (p) (by omega)) rfl rfl rfl (hH.kd hw0_ (by decide)) (by rw [hRm]; exact ⟨by decide, by decide⟩) (by rw [hRm]; exact ⟨by decide, by decide⟩) (Nat.le_of_ble_eq_true rfl) (fun o31 v31 ρv31 Zv31 hq31 _ => ?_)
    obtain ⟨rfl, rfl, rfl, r31, rfl, hq31⟩ := hq31
    show wp g X F_X11_where 1 6 34 [(2, t), (0, p), (0, w)] [(1, r31)] v ρ Z
    refine t_getR (q := (ρ t 4)) (pc := 34) hX 16 rfl rfl rfl fl_X11_47 rfl (hH.kd ht (by decide)) (rfl) ?_
    refine r_callV (as := []) (st := [(1, r31)]) (K := 9) (pc := 38) hX 18 rfl mo_X9_allWeights ml_X11_267 im_X9_allWeights se_X9_allWeights (c_X9_allWeights g ω v ρ Z hH (ρ t 4) hw0_ ) rfl rfl rfl (hH.kd hw0_ (by decide)) (by rw [hRm]; exact ⟨by decide, by decide⟩) (by rw [hRm]; exact ⟨by decide, by decide⟩) (Nat.le_of_ble_eq_true rfl) (fun o38 v38 ρv38 Zv38 hq38 _ => ?_)
    obtain ⟨rfl, rfl, rfl, r38, rfl, hq38⟩ := hq38
    show wp g X F_X11_where 1 6 41 [(2, t), (0, p), (0, w)] [(1, r38), (1, r31)] v ρ Z
    refine r_iload_n (pc := 41) hX 19 rfl rfl ?_
    refine r_callS (as := [(1, r31), (1, r38), (0, w)]) (st := []) (pc := 42) hX 20 rfl mo_X11_part ml_X11_256 stt_X11_part (c_X11_part g ω v ρ Z hH (r31) (r38) (w) (by omega)) rfl (by rw [hRm]; exact ⟨by decide, by decide⟩) (by rw [hRm]; exact ⟨by decide, by decide⟩) (Nat.le_of_ble_eq_true rfl) (fun o42 v42 ρv42 Zv42 hq42 _ => ?_)
    obtain ⟨rfl, rfl, rfl, r42, rfl, hq42⟩ := hq42
    show wp g X F_X11_where 1 6 45 [(2, t), (0, p), (0, w)] [(1, r42)] v ρ Z
    exact wpT hQ (r_lret (X := rq g X _ 2 12) (pc := 45) hX 21 rfl rfl rfl (Nat.le_of_ble_eq_true rfl) (Nat.le_of_ble_eq_true rfl) ⟨rfl, rfl, rfl, r42, rfl, trivial⟩)
  · exact r_thr (pc := 14) hX 6 hst hth hQ rfl rfl rfl rfl rfl hz4 (by rw [hRm]; exact Nat.le_of_ble_eq_true rfl) (by rw [hRm]; exact Nat.le_of_ble_eq_true rfl) (by rw [hRm]; exact Nat.le_of_ble_eq_true rfl) (by rw [hRm]; exact Nat.le_of_ble_eq_true rfl) (Nat.le_of_ble_eq_true rfl) (Nat.le_of_ble_eq_true rfl) ⟨rfl, rfl, rfl⟩

set_option maxHeartbeats 4000000 in
set_option maxRecDepth 100000 in
theorem c_X11_next (g : Gp) (ω : Rw) (v ρ : Mv) (Z : Mz) (hH : HT ω v ρ Z) (t : Int) (ht : ω t = 1) (p : Int) (w : Int) (hst : (gL g).stackTraces = false) (hz4 : 4 ≤ Z.2.2) (hpr : inR p) (hwr : inR w) : OkT g 4 2 12 F_X11_next [(2, t), (0, p), (0, w)] v ρ Z (fun o9 v' ρ' Z' => ρ = ρ' ∧ Z = Z' ∧ v = v' ∧ ∃ r : Int, o9 = some (1, r) ∧ True) (fun v' ρ' Z' => ρ = ρ' ∧ Z = Z' ∧ v = v') := by
  refine OkT.of mo_X11_next (Nat.le_of_ble_eq_true rfl) ?_
  intro X hX hRm hxn hQ hth
  show wp g X F_X11_next 0 0 0 [(2, t), (0, p), (0, w)] [] v ρ Z
  have hwT : ω (ρ t 4) = 22 := hH.rf ht (by decide) rfl
  have hwR : ω (ρ (ρ t 4) 0) = 5 := hH.rf hwT (by decide) rfl
  have hgR8 : 0 ≤ v (ρ (ρ t 4) 0) 8 ∧ v (ρ (ρ t 4) 0) 8 ≤ 4 := hH.rg hwR (by decide) rfl
  have hgR9 : 0 ≤ v (ρ (ρ t 4) 0) 9 ∧ v (ρ (ρ t 4) 0) 9 ≤ 3 := hH.rg hwR (by decide) rfl
  have hgR10 : 0 ≤ v (ρ (ρ t 4) 0) 10 ∧ v (ρ (ρ t 4) 0) 10 ≤ 3 := hH.rg hwR (by decide) rfl
  have hwX : ω (ρ t 0) = 2 := hH.rf ht (by decide) rfl
  have hgL : 0 ≤ v (ρ t 0) 1 ∧ v (ρ t 0) 1 ≤ 940 := hH.rg hwX (by decide) rfl
  refine t_getR (q := (ρ t 4)) (pc := 0) hX 0 rfl rfl rfl fl_X11_47 rfl (hH.kd ht (by decide)) (rfl) ?_
  have hw0_ : ω (ρ t 4) = 22 := hH.rf ht (by decide) rfl
  refine r_getR (q := (ρ (ρ t 4) 0)) (pc := 4) hX 2 rfl fl_X11_51 rfl (hH.kd hw0_ (by decide)) (rfl) ?_
  have hw4_ : ω (ρ (ρ t 4) 0) = 5 := hH.rf hw0_ (by decide) rfl
  refine r_iload_n (pc := 7) hX 3 rfl rfl ?_
  refine r_callV (as := [(0, p)]) (st := []) (K := 4) (pc := 8) hX 4 rfl mo_X4_hasKind ml_X11_169 im_X4_hasKind se_X4_hasKind (c_X4_hasKind g ω v ρ Z hH (ρ (ρ t 4) 0) hw4_ (p) (by omega)) rfl rfl rfl (hH.kd hw4_ (by decide)) (by rw [hRm]; exact ⟨by decide, by decide⟩) (by rw [hRm]; exact ⟨by decide, by decide⟩) (Nat.le_of_ble_eq_true rfl) (fun o8 v8 ρv8 Zv8 hq8 _ => ?_)
  obtain ⟨rfl, rfl, rfl, r8, rfl, hq8⟩ := hq8
  show wp g X F_X11_next 0 0 11 [(2, t), (0, p), (0, w)] [(0, r8)] v ρ Z
  first | refine r_if_ne (pc := 11) hX 5 (tgt := 22) rfl (by decide) (⟨by omega, by omega⟩) (fun h11 => ?_) (fun h11 => ?_) | refine r_if_ne_any (pc := 11) hX 5 (tgt := 22) rfl (by decide) ?_ ?_
  · refine r_iload_n (pc := 22) hX 10 rfl rfl ?_
    refine r_callST (as := [(0, w)]) (st := []) (pc := 23) hX 11 hth hQ rfl mo_X11_checkPart ml_X11_242 stt_X11_checkPart (c_X11_checkPart g ω v ρ Z hH (w) hst hz4 (by omega)) rfl (by rw [hRm]; exact ⟨Nat.le_of_ble_eq_true rfl, Nat.le_of_ble_eq_true rfl⟩) (by rw [hRm]; exact ⟨Nat.le_of_ble_eq_true rfl, Nat.le_of_ble_eq_true rfl⟩) (Nat.le_of_ble_eq_true rfl) (Nat.le_of_ble_eq_true rfl) (Nat.le_of_ble_eq_true rfl) (fun v9 ρ9 Z9 h9 _ => by obtain ⟨rfl, rfl, rfl⟩ := h9; exact ⟨rfl, rfl, rfl⟩) (fun o23 v23 ρv23 Zv23 hq23 _ => ?_)
    obtain ⟨rfl, rfl, rfl, rfl, hq23⟩ := hq23
    show wp g X F_X11_next 1 6 26 [(2, t), (0, p), (0, w)] [] v ρ Z
    refine t_getR (q := (ρ t 4)) (pc := 26) hX 12 rfl rfl rfl fl_X11_47 rfl (hH.kd ht (by decide)) (rfl) ?_
    refine r_iload_n (pc := 30) hX 14 rfl rfl ?_
    refine r_callV (as := [(0, p)]) (st := []) (K := 9) (pc := 31) hX 15 rfl mo_X9_weightsWith ml_X11_271 im_X9_weightsWith se_X9_weightsWith (c_X9_weightsWith g ω v ρ Z hH (ρ t 4) hw0_ (p) (by omega)) rfl rfl rfl (hH.kd hw0_ (by decide)) (by rw [hRm]; exact ⟨by decide, by decide⟩) (by rw [hRm]; exact ⟨by decide, by decide⟩) (Nat.le_of_ble_eq_true rfl) (fun o31 v31 ρv31 Zv31 hq31 _ => ?_)
    obtain ⟨rfl, rfl, rfl, r31, rfl, hq31⟩ := hq31
    show wp g X F_X11_next 1 6 34 [(2, t), (0, p), (0, w)] [(1, r31)] v ρ Z
    refine r_ldc2 (y := 12) (pc := 34) hX 16 rfl kl_X11_274 (by decide) ?_
    refine t_getR (q := (ρ t 4)) (pc := 37) hX 17 rfl rfl rfl fl_X11_47 rfl (hH.kd ht (by decide)) (rfl) ?_
    refine r_callV (as := []) (st := [(1, 12), (1, r31)]) (K := 9) (pc := 41) hX 19 rfl mo_X9_allWeights ml_X11_267 im_X9_allWeights se_X9_allWeights (c_X9_allWeights g ω v ρ Z hH (ρ t 4) hw0_ ) rfl rfl rfl (hH.kd hw0_ (by decide)) (by rw [hRm]; exact ⟨by decide, by decide⟩) (by rw [hRm]; exact ⟨by decide, by decide⟩) (Nat.le_of_ble_eq_true rfl) (fun o41 v41 ρv41 Zv41 hq41 _ => ?_)
    obtain ⟨rfl, rfl, rfl, r41, rfl, hq41⟩ := hq41
    show wp g X F_X11_next 1 6 44 [(2, t), (0, p), (0, w)] [(1, r41), (1, 12), (1, r31)] v ρ Z
    refine r_lmul (pc := 44) hX 20 rfl ?_
    refine r_lany _ (fun z44 hz44 => ?_)
    refine r_iload_n (pc := 45) hX 21 rfl rfl ?_
    refine r_callS (as := [(1, r31), (1, z44), (0, w)]) (st := []) (pc := 46) hX 22 rfl mo_X11_part ml_X11_256 stt_X11_part (c_X11_part g ω v ρ Z hH (r31) (z44) (w) (by omega)) rfl (by rw [hRm]; exact ⟨by decide, by decide⟩) (by rw [hRm]; exact ⟨by decide, by decide⟩) (Nat.le_of_ble_eq_true rfl) (fun o46 v46 ρv46 Zv46 hq46 _ => ?_)
    obtain ⟨rfl, rfl, rfl, r46, rfl, hq46⟩ := hq46
    show wp g X F_X11_next 1 6 49 [(2, t), (0, p), (0, w)] [(1, r46)] v ρ Z
    exact wpT hQ (r_lret (X := rq g X _ 2 12) (pc := 49) hX 23 rfl rfl rfl (Nat.le_of_ble_eq_true rfl) (Nat.le_of_ble_eq_true rfl) ⟨rfl, rfl, rfl, r46, rfl, trivial⟩)
  · exact r_thr (pc := 14) hX 6 hst hth hQ rfl rfl rfl rfl rfl hz4 (by rw [hRm]; exact Nat.le_of_ble_eq_true rfl) (by rw [hRm]; exact Nat.le_of_ble_eq_true rfl) (by rw [hRm]; exact Nat.le_of_ble_eq_true rfl) (by rw [hRm]; exact Nat.le_of_ble_eq_true rfl) (Nat.le_of_ble_eq_true rfl) (Nat.le_of_ble_eq_true rfl) ⟨rfl, rfl, rfl⟩

set_option maxHeartbeats 4000000 in
set_option maxRecDepth 100000 in
theorem c_X11_left (g : Gp) (ω : Rw) (v ρ : Mv) (Z : Mz) (hH : HT ω v ρ Z) (t : Int) (ht : ω t = 1) (w : Int) (hst : (gL g).stackTraces = false) (hz4 : 4 ≤ Z.2.2) (hwr : inR w) : OkT g 6 1 6 F_X11_left [(2, t), (0, w)] v ρ Z (fun o9 v' ρ' Z' => Z = Z' ∧ FrW ω [29, 30, 31, 32, 33, 34, 35, 36, 37, 38] v v' ∧ FrW ω [29] ρ ρ' ∧ HT ω v' ρ' Z ∧ ∃ r : Int, o9 = some (1, r) ∧ True) (fun v' ρ' Z' => Z = Z' ∧ FrW ω [29, 30, 31, 32, 33, 34, 35, 36, 37, 38] v v' ∧ FrW ω [29] ρ ρ' ∧ HT ω v' ρ' Z) := by
  refine OkT.of mo_X11_left (Nat.le_of_ble_eq_true rfl) ?_
  intro X hX hRm hxn hQ hth
  show wp g X F_X11_left 0 0 0 [(2, t), (0, w)] [] v ρ Z
  have hwT : ω (ρ t 4) = 22 := hH.rf ht (by decide) rfl
  have hwR : ω (ρ (ρ t 4) 0) = 5 := hH.rf hwT (by decide) rfl
  have hgR8 : 0 ≤ v (ρ (ρ t 4) 0) 8 ∧ v (ρ (ρ t 4) 0) 8 ≤ 4 := hH.rg hwR (by decide) rfl
  have hgR9 : 0 ≤ v (ρ (ρ t 4) 0) 9 ∧ v (ρ (ρ t 4) 0) 9 ≤ 3 := hH.rg hwR (by decide) rfl
  have hgR10 : 0 ≤ v (ρ (ρ t 4) 0) 10 ∧ v (ρ (ρ t 4) 0) 10 ≤ 3 := hH.rg hwR (by decide) rfl
  have hwX : ω (ρ t 0) = 2 := hH.rf ht (by decide) rfl
  have hgL : 0 ≤ v (ρ t 0) 1 ∧ v (ρ t 0) 1 ≤ 940 := hH.rg hwX (by decide) rfl
  refine r_iload_n (pc := 0) hX 0 rfl rfl ?_
  refine r_callST (as := [(0, w)]) (st := []) (pc := 1) hX 1 hth hQ rfl mo_X11_checkPart ml_X11_242 stt_X11_checkPart (c_X11_checkPart g ω v ρ Z hH (w) hst hz4 (by omega)) rfl (by rw [hRm]; exact ⟨Nat.le_of_ble_eq_true rfl, Nat.le_of_ble_eq_true rfl⟩) (by rw [hRm]; exact ⟨Nat.le_of_ble_eq_true rfl, Nat.le_of_ble_eq_true rfl⟩) (Nat.le_of_ble_eq_true rfl) (Nat.le_of_ble_eq_true rfl) (Nat.le_of_ble_eq_true rfl) (fun v9 ρ9 Z9 h9 _ => by obtain ⟨rfl, rfl, rfl⟩ := h9; exact ⟨rfl, FrW.rf, FrW.rf, hH⟩) (fun o1 v1 ρv1 Zv1 hq1 _ => ?_)
  obtain ⟨rfl, rfl, rfl, rfl, hq1⟩ := hq1
  show wp g X F_X11_left 1 6 4 [(2, t), (0, w)] [] v ρ Z
  refine t_getR (q := (ρ t 7)) (pc := 4) hX 2 rfl rfl rfl fl_X11_68 rfl (hH.kd ht (by decide)) (rfl) ?_
  have hw4_ : ω (ρ t 7) = 29 := hH.rf ht (by decide) rfl
  refine t_getR (q := (ρ t 4)) (pc := 8) hX 4 rfl rfl rfl fl_X11_47 rfl (hH.kd ht (by decide)) (rfl) ?_
  have hw8_ : ω (ρ t 4) = 22 := hH.rf ht (by decide) rfl
  refine r_callV (as := [(2, (ρ t 4))]) (st := []) (K := 2) (pc := 12) hX 6 rfl mo_X2_reckonFor ml_X11_245 im_X2_reckonFor se_X2_reckonFor (c_X2_reckonFor g ω v ρ Z hH (ρ t 7) hw4_ (ρ t 4) hw8_ ) rfl rfl rfl (hH.kd hw4_ (by decide)) (by rw [hRm]; exact ⟨by decide, by decide⟩) (by rw [hRm]; exact ⟨by decide, by decide⟩) (Nat.le_of_ble_eq_true rfl) (fun o12 v12 ρv12 Zv12 hq12 _ => ?_)
  obtain ⟨rfl, hfr12, hfrR12, hH12, rfl, hq12⟩ := hq12
  show wp g X F_X11_left 1 6 15 [(2, t), (0, w)] [] v12 ρv12 Z
  refine t_getR (q := (ρ t 7)) (pc := 15) hX 7 rfl rfl rfl fl_X11_68 rfl (hH12.kd ht (by decide)) ((hfrR12.at ht (by decide) 7).trans (rfl)) ?_
  refine r_callV (as := []) (st := []) (K := 2) (pc := 19) hX 9 rfl mo_X2_carsYet ml_X11_276 im_X2_carsYet se_X2_carsYet (c_X2_carsYet g ω v12 ρv12 Z hH12 (ρ t 7) hw4_ ) rfl rfl rfl (hH12.kd hw4_ (by decide)) (by rw [hRm]; exact ⟨by decide, by decide⟩) (by rw [hRm]; exact ⟨by decide, by decide⟩) (Nat.le_of_ble_eq_true rfl) (fun o19 v19 ρv19 Zv19 hq19 _ => ?_)
  obtain ⟨rfl, rfl, rfl, r19, rfl, hq19⟩ := hq19
  show wp g X F_X11_left 1 6 22 [(2, t), (0, w)] [(1, r19)] v12 ρv12 Z
  refine t_getR (q := (ρ t 7)) (pc := 22) hX 10 rfl rfl rfl fl_X11_68 rfl (hH12.kd ht (by decide)) ((hfrR12.at ht (by decide) 7).trans (rfl)) ?_
  refine e_getL (y := (v12 (ρ t 7) 7)) (pc := 26) hX 12 rfl fl_X11_252 rfl (hH12.kd hw4_ (by decide)) (rfl) ?_
  refine r_iload_n (pc := 29) hX 13 rfl rfl ?_
  refine r_callS (as := [(1, r19), (1, (v12 (ρ t 7) 7)), (0, w)]) (st := []) (pc := 30) hX 14 rfl mo_X11_part ml_X11_256 stt_X11_part (c_X11_part g ω v12 ρv12 Z hH12 (r19) ((v12 (ρ t 7) 7)) (w) (by omega)) rfl (by rw [hRm]; exact ⟨by decide, by decide⟩) (by rw [hRm]; exact ⟨by decide, by decide⟩) (Nat.le_of_ble_eq_true rfl) (fun o30 v30 ρv30 Zv30 hq30 _ => ?_)
  obtain ⟨rfl, rfl, rfl, r30, rfl, hq30⟩ := hq30
  show wp g X F_X11_left 1 6 33 [(2, t), (0, w)] [(1, r30)] v12 ρv12 Z
  exact wpT hQ (r_lret (X := rq g X _ 1 6) (pc := 33) hX 15 rfl rfl rfl (Nat.le_of_ble_eq_true rfl) (Nat.le_of_ble_eq_true rfl) ⟨rfl, (FrW.rf).tr hfr12 (by decide), (FrW.rf).tr hfrR12 (by decide), hH12, r30, rfl, trivial⟩)

set_option maxHeartbeats 4000000 in
set_option maxRecDepth 100000 in
theorem c_X11_over (g : Gp) (ω : Rw) (v ρ : Mv) (Z : Mz) (hH : HT ω v ρ Z) (t : Int) (ht : ω t = 1) (p : Int) (w : Int) (hst : (gL g).stackTraces = false) (hz4 : 4 ≤ Z.2.2) (hpr : inR p) (hwr : inR w) : OkT g 6 2 12 F_X11_over [(2, t), (0, p), (0, w)] v ρ Z (fun o9 v' ρ' Z' => Z = Z' ∧ FrW ω [29, 30, 31, 32, 33, 34, 35, 36, 37, 38] v v' ∧ FrW ω [29] ρ ρ' ∧ HT ω v' ρ' Z ∧ ∃ r : Int, o9 = some (1, r) ∧ True) (fun v' ρ' Z' => Z = Z' ∧ FrW ω [29, 30, 31, 32, 33, 34, 35, 36, 37, 38] v v' ∧ FrW ω [29] ρ ρ' ∧ HT ω v' ρ' Z) := by
  refine OkT.of mo_X11_over (Nat.le_of_ble_eq_true rfl) ?_
  intro X hX hRm hxn hQ hth
  show wp g X F_X11_over 0 0 0 [(2, t), (0, p), (0, w)] [] v ρ Z
  have hwT : ω (ρ t 4) = 22 := hH.rf ht (by decide) rfl
  have hwR : ω (ρ (ρ t 4) 0) = 5 := hH.rf hwT (by decide) rfl
  have hgR8 : 0 ≤ v (ρ (ρ t 4) 0) 8 ∧ v (ρ (ρ t 4) 0) 8 ≤ 4 := hH.rg hwR (by decide) rfl
  have hgR9 : 0 ≤ v (ρ (ρ t 4) 0) 9 ∧ v (ρ (ρ t 4) 0) 9 ≤ 3 := hH.rg hwR (by decide) rfl
  have hgR10 : 0 ≤ v (ρ (ρ t 4) 0) 10 ∧ v (ρ (ρ t 4) 0) 10 ≤ 3 := hH.rg hwR (by decide) rfl
  have hwX : ω (ρ t 0) = 2 := hH.rf ht (by decide) rfl
  have hgL : 0 ≤ v (ρ t 0) 1 ∧ v (ρ t 0) 1 ≤ 940 := hH.rg hwX (by decide) rfl
  refine r_iload_n (pc := 0) hX 0 rfl rfl ?_
  first | refine r_if_lt (pc := 1) hX 1 (tgt := 10) rfl (by decide) (⟨by omega, by omega⟩) (fun h1 => ?_) (fun h1 => ?_) | refine r_if_lt_any (pc := 1) hX 1 (tgt := 10) rfl (by decide) ?_ ?_
  · exact r_thr (pc := 10) hX 5 hst hth hQ rfl rfl rfl rfl rfl hz4 (by rw [hRm]; exact Nat.le_of_ble_eq_true rfl) (by rw [hRm]; exact Nat.le_of_ble_eq_true rfl) (by rw [hRm]; exact Nat.le_of_ble_eq_true rfl) (by rw [hRm]; exact Nat.le_of_ble_eq_true rfl) (Nat.le_of_ble_eq_true rfl) (Nat.le_of_ble_eq_true rfl) ⟨rfl, FrW.rf, FrW.rf, hH⟩
  · refine r_iload_n (pc := 4) hX 2 rfl rfl ?_
    refine r_bipush (pc := 5) hX 3 rfl (by decide) ?_
    first | refine r_icmp_le (pc := 7) hX 4 (tgt := 18) rfl (by decide) (⟨by omega, by omega⟩) (⟨by omega, by omega⟩) (fun h7 => ?_) (fun h7 => ?_) | refine r_icmp_le_any (pc := 7) hX 4 (tgt := 18) rfl (by decide) ?_ ?_
    · refine r_iload_n (pc := 18) hX 9 rfl rfl ?_
      refine r_callST (as := [(0, w)]) (st := []) (pc := 19) hX 10 hth hQ rfl mo_X11_checkPart ml_X11_242 stt_X11_checkPart (c_X11_checkPart g ω v ρ Z hH (w) hst hz4 (by omega)) rfl (by rw [hRm]; exact ⟨Nat.le_of_ble_eq_true rfl, Nat.le_of_ble_eq_true rfl⟩) (by rw [hRm]; exact ⟨Nat.le_of_ble_eq_true rfl, Nat.le_of_ble_eq_true rfl⟩) (Nat.le_of_ble_eq_true rfl) (Nat.le_of_ble_eq_true rfl) (Nat.le_of_ble_eq_true rfl) (fun v9 ρ9 Z9 h9 _ => by obtain ⟨rfl, rfl, rfl⟩ := h9; exact ⟨rfl, FrW.rf, FrW.rf, hH⟩) (fun o19 v19 ρv19 Zv19 hq19 _ => ?_)
      obtain ⟨rfl, rfl, rfl, rfl, hq19⟩ := hq19
      show wp g X F_X11_over 1 6 22 [(2, t), (0, p), (0, w)] [] v ρ Z
      refine t_getR (q := (ρ t 7)) (pc := 22) hX 11 rfl rfl rfl fl_X11_68 rfl (hH.kd ht (by decide)) (rfl) ?_
      have hw22_ : ω (ρ t 7) = 29 := hH.rf ht (by decide) rfl
      refine t_getR (q := (ρ t 4)) (pc := 26) hX 13 rfl rfl rfl fl_X11_47 rfl (hH.kd ht (by decide)) (rfl) ?_
      have hw26_ : ω (ρ t 4) = 22 := hH.rf ht (by decide) rfl
      refine r_callV (as := [(2, (ρ t 4))]) (st := []) (K := 2) (pc := 30) hX 15 rfl mo_X2_reckonFor ml_X11_245 im_X2_reckonFor se_X2_reckonFor (c_X2_reckonFor g ω v ρ Z hH (ρ t 7) hw22_ (ρ t 4) hw26_ ) rfl rfl rfl (hH.kd hw22_ (by decide)) (by rw [hRm]; exact ⟨by decide, by decide⟩) (by rw [hRm]; exact ⟨by decide, by decide⟩) (Nat.le_of_ble_eq_true rfl) (fun o30 v30 ρv30 Zv30 hq30 _ => ?_)
      obtain ⟨rfl, hfr30, hfrR30, hH30, rfl, hq30⟩ := hq30
      show wp g X F_X11_over 1 6 33 [(2, t), (0, p), (0, w)] [] v30 ρv30 Z
      refine t_getR (q := (ρ t 7)) (pc := 33) hX 16 rfl rfl rfl fl_X11_68 rfl (hH30.kd ht (by decide)) ((hfrR30.at ht (by decide) 7).trans (rfl)) ?_
      refine r_iload_n (pc := 37) hX 18 rfl rfl ?_
      refine r_callV (as := [(0, p)]) (st := []) (K := 2) (pc := 38) hX 19 rfl mo_X2_doneBehind ml_X11_279 im_X2_doneBehind se_X2_doneBehind (c_X2_doneBehind g ω v30 ρv30 Z hH30 (ρ t 7) hw22_ (p) (by omega)) rfl rfl rfl (hH30.kd hw22_ (by decide)) (by rw [hRm]; exact ⟨by decide, by decide⟩) (by rw [hRm]; exact ⟨by decide, by decide⟩) (Nat.le_of_ble_eq_true rfl) (fun o38 v38 ρv38 Zv38 hq38 _ => ?_)
      obtain ⟨rfl, rfl, rfl, r38, rfl, hq38⟩ := hq38
      show wp g X F_X11_over 1 6 41 [(2, t), (0, p), (0, w)] [(1, r38)] v30 ρv30 Z
      refine t_getR (q := (ρ t 7)) (pc := 41) hX 20 rfl rfl rfl fl_X11_68 rfl (hH30.kd ht (by decide)) ((hfrR30.at ht (by decide) 7).trans (rfl)) ?_
      refine e_getL (y := (v30 (ρ t 7) 7)) (pc := 45) hX 22 rfl fl_X11_252 rfl (hH30.kd hw22_ (by decide)) (rfl) ?_
      refine r_iload_n (pc := 48) hX 23 rfl rfl ?_
      refine r_callS (as := [(1, r38), (1, (v30 (ρ t 7) 7)), (0, w)]) (st := []) (pc := 49) hX 24 rfl mo_X11_part ml_X11_256 stt_X11_part (c_X11_part g ω v30 ρv30 Z hH30 (r38) ((v30 (ρ t 7) 7)) (w) (by omega)) rfl (by rw [hRm]; exact ⟨by decide, by decide⟩) (by rw [hRm]; exact ⟨by decide, by decide⟩) (Nat.le_of_ble_eq_true rfl) (fun o49 v49 ρv49 Zv49 hq49 _ => ?_)
      obtain ⟨rfl, rfl, rfl, r49, rfl, hq49⟩ := hq49
      show wp g X F_X11_over 1 6 52 [(2, t), (0, p), (0, w)] [(1, r49)] v30 ρv30 Z
      exact wpT hQ (r_lret (X := rq g X _ 2 12) (pc := 52) hX 25 rfl rfl rfl (Nat.le_of_ble_eq_true rfl) (Nat.le_of_ble_eq_true rfl) ⟨rfl, (FrW.rf).tr hfr30 (by decide), (FrW.rf).tr hfrR30 (by decide), hH30, r49, rfl, trivial⟩)
    · exact r_thr (pc := 10) hX 5 hst hth hQ rfl rfl rfl rfl rfl hz4 (by rw [hRm]; exact Nat.le_of_ble_eq_true rfl) (by rw [hRm]; exact Nat.le_of_ble_eq_true rfl) (by rw [hRm]; exact Nat.le_of_ble_eq_true rfl) (by rw [hRm]; exact Nat.le_of_ble_eq_true rfl) (Nat.le_of_ble_eq_true rfl) (Nat.le_of_ble_eq_true rfl) ⟨rfl, FrW.rf, FrW.rf, hH⟩

set_option maxHeartbeats 4000000 in
set_option maxRecDepth 100000 in
theorem c_X11_chance (g : Gp) (ω : Rw) (v ρ : Mv) (Z : Mz) (hH : HT ω v ρ Z) (t : Int) (ht : ω t = 1) (p : Int) (w : Int) (hst : (gL g).stackTraces = false) (hz4 : 4 ≤ Z.2.2) (hpr : inR p) (hwr : inR w) : OkT g 11 2 12 F_X11_chance [(2, t), (0, p), (0, w)] v ρ Z (fun o9 v' ρ' Z' => Z = Z' ∧ FrW ω [29, 30, 31, 32, 33, 34, 35, 36, 37, 38, 39, 41, 43, 44] v v' ∧ FrW ω [29] ρ ρ' ∧ HT ω v' ρ' Z ∧ ∃ r : Int, o9 = some (1, r) ∧ True) (fun v' ρ' Z' => Z = Z' ∧ FrW ω [29, 30, 31, 32, 33, 34, 35, 36, 37, 38, 39, 41, 43, 44] v v' ∧ FrW ω [29] ρ ρ' ∧ HT ω v' ρ' Z) := by
  refine OkT.of mo_X11_chance (Nat.le_of_ble_eq_true rfl) ?_
  intro X hX hRm hxn hQ hth
  show wp g X F_X11_chance 0 0 0 [(2, t), (0, p), (0, w)] [] v ρ Z
  have hwT : ω (ρ t 4) = 22 := hH.rf ht (by decide) rfl
  have hwR : ω (ρ (ρ t 4) 0) = 5 := hH.rf hwT (by decide) rfl
  have hgR8 : 0 ≤ v (ρ (ρ t 4) 0) 8 ∧ v (ρ (ρ t 4) 0) 8 ≤ 4 := hH.rg hwR (by decide) rfl
  have hgR9 : 0 ≤ v (ρ (ρ t 4) 0) 9 ∧ v (ρ (ρ t 4) 0) 9 ≤ 3 := hH.rg hwR (by decide) rfl
  have hgR10 : 0 ≤ v (ρ (ρ t 4) 0) 10 ∧ v (ρ (ρ t 4) 0) 10 ≤ 3 := hH.rg hwR (by decide) rfl
  have hwX : ω (ρ t 0) = 2 := hH.rf ht (by decide) rfl
  have hgL : 0 ≤ v (ρ t 0) 1 ∧ v (ρ t 0) 1 ≤ 940 := hH.rg hwX (by decide) rfl
  refine r_aload_n (pc := 0) hX 0 rfl rfl ?_
  refine r_iload_n (pc := 1) hX 1 rfl rfl ?_
  refine r_callVT (as := [(0, p)]) (st := []) (K := 11) (pc := 2) hX 2 hth hQ rfl mo_X11_checkPlayer ml_X11_179 im_X11_checkPlayer se_X11_checkPlayer (c_X11_checkPlayer g ω v ρ Z hH t ht (p) hst hz4 (by omega)) rfl rfl rfl (hH.kd ht (by decide)) (by rw [hRm]; exact ⟨Nat.le_of_ble_eq_true rfl, Nat.le_of_ble_eq_true rfl⟩) (by rw [hRm]; exact ⟨Nat.le_of_ble_eq_true rfl, Nat.le_of_ble_eq_true rfl⟩) (Nat.le_of_ble_eq_true rfl) (Nat.le_of_ble_eq_true rfl) (Nat.le_of_ble_eq_true rfl) (fun v9 ρ9 Z9 h9 _ => by obtain ⟨rfl, rfl, rfl⟩ := h9; exact ⟨rfl, FrW.rf, FrW.rf, hH⟩) (fun o2 v2 ρv2 Zv2 hq2 _ => ?_)
  obtain ⟨rfl, rfl, rfl, rfl, hq2⟩ := hq2
  show wp g X F_X11_chance 1 6 5 [(2, t), (0, p), (0, w)] [] v ρ Z
  refine r_iload_n (pc := 5) hX 3 rfl rfl ?_
  refine r_callST (as := [(0, w)]) (st := []) (pc := 6) hX 4 hth hQ rfl mo_X11_checkPart ml_X11_242 stt_X11_checkPart (c_X11_checkPart g ω v ρ Z hH (w) hst hz4 (by omega)) rfl (by rw [hRm]; exact ⟨Nat.le_of_ble_eq_true rfl, Nat.le_of_ble_eq_true rfl⟩) (by rw [hRm]; exact ⟨Nat.le_of_ble_eq_true rfl, Nat.le_of_ble_eq_true rfl⟩) (Nat.le_of_ble_eq_true rfl) (Nat.le_of_ble_eq_true rfl) (Nat.le_of_ble_eq_true rfl) (fun v9 ρ9 Z9 h9 _ => by obtain ⟨rfl, rfl, rfl⟩ := h9; exact ⟨rfl, FrW.rf, FrW.rf, hH⟩) (fun o6 v6 ρv6 Zv6 hq6 _ => ?_)
  obtain ⟨rfl, rfl, rfl, rfl, hq6⟩ := hq6
  show wp g X F_X11_chance 2 12 9 [(2, t), (0, p), (0, w)] [] v ρ Z
  refine t_getR (q := (ρ t 9)) (pc := 9) hX 5 rfl rfl rfl fl_X11_80 rfl (hH.kd ht (by decide)) (rfl) ?_
  have hw9_ : ω (ρ t 9) = 39 := hH.rf ht (by decide) rfl
  refine t_getR (q := (ρ t 4)) (pc := 13) hX 7 rfl rfl rfl fl_X11_47 rfl (hH.kd ht (by decide)) (rfl) ?_
  have hw13_ : ω (ρ t 4) = 22 := hH.rf ht (by decide) rfl
  refine r_callV (as := [(2, (ρ t 4))]) (st := []) (K := 0) (pc := 17) hX 9 rfl mo_X0_reckonFor ml_X11_287 im_X0_reckonFor se_X0_reckonFor (c_X0_reckonFor g ω v ρ Z hH (ρ t 9) hw9_ (ρ t 4) hw13_ ) rfl rfl rfl (hH.kd hw9_ (by decide)) (by rw [hRm]; exact ⟨by decide, by decide⟩) (by rw [hRm]; exact ⟨by decide, by decide⟩) (Nat.le_of_ble_eq_true rfl) (fun o17 v17 ρv17 Zv17 hq17 _ => ?_)
  obtain ⟨rfl, hfr17, hfrR17, hH17, rfl, hq17⟩ := hq17
  show wp g X F_X11_chance 2 12 20 [(2, t), (0, p), (0, w)] [] v17 ρv17 Z
  refine t_getR (q := (ρ t 9)) (pc := 20) hX 10 rfl rfl rfl fl_X11_80 rfl (hH17.kd ht (by decide)) ((hfrR17.at ht (by decide) 9).trans (rfl)) ?_
  refine r_getR (q := (ρ (ρ t 9) 3)) (pc := 24) hX 12 rfl fl_X11_290 rfl (hH17.kd hw9_ (by decide)) ((hfrR17.at hw9_ (by decide) 3).trans (rfl)) ?_
  have hw24_ : ω (ρ (ρ t 9) 3) = 40 := hH.rf hw9_ (by decide) rfl
  refine r_iconst (pc := 27) hX 13 rfl ?_
  refine r_aald (q := (ρ (ρ (ρ t 9) 3) 0)) (pc := 28) hX 14 20 rfl (hH17.kd hw24_ (by decide)) (by decide) (by decide) rfl rfl (by omega) (by rw [show Z.2.1 (ρ (ρ t 9) 3) = 4 from (hH17.ln hw24_ (by decide))]; omega) ((hfrR17.at hw24_ (by decide) 0).trans (rfl)) ?_
  have hw28_ : ω (ρ (ρ (ρ t 9) 3) 0) = 41 := hH.rf hw24_ (by decide) (rf40 ⟨by omega, by omega⟩)
  refine r_iload_n (pc := 29) hX 15 rfl rfl ?_
  refine e_lald (y := (v17 (ρ (ρ (ρ t 9) 3) 0) p)) (n := 3) (pc := 30) hX 16 rfl (hH17.kd hw28_ (by decide)) (hH17.ln hw28_ (by decide)) (by omega) (by omega) (rfl) ?_
  refine t_getR (q := (ρ t 9)) (pc := 31) hX 17 rfl rfl rfl fl_X11_80 rfl (hH17.kd ht (by decide)) ((hfrR17.at ht (by decide) 9).trans (rfl)) ?_
  refine e_getL (y := (v17 (ρ t 9) 2)) (pc := 35) hX 19 rfl fl_X11_294 rfl (hH17.kd hw9_ (by decide)) (rfl) ?_
  refine r_iload_n (pc := 38) hX 20 rfl rfl ?_
  refine r_callS (as := [(1, (v17 (ρ (ρ (ρ t 9) 3) 0) p)), (1, (v17 (ρ t 9) 2)), (0, w)]) (st := []) (pc := 39) hX 21 rfl mo_X11_part ml_X11_256 stt_X11_part (c_X11_part g ω v17 ρv17 Z hH17 ((v17 (ρ (ρ (ρ t 9) 3) 0) p)) ((v17 (ρ t 9) 2)) (w) (by omega)) rfl (by rw [hRm]; exact ⟨by decide, by decide⟩) (by rw [hRm]; exact ⟨by decide, by decide⟩) (Nat.le_of_ble_eq_true rfl) (fun o39 v39 ρv39 Zv39 hq39 _ => ?_)
  obtain ⟨rfl, rfl, rfl, r39, rfl, hq39⟩ := hq39
  show wp g X F_X11_chance 2 12 42 [(2, t), (0, p), (0, w)] [(1, r39)] v17 ρv17 Z
  exact wpT hQ (r_lret (X := rq g X _ 2 12) (pc := 42) hX 22 rfl rfl rfl (Nat.le_of_ble_eq_true rfl) (Nat.le_of_ble_eq_true rfl) ⟨rfl, (FrW.rf).tr hfr17 (by decide), (FrW.rf).tr hfrR17 (by decide), hH17, r39, rfl, trivial⟩)

set_option maxHeartbeats 4000000 in
set_option maxRecDepth 100000 in
theorem c_X11_right (g : Gp) (ω : Rw) (v ρ : Mv) (Z : Mz) (hH : HT ω v ρ Z) (t : Int) (ht : ω t = 1) (p : Int) (w : Int) (hst : (gL g).stackTraces = false) (hz4 : 4 ≤ Z.2.2) (hpr : inR p) (hwr : inR w) : OkT g 7 4 24 F_X11_right [(2, t), (0, p), (0, w)] v ρ Z (fun o9 v' ρ' Z' => Z = Z' ∧ FrW ω [29, 30, 31, 32, 33, 34, 35, 36, 37, 38, 45, 46, 47, 48, 49, 50, 51, 52, 53, 55, 56, 57, 59] v v' ∧ FrW ω [29, 45] ρ ρ' ∧ HT ω v' ρ' Z ∧ ∃ r : Int, o9 = some (1, r) ∧ True) (fun v' ρ' Z' => Z = Z' ∧ FrW ω [29, 30, 31, 32, 33, 34, 35, 36, 37, 38, 45, 46, 47, 48, 49, 50, 51, 52, 53, 55, 56, 57, 59] v v' ∧ FrW ω [29, 45] ρ ρ' ∧ HT ω v' ρ' Z) := by
  refine OkT.of mo_X11_right (Nat.le_of_ble_eq_true rfl) ?_
  intro X hX hRm hxn hQ hth
  show wp g X F_X11_right 0 0 0 [(2, t), (0, p), (0, w)] [] v ρ Z
  have hwT : ω (ρ t 4) = 22 := hH.rf ht (by decide) rfl
  have hwR : ω (ρ (ρ t 4) 0) = 5 := hH.rf hwT (by decide) rfl
  have hgR8 : 0 ≤ v (ρ (ρ t 4) 0) 8 ∧ v (ρ (ρ t 4) 0) 8 ≤ 4 := hH.rg hwR (by decide) rfl
  have hgR9 : 0 ≤ v (ρ (ρ t 4) 0) 9 ∧ v (ρ (ρ t 4) 0) 9 ≤ 3 := hH.rg hwR (by decide) rfl
  have hgR10 : 0 ≤ v (ρ (ρ t 4) 0) 10 ∧ v (ρ (ρ t 4) 0) 10 ≤ 3 := hH.rg hwR (by decide) rfl
  have hwX : ω (ρ t 0) = 2 := hH.rf ht (by decide) rfl
  have hgL : 0 ≤ v (ρ t 0) 1 ∧ v (ρ t 0) 1 ≤ 940 := hH.rg hwX (by decide) rfl
  refine r_aload_n (pc := 0) hX 0 rfl rfl ?_
  refine r_iload_n (pc := 1) hX 1 rfl rfl ?_
  refine r_callVT (as := [(0, p)]) (st := []) (K := 11) (pc := 2) hX 2 hth hQ rfl mo_X11_checkPlayer ml_X11_179 im_X11_checkPlayer se_X11_checkPlayer (c_X11_checkPlayer g ω v ρ Z hH t ht (p) hst hz4 (by omega)) rfl rfl rfl (hH.kd ht (by decide)) (by rw [hRm]; exact ⟨Nat.le_of_ble_eq_true rfl, Nat.le_of_ble_eq_true rfl⟩) (by rw [hRm]; exact ⟨Nat.le_of_ble_eq_true rfl, Nat.le_of_ble_eq_true rfl⟩) (Nat.le_of_ble_eq_true rfl) (Nat.le_of_ble_eq_true rfl) (Nat.le_of_ble_eq_true rfl) (fun v9 ρ9 Z9 h9 _ => by obtain ⟨rfl, rfl, rfl⟩ := h9; exact ⟨rfl, FrW.rf, FrW.rf, hH⟩) (fun o2 v2 ρv2 Zv2 hq2 _ => ?_)
  obtain ⟨rfl, rfl, rfl, rfl, hq2⟩ := hq2
  show wp g X F_X11_right 1 6 5 [(2, t), (0, p), (0, w)] [] v ρ Z
  refine r_iload_n (pc := 5) hX 3 rfl rfl ?_
  refine r_callST (as := [(0, w)]) (st := []) (pc := 6) hX 4 hth hQ rfl mo_X11_checkPart ml_X11_242 stt_X11_checkPart (c_X11_checkPart g ω v ρ Z hH (w) hst hz4 (by omega)) rfl (by rw [hRm]; exact ⟨Nat.le_of_ble_eq_true rfl, Nat.le_of_ble_eq_true rfl⟩) (by rw [hRm]; exact ⟨Nat.le_of_ble_eq_true rfl, Nat.le_of_ble_eq_true rfl⟩) (Nat.le_of_ble_eq_true rfl) (Nat.le_of_ble_eq_true rfl) (Nat.le_of_ble_eq_true rfl) (fun v9 ρ9 Z9 h9 _ => by obtain ⟨rfl, rfl, rfl⟩ := h9; exact ⟨rfl, FrW.rf, FrW.rf, hH⟩) (fun o6 v6 ρv6 Zv6 hq6 _ => ?_)
  obtain ⟨rfl, rfl, rfl, rfl, hq6⟩ := hq6
  show wp g X F_X11_right 2 12 9 [(2, t), (0, p), (0, w)] [] v ρ Z
  refine t_getR (q := (ρ t 4)) (pc := 9) hX 5 rfl rfl rfl fl_X11_47 rfl (hH.kd ht (by decide)) (rfl) ?_
  have hw9_ : ω (ρ t 4) = 22 := hH.rf ht (by decide) rfl
  refine r_iload_n (pc := 13) hX 7 rfl rfl ?_
  refine r_callV (as := [(0, p)]) (st := []) (K := 9) (pc := 14) hX 8 rfl mo_X9_mayTurn ml_X11_324 im_X9_mayTurn se_X9_mayTurn (c_X9_mayTurn g ω v ρ Z hH (ρ t 4) hw9_ (p) (by omega)) rfl rfl rfl (hH.kd hw9_ (by decide)) (by rw [hRm]; exact ⟨by decide, by decide⟩) (by rw [hRm]; exact ⟨by decide, by decide⟩) (Nat.le_of_ble_eq_true rfl) (fun o14 v14 ρv14 Zv14 hq14 _ => ?_)
  obtain ⟨rfl, rfl, rfl, r14, rfl, hq14⟩ := hq14
  have hw14_ : ω (ρ (ρ t 4) 0) = 5 := hH.rf hw9_ (by decide) rfl
  have hwf1_ : ω (ρ (ρ t 4) 6) = 26 := hH.rf hw9_ (by decide) rfl
  show wp g X F_X11_right 2 12 17 [(2, t), (0, p), (0, w)] [(0, r14)] v ρ Z
  first | refine r_if_ne (pc := 17) hX 9 (tgt := 27) rfl (by decide) (⟨by omega, by omega⟩) (fun h17 => ?_) (fun h17 => ?_) | refine r_if_ne_any (pc := 17) hX 9 (tgt := 27) rfl (by decide) ?_ ?_
  · refine t_getR (q := (ρ t 10)) (pc := 27) hX 15 rfl rfl rfl fl_X11_87 rfl (hH.kd ht (by decide)) (rfl) ?_
    have hw27_ : ω (ρ t 10) = 45 := hH.rf ht (by decide) rfl
    refine t_getR (q := (ρ t 4)) (pc := 31) hX 17 rfl rfl rfl fl_X11_47 rfl (hH.kd ht (by decide)) (rfl) ?_
    refine r_iload_n (pc := 35) hX 19 rfl rfl ?_
    refine r_callV (as := [(2, (ρ t 4)), (0, p)]) (st := []) (K := 10) (pc := 36) hX 20 rfl mo_X10_reckonFor ml_X11_331 im_X10_reckonFor se_X10_reckonFor (c_X10_reckonFor g ω v ρ Z hH (ρ t 10) hw27_ (ρ t 4) hw9_ (p) (by omega) (by omega) (hq14.2 (by have z := hq14.1; omega))) rfl rfl rfl (hH.kd hw27_ (by decide)) (by rw [hRm]; exact ⟨by decide, by decide⟩) (by rw [hRm]; exact ⟨by decide, by decide⟩) (Nat.le_of_ble_eq_true rfl) (fun o36 v36 ρv36 Zv36 hq36 _ => ?_)
    obtain ⟨rfl, hfr36, hfrR36, hH36, rfl, hq36⟩ := hq36
    show wp g X F_X11_right 2 12 39 [(2, t), (0, p), (0, w)] [] v36 ρv36 Z
    refine t_getR (q := (ρ t 10)) (pc := 39) hX 21 rfl rfl rfl fl_X11_87 rfl (hH36.kd ht (by decide)) ((hfrR36.at ht (by decide) 10).trans (rfl)) ?_
    refine e_getL (y := (v36 (ρ t 10) 4)) (pc := 43) hX 23 rfl fl_X11_334 rfl (hH36.kd hw27_ (by decide)) (rfl) ?_
    refine t_getR (q := (ρ t 10)) (pc := 46) hX 24 rfl rfl rfl fl_X11_87 rfl (hH36.kd ht (by decide)) ((hfrR36.at ht (by decide) 10).trans (rfl)) ?_
    refine e_getL (y := (v36 (ρ t 10) 3)) (pc := 50) hX 26 rfl fl_X11_337 rfl (hH36.kd hw27_ (by decide)) (rfl) ?_
    refine r_iload_n (pc := 53) hX 27 rfl rfl ?_
    refine r_callS (as := [(1, (v36 (ρ t 10) 4)), (1, (v36 (ρ t 10) 3)), (0, w)]) (st := []) (pc := 54) hX 28 rfl mo_X11_part ml_X11_256 stt_X11_part (c_X11_part g ω v36 ρv36 Z hH36 ((v36 (ρ t 10) 4)) ((v36 (ρ t 10) 3)) (w) (by omega)) rfl (by rw [hRm]; exact ⟨by decide, by decide⟩) (by rw [hRm]; exact ⟨by decide, by decide⟩) (Nat.le_of_ble_eq_true rfl) (fun o54 v54 ρv54 Zv54 hq54 _ => ?_)
    obtain ⟨rfl, rfl, rfl, r54, rfl, hq54⟩ := hq54
    show wp g X F_X11_right 2 12 57 [(2, t), (0, p), (0, w)] [(1, r54)] v36 ρv36 Z
    exact wpT hQ (r_lret (X := rq g X _ 4 24) (pc := 57) hX 29 rfl rfl rfl (Nat.le_of_ble_eq_true rfl) (Nat.le_of_ble_eq_true rfl) ⟨rfl, (FrW.rf).tr hfr36 (by decide), (FrW.rf).tr hfrR36 (by decide), hH36, r54, rfl, trivial⟩)
  · refine r_aload_n (pc := 20) hX 10 rfl rfl ?_
    refine r_iload_n (pc := 21) hX 11 rfl rfl ?_
    refine r_iload_n (pc := 22) hX 12 rfl rfl ?_
    refine r_callVT (as := [(0, p), (0, w)]) (st := []) (K := 11) (pc := 23) hX 13 hth hQ rfl mo_X11_likely ml_X11_327 im_X11_likely se_X11_likely (c_X11_likely g ω v ρ Z hH t ht (p) (w) hst hz4 (by omega) (by omega)) rfl rfl rfl (hH.kd ht (by decide)) (by rw [hRm]; exact ⟨Nat.le_of_ble_eq_true rfl, Nat.le_of_ble_eq_true rfl⟩) (by rw [hRm]; exact ⟨Nat.le_of_ble_eq_true rfl, Nat.le_of_ble_eq_true rfl⟩) (Nat.le_of_ble_eq_true rfl) (Nat.le_of_ble_eq_true rfl) (Nat.le_of_ble_eq_true rfl) (fun v9 ρ9 Z9 h9 _ => by obtain ⟨rfl, hf9, hr9, hH9⟩ := h9; exact ⟨rfl, (FrW.rf).tr hf9 (by decide), (FrW.rf).tr hr9 (by decide), hH9⟩) (fun o23 v23 ρv23 Zv23 hq23 _ => ?_)
    obtain ⟨rfl, hfr23, hfrR23, hH23, r23, rfl, hq23⟩ := hq23
    show wp g X F_X11_right 4 24 26 [(2, t), (0, p), (0, w)] [(1, r23)] v23 ρv23 Z
    exact wpT hQ (r_lret (X := rq g X _ 4 24) (pc := 26) hX 14 rfl rfl rfl (Nat.le_of_ble_eq_true rfl) (Nat.le_of_ble_eq_true rfl) ⟨rfl, (FrW.rf).tr hfr23 (by decide), (FrW.rf).tr hfrR23 (by decide), hH23, r23, rfl, trivial⟩)

set_option maxHeartbeats 4000000 in
set_option maxRecDepth 100000 in
theorem c_X11_also (g : Gp) (ω : Rw) (v ρ : Mv) (Z : Mz) (hH : HT ω v ρ Z) (t : Int) (ht : ω t = 1) (p : Int) (c : Int) (w : Int) (hst : (gL g).stackTraces = false) (hz4 : 4 ≤ Z.2.2) (hpr : inR p) (hcr : inR c) (hwr : inR w) : OkT g 6 3 18 F_X11_also [(2, t), (0, p), (0, c), (0, w)] v ρ Z (fun o9 v' ρ' Z' => Z = Z' ∧ FrW ω [29, 30, 31, 32, 33, 34, 35, 36, 37, 38] v v' ∧ FrW ω [29] ρ ρ' ∧ HT ω v' ρ' Z ∧ ∃ r : Int, o9 = some (1, r) ∧ True) (fun v' ρ' Z' => Z = Z' ∧ FrW ω [29, 30, 31, 32, 33, 34, 35, 36, 37, 38] v v' ∧ FrW ω [29] ρ ρ' ∧ HT ω v' ρ' Z) := by
  refine OkT.of mo_X11_also (Nat.le_of_ble_eq_true rfl) ?_
  intro X hX hRm hxn hQ hth
  show wp g X F_X11_also 0 0 0 [(2, t), (0, p), (0, c), (0, w)] [] v ρ Z
  have hwT : ω (ρ t 4) = 22 := hH.rf ht (by decide) rfl
  have hwR : ω (ρ (ρ t 4) 0) = 5 := hH.rf hwT (by decide) rfl
  have hgR8 : 0 ≤ v (ρ (ρ t 4) 0) 8 ∧ v (ρ (ρ t 4) 0) 8 ≤ 4 := hH.rg hwR (by decide) rfl
  have hgR9 : 0 ≤ v (ρ (ρ t 4) 0) 9 ∧ v (ρ (ρ t 4) 0) 9 ≤ 3 := hH.rg hwR (by decide) rfl
  have hgR10 : 0 ≤ v (ρ (ρ t 4) 0) 10 ∧ v (ρ (ρ t 4) 0) 10 ≤ 3 := hH.rg hwR (by decide) rfl
  have hwX : ω (ρ t 0) = 2 := hH.rf ht (by decide) rfl
  have hgL : 0 ≤ v (ρ t 0) 1 ∧ v (ρ t 0) 1 ≤ 940 := hH.rg hwX (by decide) rfl
  refine r_aload_n (pc := 0) hX 0 rfl rfl ?_
  refine r_iload_n (pc := 1) hX 1 rfl rfl ?_
  refine r_callVT (as := [(0, p)]) (st := []) (K := 11) (pc := 2) hX 2 hth hQ rfl mo_X11_checkPlayer ml_X11_179 im_X11_checkPlayer se_X11_checkPlayer (c_X11_checkPlayer g ω v ρ Z hH t ht (p) hst hz4 (by omega)) rfl rfl rfl (hH.kd ht (by decide)) (by rw [hRm]; exact ⟨Nat.le_of_ble_eq_true rfl, Nat.le_of_ble_eq_true rfl⟩) (by rw [hRm]; exact ⟨Nat.le_of_ble_eq_true rfl, Nat.le_of_ble_eq_true rfl⟩) (Nat.le_of_ble_eq_true rfl) (Nat.le_of_ble_eq_true rfl) (Nat.le_of_ble_eq_true rfl) (fun v9 ρ9 Z9 h9 _ => by obtain ⟨rfl, rfl, rfl⟩ := h9; exact ⟨rfl, FrW.rf, FrW.rf, hH⟩) (fun o2 v2 ρv2 Zv2 hq2 _ => ?_)
  obtain ⟨rfl, rfl, rfl, rfl, hq2⟩ := hq2
  show wp g X F_X11_also 1 6 5 [(2, t), (0, p), (0, c), (0, w)] [] v ρ Z
  refine r_iload_n (pc := 5) hX 3 rfl rfl ?_
  refine r_callST (as := [(0, w)]) (st := []) (pc := 6) hX 4 hth hQ rfl mo_X11_checkPart ml_X11_242 stt_X11_checkPart (c_X11_checkPart g ω v ρ Z hH (w) hst hz4 (by omega)) rfl (by rw [hRm]; exact ⟨Nat.le_of_ble_eq_true rfl, Nat.le_of_ble_eq_true rfl⟩) (by rw [hRm]; exact ⟨Nat.le_of_ble_eq_true rfl, Nat.le_of_ble_eq_true rfl⟩) (Nat.le_of_ble_eq_true rfl) (Nat.le_of_ble_eq_true rfl) (Nat.le_of_ble_eq_true rfl) (fun v9 ρ9 Z9 h9 _ => by obtain ⟨rfl, rfl, rfl⟩ := h9; exact ⟨rfl, FrW.rf, FrW.rf, hH⟩) (fun o6 v6 ρv6 Zv6 hq6 _ => ?_)
  obtain ⟨rfl, rfl, rfl, rfl, hq6⟩ := hq6
  show wp g X F_X11_also 2 12 9 [(2, t), (0, p), (0, c), (0, w)] [] v ρ Z
  refine t_getR (q := (ρ t 4)) (pc := 9) hX 5 rfl rfl rfl fl_X11_47 rfl (hH.kd ht (by decide)) (rfl) ?_
  have hw9_ : ω (ρ t 4) = 22 := hH.rf ht (by decide) rfl
  refine r_getR (q := (ρ (ρ t 4) 0)) (pc := 13) hX 7 rfl fl_X11_51 rfl (hH.kd hw9_ (by decide)) (rfl) ?_
  have hw13_ : ω (ρ (ρ t 4) 0) = 5 := hH.rf hw9_ (by decide) rfl
  refine r_iload_n (pc := 16) hX 8 rfl rfl ?_
  refine r_callV (as := [(0, c)]) (st := []) (K := 4) (pc := 17) hX 9 rfl mo_X4_hasColour ml_X11_150 im_X4_hasColour se_X4_hasColour (c_X4_hasColour g ω v ρ Z hH (ρ (ρ t 4) 0) hw13_ (c) (by omega)) rfl rfl rfl (hH.kd hw13_ (by decide)) (by rw [hRm]; exact ⟨by decide, by decide⟩) (by rw [hRm]; exact ⟨by decide, by decide⟩) (Nat.le_of_ble_eq_true rfl) (fun o17 v17 ρv17 Zv17 hq17 _ => ?_)
  obtain ⟨rfl, rfl, rfl, r17, rfl, hq17⟩ := hq17
  show wp g X F_X11_also 2 12 20 [(2, t), (0, p), (0, c), (0, w)] [(0, r17)] v ρ Z
  first | refine r_if_eq (pc := 20) hX 10 (tgt := 48) rfl (by decide) (⟨by omega, by omega⟩) (fun h20 => ?_) (fun h20 => ?_) | refine r_if_eq_any (pc := 20) hX 10 (tgt := 48) rfl (by decide) ?_ ?_
  · exact r_thr (pc := 48) hX 24 hst hth hQ rfl rfl rfl rfl rfl hz4 (by rw [hRm]; exact Nat.le_of_ble_eq_true rfl) (by rw [hRm]; exact Nat.le_of_ble_eq_true rfl) (by rw [hRm]; exact Nat.le_of_ble_eq_true rfl) (by rw [hRm]; exact Nat.le_of_ble_eq_true rfl) (Nat.le_of_ble_eq_true rfl) (Nat.le_of_ble_eq_true rfl) ⟨rfl, FrW.rf, FrW.rf, hH⟩
  · refine t_getR (q := (ρ t 4)) (pc := 23) hX 11 rfl rfl rfl fl_X11_47 rfl (hH.kd ht (by decide)) (rfl) ?_
    refine r_iload_n (pc := 27) hX 13 rfl rfl ?_
    refine r_callV (as := [(0, c)]) (st := []) (K := 9) (pc := 28) hX 14 rfl mo_X9_holderOf ml_X11_159 im_X9_holderOf se_X9_holderOf (c_X9_holderOf g ω v ρ Z hH (ρ t 4) hw9_ (c) (by omega)) rfl rfl rfl (hH.kd hw9_ (by decide)) (by rw [hRm]; exact ⟨by decide, by decide⟩) (by rw [hRm]; exact ⟨by decide, by decide⟩) (Nat.le_of_ble_eq_true rfl) (fun o28 v28 ρv28 Zv28 hq28 _ => ?_)
    obtain ⟨rfl, rfl, rfl, r28, rfl, hq28⟩ := hq28
    have hw28_ : ω (ρ (ρ t 4) 4) = 24 := hH.rf hw9_ (by decide) rfl
    show wp g X F_X11_also 2 12 31 [(2, t), (0, p), (0, c), (0, w)] [(0, r28)] v ρ Z
    refine r_iconst (pc := 31) hX 15 rfl ?_
    first | refine r_icmp_ne (pc := 32) hX 16 (tgt := 48) rfl (by decide) (⟨by omega, by omega⟩) (⟨by omega, by omega⟩) (fun h32 => ?_) (fun h32 => ?_) | refine r_icmp_ne_any (pc := 32) hX 16 (tgt := 48) rfl (by decide) ?_ ?_
    · exact r_thr (pc := 48) hX 24 hst hth hQ rfl rfl rfl rfl rfl hz4 (by rw [hRm]; exact Nat.le_of_ble_eq_true rfl) (by rw [hRm]; exact Nat.le_of_ble_eq_true rfl) (by rw [hRm]; exact Nat.le_of_ble_eq_true rfl) (by rw [hRm]; exact Nat.le_of_ble_eq_true rfl) (Nat.le_of_ble_eq_true rfl) (Nat.le_of_ble_eq_true rfl) ⟨rfl, FrW.rf, FrW.rf, hH⟩
    · refine t_getR (q := (ρ t 4)) (pc := 35) hX 17 rfl rfl rfl fl_X11_47 rfl (hH.kd ht (by decide)) (rfl) ?_
      refine r_getR (q := (ρ (ρ t 4) 4)) (pc := 39) hX 19 rfl fl_X11_188 rfl (hH.kd hw9_ (by decide)) (rfl) ?_
      refine r_iload_n (pc := 42) hX 20 rfl rfl ?_
      refine e_iald (y := (v (ρ (ρ t 4) 4) p)) (n := 3) (pc := 43) hX 21 rfl (hH.kd hw28_ (by decide)) (hH.ln hw28_ (by decide)) (by omega) (by omega) (rfl) ?_
      have hb43 : (-1) ≤ (v (ρ (ρ t 4) 4) p) ∧ (v (ρ (ρ t 4) 4) p) ≤ 3 := hH.rg hw28_ (by decide) rfl
      refine r_iconst (pc := 44) hX 22 rfl ?_
      first | refine r_icmp_ne (pc := 45) hX 23 (tgt := 56) rfl (by decide) (⟨by omega, by omega⟩) (⟨by omega, by omega⟩) (fun h45 => ?_) (fun h45 => ?_) | refine r_icmp_ne_any (pc := 45) hX 23 (tgt := 56) rfl (by decide) ?_ ?_
      · refine t_getR (q := (ρ t 7)) (pc := 56) hX 28 rfl rfl rfl fl_X11_68 rfl (hH.kd ht (by decide)) (rfl) ?_
        have hw56_ : ω (ρ t 7) = 29 := hH.rf ht (by decide) rfl
        refine t_getR (q := (ρ t 4)) (pc := 60) hX 30 rfl rfl rfl fl_X11_47 rfl (hH.kd ht (by decide)) (rfl) ?_
        refine r_callV (as := [(2, (ρ t 4))]) (st := []) (K := 2) (pc := 64) hX 32 rfl mo_X2_reckonFor ml_X11_245 im_X2_reckonFor se_X2_reckonFor (c_X2_reckonFor g ω v ρ Z hH (ρ t 7) hw56_ (ρ t 4) hw9_ ) rfl rfl rfl (hH.kd hw56_ (by decide)) (by rw [hRm]; exact ⟨by decide, by decide⟩) (by rw [hRm]; exact ⟨by decide, by decide⟩) (Nat.le_of_ble_eq_true rfl) (fun o64 v64 ρv64 Zv64 hq64 _ => ?_)
        obtain ⟨rfl, hfr64, hfrR64, hH64, rfl, hq64⟩ := hq64
        show wp g X F_X11_also 2 12 67 [(2, t), (0, p), (0, c), (0, w)] [] v64 ρv64 Z
        refine t_getR (q := (ρ t 8)) (pc := 67) hX 33 rfl rfl rfl fl_X11_72 rfl (hH64.kd ht (by decide)) ((hfrR64.at ht (by decide) 8).trans (rfl)) ?_
        have hw67_ : ω (ρ t 8) = 29 := hH.rf ht (by decide) rfl
        refine t_getR (q := (ρ t 4)) (pc := 71) hX 35 rfl rfl rfl fl_X11_47 rfl (hH64.kd ht (by decide)) ((hfrR64.at ht (by decide) 4).trans (rfl)) ?_
        refine r_callV (as := [(2, (ρ t 4))]) (st := []) (K := 2) (pc := 75) hX 37 rfl mo_X2_setTo ml_X11_298 im_X2_setTo se_X2_setTo (c_X2_setTo g ω v64 ρv64 Z hH64 (ρ t 8) hw67_ (ρ t 4) hw9_ ) rfl rfl rfl (hH64.kd hw67_ (by decide)) (by rw [hRm]; exact ⟨by decide, by decide⟩) (by rw [hRm]; exact ⟨by decide, by decide⟩) (Nat.le_of_ble_eq_true rfl) (fun o75 v75 ρv75 Zv75 hq75 _ => ?_)
        obtain ⟨rfl, hfr75, hfrR75, hH75, rfl, hq75⟩ := hq75
        show wp g X F_X11_also 2 12 78 [(2, t), (0, p), (0, c), (0, w)] [] v75 ρv75 Z
        refine t_getR (q := (ρ t 8)) (pc := 78) hX 38 rfl rfl rfl fl_X11_72 rfl (hH75.kd ht (by decide)) ((hfrR75.at ht (by decide) 8).trans ((hfrR64.at ht (by decide) 8).trans (rfl))) ?_
        refine r_getR (q := (ρv75 (ρ t 8) 2)) (pc := 82) hX 40 rfl fl_X11_304 rfl (hH75.kd hw67_ (by decide)) (rfl) ?_
        have hw82_ : ω (ρv75 (ρ t 8) 2) = 30 := hH75.rf hw67_ (by decide) rfl
        refine r_iload_n (pc := 85) hX 41 rfl rfl ?_
        refine r_iload_n (pc := 86) hX 42 rfl rfl ?_
        refine e_iast (n := 5) (pc := 87) hX 43 rfl (hH75.kd hw82_ (by decide)) (hH75.ln hw82_ (by decide)) (hH75.g4 hw82_ (by decide)) (by omega) (by omega) ?_
        have hH_87 : HT ω (up v75 (ρv75 (ρ t 8) 2) c p) ρv75 Z := hH75.upR hw82_ (by decide) rfl (by omega) (by omega)
        refine t_getR (q := (ρ t 8)) (pc := 88) hX 44 rfl rfl rfl fl_X11_72 rfl (hH_87.kd ht (by decide)) ((hfrR75.at ht (by decide) 8).trans ((hfrR64.at ht (by decide) 8).trans (rfl))) ?_
        refine r_callV (as := []) (st := []) (K := 2) (pc := 92) hX 46 rfl mo_X2_reckon ml_X11_307 im_X2_reckon se_X2_reckon (c_X2_reckon g ω (up v75 (ρv75 (ρ t 8) 2) c p) ρv75 Z hH_87 (ρ t 8) hw67_ ) rfl rfl rfl (hH_87.kd hw67_ (by decide)) (by rw [hRm]; exact ⟨by decide, by decide⟩) (by rw [hRm]; exact ⟨by decide, by decide⟩) (Nat.le_of_ble_eq_true rfl) (fun o92 v92 ρv92 Zv92 hq92 _ => ?_)
        obtain ⟨rfl, rfl, hfr92, hH92, rfl, hq92⟩ := hq92
        show wp g X F_X11_also 2 12 95 [(2, t), (0, p), (0, c), (0, w)] [] v92 ρv75 Z
        refine t_getR (q := (ρ t 8)) (pc := 95) hX 47 rfl rfl rfl fl_X11_72 rfl (hH92.kd ht (by decide)) ((hfrR75.at ht (by decide) 8).trans ((hfrR64.at ht (by decide) 8).trans (rfl))) ?_
        refine r_getR (q := (ρv75 (ρ t 8) 9)) (pc := 99) hX 49 rfl fl_X11_248 rfl (hH92.kd hw67_ (by decide)) (rfl) ?_
        have hw99_ : ω (ρv75 (ρ t 8) 9) = 33 := hH75.rf hw67_ (by decide) rfl
        refine r_iload_n (pc := 102) hX 50 rfl rfl ?_
        refine e_lald (y := (v92 (ρv75 (ρ t 8) 9) p)) (n := 3) (pc := 103) hX 51 rfl (hH92.kd hw99_ (by decide)) (hH92.ln hw99_ (by decide)) (by omega) (by omega) (rfl) ?_
        refine t_getR (q := (ρ t 7)) (pc := 104) hX 52 rfl rfl rfl fl_X11_68 rfl (hH92.kd ht (by decide)) ((hfrR75.at ht (by decide) 7).trans ((hfrR64.at ht (by decide) 7).trans (rfl))) ?_
        refine r_getR (q := (ρv75 (ρ t 7) 9)) (pc := 108) hX 54 rfl fl_X11_248 rfl (hH92.kd hw56_ (by decide)) (rfl) ?_
        have hw108_ : ω (ρv75 (ρ t 7) 9) = 33 := hH75.rf hw56_ (by decide) rfl
        refine r_iload_n (pc := 111) hX 55 rfl rfl ?_
        refine e_lald (y := (v92 (ρv75 (ρ t 7) 9) p)) (n := 3) (pc := 112) hX 56 rfl (hH92.kd hw108_ (by decide)) (hH92.ln hw108_ (by decide)) (by omega) (by omega) (rfl) ?_
        refine r_lsub (pc := 113) hX 57 rfl ?_
        refine r_lany _ (fun z113 hz113 => ?_)
        refine t_getR (q := (ρ t 8)) (pc := 114) hX 58 rfl rfl rfl fl_X11_72 rfl (hH92.kd ht (by decide)) ((hfrR75.at ht (by decide) 8).trans ((hfrR64.at ht (by decide) 8).trans (rfl))) ?_
        refine e_getL (y := (v92 (ρ t 8) 7)) (pc := 118) hX 60 rfl fl_X11_252 rfl (hH92.kd hw67_ (by decide)) (rfl) ?_
        refine r_iload_n (pc := 121) hX 61 rfl rfl ?_
        refine r_callS (as := [(1, z113), (1, (v92 (ρ t 8) 7)), (0, w)]) (st := []) (pc := 122) hX 62 rfl mo_X11_part ml_X11_256 stt_X11_part (c_X11_part g ω v92 ρv75 Z hH92 (z113) ((v92 (ρ t 8) 7)) (w) (by omega)) rfl (by rw [hRm]; exact ⟨by decide, by decide⟩) (by rw [hRm]; exact ⟨by decide, by decide⟩) (Nat.le_of_ble_eq_true rfl) (fun o122 v122 ρv122 Zv122 hq122 _ => ?_)
        obtain ⟨rfl, rfl, rfl, r122, rfl, hq122⟩ := hq122
        show wp g X F_X11_also 2 12 125 [(2, t), (0, p), (0, c), (0, w)] [(1, r122)] v92 ρv75 Z
        exact wpT hQ (r_lret (X := rq g X _ 3 18) (pc := 125) hX 63 rfl rfl rfl (Nat.le_of_ble_eq_true rfl) (Nat.le_of_ble_eq_true rfl) ⟨rfl, ((((FrW.rf).tr hfr64 (by decide)).tr hfr75 (by decide)).up (r := (ρv75 (ρ t 8) 2)) hw82_ (by decide)).tr hfr92 (by decide), ((FrW.rf).tr hfrR64 (by decide)).tr hfrR75 (by decide), hH92, r122, rfl, trivial⟩)
      · exact r_thr (pc := 48) hX 24 hst hth hQ rfl rfl rfl rfl rfl hz4 (by rw [hRm]; exact Nat.le_of_ble_eq_true rfl) (by rw [hRm]; exact Nat.le_of_ble_eq_true rfl) (by rw [hRm]; exact Nat.le_of_ble_eq_true rfl) (by rw [hRm]; exact Nat.le_of_ble_eq_true rfl) (Nat.le_of_ble_eq_true rfl) (Nat.le_of_ble_eq_true rfl) ⟨rfl, FrW.rf, FrW.rf, hH⟩

set_option maxHeartbeats 4000000 in
set_option maxRecDepth 100000 in
theorem c_X11_luck (g : Gp) (ω : Rw) (v ρ : Mv) (Z : Mz) (hH : HT ω v ρ Z) (t : Int) (ht : ω t = 1) (w : Int) (hst : (gL g).stackTraces = false) (hz4 : 4 ≤ Z.2.2) (hwr : inR w) : OkT g 4 1 6 F_X11_luck [(2, t), (0, w)] v ρ Z (fun o9 v' ρ' Z' => ρ = ρ' ∧ Z = Z' ∧ v = v' ∧ ∃ r : Int, o9 = some (1, r) ∧ True) (fun v' ρ' Z' => ρ = ρ' ∧ Z = Z' ∧ v = v') := by
  refine OkT.of mo_X11_luck (Nat.le_of_ble_eq_true rfl) ?_
  intro X hX hRm hxn hQ hth
  show wp g X F_X11_luck 0 0 0 [(2, t), (0, w)] [] v ρ Z
  have hwT : ω (ρ t 4) = 22 := hH.rf ht (by decide) rfl
  have hwR : ω (ρ (ρ t 4) 0) = 5 := hH.rf hwT (by decide) rfl
  have hgR8 : 0 ≤ v (ρ (ρ t 4) 0) 8 ∧ v (ρ (ρ t 4) 0) 8 ≤ 4 := hH.rg hwR (by decide) rfl
  have hgR9 : 0 ≤ v (ρ (ρ t 4) 0) 9 ∧ v (ρ (ρ t 4) 0) 9 ≤ 3 := hH.rg hwR (by decide) rfl
  have hgR10 : 0 ≤ v (ρ (ρ t 4) 0) 10 ∧ v (ρ (ρ t 4) 0) 10 ≤ 3 := hH.rg hwR (by decide) rfl
  have hwX : ω (ρ t 0) = 2 := hH.rf ht (by decide) rfl
  have hgL : 0 ≤ v (ρ t 0) 1 ∧ v (ρ t 0) 1 ≤ 940 := hH.rg hwX (by decide) rfl
  refine r_iload_n (pc := 0) hX 0 rfl rfl ?_
  refine r_callST (as := [(0, w)]) (st := []) (pc := 1) hX 1 hth hQ rfl mo_X11_checkPart ml_X11_242 stt_X11_checkPart (c_X11_checkPart g ω v ρ Z hH (w) hst hz4 (by omega)) rfl (by rw [hRm]; exact ⟨Nat.le_of_ble_eq_true rfl, Nat.le_of_ble_eq_true rfl⟩) (by rw [hRm]; exact ⟨Nat.le_of_ble_eq_true rfl, Nat.le_of_ble_eq_true rfl⟩) (Nat.le_of_ble_eq_true rfl) (Nat.le_of_ble_eq_true rfl) (Nat.le_of_ble_eq_true rfl) (fun v9 ρ9 Z9 h9 _ => by obtain ⟨rfl, rfl, rfl⟩ := h9; exact ⟨rfl, rfl, rfl⟩) (fun o1 v1 ρv1 Zv1 hq1 _ => ?_)
  obtain ⟨rfl, rfl, rfl, rfl, hq1⟩ := hq1
  show wp g X F_X11_luck 1 6 4 [(2, t), (0, w)] [] v ρ Z
  refine r_iload_n (pc := 4) hX 2 rfl rfl ?_
  have L41 : ∀ (z9 : Int) , wp g X F_X11_luck 1 6 41 [(2, t), (0, w)] [(1, z9)] v ρ Z := by
    intro z9
    exact wpT hQ (r_lret (X := rq g X _ 1 6) (pc := 41) hX 19 rfl rfl rfl (Nat.le_of_ble_eq_true rfl) (Nat.le_of_ble_eq_true rfl) ⟨rfl, rfl, rfl, z9, rfl, trivial⟩)
  first | refine r_if_ne (pc := 5) hX 3 (tgt := 18) rfl (by decide) (⟨by omega, by omega⟩) (fun h5 => ?_) (fun h5 => ?_) | refine r_if_ne_any (pc := 5) hX 3 (tgt := 18) rfl (by decide) ?_ ?_
  · refine r_getsT (pc := 18) hX 8 rfl gs_X11_352 (by rw [hH.2.2.2.2.2.2.1]; decide) ?_
    refine t_getR (q := (ρ t 4)) (pc := 21) hX 9 rfl rfl rfl fl_X11_47 rfl (hH.kd ht (by decide)) (rfl) ?_
    have hw21_ : ω (ρ t 4) = 22 := hH.rf ht (by decide) rfl
    refine e_getI (y := (v (ρ t 4) 2)) (pc := 25) hX 11 rfl fl_X11_197 rfl (hH.kd hw21_ (by decide)) (rfl) ?_
    have hb25 : 0 ≤ (v (ρ t 4) 2) ∧ (v (ρ t 4) 2) ≤ 12 := hH.rg hw21_ (by decide) rfl
    refine e_lald (y := (v 1 (v (ρ t 4) 2))) (n := 13) (pc := 28) hX 12 rfl hH.2.2.2.2.2.2.1 hH.2.2.2.2.2.2.2.1 (by omega) (by omega) (rfl) ?_
    have hb28 := hH.tw (v (ρ t 4) 2) (by omega) (by omega)
    refine t_getR (q := (ρ t 4)) (pc := 29) hX 13 rfl rfl rfl fl_X11_47 rfl (hH.kd ht (by decide)) (rfl) ?_
    refine r_getR (q := (ρ (ρ t 4) 0)) (pc := 33) hX 15 rfl fl_X11_51 rfl (hH.kd hw21_ (by decide)) (rfl) ?_
    have hw33_ : ω (ρ (ρ t 4) 0) = 5 := hH.rf hw21_ (by decide) rfl
    refine r_callV (as := []) (st := [(1, (v 1 (v (ρ t 4) 2)))]) (K := 4) (pc := 36) hX 16 rfl mo_X4_allChances ml_X11_355 im_X4_allChances se_X4_allChances (c_X4_allChances g ω v ρ Z hH (ρ (ρ t 4) 0) hw33_ ) rfl rfl rfl (hH.kd hw33_ (by decide)) (by rw [hRm]; exact ⟨by decide, by decide⟩) (by rw [hRm]; exact ⟨by decide, by decide⟩) (Nat.le_of_ble_eq_true rfl) (fun o36 v36 ρv36 Zv36 hq36 _ => ?_)
    obtain ⟨rfl, rfl, rfl, r36, rfl, hq36⟩ := hq36
    show wp g X F_X11_luck 1 6 39 [(2, t), (0, w)] [(0, r36), (1, (v 1 (v (ρ t 4) 2)))] v ρ Z
    refine r_iany _ (fun z36 hz36 => ?_)
    refine r_i2l (pc := 39) hX 17 rfl ⟨by omega, by omega⟩ ?_
    refine r_lmul (pc := 40) hX 18 rfl ?_
    refine r_lany _ (fun z40 hz40 => ?_)
    exact (L41 z40  )
  · refine t_getR (q := (ρ t 4)) (pc := 8) hX 4 rfl rfl rfl fl_X11_47 rfl (hH.kd ht (by decide)) (rfl) ?_
    have hw8_ : ω (ρ t 4) = 22 := hH.rf ht (by decide) rfl
    refine r_callV (as := []) (st := []) (K := 9) (pc := 12) hX 6 rfl mo_X9_allWeights ml_X11_267 im_X9_allWeights se_X9_allWeights (c_X9_allWeights g ω v ρ Z hH (ρ t 4) hw8_ ) rfl rfl rfl (hH.kd hw8_ (by decide)) (by rw [hRm]; exact ⟨by decide, by decide⟩) (by rw [hRm]; exact ⟨by decide, by decide⟩) (Nat.le_of_ble_eq_true rfl) (fun o12 v12 ρv12 Zv12 hq12 _ => ?_)
    obtain ⟨rfl, rfl, rfl, r12, rfl, hq12⟩ := hq12
    show wp g X F_X11_luck 1 6 15 [(2, t), (0, w)] [(1, r12)] v ρ Z
    refine r_goto (pc := 15) hX 7 (tgt := 41) rfl (by decide) ?_
    exact (L41 r12  )
