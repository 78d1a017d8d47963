set_option maxHeartbeats 4000000 in
set_option maxRecDepth 100000 in
theorem c_X11_takeG (g : Gp) (ω : Rw) (v ρ : Mv) (Z : Mz) (hH : HT ω v ρ Z) (t : Int) (ht : ω t = 1) (p : Int) (c : Int) (hTr : TrI v ρ t) (hpr : inR p) (hcr : inR c) : Ok g 4 0 0 F_X11_take [(2, t), (0, p), (0, c)] v ρ Z (fun o9 v' ρ' Z' => Z = Z' ∧ FrW ω [22, 24, 27, 66, 67, 68, 69, 70] v v' ∧ FrW ω [28, 66] ρ ρ' ∧ HT ω v' ρ' Z ∧ ∃ r : Int, o9 = some (0, r) ∧ (TrP ρ v' ρ' t)) := by
  refine Ok.of mo_X11_take (Nat.le_of_ble_eq_true rfl) ?_
  intro X hX hRm hxn hQ
  show wp g X F_X11_take 0 0 0 [(2, t), (0, p), (0, c), (3, 0)] [] v ρ Z
  have hwT : ω (ρ t 4) = 22 := hH.rf ht (by decide) rfl
  have hwR : ω (ρ (ρ t 4) 0) = 5 := hH.rf hwT (by decide) rfl
  have hgR8 : 0 ≤ v (ρ (ρ t 4) 0) 8 ∧ v (ρ (ρ t 4) 0) 8 ≤ 4 := hH.rg hwR (by decide) rfl
  have hgR9 : 0 ≤ v (ρ (ρ t 4) 0) 9 ∧ v (ρ (ρ t 4) 0) 9 ≤ 3 := hH.rg hwR (by decide) rfl
  have hgR10 : 0 ≤ v (ρ (ρ t 4) 0) 10 ∧ v (ρ (ρ t 4) 0) 10 ≤ 3 := hH.rg hwR (by decide) rfl
  have hwX : ω (ρ t 0) = 2 := hH.rf ht (by decide) rfl
  have hgL : 0 ≤ v (ρ t 0) 1 ∧ v (ρ t 0) 1 ≤ 940 := hH.rg hwX (by decide) rfl
  have hw := TrW.of hH ht
  have h8 : 0 ≤ v (ρ t 6) 1 ∧ v (ρ t 6) 1 ≤ 8 := hH.rg hw.2.2.2.1 (by decide) rfl
  refine t_getR (q := (ρ t 4)) (pc := 0) hX 0 rfl rfl rfl fl_X11_47 rfl (hH.kd ht (by decide)) (rfl) ?_
  have hw0_ : ω (ρ t 4) = 22 := hH.rf ht (by decide) rfl
  refine r_getR (q := (ρ (ρ t 4) 0)) (pc := 4) hX 2 rfl fl_X11_51 rfl (hH.kd hw0_ (by decide)) (rfl) ?_
  have hw4_ : ω (ρ (ρ t 4) 0) = 5 := hH.rf hw0_ (by decide) rfl
  refine r_iload_n (pc := 7) hX 3 rfl rfl ?_
  refine r_callV (as := [(0, p)]) (st := []) (K := 4) (pc := 8) hX 4 rfl mo_X4_hasPlayer ml_X11_211 im_X4_hasPlayer se_X4_hasPlayer (c_X4_hasPlayer g ω v ρ Z hH (ρ (ρ t 4) 0) hw4_ (p) (by omega)) rfl rfl rfl (hH.kd hw4_ (by decide)) (by rw [hRm]; exact ⟨by decide, by decide⟩) (by rw [hRm]; exact ⟨by decide, by decide⟩) (Nat.le_of_ble_eq_true rfl) (fun o8 v8 ρv8 Zv8 hq8 _ => ?_)
  obtain ⟨rfl, rfl, rfl, r8, rfl, hq8⟩ := hq8
  show wp g X F_X11_take 0 0 11 [(2, t), (0, p), (0, c), (3, 0)] [(0, r8)] v ρ Z
  have L28 : wp g X F_X11_take 0 0 28 [(2, t), (0, p), (0, c), (3, 0)] [] v ρ Z := by
    refine r_iconst (pc := 28) hX 12 rfl ?_
    exact r_iret (pc := 29) hX 13 hQ rfl rfl (Nat.le_of_ble_eq_true rfl) (Nat.le_of_ble_eq_true rfl) ⟨rfl, FrW.rf, FrW.rf, hH, (-1), rfl, (TrP.rf hTr)⟩
  first | refine r_if_eq (pc := 11) hX 5 (tgt := 28) rfl (by decide) (⟨by omega, by omega⟩) (fun h11 => ?_) (fun h11 => ?_) | refine r_if_eq_any (pc := 11) hX 5 (tgt := 28) rfl (by decide) ?_ ?_
  · exact (L28   )
  · refine t_getR (q := (ρ t 4)) (pc := 14) hX 6 rfl rfl rfl fl_X11_47 rfl (hH.kd ht (by decide)) (rfl) ?_
    refine r_getR (q := (ρ (ρ t 4) 0)) (pc := 18) hX 8 rfl fl_X11_51 rfl (hH.kd hw0_ (by decide)) (rfl) ?_
    refine r_iload_n (pc := 21) hX 9 rfl rfl ?_
    refine r_callV (as := [(0, c)]) (st := []) (K := 4) (pc := 22) hX 10 rfl mo_X4_hasColour ml_X11_150 im_X4_hasColour se_X4_hasColour (c_X4_hasColour g ω v ρ Z hH (ρ (ρ t 4) 0) hw4_ (c) (by omega)) rfl rfl rfl (hH.kd hw4_ (by decide)) (by rw [hRm]; exact ⟨by decide, by decide⟩) (by rw [hRm]; exact ⟨by decide, by decide⟩) (Nat.le_of_ble_eq_true rfl) (fun o22 v22 ρv22 Zv22 hq22 _ => ?_)
    obtain ⟨rfl, rfl, rfl, r22, rfl, hq22⟩ := hq22
    show wp g X F_X11_take 0 0 25 [(2, t), (0, p), (0, c), (3, 0)] [(0, r22)] v ρ Z
    first | refine r_if_ne (pc := 25) hX 11 (tgt := 30) rfl (by decide) (⟨by omega, by omega⟩) (fun h25 => ?_) (fun h25 => ?_) | refine r_if_ne_any (pc := 25) hX 11 (tgt := 30) rfl (by decide) ?_ ?_
    · refine t_getR (q := (ρ t 4)) (pc := 30) hX 14 rfl rfl rfl fl_X11_47 rfl (hH.kd ht (by decide)) (rfl) ?_
      refine r_iload_n (pc := 34) hX 16 rfl rfl ?_
      refine r_iload_n (pc := 35) hX 17 rfl rfl ?_
      refine r_callV (as := [(0, p), (0, c)]) (st := []) (K := 9) (pc := 36) hX 18 rfl mo_X9_whyNotTake ml_X11_214 im_X9_whyNotTake se_X9_whyNotTake (c_X9_whyNotTake g ω v ρ Z hH (ρ t 4) hw0_ (p) (c) (by omega) (by omega)) rfl rfl rfl (hH.kd hw0_ (by decide)) (by rw [hRm]; exact ⟨by decide, by decide⟩) (by rw [hRm]; exact ⟨by decide, by decide⟩) (Nat.le_of_ble_eq_true rfl) (fun o36 v36 ρv36 Zv36 hq36 _ => ?_)
      obtain ⟨rfl, rfl, rfl, r36, rfl, hq36⟩ := hq36
      show wp g X F_X11_take 0 0 39 [(2, t), (0, p), (0, c), (3, 0)] [(0, r36)] v ρ Z
      refine r_istore_n (ls' := [(2, t), (0, p), (0, c), (0, r36)]) (pc := 39) hX 19 rfl (by decide) rfl ?_
      refine r_iload_n (pc := 40) hX 20 rfl rfl ?_
      have L64 : ∀ (v64 : Mv) (ρ64 : Mv) , (FrW ω [22, 24, 27, 66, 67, 68, 69, 70] v v64) → (FrW ω [28, 66] ρ ρ64) → (HT ω v64 ρ64 Z) → (TrP ρ v64 ρ64 t) → wp g X F_X11_take 0 0 64 [(2, t), (0, p), (0, c), (0, r36)] [] v64 ρ64 Z := by
        intro v64 ρ64 hfr64 hfrR64 hH64 i64
        refine r_iload_n (pc := 64) hX 32 rfl rfl ?_
        exact r_iret (pc := 65) hX 33 hQ rfl rfl (Nat.le_of_ble_eq_true rfl) (Nat.le_of_ble_eq_true rfl) ⟨rfl, hfr64, hfrR64, hH64, r36, rfl, (i64)⟩
      first | refine r_if_ne (pc := 41) hX 21 (tgt := 64) rfl (by decide) (⟨by omega, by omega⟩) (fun h41 => ?_) (fun h41 => ?_) | refine r_if_ne_any (pc := 41) hX 21 (tgt := 64) rfl (by decide) ?_ ?_
      · exact (L64  v ρ (FrW.rf) (FrW.rf) (hH) (by first | exact TrP.rf hTr | exact TrP.keep hTr hw hq52 (hfr61.at hw.2.2.2.1 (by decide) 1)) )
      · refine t_getR (q := (ρ t 6)) (pc := 44) hX 22 rfl rfl rfl fl_X11_61 rfl (hH.kd ht (by decide)) (rfl) ?_
        have hw44_ : ω (ρ t 6) = 27 := hH.rf ht (by decide) rfl
        refine t_getR (q := (ρ t 4)) (pc := 48) hX 24 rfl rfl rfl fl_X11_47 rfl (hH.kd ht (by decide)) (rfl) ?_
        refine r_callV (as := [(2, (ρ t 4))]) (st := []) (K := 3) (pc := 52) hX 26 rfl mo_X3_keep ml_X11_218 im_X3_keep se_X3_keep (c_X3_keepF g ω v ρ Z hH (ρ t 6) hw44_ (ρ t 4) hw0_ (hTr.1)) rfl rfl rfl (hH.kd hw44_ (by decide)) (by rw [hRm]; exact ⟨by decide, by decide⟩) (by rw [hRm]; exact ⟨by decide, by decide⟩) (Nat.le_of_ble_eq_true rfl) (fun o52 v52 ρv52 Zv52 hq52 _ => ?_)
        obtain ⟨rfl, hfr52, hfrR52, hH52, rfl, hq52⟩ := hq52
        show wp g X F_X11_take 0 0 55 [(2, t), (0, p), (0, c), (0, r36)] [] v52 ρv52 Z
        refine t_getR (q := (ρ t 4)) (pc := 55) hX 27 rfl rfl rfl fl_X11_47 rfl (hH52.kd ht (by decide)) ((hfrR52.at ht (by decide) 4).trans (rfl)) ?_
        refine r_iload_n (pc := 59) hX 29 rfl rfl ?_
        refine r_iload_n (pc := 60) hX 30 rfl rfl ?_
        refine r_callV (as := [(0, p), (0, c)]) (st := []) (K := 9) (pc := 61) hX 31 rfl mo_X9_doTake ml_X11_222 im_X9_doTake se_X9_doTake (c_X9_doTake g ω v52 ρv52 Z hH52 (ρ t 4) hw0_ (p) (c) (by omega) (by omega)) rfl rfl rfl (hH52.kd hw0_ (by decide)) (by rw [hRm]; exact ⟨by decide, by decide⟩) (by rw [hRm]; exact ⟨by decide, by decide⟩) (Nat.le_of_ble_eq_true rfl) (fun o61 v61 ρv61 Zv61 hq61 _ => ?_)
        obtain ⟨rfl, rfl, hfr61, hH61, rfl, hq61⟩ := hq61
        show wp g X F_X11_take 0 0 64 [(2, t), (0, p), (0, c), (0, r36)] [] v61 ρv52 Z
        exact (L64  v61 ρv52 (((FrW.rf).tr hfr52 (by decide)).tr hfr61 (by decide)) ((FrW.rf).tr hfrR52 (by decide)) (hH61) (by first | exact TrP.rf hTr | exact TrP.keep hTr hw hq52 (hfr61.at hw.2.2.2.1 (by decide) 1)) )
    · exact (L28   )
set_option maxHeartbeats 4000000 in
set_option maxRecDepth 100000 in
theorem c_X11_turnG (g : Gp) (ω : Rw) (v ρ : Mv) (Z : Mz) (hH : HT ω v ρ Z) (t : Int) (ht : ω t = 1) (p : Int) (c : Int) (hTr : TrI v ρ t) (hpr : inR p) (hcr : inR c) : Ok g 5 0 0 F_X11_turn [(2, t), (0, p), (0, c)] v ρ Z (fun o9 v' ρ' Z' => Z = Z' ∧ FrW ω [22, 24, 25, 27, 66, 67, 68, 69, 70] v v' ∧ FrW ω [28, 66] ρ ρ' ∧ HT ω v' ρ' Z ∧ ∃ r : Int, o9 = some (0, r) ∧ (TrP ρ v' ρ' t)) := by
  refine Ok.of mo_X11_turn (Nat.le_of_ble_eq_true rfl) ?_
  intro X hX hRm hxn hQ
  show wp g X F_X11_turn 0 0 0 [(2, t), (0, p), (0, c), (3, 0)] [] v ρ Z
  have hwT : ω (ρ t 4) = 22 := hH.rf ht (by decide) rfl
  have hwR : ω (ρ (ρ t 4) 0) = 5 := hH.rf hwT (by decide) rfl
  have hgR8 : 0 ≤ v (ρ (ρ t 4) 0) 8 ∧ v (ρ (ρ t 4) 0) 8 ≤ 4 := hH.rg hwR (by decide) rfl
  have hgR9 : 0 ≤ v (ρ (ρ t 4) 0) 9 ∧ v (ρ (ρ t 4) 0) 9 ≤ 3 := hH.rg hwR (by decide) rfl
  have hgR10 : 0 ≤ v (ρ (ρ t 4) 0) 10 ∧ v (ρ (ρ t 4) 0) 10 ≤ 3 := hH.rg hwR (by decide) rfl
  have hwX : ω (ρ t 0) = 2 := hH.rf ht (by decide) rfl
  have hgL : 0 ≤ v (ρ t 0) 1 ∧ v (ρ t 0) 1 ≤ 940 := hH.rg hwX (by decide) rfl
  have hw := TrW.of hH ht
  have h8 : 0 ≤ v (ρ t 6) 1 ∧ v (ρ t 6) 1 ≤ 8 := hH.rg hw.2.2.2.1 (by decide) rfl
  refine t_getR (q := (ρ t 4)) (pc := 0) hX 0 rfl rfl rfl fl_X11_47 rfl (hH.kd ht (by decide)) (rfl) ?_
  have hw0_ : ω (ρ t 4) = 22 := hH.rf ht (by decide) rfl
  refine r_getR (q := (ρ (ρ t 4) 0)) (pc := 4) hX 2 rfl fl_X11_51 rfl (hH.kd hw0_ (by decide)) (rfl) ?_
  have hw4_ : ω (ρ (ρ t 4) 0) = 5 := hH.rf hw0_ (by decide) rfl
  refine r_iload_n (pc := 7) hX 3 rfl rfl ?_
  refine r_callV (as := [(0, p)]) (st := []) (K := 4) (pc := 8) hX 4 rfl mo_X4_hasPlayer ml_X11_211 im_X4_hasPlayer se_X4_hasPlayer (c_X4_hasPlayer g ω v ρ Z hH (ρ (ρ t 4) 0) hw4_ (p) (by omega)) rfl rfl rfl (hH.kd hw4_ (by decide)) (by rw [hRm]; exact ⟨by decide, by decide⟩) (by rw [hRm]; exact ⟨by decide, by decide⟩) (Nat.le_of_ble_eq_true rfl) (fun o8 v8 ρv8 Zv8 hq8 _ => ?_)
  obtain ⟨rfl, rfl, rfl, r8, rfl, hq8⟩ := hq8
  show wp g X F_X11_turn 0 0 11 [(2, t), (0, p), (0, c), (3, 0)] [(0, r8)] v ρ Z
  have L28 : wp g X F_X11_turn 0 0 28 [(2, t), (0, p), (0, c), (3, 0)] [] v ρ Z := by
    refine r_iconst (pc := 28) hX 12 rfl ?_
    exact r_iret (pc := 29) hX 13 hQ rfl rfl (Nat.le_of_ble_eq_true rfl) (Nat.le_of_ble_eq_true rfl) ⟨rfl, FrW.rf, FrW.rf, hH, (-1), rfl, (TrP.rf hTr)⟩
  first | refine r_if_eq (pc := 11) hX 5 (tgt := 28) rfl (by decide) (⟨by omega, by omega⟩) (fun h11 => ?_) (fun h11 => ?_) | refine r_if_eq_any (pc := 11) hX 5 (tgt := 28) rfl (by decide) ?_ ?_
  · exact (L28   )
  · refine t_getR (q := (ρ t 4)) (pc := 14) hX 6 rfl rfl rfl fl_X11_47 rfl (hH.kd ht (by decide)) (rfl) ?_
    refine r_getR (q := (ρ (ρ t 4) 0)) (pc := 18) hX 8 rfl fl_X11_51 rfl (hH.kd hw0_ (by decide)) (rfl) ?_
    refine r_iload_n (pc := 21) hX 9 rfl rfl ?_
    refine r_callV (as := [(0, c)]) (st := []) (K := 4) (pc := 22) hX 10 rfl mo_X4_hasColour ml_X11_150 im_X4_hasColour se_X4_hasColour (c_X4_hasColour g ω v ρ Z hH (ρ (ρ t 4) 0) hw4_ (c) (by omega)) rfl rfl rfl (hH.kd hw4_ (by decide)) (by rw [hRm]; exact ⟨by decide, by decide⟩) (by rw [hRm]; exact ⟨by decide, by decide⟩) (Nat.le_of_ble_eq_true rfl) (fun o22 v22 ρv22 Zv22 hq22 _ => ?_)
    obtain ⟨rfl, rfl, rfl, r22, rfl, hq22⟩ := hq22
    show wp g X F_X11_turn 0 0 25 [(2, t), (0, p), (0, c), (3, 0)] [(0, r22)] v ρ Z
    first | refine r_if_ne (pc := 25) hX 11 (tgt := 30) rfl (by decide) (⟨by omega, by omega⟩) (fun h25 => ?_) (fun h25 => ?_) | refine r_if_ne_any (pc := 25) hX 11 (tgt := 30) rfl (by decide) ?_ ?_
    · refine t_getR (q := (ρ t 4)) (pc := 30) hX 14 rfl rfl rfl fl_X11_47 rfl (hH.kd ht (by decide)) (rfl) ?_
      refine r_iload_n (pc := 34) hX 16 rfl rfl ?_
      refine r_iload_n (pc := 35) hX 17 rfl rfl ?_
      refine r_callV (as := [(0, p), (0, c)]) (st := []) (K := 9) (pc := 36) hX 18 rfl mo_X9_whyNotTurn ml_X11_226 im_X9_whyNotTurn se_X9_whyNotTurn (c_X9_whyNotTurn g ω v ρ Z hH (ρ t 4) hw0_ (p) (c) (by omega) (by omega)) rfl rfl rfl (hH.kd hw0_ (by decide)) (by rw [hRm]; exact ⟨by decide, by decide⟩) (by rw [hRm]; exact ⟨by decide, by decide⟩) (Nat.le_of_ble_eq_true rfl) (fun o36 v36 ρv36 Zv36 hq36 _ => ?_)
      obtain ⟨rfl, rfl, rfl, r36, rfl, hq36⟩ := hq36
      show wp g X F_X11_turn 0 0 39 [(2, t), (0, p), (0, c), (3, 0)] [(0, r36)] v ρ Z
      refine r_istore_n (ls' := [(2, t), (0, p), (0, c), (0, r36)]) (pc := 39) hX 19 rfl (by decide) rfl ?_
      refine r_iload_n (pc := 40) hX 20 rfl rfl ?_
      have L64 : ∀ (v64 : Mv) (ρ64 : Mv) , (FrW ω [22, 24, 25, 27, 66, 67, 68, 69, 70] v v64) → (FrW ω [28, 66] ρ ρ64) → (HT ω v64 ρ64 Z) → (TrP ρ v64 ρ64 t) → wp g X F_X11_turn 0 0 64 [(2, t), (0, p), (0, c), (0, r36)] [] v64 ρ64 Z := by
        intro v64 ρ64 hfr64 hfrR64 hH64 i64
        refine r_iload_n (pc := 64) hX 32 rfl rfl ?_
        exact r_iret (pc := 65) hX 33 hQ rfl rfl (Nat.le_of_ble_eq_true rfl) (Nat.le_of_ble_eq_true rfl) ⟨rfl, hfr64, hfrR64, hH64, r36, rfl, (i64)⟩
      first | refine r_if_ne (pc := 41) hX 21 (tgt := 64) rfl (by decide) (⟨by omega, by omega⟩) (fun h41 => ?_) (fun h41 => ?_) | refine r_if_ne_any (pc := 41) hX 21 (tgt := 64) rfl (by decide) ?_ ?_
      · exact (L64  v ρ (FrW.rf) (FrW.rf) (hH) (by first | exact TrP.rf hTr | exact TrP.keep hTr hw hq52 (hfr61.at hw.2.2.2.1 (by decide) 1)) )
      · refine t_getR (q := (ρ t 6)) (pc := 44) hX 22 rfl rfl rfl fl_X11_61 rfl (hH.kd ht (by decide)) (rfl) ?_
        have hw44_ : ω (ρ t 6) = 27 := hH.rf ht (by decide) rfl
        refine t_getR (q := (ρ t 4)) (pc := 48) hX 24 rfl rfl rfl fl_X11_47 rfl (hH.kd ht (by decide)) (rfl) ?_
        refine r_callV (as := [(2, (ρ t 4))]) (st := []) (K := 3) (pc := 52) hX 26 rfl mo_X3_keep ml_X11_218 im_X3_keep se_X3_keep (c_X3_keepF g ω v ρ Z hH (ρ t 6) hw44_ (ρ t 4) hw0_ (hTr.1)) rfl rfl rfl (hH.kd hw44_ (by decide)) (by rw [hRm]; exact ⟨by decide, by decide⟩) (by rw [hRm]; exact ⟨by decide, by decide⟩) (Nat.le_of_ble_eq_true rfl) (fun o52 v52 ρv52 Zv52 hq52 _ => ?_)
        obtain ⟨rfl, hfr52, hfrR52, hH52, rfl, hq52⟩ := hq52
        show wp g X F_X11_turn 0 0 55 [(2, t), (0, p), (0, c), (0, r36)] [] v52 ρv52 Z
        refine t_getR (q := (ρ t 4)) (pc := 55) hX 27 rfl rfl rfl fl_X11_47 rfl (hH52.kd ht (by decide)) ((hfrR52.at ht (by decide) 4).trans (rfl)) ?_
        refine r_iload_n (pc := 59) hX 29 rfl rfl ?_
        refine r_iload_n (pc := 60) hX 30 rfl rfl ?_
        refine r_callV (as := [(0, p), (0, c)]) (st := []) (K := 9) (pc := 61) hX 31 rfl mo_X9_doTurn ml_X11_229 im_X9_doTurn se_X9_doTurn (c_X9_doTurn g ω v52 ρv52 Z hH52 (ρ t 4) hw0_ (p) (c) (by omega) (by omega)) rfl rfl rfl (hH52.kd hw0_ (by decide)) (by rw [hRm]; exact ⟨by decide, by decide⟩) (by rw [hRm]; exact ⟨by decide, by decide⟩) (Nat.le_of_ble_eq_true rfl) (fun o61 v61 ρv61 Zv61 hq61 _ => ?_)
        obtain ⟨rfl, rfl, hfr61, hH61, rfl, hq61⟩ := hq61
        show wp g X F_X11_turn 0 0 64 [(2, t), (0, p), (0, c), (0, r36)] [] v61 ρv52 Z
        exact (L64  v61 ρv52 (((FrW.rf).tr hfr52 (by decide)).tr hfr61 (by decide)) ((FrW.rf).tr hfrR52 (by decide)) (hH61) (by first | exact TrP.rf hTr | exact TrP.keep hTr hw hq52 (hfr61.at hw.2.2.2.1 (by decide) 1)) )
    · exact (L28   )
set_option maxHeartbeats 4000000 in
set_option maxRecDepth 100000 in
theorem c_X11_comeG (g : Gp) (ω : Rw) (v ρ : Mv) (Z : Mz) (hH : HT ω v ρ Z) (t : Int) (ht : ω t = 1) (c : Int) (hTr : TrI v ρ t) (hcr : inR c) : Ok g 5 0 0 F_X11_come [(2, t), (0, c)] v ρ Z (fun o9 v' ρ' Z' => Z = Z' ∧ FrW ω [22, 23, 26, 27, 66, 67, 68, 69, 70] v v' ∧ FrW ω [28, 66] ρ ρ' ∧ HT ω v' ρ' Z ∧ ∃ r : Int, o9 = some (0, r) ∧ (TrP ρ v' ρ' t)) := by
  refine Ok.of mo_X11_come (Nat.le_of_ble_eq_true rfl) ?_
  intro X hX hRm hxn hQ
  show wp g X F_X11_come 0 0 0 [(2, t), (0, c), (3, 0)] [] v ρ Z
  have hwT : ω (ρ t 4) = 22 := hH.rf ht (by decide) rfl
  have hwR : ω (ρ (ρ t 4) 0) = 5 := hH.rf hwT (by decide) rfl
  have hgR8 : 0 ≤ v (ρ (ρ t 4) 0) 8 ∧ v (ρ (ρ t 4) 0) 8 ≤ 4 := hH.rg hwR (by decide) rfl
  have hgR9 : 0 ≤ v (ρ (ρ t 4) 0) 9 ∧ v (ρ (ρ t 4) 0) 9 ≤ 3 := hH.rg hwR (by decide) rfl
  have hgR10 : 0 ≤ v (ρ (ρ t 4) 0) 10 ∧ v (ρ (ρ t 4) 0) 10 ≤ 3 := hH.rg hwR (by decide) rfl
  have hwX : ω (ρ t 0) = 2 := hH.rf ht (by decide) rfl
  have hgL : 0 ≤ v (ρ t 0) 1 ∧ v (ρ t 0) 1 ≤ 940 := hH.rg hwX (by decide) rfl
  have hw := TrW.of hH ht
  have h8 : 0 ≤ v (ρ t 6) 1 ∧ v (ρ t 6) 1 ≤ 8 := hH.rg hw.2.2.2.1 (by decide) rfl
  refine t_getR (q := (ρ t 4)) (pc := 0) hX 0 rfl rfl rfl fl_X11_47 rfl (hH.kd ht (by decide)) (rfl) ?_
  have hw0_ : ω (ρ t 4) = 22 := hH.rf ht (by decide) rfl
  refine r_getR (q := (ρ (ρ t 4) 0)) (pc := 4) hX 2 rfl fl_X11_51 rfl (hH.kd hw0_ (by decide)) (rfl) ?_
  have hw4_ : ω (ρ (ρ t 4) 0) = 5 := hH.rf hw0_ (by decide) rfl
  refine r_iload_n (pc := 7) hX 3 rfl rfl ?_
  refine r_callV (as := [(0, c)]) (st := []) (K := 4) (pc := 8) hX 4 rfl mo_X4_hasKind ml_X11_169 im_X4_hasKind se_X4_hasKind (c_X4_hasKind g ω v ρ Z hH (ρ (ρ t 4) 0) hw4_ (c) (by omega)) rfl rfl rfl (hH.kd hw4_ (by decide)) (by rw [hRm]; exact ⟨by decide, by decide⟩) (by rw [hRm]; exact ⟨by decide, by decide⟩) (Nat.le_of_ble_eq_true rfl) (fun o8 v8 ρv8 Zv8 hq8 _ => ?_)
  obtain ⟨rfl, rfl, rfl, r8, rfl, hq8⟩ := hq8
  show wp g X F_X11_come 0 0 11 [(2, t), (0, c), (3, 0)] [(0, r8)] v ρ Z
  first | refine r_if_ne (pc := 11) hX 5 (tgt := 16) rfl (by decide) (⟨by omega, by omega⟩) (fun h11 => ?_) (fun h11 => ?_) | refine r_if_ne_any (pc := 11) hX 5 (tgt := 16) rfl (by decide) ?_ ?_
  · refine t_getR (q := (ρ t 4)) (pc := 16) hX 8 rfl rfl rfl fl_X11_47 rfl (hH.kd ht (by decide)) (rfl) ?_
    refine r_iload_n (pc := 20) hX 10 rfl rfl ?_
    refine r_callV (as := [(0, c)]) (st := []) (K := 9) (pc := 21) hX 11 rfl mo_X9_whyNotCome ml_X11_232 im_X9_whyNotCome se_X9_whyNotCome (c_X9_whyNotCome g ω v ρ Z hH (ρ t 4) hw0_ (c) (by omega)) rfl rfl rfl (hH.kd hw0_ (by decide)) (by rw [hRm]; exact ⟨by decide, by decide⟩) (by rw [hRm]; exact ⟨by decide, by decide⟩) (Nat.le_of_ble_eq_true rfl) (fun o21 v21 ρv21 Zv21 hq21 _ => ?_)
    obtain ⟨rfl, rfl, rfl, r21, rfl, hq21⟩ := hq21
    have hw21_ : ω (ρ (ρ t 4) 6) = 26 := hH.rf hw0_ (by decide) rfl
    show wp g X F_X11_come 0 0 24 [(2, t), (0, c), (3, 0)] [(0, r21)] v ρ Z
    refine r_istore_n (ls' := [(2, t), (0, c), (0, r21)]) (pc := 24) hX 12 rfl (by decide) rfl ?_
    refine r_iload_n (pc := 25) hX 13 rfl rfl ?_
    have L48 : ∀ (v48 : Mv) (ρ48 : Mv) , (FrW ω [22, 23, 26, 27, 66, 67, 68, 69, 70] v v48) → (FrW ω [28, 66] ρ ρ48) → (HT ω v48 ρ48 Z) → (TrP ρ v48 ρ48 t) → wp g X F_X11_come 0 0 48 [(2, t), (0, c), (0, r21)] [] v48 ρ48 Z := by
      intro v48 ρ48 hfr48 hfrR48 hH48 i48
      refine r_iload_n (pc := 48) hX 24 rfl rfl ?_
      exact r_iret (pc := 49) hX 25 hQ rfl rfl (Nat.le_of_ble_eq_true rfl) (Nat.le_of_ble_eq_true rfl) ⟨rfl, hfr48, hfrR48, hH48, r21, rfl, (i48)⟩
    first | refine r_if_ne (pc := 26) hX 14 (tgt := 48) rfl (by decide) (⟨by omega, by omega⟩) (fun h26 => ?_) (fun h26 => ?_) | refine r_if_ne_any (pc := 26) hX 14 (tgt := 48) rfl (by decide) ?_ ?_
    · exact (L48  v ρ (FrW.rf) (FrW.rf) (hH) (by first | exact TrP.rf hTr | exact TrP.keep hTr hw hq37 (hfr45.at hw.2.2.2.1 (by decide) 1)) )
    · refine t_getR (q := (ρ t 6)) (pc := 29) hX 15 rfl rfl rfl fl_X11_61 rfl (hH.kd ht (by decide)) (rfl) ?_
      have hw29_ : ω (ρ t 6) = 27 := hH.rf ht (by decide) rfl
      refine t_getR (q := (ρ t 4)) (pc := 33) hX 17 rfl rfl rfl fl_X11_47 rfl (hH.kd ht (by decide)) (rfl) ?_
      refine r_callV (as := [(2, (ρ t 4))]) (st := []) (K := 3) (pc := 37) hX 19 rfl mo_X3_keep ml_X11_218 im_X3_keep se_X3_keep (c_X3_keepF g ω v ρ Z hH (ρ t 6) hw29_ (ρ t 4) hw0_ (hTr.1)) rfl rfl rfl (hH.kd hw29_ (by decide)) (by rw [hRm]; exact ⟨by decide, by decide⟩) (by rw [hRm]; exact ⟨by decide, by decide⟩) (Nat.le_of_ble_eq_true rfl) (fun o37 v37 ρv37 Zv37 hq37 _ => ?_)
      obtain ⟨rfl, hfr37, hfrR37, hH37, rfl, hq37⟩ := hq37
      show wp g X F_X11_come 0 0 40 [(2, t), (0, c), (0, r21)] [] v37 ρv37 Z
      refine t_getR (q := (ρ t 4)) (pc := 40) hX 20 rfl rfl rfl fl_X11_47 rfl (hH37.kd ht (by decide)) ((hfrR37.at ht (by decide) 4).trans (rfl)) ?_
      refine r_iload_n (pc := 44) hX 22 rfl rfl ?_
      refine r_callV (as := [(0, c)]) (st := []) (K := 9) (pc := 45) hX 23 rfl mo_X9_doCome ml_X11_235 im_X9_doCome se_X9_doCome (c_X9_doCome g ω v37 ρv37 Z hH37 (ρ t 4) hw0_ (c) (by omega) (by rw [show (ρv37 (ρ t 4) 0) = (ρ (ρ t 4) 0) from (hfrR37.at hw0_ (by decide) 0).trans (rfl)]; rw [show (v37 (ρ (ρ t 4) 0) 10) = (v (ρ (ρ t 4) 0) 10) from (hfr37.at hw4_ (by decide) 10).trans (rfl)]; rw [show (v37 (ρ (ρ t 4) 0) 11) = (v (ρ (ρ t 4) 0) 11) from (hfr37.at hw4_ (by decide) 11).trans (rfl)]; rw [show (ρv37 (ρ t 4) 6) = (ρ (ρ t 4) 6) from (hfrR37.at hw0_ (by decide) 6).trans (rfl)]; rw [show (v37 (ρ (ρ t 4) 6)) = (v (ρ (ρ t 4) 6)) from (hfr37.rw hw21_ (by decide)).trans (rfl)]; exact (hq21.2 (by omega)))) rfl rfl rfl (hH37.kd hw0_ (by decide)) (by rw [hRm]; exact ⟨by decide, by decide⟩) (by rw [hRm]; exact ⟨by decide, by decide⟩) (Nat.le_of_ble_eq_true rfl) (fun o45 v45 ρv45 Zv45 hq45 _ => ?_)
      obtain ⟨rfl, rfl, hfr45, hH45, rfl, hq45⟩ := hq45
      show wp g X F_X11_come 0 0 48 [(2, t), (0, c), (0, r21)] [] v45 ρv37 Z
      exact (L48  v45 ρv37 (((FrW.rf).tr hfr37 (by decide)).tr hfr45 (by decide)) ((FrW.rf).tr hfrR37 (by decide)) (hH45) (by first | exact TrP.rf hTr | exact TrP.keep hTr hw hq37 (hfr45.at hw.2.2.2.1 (by decide) 1)) )
  · refine r_iconst (pc := 14) hX 6 rfl ?_
    exact r_iret (pc := 15) hX 7 hQ rfl rfl (Nat.le_of_ble_eq_true rfl) (Nat.le_of_ble_eq_true rfl) ⟨rfl, FrW.rf, FrW.rf, hH, (-1), rfl, (TrP.rf hTr)⟩
set_option maxHeartbeats 4000000 in
set_option maxRecDepth 100000 in
theorem c_X11_undoG (g : Gp) (ω : Rw) (v ρ : Mv) (Z : Mz) (hH : HT ω v ρ Z) (t : Int) (ht : ω t = 1) (hTr : TrI v ρ t) : Ok g 4 0 0 F_X11_undo [(2, t)] v ρ Z (fun o9 v' ρ' Z' => Z = Z' ∧ FrW ω [22, 23, 24, 25, 26, 27] v v' ∧ FrW ω [22] ρ ρ' ∧ HT ω v' ρ' Z ∧ ∃ r : Int, o9 = some (0, r) ∧ (TrP ρ v' ρ' t)) := by
  refine Ok.of mo_X11_undo (Nat.le_of_ble_eq_true rfl) ?_
  intro X hX hRm hxn hQ
  show wp g X F_X11_undo 0 0 0 [(2, t)] [] v ρ Z
  have hwT : ω (ρ t 4) = 22 := hH.rf ht (by decide) rfl
  have hwR : ω (ρ (ρ t 4) 0) = 5 := hH.rf hwT (by decide) rfl
  have hgR8 : 0 ≤ v (ρ (ρ t 4) 0) 8 ∧ v (ρ (ρ t 4) 0) 8 ≤ 4 := hH.rg hwR (by decide) rfl
  have hgR9 : 0 ≤ v (ρ (ρ t 4) 0) 9 ∧ v (ρ (ρ t 4) 0) 9 ≤ 3 := hH.rg hwR (by decide) rfl
  have hgR10 : 0 ≤ v (ρ (ρ t 4) 0) 10 ∧ v (ρ (ρ t 4) 0) 10 ≤ 3 := hH.rg hwR (by decide) rfl
  have hwX : ω (ρ t 0) = 2 := hH.rf ht (by decide) rfl
  have hgL : 0 ≤ v (ρ t 0) 1 ∧ v (ρ t 0) 1 ≤ 940 := hH.rg hwX (by decide) rfl
  have hw := TrW.of hH ht
  have h8 : 0 ≤ v (ρ t 6) 1 ∧ v (ρ t 6) 1 ≤ 8 := hH.rg hw.2.2.2.1 (by decide) rfl
  refine t_getR (q := (ρ t 6)) (pc := 0) hX 0 rfl rfl rfl fl_X11_61 rfl (hH.kd ht (by decide)) (rfl) ?_
  have hw0_ : ω (ρ t 6) = 27 := hH.rf ht (by decide) rfl
  refine t_getR (q := (ρ t 4)) (pc := 4) hX 2 rfl rfl rfl fl_X11_47 rfl (hH.kd ht (by decide)) (rfl) ?_
  have hw4_ : ω (ρ t 4) = 22 := hH.rf ht (by decide) rfl
  refine r_callV (as := [(2, (ρ t 4))]) (st := []) (K := 3) (pc := 8) hX 4 rfl mo_X3_recall ml_X11_238 im_X3_recall se_X3_recall (c_X3_recallF g ω v ρ Z hH (ρ t 6) hw0_ (ρ t 4) hw4_ (hTr.1)) rfl rfl rfl (hH.kd hw0_ (by decide)) (by rw [hRm]; exact ⟨by decide, by decide⟩) (by rw [hRm]; exact ⟨by decide, by decide⟩) (Nat.le_of_ble_eq_true rfl) (fun o8 v8 ρv8 Zv8 hq8 _ => ?_)
  obtain ⟨rfl, hfr8, hfrR8, hH8, r8, rfl, hq8⟩ := hq8
  show wp g X F_X11_undo 0 0 11 [(2, t)] [(0, r8)] v8 ρv8 Z
  exact r_iret (pc := 11) hX 5 hQ rfl rfl (Nat.le_of_ble_eq_true rfl) (Nat.le_of_ble_eq_true rfl) ⟨rfl, (FrW.rf).tr hfr8 (by decide), (FrW.rf).tr hfrR8 (by decide), hH8, r8, rfl, (TrP.undo hTr hw hq8.2.1.1 hq8.2.1.2 hq8.2.2)⟩
set_option maxHeartbeats 4000000 in
set_option maxRecDepth 100000 in
theorem c_X11_drawnG (g : Gp) (ω : Rw) (v ρ : Mv) (Z : Mz) (hH : HT ω v ρ Z) (t : Int) (ht : ω t = 1) (s : Int) (hTr : TrI v ρ t) : Ok g 5 0 0 F_X11_drawn [(2, t), (0, s)] v ρ Z (fun o9 v' ρ' Z' => Z = Z' ∧ FrW ω [22, 23, 26, 27, 66, 67, 68, 69, 70] v v' ∧ FrW ω [28, 66] ρ ρ' ∧ HT ω v' ρ' Z ∧ ∃ r : Int, o9 = some (0, r) ∧ (TrP ρ v' ρ' t)) := by
  refine Ok.of mo_X11_drawn (Nat.le_of_ble_eq_true rfl) ?_
  intro X hX hRm hxn hQ
  show wp g X F_X11_drawn 0 0 0 [(2, t), (0, s)] [] v ρ Z
  have hwT : ω (ρ t 4) = 22 := hH.rf ht (by decide) rfl
  have hwR : ω (ρ (ρ t 4) 0) = 5 := hH.rf hwT (by decide) rfl
  have hgR8 : 0 ≤ v (ρ (ρ t 4) 0) 8 ∧ v (ρ (ρ t 4) 0) 8 ≤ 4 := hH.rg hwR (by decide) rfl
  have hgR9 : 0 ≤ v (ρ (ρ t 4) 0) 9 ∧ v (ρ (ρ t 4) 0) 9 ≤ 3 := hH.rg hwR (by decide) rfl
  have hgR10 : 0 ≤ v (ρ (ρ t 4) 0) 10 ∧ v (ρ (ρ t 4) 0) 10 ≤ 3 := hH.rg hwR (by decide) rfl
  have hwX : ω (ρ t 0) = 2 := hH.rf ht (by decide) rfl
  have hgL : 0 ≤ v (ρ t 0) 1 ∧ v (ρ t 0) 1 ≤ 940 := hH.rg hwX (by decide) rfl
  have hw := TrW.of hH ht
  have h8 : 0 ≤ v (ρ t 6) 1 ∧ v (ρ t 6) 1 ≤ 8 := hH.rg hw.2.2.2.1 (by decide) rfl
  refine t_getR (q := (ρ t 4)) (pc := 0) hX 0 rfl rfl rfl fl_X11_47 rfl (hH.kd ht (by decide)) (rfl) ?_
  have hw0_ : ω (ρ t 4) = 22 := hH.rf ht (by decide) rfl
  refine r_callV (as := []) (st := []) (K := 9) (pc := 4) hX 2 rfl mo_X9_isOver ml_X11_200 im_X9_isOver se_X9_isOver (c_X9_isOver g ω v ρ Z hH (ρ t 4) hw0_ ) rfl rfl rfl (hH.kd hw0_ (by decide)) (by rw [hRm]; exact ⟨by decide, by decide⟩) (by rw [hRm]; exact ⟨by decide, by decide⟩) (Nat.le_of_ble_eq_true rfl) (fun o4 v4 ρv4 Zv4 hq4 _ => ?_)
  obtain ⟨rfl, rfl, rfl, r4, rfl, hq4⟩ := hq4
  have hw4_ : ω (ρ (ρ t 4) 0) = 5 := hH.rf hw0_ (by decide) rfl
  have hwf1_ : ω (ρ (ρ t 4) 6) = 26 := hH.rf hw0_ (by decide) rfl
  show wp g X F_X11_drawn 0 0 7 [(2, t), (0, s)] [(0, r4)] v ρ Z
  have L23 : wp g X F_X11_drawn 0 0 23 [(2, t), (0, s)] [] v ρ Z := by
    refine r_bipush (pc := 23) hX 9 rfl (by decide) ?_
    exact r_iret (pc := 25) hX 10 hQ rfl rfl (Nat.le_of_ble_eq_true rfl) (Nat.le_of_ble_eq_true rfl) ⟨rfl, FrW.rf, FrW.rf, hH, (-2), rfl, (TrP.rf hTr)⟩
  first | refine r_if_ne (pc := 7) hX 3 (tgt := 23) rfl (by decide) (⟨by omega, by omega⟩) (fun h7 => ?_) (fun h7 => ?_) | refine r_if_ne_any (pc := 7) hX 3 (tgt := 23) rfl (by decide) ?_ ?_
  · exact (L23   )
  · refine t_getR (q := (ρ t 4)) (pc := 10) hX 4 rfl rfl rfl fl_X11_47 rfl (hH.kd ht (by decide)) (rfl) ?_
    refine r_getR (q := (ρ (ρ t 4) 0)) (pc := 14) hX 6 rfl fl_X11_51 rfl (hH.kd hw0_ (by decide)) (rfl) ?_
    refine e_getI (y := (v (ρ (ρ t 4) 0) 9)) (pc := 17) hX 7 rfl fl_X11_358 rfl (hH.kd hw4_ (by decide)) (rfl) ?_
    have hb17 : 0 ≤ (v (ρ (ρ t 4) 0) 9) ∧ (v (ρ (ρ t 4) 0) 9) ≤ 3 := hH.rg hw4_ (by decide) rfl
    first | refine r_if_ne (pc := 20) hX 8 (tgt := 26) rfl (by decide) (⟨by omega, by omega⟩) (fun h20 => ?_) (fun h20 => ?_) | refine r_if_ne_any (pc := 20) hX 8 (tgt := 26) rfl (by decide) ?_ ?_
    · refine t_getR (q := (ρ t 6)) (pc := 26) hX 11 rfl rfl rfl fl_X11_61 rfl (hH.kd ht (by decide)) (rfl) ?_
      have hw26_ : ω (ρ t 6) = 27 := hH.rf ht (by decide) rfl
      refine t_getR (q := (ρ t 4)) (pc := 30) hX 13 rfl rfl rfl fl_X11_47 rfl (hH.kd ht (by decide)) (rfl) ?_
      refine r_callV (as := [(2, (ρ t 4))]) (st := []) (K := 3) (pc := 34) hX 15 rfl mo_X3_keep ml_X11_218 im_X3_keep se_X3_keep (c_X3_keepF g ω v ρ Z hH (ρ t 6) hw26_ (ρ t 4) hw0_ (hTr.1)) rfl rfl rfl (hH.kd hw26_ (by decide)) (by rw [hRm]; exact ⟨by decide, by decide⟩) (by rw [hRm]; exact ⟨by decide, by decide⟩) (Nat.le_of_ble_eq_true rfl) (fun o34 v34 ρv34 Zv34 hq34 _ => ?_)
      obtain ⟨rfl, hfr34, hfrR34, hH34, rfl, hq34⟩ := hq34
      show wp g X F_X11_drawn 0 0 37 [(2, t), (0, s)] [] v34 ρv34 Z
      refine t_getR (q := (ρ t 4)) (pc := 37) hX 16 rfl rfl rfl fl_X11_47 rfl (hH34.kd ht (by decide)) ((hfrR34.at ht (by decide) 4).trans (rfl)) ?_
      refine r_iload_n (pc := 41) hX 18 rfl rfl ?_
      refine r_callV (as := [(0, s)]) (st := []) (K := 9) (pc := 42) hX 19 rfl mo_X9_driveOn ml_X11_361 im_X9_driveOn se_X9_driveOn (c_X9_driveOn g ω v34 ρv34 Z hH34 (ρ t 4) hw0_ (s) ) rfl rfl rfl (hH34.kd hw0_ (by decide)) (by rw [hRm]; exact ⟨by decide, by decide⟩) (by rw [hRm]; exact ⟨by decide, by decide⟩) (Nat.le_of_ble_eq_true rfl) (fun o42 v42 ρv42 Zv42 hq42 _ => ?_)
      obtain ⟨rfl, rfl, hfr42, hH42, rfl, hq42⟩ := hq42
      show wp g X F_X11_drawn 0 0 45 [(2, t), (0, s)] [] v42 ρv34 Z
      refine t_getR (q := (ρ t 4)) (pc := 45) hX 20 rfl rfl rfl fl_X11_47 rfl (hH42.kd ht (by decide)) ((hfrR34.at ht (by decide) 4).trans (rfl)) ?_
      refine r_callV (as := []) (st := []) (K := 9) (pc := 49) hX 22 rfl mo_X9_winner ml_X11_204 im_X9_winner se_X9_winner (c_X9_winner g ω v42 ρv34 Z hH42 (ρ t 4) hw0_ ) rfl rfl rfl (hH42.kd hw0_ (by decide)) (by rw [hRm]; exact ⟨by decide, by decide⟩) (by rw [hRm]; exact ⟨by decide, by decide⟩) (Nat.le_of_ble_eq_true rfl) (fun o49 v49 ρv49 Zv49 hq49 _ => ?_)
      obtain ⟨rfl, rfl, rfl, r49, rfl, hq49⟩ := hq49
      show wp g X F_X11_drawn 0 0 52 [(2, t), (0, s)] [(0, r49)] v42 ρv34 Z
      exact r_iret (pc := 52) hX 23 hQ rfl rfl (Nat.le_of_ble_eq_true rfl) (Nat.le_of_ble_eq_true rfl) ⟨rfl, ((FrW.rf).tr hfr34 (by decide)).tr hfr42 (by decide), (FrW.rf).tr hfrR34 (by decide), hH42, r49, rfl, (TrP.keep hTr hw hq34 (hfr42.at hw.2.2.2.1 (by decide) 1))⟩
    · exact (L23   )
set_option maxHeartbeats 4000000 in
set_option maxRecDepth 100000 in
theorem c_X11_winsG (g : Gp) (ω : Rw) (v ρ : Mv) (Z : Mz) (hH : HT ω v ρ Z) (t : Int) (ht : ω t = 1) (p : Int) (n : Int) (s : Int) (hTr : TrI v ρ t) (hpr : inR p) (hnr : inR n) : Ok g 5 0 0 F_X11_wins [(2, t), (0, p), (0, n), (0, s)] v ρ Z (fun o9 v' ρ' Z' => Z = Z' ∧ FrW ω [66, 67, 68, 69, 70] v v' ∧ FrW ω [66] ρ ρ' ∧ HT ω v' ρ' Z ∧ ∃ r : Int, o9 = some (0, r) ∧ (TrP ρ v' ρ' t)) := by
  refine Ok.of mo_X11_wins (Nat.le_of_ble_eq_true rfl) ?_
  intro X hX hRm hxn hQ
  show wp g X F_X11_wins 0 0 0 [(2, t), (0, p), (0, n), (0, s), (3, 0), (3, 0), (3, 0)] [] v ρ Z
  have hwT : ω (ρ t 4) = 22 := hH.rf ht (by decide) rfl
  have hwR : ω (ρ (ρ t 4) 0) = 5 := hH.rf hwT (by decide) rfl
  have hgR8 : 0 ≤ v (ρ (ρ t 4) 0) 8 ∧ v (ρ (ρ t 4) 0) 8 ≤ 4 := hH.rg hwR (by decide) rfl
  have hgR9 : 0 ≤ v (ρ (ρ t 4) 0) 9 ∧ v (ρ (ρ t 4) 0) 9 ≤ 3 := hH.rg hwR (by decide) rfl
  have hgR10 : 0 ≤ v (ρ (ρ t 4) 0) 10 ∧ v (ρ (ρ t 4) 0) 10 ≤ 3 := hH.rg hwR (by decide) rfl
  have hwX : ω (ρ t 0) = 2 := hH.rf ht (by decide) rfl
  have hgL : 0 ≤ v (ρ t 0) 1 ∧ v (ρ t 0) 1 ≤ 940 := hH.rg hwX (by decide) rfl
  have hw := TrW.of hH ht
  have h8 : 0 ≤ v (ρ t 6) 1 ∧ v (ρ t 6) 1 ≤ 8 := hH.rg hw.2.2.2.1 (by decide) rfl
  refine t_getR (q := (ρ t 4)) (pc := 0) hX 0 rfl rfl rfl fl_X11_47 rfl (hH.kd ht (by decide)) (rfl) ?_
  have hw0_ : ω (ρ t 4) = 22 := hH.rf ht (by decide) rfl
  refine r_getR (q := (ρ (ρ t 4) 0)) (pc := 4) hX 2 rfl fl_X11_51 rfl (hH.kd hw0_ (by decide)) (rfl) ?_
  have hw4_ : ω (ρ (ρ t 4) 0) = 5 := hH.rf hw0_ (by decide) rfl
  refine r_iload_n (pc := 7) hX 3 rfl rfl ?_
  refine r_callV (as := [(0, p)]) (st := []) (K := 4) (pc := 8) hX 4 rfl mo_X4_hasPlayer ml_X11_211 im_X4_hasPlayer se_X4_hasPlayer (c_X4_hasPlayer g ω v ρ Z hH (ρ (ρ t 4) 0) hw4_ (p) (by omega)) rfl rfl rfl (hH.kd hw4_ (by decide)) (by rw [hRm]; exact ⟨by decide, by decide⟩) (by rw [hRm]; exact ⟨by decide, by decide⟩) (Nat.le_of_ble_eq_true rfl) (fun o8 v8 ρv8 Zv8 hq8 _ => ?_)
  obtain ⟨rfl, rfl, rfl, r8, rfl, hq8⟩ := hq8
  show wp g X F_X11_wins 0 0 11 [(2, t), (0, p), (0, n), (0, s), (3, 0), (3, 0), (3, 0)] [(0, r8)] v ρ Z
  have L30 : ∀ (k : Int) , (k = 0 ∨ k = 1 ∧ 1 ≤ n ∧ n ≤ 60) → wp g X F_X11_wins 0 0 30 [(2, t), (0, p), (0, n), (0, s), (3, 0), (3, 0), (3, 0)] [(0, k)] v ρ Z := by
    intro k ik
    refine r_istore (ls' := [(2, t), (0, p), (0, n), (0, s), (0, k), (3, 0), (3, 0)]) (pc := 30) hX 15 rfl (by decide) rfl ?_
    refine r_iload (pc := 32) hX 16 rfl rfl ?_
    have L60 : wp g X F_X11_wins 0 0 60 [(2, t), (0, p), (0, n), (0, s), (0, k), (3, 0), (3, 0)] [] v ρ Z := by
      refine r_iconst (pc := 60) hX 27 rfl ?_
      exact r_iret (pc := 61) hX 28 hQ rfl rfl (Nat.le_of_ble_eq_true rfl) (Nat.le_of_ble_eq_true rfl) ⟨rfl, FrW.rf, FrW.rf, hH, (-1), rfl, (TrP.rf hTr)⟩
    first | refine r_if_eq (pc := 34) hX 17 (tgt := 60) rfl (by decide) (⟨by omega, by omega⟩) (fun h34 => ?_) (fun h34 => ?_) | refine r_if_eq_any (pc := 34) hX 17 (tgt := 60) rfl (by decide) ?_ ?_
    · exact (L60   )
    · refine t_getR (q := (ρ t 4)) (pc := 37) hX 18 rfl rfl rfl fl_X11_47 rfl (hH.kd ht (by decide)) (rfl) ?_
      refine r_callV (as := []) (st := []) (K := 9) (pc := 41) hX 20 rfl mo_X9_isOver ml_X11_200 im_X9_isOver se_X9_isOver (c_X9_isOver g ω v ρ Z hH (ρ t 4) hw0_ ) rfl rfl rfl (hH.kd hw0_ (by decide)) (by rw [hRm]; exact ⟨by decide, by decide⟩) (by rw [hRm]; exact ⟨by decide, by decide⟩) (Nat.le_of_ble_eq_true rfl) (fun o41 v41 ρv41 Zv41 hq41 _ => ?_)
      obtain ⟨rfl, rfl, rfl, r41, rfl, hq41⟩ := hq41
      have hw41_ : ω (ρ (ρ t 4) 6) = 26 := hH.rf hw0_ (by decide) rfl
      show wp g X F_X11_wins 0 0 44 [(2, t), (0, p), (0, n), (0, s), (0, k), (3, 0), (3, 0)] [(0, r41)] v ρ Z
      first | refine r_if_ne (pc := 44) hX 21 (tgt := 60) rfl (by decide) (⟨by omega, by omega⟩) (fun h44 => ?_) (fun h44 => ?_) | refine r_if_ne_any (pc := 44) hX 21 (tgt := 60) rfl (by decide) ?_ ?_
      · exact (L60   )
      · refine t_getR (q := (ρ t 4)) (pc := 47) hX 22 rfl rfl rfl fl_X11_47 rfl (hH.kd ht (by decide)) (rfl) ?_
        refine r_getR (q := (ρ (ρ t 4) 0)) (pc := 51) hX 24 rfl fl_X11_51 rfl (hH.kd hw0_ (by decide)) (rfl) ?_
        refine e_getI (y := (v (ρ (ρ t 4) 0) 9)) (pc := 54) hX 25 rfl fl_X11_358 rfl (hH.kd hw4_ (by decide)) (rfl) ?_
        have hb54 : 0 ≤ (v (ρ (ρ t 4) 0) 9) ∧ (v (ρ (ρ t 4) 0) 9) ≤ 3 := hH.rg hw4_ (by decide) rfl
        first | refine r_if_ne (pc := 57) hX 26 (tgt := 62) rfl (by decide) (⟨by omega, by omega⟩) (fun h57 => ?_) (fun h57 => ?_) | refine r_if_ne_any (pc := 57) hX 26 (tgt := 62) rfl (by decide) ?_ ?_
        · refine r_iconst (pc := 62) hX 29 rfl ?_
          refine r_istore (ls' := [(2, t), (0, p), (0, n), (0, s), (0, k), (0, 0), (3, 0)]) (pc := 63) hX 30 rfl (by decide) rfl ?_
          refine r_iconst (pc := 65) hX 31 rfl ?_
          refine r_istore (ls' := [(2, t), (0, p), (0, n), (0, s), (0, k), (0, 0), (0, 0)]) (pc := 66) hX 32 rfl (by decide) rfl ?_
          have L68 : ∀ (n68 : Nat) (w i : Int) (v68 : Mv) (ρ68 : Mv) , (FrW ω [66, 67, 68, 69, 70] v v68) → (FrW ω [66] ρ ρ68) → (HT ω v68 ρ68 Z) → (0 ≤ i ∧ i ≤ 60 ∧ 0 ≤ w ∧ w ≤ i) → (∀ r, r ≠ ρ t 5 → ρ68 r = ρ r) → (ρ68 (ρ t 5) 0 = ρ (ρ t 5) 0 ∨ ρ68 (ρ t 5) 0 = ρ (ρ t 4) 0) → (v68 (ρ t 6) 1 = v (ρ t 6) 1) → (60 - i).toNat < n68 → wp g X F_X11_wins 0 0 68 [(2, t), (0, p), (0, n), (0, s), (0, k), (0, w), (0, i)] [] v68 ρ68 Z := by
            intro n68
            induction n68 with
            | zero => intro w i v68 ρ68 hfr68 hfrR68 hH68 ii ir is ia6 hme68; exact absurd hme68 (Nat.not_lt_zero _)
            | succ n68 ih68 =>
              intro w i v68 ρ68 hfr68 hfrR68 hH68 ii ir is ia6 hme68
              refine r_iload (pc := 68) hX 33 rfl rfl ?_
              refine r_iload_n (pc := 70) hX 34 rfl rfl ?_
              first | refine r_icmp_ge (pc := 71) hX 35 (tgt := 116) rfl (by decide) (⟨by omega, by omega⟩) (⟨by omega, by omega⟩) (fun h71 => ?_) (fun h71 => ?_) | refine r_icmp_ge_any (pc := 71) hX 35 (tgt := 116) rfl (by decide) ?_ ?_
              · refine r_iload (pc := 116) hX 55 rfl rfl ?_
                exact r_iret (pc := 118) hX 56 hQ rfl rfl (Nat.le_of_ble_eq_true rfl) (Nat.le_of_ble_eq_true rfl) ⟨rfl, hfr68, hfrR68, hH68, w, rfl, (TrP.spare hTr hw h8.2 ir is ia6)⟩
              · refine t_getR (q := (ρ t 5)) (pc := 74) hX 36 rfl rfl rfl fl_X11_55 rfl (hH68.kd ht (by decide)) ((hfrR68.at ht (by decide) 5).trans (rfl)) ?_
                have hw74_ : ω (ρ t 5) = 66 := hH.rf ht (by decide) rfl
                refine t_getR (q := (ρ t 4)) (pc := 78) hX 38 rfl rfl rfl fl_X11_47 rfl (hH68.kd ht (by decide)) ((hfrR68.at ht (by decide) 4).trans (rfl)) ?_
                refine r_callV (as := [(2, (ρ t 4))]) (st := []) (K := 9) (pc := 82) hX 40 rfl mo_X9_copyFrom ml_X11_364 im_X9_copyFrom se_X9_copyFrom (c_X9_copyFromFB g ω v68 ρ68 Z hH68 (ρ t 5) hw74_ (ρ t 4) hw0_ ) rfl rfl rfl (hH68.kd hw74_ (by decide)) (by rw [hRm]; exact ⟨by decide, by decide⟩) (by rw [hRm]; exact ⟨by decide, by decide⟩) (Nat.le_of_ble_eq_true rfl) (fun o82 v82 ρv82 Zv82 hq82 _ => ?_)
                obtain ⟨rfl, hfr82, hfrR82, hH82, rfl, hq82⟩ := hq82
                show wp g X F_X11_wins 0 0 85 [(2, t), (0, p), (0, n), (0, s), (0, k), (0, w), (0, i)] [] v82 ρv82 Z
                refine t_getR (q := (ρ t 5)) (pc := 85) hX 41 rfl rfl rfl fl_X11_55 rfl (hH82.kd ht (by decide)) ((hfrR82.at ht (by decide) 5).trans ((hfrR68.at ht (by decide) 5).trans (rfl))) ?_
                refine r_iload_n (pc := 89) hX 43 rfl rfl ?_
                refine r_iload (pc := 90) hX 44 rfl rfl ?_
                refine r_iadd (pc := 92) hX 45 rfl ?_
                refine r_callV (as := [(0, (s + i))]) (st := []) (K := 9) (pc := 93) hX 46 rfl mo_X9_driveOn ml_X11_361 im_X9_driveOn se_X9_driveOn (c_X9_driveOnB g ω v82 ρv82 Z hH82 (ρ t 5) hw74_ ((s + i)) ) rfl rfl rfl (hH82.kd hw74_ (by decide)) (by rw [hRm]; exact ⟨by decide, by decide⟩) (by rw [hRm]; exact ⟨by decide, by decide⟩) (Nat.le_of_ble_eq_true rfl) (fun o93 v93 ρv93 Zv93 hq93 _ => ?_)
                obtain ⟨rfl, rfl, hfr93, hH93, rfl, hq93⟩ := hq93
                show wp g X F_X11_wins 0 0 96 [(2, t), (0, p), (0, n), (0, s), (0, k), (0, w), (0, i)] [] v93 ρv82 Z
                refine t_getR (q := (ρ t 5)) (pc := 96) hX 47 rfl rfl rfl fl_X11_55 rfl (hH93.kd ht (by decide)) ((hfrR82.at ht (by decide) 5).trans ((hfrR68.at ht (by decide) 5).trans (rfl))) ?_
                refine r_callV (as := []) (st := []) (K := 9) (pc := 100) hX 49 rfl mo_X9_winner ml_X11_204 im_X9_winner se_X9_winner (c_X9_winnerB g ω v93 ρv82 Z hH93 (ρ t 5) hw74_ ) rfl rfl rfl (hH93.kd hw74_ (by decide)) (by rw [hRm]; exact ⟨by decide, by decide⟩) (by rw [hRm]; exact ⟨by decide, by decide⟩) (Nat.le_of_ble_eq_true rfl) (fun o100 v100 ρv100 Zv100 hq100 _ => ?_)
                obtain ⟨rfl, rfl, rfl, r100, rfl, hq100⟩ := hq100
                show wp g X F_X11_wins 0 0 103 [(2, t), (0, p), (0, n), (0, s), (0, k), (0, w), (0, i)] [(0, r100)] v93 ρv82 Z
                refine r_iload_n (pc := 103) hX 50 rfl rfl ?_
                have L110 : ∀ (w2 : Int) , (0 ≤ w2 ∧ w2 ≤ i + 1) → wp g X F_X11_wins 0 0 110 [(2, t), (0, p), (0, n), (0, s), (0, k), (0, w2), (0, i)] [] v93 ρv82 Z := by
                  intro w2 iw
                  refine r_iinc (ls' := [(2, t), (0, p), (0, n), (0, s), (0, k), (0, w2), (0, (i + 1))]) (pc := 110) hX 53 rfl rfl (by decide) rfl ?_
                  refine r_goto (pc := 113) hX 54 (tgt := 68) rfl (by decide) ?_
                  exact (ih68 w2 (i + 1) v93 ρv82 (((hfr68).tr hfr82 (by decide)).tr hfr93 (by decide)) ((hfrR68).tr hfrR82 (by decide)) (hH93) (by omega) (fun r hr => (hq82.2 r hr).trans (ir r hr)) (Or.inr (hq82.1.trans (congrFun (ir (ρ t 4) (rne hw.2.1 hw.2.2.1 (by decide))) 0))) (((hfr93.at (hH.rf ht (by decide) (show rfO 1 6 = some 27 from rfl)) (by decide) 1).trans ((hfr82.at (hH.rf ht (by decide) (show rfO 1 6 = some 27 from rfl)) (by decide) 1).trans ((hfr68.at (hH.rf ht (by decide) (show rfO 1 6 = some 27 from rfl)) (by decide) 1).trans (rfl)))).trans (by omega)) (by omega))
                first | refine r_icmp_ne (pc := 104) hX 51 (tgt := 110) rfl (by decide) (⟨by omega, by omega⟩) (⟨by omega, by omega⟩) (fun h104 => ?_) (fun h104 => ?_) | refine r_icmp_ne_any (pc := 104) hX 51 (tgt := 110) rfl (by decide) ?_ ?_
                · exact (L110 w (by omega) )
                · refine r_iinc (ls' := [(2, t), (0, p), (0, n), (0, s), (0, k), (0, (w + 1)), (0, i)]) (pc := 107) hX 52 rfl rfl (by decide) rfl ?_
                  exact (L110 (w + 1) (by omega) )
          exact (L68 _ 0 0 v ρ (FrW.rf) (FrW.rf) (hH) (by omega) (fun r _ => rfl) (Or.inl rfl) ((rfl).trans (by omega)) (Nat.lt_succ_self _))
        · exact (L60   )
  first | refine r_if_eq (pc := 11) hX 5 (tgt := 29) rfl (by decide) (⟨by omega, by omega⟩) (fun h11 => ?_) (fun h11 => ?_) | refine r_if_eq_any (pc := 11) hX 5 (tgt := 29) rfl (by decide) ?_ ?_
  · refine r_iconst (pc := 29) hX 14 rfl ?_
    exact (L30 0 (by omega) )
  · refine r_iload_n (pc := 14) hX 6 rfl rfl ?_
    refine r_iconst (pc := 15) hX 7 rfl ?_
    first | refine r_icmp_lt (pc := 16) hX 8 (tgt := 29) rfl (by decide) (⟨by omega, by omega⟩) (⟨by omega, by omega⟩) (fun h16 => ?_) (fun h16 => ?_) | refine r_icmp_lt_any (pc := 16) hX 8 (tgt := 29) rfl (by decide) ?_ ?_
    · refine r_iconst (pc := 29) hX 14 rfl ?_
      exact (L30 0 (by omega) )
    · refine r_iload_n (pc := 19) hX 9 rfl rfl ?_
      refine r_bipush (pc := 20) hX 10 rfl (by decide) ?_
      first | refine r_icmp_gt (pc := 22) hX 11 (tgt := 29) rfl (by decide) (⟨by omega, by omega⟩) (⟨by omega, by omega⟩) (fun h22 => ?_) (fun h22 => ?_) | refine r_icmp_gt_any (pc := 22) hX 11 (tgt := 29) rfl (by decide) ?_ ?_
      · refine r_iconst (pc := 29) hX 14 rfl ?_
        exact (L30 0 (by omega) )
      · refine r_iconst (pc := 25) hX 12 rfl ?_
        refine r_goto (pc := 26) hX 13 (tgt := 30) rfl (by decide) ?_
        exact (L30 1 (by omega) )
set_option maxHeartbeats 4000000 in
set_option maxRecDepth 100000 in
theorem c_X11_logG (g : Gp) (ω : Rw) (v ρ : Mv) (Z : Mz) (hH : HT ω v ρ Z) (t : Int) (ht : ω t = 1) (a : Int) (hTr : TrI v ρ t) (har : inR a) : Ok g 10 0 0 F_X11_log [(2, t), (0, a)] v ρ Z (fun o9 v' ρ' Z' => Z = Z' ∧ FrW ω [2, 15, 16, 17, 18, 22, 23, 24, 25, 26, 27, 65, 66, 67, 68, 69, 70] v v' ∧ FrW ω [28, 66] ρ ρ' ∧ HT ω v' ρ' Z ∧ ∃ r : Int, o9 = some (0, r) ∧ ((0 ≤ a ∧ a ≤ 1 ∧ v' (ρ t 0) 1 = 0 ∨ (a < 0 ∨ 1 < a) ∧ v' (ρ t 0) 1 = v (ρ t 0) 1)) ∧ (TrP ρ v' ρ' t)) := by
  refine Ok.of mo_X11_log (Nat.le_of_ble_eq_true rfl) ?_
  intro X hX hRm hxn hQ
  show wp g X F_X11_log 0 0 0 [(2, t), (0, a), (3, 0)] [] v ρ Z
  have hwT : ω (ρ t 4) = 22 := hH.rf ht (by decide) rfl
  have hwR : ω (ρ (ρ t 4) 0) = 5 := hH.rf hwT (by decide) rfl
  have hgR8 : 0 ≤ v (ρ (ρ t 4) 0) 8 ∧ v (ρ (ρ t 4) 0) 8 ≤ 4 := hH.rg hwR (by decide) rfl
  have hgR9 : 0 ≤ v (ρ (ρ t 4) 0) 9 ∧ v (ρ (ρ t 4) 0) 9 ≤ 3 := hH.rg hwR (by decide) rfl
  have hgR10 : 0 ≤ v (ρ (ρ t 4) 0) 10 ∧ v (ρ (ρ t 4) 0) 10 ≤ 3 := hH.rg hwR (by decide) rfl
  have hwX : ω (ρ t 0) = 2 := hH.rf ht (by decide) rfl
  have hgL : 0 ≤ v (ρ t 0) 1 ∧ v (ρ t 0) 1 ≤ 940 := hH.rg hwX (by decide) rfl
  have hw := TrW.of hH ht
  have h8 : 0 ≤ v (ρ t 6) 1 ∧ v (ρ t 6) 1 ≤ 8 := hH.rg hw.2.2.2.1 (by decide) rfl
  refine r_iload_n (pc := 0) hX 0 rfl rfl ?_
  have L13 : (a = 0 ∨ a = 1) → wp g X F_X11_log 0 0 13 [(2, t), (0, a), (3, 0)] [] v ρ Z := by
    intro i13
    refine t_getR (q := (ρ t 2)) (pc := 13) hX 7 rfl rfl rfl fl_X11_28 rfl (hH.kd ht (by decide)) (rfl) ?_
    have hw13_ : ω (ρ t 2) = 15 := hH.rf ht (by decide) rfl
    refine t_getR (q := (ρ t 4)) (pc := 17) hX 9 rfl rfl rfl fl_X11_47 rfl (hH.kd ht (by decide)) (rfl) ?_
    have hw17_ : ω (ρ t 4) = 22 := hH.rf ht (by decide) rfl
    refine r_getR (q := (ρ (ρ t 4) 0)) (pc := 21) hX 11 rfl fl_X11_51 rfl (hH.kd hw17_ (by decide)) (rfl) ?_
    have hw21_ : ω (ρ (ρ t 4) 0) = 5 := hH.rf hw17_ (by decide) rfl
    refine r_callV (as := [(2, (ρ (ρ t 4) 0))]) (st := []) (K := 1) (pc := 24) hX 12 rfl mo_X1_read ml_X11_367 im_X1_read se_X1_read (c_X1_read g ω v ρ Z hH (ρ t 2) hw13_ (ρ (ρ t 4) 0) hw21_ ) rfl rfl rfl (hH.kd hw13_ (by decide)) (by rw [hRm]; exact ⟨by decide, by decide⟩) (by rw [hRm]; exact ⟨by decide, by decide⟩) (Nat.le_of_ble_eq_true rfl) (fun o24 v24 ρv24 Zv24 hq24 _ => ?_)
    obtain ⟨rfl, rfl, hfr24, hH24, r24, rfl, hq24⟩ := hq24
    have hw24_ : ω (ρ (ρ t 2) 0) = 2 := hH.rf hw13_ (by decide) rfl
    show wp g X F_X11_log 0 0 27 [(2, t), (0, a), (3, 0)] [(0, r24)] v24 ρ Z
    have hlg24 := hq24.2.1
    refine r_istore_n (ls' := [(2, t), (0, a), (0, r24)]) (pc := 27) hX 13 rfl (by decide) rfl ?_
    refine t_getR (q := (ρ t 0)) (pc := 28) hX 14 rfl rfl rfl fl_X11_12 rfl (hH24.kd ht (by decide)) (rfl) ?_
    have hw28_ : ω (ρ t 0) = 2 := hH.rf ht (by decide) rfl
    refine r_iconst (pc := 32) hX 16 rfl ?_
    refine r_putI (pc := 33) hX 17 rfl fl_X11_123 rfl (fun _ h => by cases h; rfl) (hH24.kd hw28_ (by decide)) (hH24.g4 hw28_ (by decide)) ?_
    have hH_33 : HT ω (up v24 (ρ t 0) 1 0) ρ Z := hH24.upR hw28_ (by decide) rfl (by omega) (by omega)
    show wp g X F_X11_log 0 0 36 [(2, t), (0, a), (0, r24)] [] (up v24 (ρ t 0) 1 0) ρ Z
    refine r_iload_n (pc := 36) hX 18 rfl rfl ?_
    first | refine r_if_ne (pc := 37) hX 19 (tgt := 51) rfl (by decide) (⟨by omega, by omega⟩) (fun h37 => ?_) (fun h37 => ?_) | refine r_if_ne_any (pc := 37) hX 19 (tgt := 51) rfl (by decide) ?_ ?_
    · refine r_iload_n (pc := 51) hX 26 rfl rfl ?_
      first | refine r_if_ne (pc := 52) hX 27 (tgt := 75) rfl (by decide) (⟨by omega, by omega⟩) (fun h52 => ?_) (fun h52 => ?_) | refine r_if_ne_any (pc := 52) hX 27 (tgt := 75) rfl (by decide) ?_ ?_
      · refine t_getR (q := (ρ t 6)) (pc := 75) hX 38 rfl rfl rfl fl_X11_61 rfl (hH_33.kd ht (by decide)) (rfl) ?_
        have hw75_ : ω (ρ t 6) = 27 := hH.rf ht (by decide) rfl
        refine t_getR (q := (ρ t 4)) (pc := 79) hX 40 rfl rfl rfl fl_X11_47 rfl (hH_33.kd ht (by decide)) (rfl) ?_
        refine r_callV (as := [(2, (ρ t 4))]) (st := []) (K := 3) (pc := 83) hX 42 rfl mo_X3_keep ml_X11_218 im_X3_keep se_X3_keep (c_X3_keepF g ω (up v24 (ρ t 0) 1 0) ρ Z hH_33 (ρ t 6) hw75_ (ρ t 4) hw17_ (hTr.1.vv ((show (up v24 (ρ t 0) 1 0) (ρ t 6) 1 = (v (ρ t 6) 1) from (up_r (rne hw75_ hw28_ (by decide))).trans ((hfr24.at hw75_ (by decide) 1).trans (rfl)))))) rfl rfl rfl (hH_33.kd hw75_ (by decide)) (by rw [hRm]; exact ⟨by decide, by decide⟩) (by rw [hRm]; exact ⟨by decide, by decide⟩) (Nat.le_of_ble_eq_true rfl) (fun o83 v83 ρv83 Zv83 hq83 _ => ?_)
        obtain ⟨rfl, hfr83, hfrR83, hH83, rfl, hq83⟩ := hq83
        show wp g X F_X11_log 0 0 86 [(2, t), (0, a), (0, r24)] [] v83 ρv83 Z
        refine r_aload_n (pc := 86) hX 43 rfl rfl ?_
        refine t_getR (q := (ρ t 4)) (pc := 87) hX 44 rfl rfl rfl fl_X11_47 rfl (hH83.kd ht (by decide)) ((hfrR83.at ht (by decide) 4).trans (rfl)) ?_
        have hw91_ : ω (ρ (ρ t 2) 1) = 16 := hH.rf hw13_ (by decide) rfl
        have hwf1_ : ω (ρ (ρ t 2) 2) = 17 := hH.rf hw13_ (by decide) rfl
        refine r_callV (as := [(2, (ρ t 4))]) (st := []) (K := 11) (pc := 91) hX 46 rfl mo_X11_liveLog ml_X11_370 im_X11_liveLog se_X11_liveLog (c_X11_liveLog g ω v83 ρv83 Z hH83 t ht (ρ t 4) hw17_ (by rw [show (ρv83 t 2) = (ρ t 2) from (hfrR83.at ht (by decide) 2).trans (rfl)]; rw [show (v83 (ρ t 2) 4) = (v24 (ρ t 2) 4) from (hfr83.at hw13_ (by decide) 4).trans ((up_k (by decide)).trans (rfl))]; rw [show (ρv83 (ρ t 2) 1) = (ρ (ρ t 2) 1) from (hfrR83.at hw13_ (by decide) 1).trans (rfl)]; rw [show (v83 (ρ (ρ t 2) 1)) = (v24 (ρ (ρ t 2) 1)) from (hfr83.rw hw91_ (by decide)).trans ((up_f (rne hw91_ hw28_ (by decide))).trans (rfl))]; rw [show (ρv83 (ρ t 2) 2) = (ρ (ρ t 2) 2) from (hfrR83.at hw13_ (by decide) 2).trans (rfl)]; rw [show (v83 (ρ (ρ t 2) 2)) = (v24 (ρ (ρ t 2) 2)) from (hfr83.rw hwf1_ (by decide)).trans ((up_f (rne hwf1_ hw28_ (by decide))).trans (rfl))]; exact (hlg24 (by omega)))) rfl rfl rfl (hH83.kd ht (by decide)) (by rw [hRm]; exact ⟨by decide, by decide⟩) (by rw [hRm]; exact ⟨by decide, by decide⟩) (Nat.le_of_ble_eq_true rfl) (fun o91 v91 ρv91 Zv91 hq91 _ => ?_)
        obtain ⟨rfl, rfl, hfr91, hH91, r91, rfl, hq91⟩ := hq91
        show wp g X F_X11_log 0 0 94 [(2, t), (0, a), (0, r24)] [(0, r91)] v91 ρv83 Z
        exact r_iret (pc := 94) hX 47 hQ rfl rfl (Nat.le_of_ble_eq_true rfl) (Nat.le_of_ble_eq_true rfl) ⟨rfl, ((((FrW.rf).tr hfr24 (by decide)).up (r := (ρ t 0)) hw28_ (by decide)).tr hfr83 (by decide)).tr hfr91 (by decide), (FrW.rf).tr hfrR83 (by decide), hH91, r91, rfl, (Or.inl ⟨by omega, by omega, (show v91 (ρ t 0) 1 = 0 from (hfr91.at hw28_ (by decide) 1).trans ((hfr83.at hw28_ (by decide) 1).trans (up_s _ _ _ _)))⟩), (TrP.keep hTr hw hq83 (hfr91.at hw.2.2.2.1 (by decide) 1))⟩
      · refine t_getR (q := (ρ t 5)) (pc := 55) hX 28 rfl rfl rfl fl_X11_55 rfl (hH_33.kd ht (by decide)) (rfl) ?_
        have hw55_ : ω (ρ t 5) = 66 := hH.rf ht (by decide) rfl
        refine t_getR (q := (ρ t 4)) (pc := 59) hX 30 rfl rfl rfl fl_X11_47 rfl (hH_33.kd ht (by decide)) (rfl) ?_
        refine r_callV (as := [(2, (ρ t 4))]) (st := []) (K := 9) (pc := 63) hX 32 rfl mo_X9_copyFrom ml_X11_364 im_X9_copyFrom se_X9_copyFrom (c_X9_copyFromFB g ω (up v24 (ρ t 0) 1 0) ρ Z hH_33 (ρ t 5) hw55_ (ρ t 4) hw17_ ) rfl rfl rfl (hH_33.kd hw55_ (by decide)) (by rw [hRm]; exact ⟨by decide, by decide⟩) (by rw [hRm]; exact ⟨by decide, by decide⟩) (Nat.le_of_ble_eq_true rfl) (fun o63 v63 ρv63 Zv63 hq63 _ => ?_)
        obtain ⟨rfl, hfr63, hfrR63, hH63, rfl, hq63⟩ := hq63
        show wp g X F_X11_log 0 0 66 [(2, t), (0, a), (0, r24)] [] v63 ρv63 Z
        refine r_aload_n (pc := 66) hX 33 rfl rfl ?_
        refine t_getR (q := (ρ t 5)) (pc := 67) hX 34 rfl rfl rfl fl_X11_55 rfl (hH63.kd ht (by decide)) ((hfrR63.at ht (by decide) 5).trans (rfl)) ?_
        have hw71_ : ω (ρ (ρ t 2) 1) = 16 := hH.rf hw13_ (by decide) rfl
        have hwf2_ : ω (ρ (ρ t 2) 2) = 17 := hH.rf hw13_ (by decide) rfl
        refine r_callV (as := [(2, (ρ t 5))]) (st := []) (K := 11) (pc := 71) hX 36 rfl mo_X11_liveLog ml_X11_370 im_X11_liveLog se_X11_liveLog (c_X11_liveLogB g ω v63 ρv63 Z hH63 t ht (ρ t 5) hw55_ (by rw [show (ρv63 t 2) = (ρ t 2) from (hfrR63.at ht (by decide) 2).trans (rfl)]; rw [show (v63 (ρ t 2) 4) = (v24 (ρ t 2) 4) from (hfr63.at hw13_ (by decide) 4).trans ((up_k (by decide)).trans (rfl))]; rw [show (ρv63 (ρ t 2) 1) = (ρ (ρ t 2) 1) from (hfrR63.at hw13_ (by decide) 1).trans (rfl)]; rw [show (v63 (ρ (ρ t 2) 1)) = (v24 (ρ (ρ t 2) 1)) from (hfr63.rw hw71_ (by decide)).trans ((up_f (rne hw71_ hw28_ (by decide))).trans (rfl))]; rw [show (ρv63 (ρ t 2) 2) = (ρ (ρ t 2) 2) from (hfrR63.at hw13_ (by decide) 2).trans (rfl)]; rw [show (v63 (ρ (ρ t 2) 2)) = (v24 (ρ (ρ t 2) 2)) from (hfr63.rw hwf2_ (by decide)).trans ((up_f (rne hwf2_ hw28_ (by decide))).trans (rfl))]; exact (hlg24 (by omega)))) rfl rfl rfl (hH63.kd ht (by decide)) (by rw [hRm]; exact ⟨by decide, by decide⟩) (by rw [hRm]; exact ⟨by decide, by decide⟩) (Nat.le_of_ble_eq_true rfl) (fun o71 v71 ρv71 Zv71 hq71 _ => ?_)
        obtain ⟨rfl, rfl, hfr71, hH71, r71, rfl, hq71⟩ := hq71
        show wp g X F_X11_log 0 0 74 [(2, t), (0, a), (0, r24)] [(0, r71)] v71 ρv63 Z
        exact r_iret (pc := 74) hX 37 hQ rfl rfl (Nat.le_of_ble_eq_true rfl) (Nat.le_of_ble_eq_true rfl) ⟨rfl, ((((FrW.rf).tr hfr24 (by decide)).up (r := (ρ t 0)) hw28_ (by decide)).tr hfr63 (by decide)).tr hfr71 (by decide), (FrW.rf).tr hfrR63 (by decide), hH71, r71, rfl, (Or.inl ⟨by omega, by omega, (show v71 (ρ t 0) 1 = 0 from (hfr71.at hw28_ (by decide) 1).trans ((hfr63.at hw28_ (by decide) 1).trans (up_s _ _ _ _)))⟩), (TrP.spare hTr hw h8.2 hq63.2 (Or.inr hq63.1) ((show v71 (ρ t 6) 1 = (v (ρ t 6) 1) from (hfr71.at (hH.rf ht (by decide) (show rfO 1 6 = some 27 from rfl)) (by decide) 1).trans ((hfr63.at (hH.rf ht (by decide) (show rfO 1 6 = some 27 from rfl)) (by decide) 1).trans ((up_r (rne (hH.rf ht (by decide) (show rfO 1 6 = some 27 from rfl)) hw28_ (by decide))).trans ((hfr24.at (hH.rf ht (by decide) (show rfO 1 6 = some 27 from rfl)) (by decide) 1).trans (rfl)))))))⟩
    · refine r_bipush (pc := 40) hX 20 rfl (by decide) ?_
      refine t_getR (q := (ρ t 0)) (pc := 42) hX 21 rfl rfl rfl fl_X11_12 rfl (hH_33.kd ht (by decide)) (rfl) ?_
      refine e_getI (y := (v24 (ρ t 0) 10)) (pc := 46) hX 23 rfl fl_X11_131 rfl (hH_33.kd hw28_ (by decide)) ((up_k (by decide)).trans (rfl)) ?_
      have hb46 : 0 ≤ (v24 (ρ t 0) 10) ∧ (v24 (ρ t 0) 10) ≤ 1000 := hH24.rg hw28_ (by decide) rfl
      refine r_isub (pc := 49) hX 24 rfl ?_
      exact r_iret (pc := 50) hX 25 hQ rfl rfl (Nat.le_of_ble_eq_true rfl) (Nat.le_of_ble_eq_true rfl) ⟨rfl, ((FrW.rf).tr hfr24 (by decide)).up (r := (ρ t 0)) hw28_ (by decide), FrW.rf, hH_33, ((-2) - (v24 (ρ t 0) 10)), rfl, (Or.inl ⟨by omega, by omega, (show (up v24 (ρ t 0) 1 0) (ρ t 0) 1 = 0 from up_s _ _ _ _)⟩), (TrP.spare hTr hw h8.2 (fun _ _ => rfl) (Or.inl rfl) ((show (up v24 (ρ t 0) 1 0) (ρ t 6) 1 = (v (ρ t 6) 1) from (up_r (rne (hH.rf ht (by decide) (show rfO 1 6 = some 27 from rfl)) hw28_ (by decide))).trans ((hfr24.at (hH.rf ht (by decide) (show rfO 1 6 = some 27 from rfl)) (by decide) 1).trans (rfl)))))⟩
  first | refine r_if_eq (pc := 1) hX 1 (tgt := 13) rfl (by decide) (⟨by omega, by omega⟩) (fun h1 => ?_) (fun h1 => ?_) | refine r_if_eq_any (pc := 1) hX 1 (tgt := 13) rfl (by decide) ?_ ?_
  · exact (L13  (by omega) )
  · refine r_iload_n (pc := 4) hX 2 rfl rfl ?_
    refine r_iconst (pc := 5) hX 3 rfl ?_
    first | refine r_icmp_eq (pc := 6) hX 4 (tgt := 13) rfl (by decide) (⟨by omega, by omega⟩) (⟨by omega, by omega⟩) (fun h6 => ?_) (fun h6 => ?_) | refine r_icmp_eq_any (pc := 6) hX 4 (tgt := 13) rfl (by decide) ?_ ?_
    · exact (L13  (by omega) )
    · refine r_sipush (pc := 9) hX 5 rfl (by decide) ?_
      exact r_iret (pc := 12) hX 6 hQ rfl rfl (Nat.le_of_ble_eq_true rfl) (Nat.le_of_ble_eq_true rfl) ⟨rfl, FrW.rf, FrW.rf, hH, (-1000), rfl, (Or.inr ⟨by omega, rfl⟩), (TrP.rf hTr)⟩
set_option maxHeartbeats 4000000 in
set_option maxRecDepth 100000 in
theorem c_X11_imageG (g : Gp) (ω : Rw) (v ρ : Mv) (Z : Mz) (hH : HT ω v ρ Z) (t : Int) (ht : ω t = 1) (k : Int) (hTr : TrI v ρ t) (hkr : inR k) : Ok g 3 0 0 F_X11_image [(2, t), (0, k)] v ρ Z (fun o9 v' ρ' Z' => Z = Z' ∧ FrW ω [62, 66, 67, 68, 69, 70] v v' ∧ FrW ω [61, 66] ρ ρ' ∧ HT ω v' ρ' Z ∧ ∃ r : Int, o9 = some (0, r) ∧ ((r = 1 ∧ 0 ≤ k ∧ k ≤ 1 ∨ r = 0 ∧ (k < 0 ∨ 1 < k))) ∧ ((r = 1 → v' (ρ t 13) k = 1)) ∧ ((∀ j, (r = 1 → j ≠ k) → v' (ρ t 13) j = v (ρ t 13) j)) ∧ (TrG ρ v' ρ' t k r)) := by
  refine Ok.of mo_X11_image (Nat.le_of_ble_eq_true rfl) ?_
  intro X hX hRm hxn hQ
  show wp g X F_X11_image 0 0 0 [(2, t), (0, k)] [] v ρ Z
  have hwT : ω (ρ t 4) = 22 := hH.rf ht (by decide) rfl
  have hwR : ω (ρ (ρ t 4) 0) = 5 := hH.rf hwT (by decide) rfl
  have hgR8 : 0 ≤ v (ρ (ρ t 4) 0) 8 ∧ v (ρ (ρ t 4) 0) 8 ≤ 4 := hH.rg hwR (by decide) rfl
  have hgR9 : 0 ≤ v (ρ (ρ t 4) 0) 9 ∧ v (ρ (ρ t 4) 0) 9 ≤ 3 := hH.rg hwR (by decide) rfl
  have hgR10 : 0 ≤ v (ρ (ρ t 4) 0) 10 ∧ v (ρ (ρ t 4) 0) 10 ≤ 3 := hH.rg hwR (by decide) rfl
  have hwX : ω (ρ t 0) = 2 := hH.rf ht (by decide) rfl
  have hgL : 0 ≤ v (ρ t 0) 1 ∧ v (ρ t 0) 1 ≤ 940 := hH.rg hwX (by decide) rfl
  have hw13 : ω (ρ t 13) = 62 := hH.rf ht (by decide) rfl
  have hw := TrW.of hH ht
  have h8 : 0 ≤ v (ρ t 6) 1 ∧ v (ρ t 6) 1 ≤ 8 := hH.rg hw.2.2.2.1 (by decide) rfl
  have hw61 : ω (ρ t 12) = 61 := hH.rf ht (by decide) rfl
  refine r_iload_n (pc := 0) hX 0 rfl rfl ?_
  have L9 : (k < 0 ∨ 1 < k) → wp g X F_X11_image 0 0 9 [(2, t), (0, k)] [] v ρ Z := by
    intro i9
    refine r_iconst (pc := 9) hX 5 rfl ?_
    exact r_zret (pc := 10) hX 6 hQ rfl rfl ⟨by omega, by omega⟩ (Nat.le_of_ble_eq_true rfl) (Nat.le_of_ble_eq_true rfl) ⟨rfl, FrW.rf, FrW.rf, hH, 0, rfl, (by omega), (fun e => by omega), (fun _ _ => rfl), (TrG.no hTr (by decide))⟩
  first | refine r_if_lt (pc := 1) hX 1 (tgt := 9) rfl (by decide) (⟨by omega, by omega⟩) (fun h1 => ?_) (fun h1 => ?_) | refine r_if_lt_any (pc := 1) hX 1 (tgt := 9) rfl (by decide) ?_ ?_
  · exact (L9  (by omega) )
  · refine r_iload_n (pc := 4) hX 2 rfl rfl ?_
    refine r_iconst (pc := 5) hX 3 rfl ?_
    first | refine r_icmp_lt (pc := 6) hX 4 (tgt := 11) rfl (by decide) (⟨by omega, by omega⟩) (⟨by omega, by omega⟩) (fun h6 => ?_) (fun h6 => ?_) | refine r_icmp_lt_any (pc := 6) hX 4 (tgt := 11) rfl (by decide) ?_ ?_
    · refine t_getR (q := (ρ t 11)) (pc := 11) hX 7 rfl rfl rfl fl_X11_91 rfl (hH.kd ht (by decide)) (rfl) ?_
      have hw11_ : ω (ρ t 11) = 60 := hH.rf ht (by decide) rfl
      refine r_iload_n (pc := 15) hX 9 rfl rfl ?_
      refine r_aald (q := (ρ (ρ t 11) k)) (pc := 16) hX 10 17 rfl (hH.kd hw11_ (by decide)) (by decide) (by decide) rfl rfl (by omega) (by rw [show Z.2.1 (ρ t 11) = 2 from (hH.ln hw11_ (by decide))]; omega) (rfl) ?_
      have hw16_ : ω (ρ (ρ t 11) k) = 66 := hH.rf hw11_ (by decide) (rf60 ⟨by omega, by omega⟩)
      refine t_getR (q := (ρ t 4)) (pc := 17) hX 11 rfl rfl rfl fl_X11_47 rfl (hH.kd ht (by decide)) (rfl) ?_
      have hw17_ : ω (ρ t 4) = 22 := hH.rf ht (by decide) rfl
      refine r_callV (as := [(2, (ρ t 4))]) (st := []) (K := 9) (pc := 21) hX 13 rfl mo_X9_copyFrom ml_X11_364 im_X9_copyFrom se_X9_copyFrom (c_X9_copyFromFB g ω v ρ Z hH (ρ (ρ t 11) k) hw16_ (ρ t 4) hw17_ ) rfl rfl rfl (hH.kd hw16_ (by decide)) (by rw [hRm]; exact ⟨by decide, by decide⟩) (by rw [hRm]; exact ⟨by decide, by decide⟩) (Nat.le_of_ble_eq_true rfl) (fun o21 v21 ρv21 Zv21 hq21 _ => ?_)
      obtain ⟨rfl, hfr21, hfrR21, hH21, rfl, hq21⟩ := hq21
      show wp g X F_X11_image 0 0 24 [(2, t), (0, k)] [] v21 ρv21 Z
      refine t_getR (q := (ρ t 12)) (pc := 24) hX 14 rfl rfl rfl fl_X11_97 rfl (hH21.kd ht (by decide)) ((hfrR21.at ht (by decide) 12).trans (rfl)) ?_
      have hw24_ : ω (ρ t 12) = 61 := hH.rf ht (by decide) rfl
      refine r_iload_n (pc := 28) hX 16 rfl rfl ?_
      refine t_getR (q := (ρ t 17)) (pc := 29) hX 17 rfl rfl rfl fl_X11_140 rfl (hH21.kd ht (by decide)) ((hfrR21.at ht (by decide) 17).trans (rfl)) ?_
      have hw29_ : (ρ t 17) < 0 ∨ ω (ρ t 17) = 19 := hH.rn ht (by decide) rfl
      refine r_aast (pc := 33) hX 19 18 6 rfl (hH21.kd hw24_ (by decide)) (by decide) (by decide) rfl rfl (hH21.g4 hw24_ (by decide)) (by omega) (by rw [show Z.2.1 (ρ t 12) = 2 from (hH21.ln hw24_ (by decide))]; omega) (hw29_.imp id (fun h => hH21.kd h (by decide))) ?_
      have hH_33 : HT ω v21 (up ρv21 (ρ t 12) k (ρ t 17)) Z := hH21.un hw24_ (rn61 ⟨by omega, by omega⟩) (hw29_) rfl
      refine t_getR (q := (ρ t 13)) (pc := 34) hX 20 rfl rfl rfl fl_X11_101 rfl (hH_33.kd ht (by decide)) ((up_r (rne ht hw24_ (by decide))).trans ((hfrR21.at ht (by decide) 13).trans (rfl))) ?_
      have hw34_ : ω (ρ t 13) = 62 := hH.rf ht (by decide) rfl
      refine r_iload_n (pc := 38) hX 22 rfl rfl ?_
      refine r_iconst (pc := 39) hX 23 rfl ?_
      refine e_zast (n := 2) (pc := 40) hX 24 rfl (hH_33.kd hw34_ (by decide)) (hH_33.ln hw34_ (by decide)) (hH_33.g4 hw34_ (by decide)) (by omega) (by omega) ⟨by omega, by omega⟩ ?_
      have hH_40 : HT ω (up v21 (ρ t 13) k 1) (up ρv21 (ρ t 12) k (ρ t 17)) Z := hH_33.up0 hw34_ (by decide) rfl
      refine r_iconst (pc := 41) hX 25 rfl ?_
      exact r_zret (pc := 42) hX 26 hQ rfl rfl ⟨by omega, by omega⟩ (Nat.le_of_ble_eq_true rfl) (Nat.le_of_ble_eq_true rfl) ⟨rfl, ((FrW.rf).tr hfr21 (by decide)).up (r := (ρ t 13)) hw34_ (by decide), ((FrW.rf).tr hfrR21 (by decide)).up (r := (ρ t 12)) hw24_ (by decide), hH_40, 1, rfl, (by omega), (fun _ => up_s _ _ _ _), (fun j hj => by rw [up_k (hj rfl), hfr21.at hw13 (by decide) j]), (TrG.yes hTr hw (by omega) h8.2 (fun r h1 h2 => (up_f (fun e => h2 (by rw [e]; exact hw61))).trans (hq21.2 r h1)) ((up_r (rne (hw.2.2.2.2.2.2.2 k (by omega) (by omega)) hw61 (by decide))).trans hq21.1) ((show (up v21 (ρ t 13) k 1) (ρ t 6) 1 = (v (ρ t 6) 1) from (up_r (rne (hH.rf ht (by decide) (show rfO 1 6 = some 27 from rfl)) hw34_ (by decide))).trans ((hfr21.at (hH.rf ht (by decide) (show rfO 1 6 = some 27 from rfl)) (by decide) 1).trans (rfl)))))⟩
    · exact (L9  (by omega) )
set_option maxHeartbeats 4000000 in
set_option maxRecDepth 100000 in
theorem c_X11_restoreG (g : Gp) (ω : Rw) (v ρ : Mv) (Z : Mz) (hH : HT ω v ρ Z) (t : Int) (ht : ω t = 1) (k : Int) (hTr : TrI v ρ t) (hkr : inR k) : Ok g 3 0 0 F_X11_restore [(2, t), (0, k)] v ρ Z (fun o9 v' ρ' Z' => Z = Z' ∧ FrW ω [22, 23, 24, 25, 26, 27] v v' ∧ FrW ω [1, 22] ρ ρ' ∧ HT ω v' ρ' Z ∧ ∃ r : Int, o9 = some (0, r) ∧ ((r = 1 ∧ 0 ≤ k ∧ k ≤ 1 ∧ v (ρ t 13) k ≠ 0 ∨ r = 0 ∧ (k < 0 ∨ 1 < k ∨ v (ρ t 13) k = 0))) ∧ (ρ' t 0 = ρ t 0 ∧ ρ' t 13 = ρ t 13) ∧ (ρ' t 1 = ρ t 1) ∧ (TrR ρ v' ρ' t k r)) := by
  refine Ok.of mo_X11_restore (Nat.le_of_ble_eq_true rfl) ?_
  intro X hX hRm hxn hQ
  show wp g X F_X11_restore 0 0 0 [(2, t), (0, k)] [] v ρ Z
  have hwT : ω (ρ t 4) = 22 := hH.rf ht (by decide) rfl
  have hwR : ω (ρ (ρ t 4) 0) = 5 := hH.rf hwT (by decide) rfl
  have hgR8 : 0 ≤ v (ρ (ρ t 4) 0) 8 ∧ v (ρ (ρ t 4) 0) 8 ≤ 4 := hH.rg hwR (by decide) rfl
  have hgR9 : 0 ≤ v (ρ (ρ t 4) 0) 9 ∧ v (ρ (ρ t 4) 0) 9 ≤ 3 := hH.rg hwR (by decide) rfl
  have hgR10 : 0 ≤ v (ρ (ρ t 4) 0) 10 ∧ v (ρ (ρ t 4) 0) 10 ≤ 3 := hH.rg hwR (by decide) rfl
  have hwX : ω (ρ t 0) = 2 := hH.rf ht (by decide) rfl
  have hgL : 0 ≤ v (ρ t 0) 1 ∧ v (ρ t 0) 1 ≤ 940 := hH.rg hwX (by decide) rfl
  have hw := TrW.of hH ht
  have h8 : 0 ≤ v (ρ t 6) 1 ∧ v (ρ t 6) 1 ≤ 8 := hH.rg hw.2.2.2.1 (by decide) rfl
  refine r_iload_n (pc := 0) hX 0 rfl rfl ?_
  have L18 : (k < 0 ∨ 1 < k ∨ v (ρ t 13) k = 0) → wp g X F_X11_restore 0 0 18 [(2, t), (0, k)] [] v ρ Z := by
    intro i18
    refine r_iconst (pc := 18) hX 10 rfl ?_
    exact r_zret (pc := 19) hX 11 hQ rfl rfl ⟨by omega, by omega⟩ (Nat.le_of_ble_eq_true rfl) (Nat.le_of_ble_eq_true rfl) ⟨rfl, FrW.rf, FrW.rf, hH, 0, rfl, (by omega), (⟨rfl, rfl⟩), (rfl), (TrR.no hTr (by decide))⟩
  first | refine r_if_lt (pc := 1) hX 1 (tgt := 18) rfl (by decide) (⟨by omega, by omega⟩) (fun h1 => ?_) (fun h1 => ?_) | refine r_if_lt_any (pc := 1) hX 1 (tgt := 18) rfl (by decide) ?_ ?_
  · exact (L18  (by omega) )
  · refine r_iload_n (pc := 4) hX 2 rfl rfl ?_
    refine r_iconst (pc := 5) hX 3 rfl ?_
    first | refine r_icmp_ge (pc := 6) hX 4 (tgt := 18) rfl (by decide) (⟨by omega, by omega⟩) (⟨by omega, by omega⟩) (fun h6 => ?_) (fun h6 => ?_) | refine r_icmp_ge_any (pc := 6) hX 4 (tgt := 18) rfl (by decide) ?_ ?_
    · exact (L18  (by omega) )
    · refine t_getR (q := (ρ t 13)) (pc := 9) hX 5 rfl rfl rfl fl_X11_101 rfl (hH.kd ht (by decide)) (rfl) ?_
      have hw9_ : ω (ρ t 13) = 62 := hH.rf ht (by decide) rfl
      refine r_iload_n (pc := 13) hX 7 rfl rfl ?_
      refine e_zald (y := (v (ρ t 13) k)) (n := 2) (pc := 14) hX 8 rfl (hH.kd hw9_ (by decide)) (hH.ln hw9_ (by decide)) (by omega) (by omega) (rfl) (fun hb14a hb14b => ?_)
      first | refine r_if_ne (pc := 15) hX 9 (tgt := 20) rfl (by decide) (⟨by omega, by omega⟩) (fun h15 => ?_) (fun h15 => ?_) | refine r_if_ne_any (pc := 15) hX 9 (tgt := 20) rfl (by decide) ?_ ?_
      · refine t_getR (q := (ρ t 4)) (pc := 20) hX 12 rfl rfl rfl fl_X11_47 rfl (hH.kd ht (by decide)) (rfl) ?_
        have hw20_ : ω (ρ t 4) = 22 := hH.rf ht (by decide) rfl
        refine t_getR (q := (ρ t 11)) (pc := 24) hX 14 rfl rfl rfl fl_X11_91 rfl (hH.kd ht (by decide)) (rfl) ?_
        have hw24_ : ω (ρ t 11) = 60 := hH.rf ht (by decide) rfl
        refine r_iload_n (pc := 28) hX 16 rfl rfl ?_
        refine r_aald (q := (ρ (ρ t 11) k)) (pc := 29) hX 17 17 rfl (hH.kd hw24_ (by decide)) (by decide) (by decide) rfl rfl (by omega) (by rw [show Z.2.1 (ρ t 11) = 2 from (hH.ln hw24_ (by decide))]; omega) (rfl) ?_
        have hw29_ : ω (ρ (ρ t 11) k) = 66 := hH.rf hw24_ (by decide) (rf60 ⟨by omega, by omega⟩)
        refine r_callV (as := [(2, (ρ (ρ t 11) k))]) (st := []) (K := 9) (pc := 30) hX 18 rfl mo_X9_copyFrom ml_X11_364 im_X9_copyFrom se_X9_copyFrom (c_X9_copyFromF g ω v ρ Z hH (ρ t 4) hw20_ (ρ (ρ t 11) k) hw29_ ) rfl rfl rfl (hH.kd hw20_ (by decide)) (by rw [hRm]; exact ⟨by decide, by decide⟩) (by rw [hRm]; exact ⟨by decide, by decide⟩) (Nat.le_of_ble_eq_true rfl) (fun o30 v30 ρv30 Zv30 hq30 _ => ?_)
        obtain ⟨rfl, hfr30, hfrR30, hH30, rfl, hq30⟩ := hq30
        show wp g X F_X11_restore 0 0 33 [(2, t), (0, k)] [] v30 ρv30 Z
        refine r_aload_n (pc := 33) hX 19 rfl rfl ?_
        refine t_getR (q := (ρ t 12)) (pc := 34) hX 20 rfl rfl rfl fl_X11_97 rfl (hH30.kd ht (by decide)) ((hfrR30.at ht (by decide) 12).trans (rfl)) ?_
        have hw34_ : ω (ρ t 12) = 61 := hH.rf ht (by decide) rfl
        refine r_iload_n (pc := 38) hX 22 rfl rfl ?_
        refine r_aald (q := (ρ (ρ t 12) k)) (pc := 39) hX 23 18 rfl (hH30.kd hw34_ (by decide)) (by decide) (by decide) rfl rfl (by omega) (by rw [show Z.2.1 (ρ t 12) = 2 from (hH30.ln hw34_ (by decide))]; omega) ((hfrR30.at hw34_ (by decide) k).trans (rfl)) ?_
        have hw39_ : (ρ (ρ t 12) k) < 0 ∨ ω (ρ (ρ t 12) k) = 19 := hH.rn hw34_ (by decide) (rn61 ⟨by omega, by omega⟩)
        refine r_putR (pc := 40) hX 24 rfl fl_X11_140 rfl (fun _ h => by cases h; rfl) (hH30.kd ht (by decide)) (hH30.g4 ht (by decide)) ?_
        have hH_40 : HT ω v30 (up ρv30 t 17 (ρ (ρ t 12) k)) Z := hH30.un ht rfl (hw39_) rfl
        show wp g X F_X11_restore 0 0 43 [(2, t), (0, k)] [] v30 (up ρv30 t 17 (ρ (ρ t 12) k)) Z
        refine t_getR (q := (ρ t 6)) (pc := 43) hX 25 rfl rfl rfl fl_X11_61 rfl (hH_40.kd ht (by decide)) ((up_k (by decide)).trans ((hfrR30.at ht (by decide) 6).trans (rfl))) ?_
        have hw43_ : ω (ρ t 6) = 27 := hH.rf ht (by decide) rfl
        refine r_callV (as := []) (st := []) (K := 3) (pc := 47) hX 27 rfl mo_X3_forget ml_X11_137 im_X3_forget se_X3_forget (c_X3_forgetF g ω v30 (up ρv30 t 17 (ρ (ρ t 12) k)) Z hH_40 (ρ t 6) hw43_ ) rfl rfl rfl (hH_40.kd hw43_ (by decide)) (by rw [hRm]; exact ⟨by decide, by decide⟩) (by rw [hRm]; exact ⟨by decide, by decide⟩) (Nat.le_of_ble_eq_true rfl) (fun o47 v47 ρv47 Zv47 hq47 _ => ?_)
        obtain ⟨rfl, rfl, hfr47, hH47, rfl, hq47⟩ := hq47
        show wp g X F_X11_restore 0 0 50 [(2, t), (0, k)] [] v47 (up ρv30 t 17 (ρ (ρ t 12) k)) Z
        refine r_iconst (pc := 50) hX 28 rfl ?_
        exact r_zret (pc := 51) hX 29 hQ rfl rfl ⟨by omega, by omega⟩ (Nat.le_of_ble_eq_true rfl) (Nat.le_of_ble_eq_true rfl) ⟨rfl, ((FrW.rf).tr hfr30 (by decide)).tr hfr47 (by decide), ((FrW.rf).tr hfrR30 (by decide)).up (r := t) ht (by decide), hH47, 1, rfl, (by omega), (⟨(up_k (by decide)).trans (hfrR30.at ht (by decide) 0), (up_k (by decide)).trans (hfrR30.at ht (by decide) 13)⟩), ((up_k (by decide)).trans (hfrR30.at ht (by decide) 1)), (TrR.yes hTr hw (fun r h1 h2 => (up_f h2).trans (hq30.2 r h1)) ⟨(up_k (by decide)).trans (congrFun (hq30.2 t (rne ht hw.2.1 (by decide))) 4), (up_k (by decide)).trans (congrFun (hq30.2 t (rne ht hw.2.1 (by decide))) 5), (up_k (by decide)).trans (congrFun (hq30.2 t (rne ht hw.2.1 (by decide))) 6), (up_k (by decide)).trans (congrFun (hq30.2 t (rne ht hw.2.1 (by decide))) 11)⟩ ((up_r (rne hw.2.1 ht (by decide))).trans hq30.1) (hq47))⟩
      · exact (L18  (by omega) )
