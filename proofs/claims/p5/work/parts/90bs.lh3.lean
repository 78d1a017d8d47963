def KLr : List Nat := [0, 1, 2, 62, 3, 4, 5, 6, 7, 8, 10, 12, 13, 15, 21, 22, 27, 28, 60, 66]
theorem KLr_n {c : Nat} {S : List Nat} (h : c ∈ KLr) (hd : ∀ x ∈ KLr, x ∉ S) : c ∉ S := hd c h
/-- what a helper of the law leaves -/
def LhQG (ω : Rw) (o : Int) (v ρ : Mv) (Z : Mz) : Option V2 → Mv → Mv → Mz → Prop := fun o9 v' ρ' Z' => Z = Z' ∧ (∀ q, (ω q ∈ KLr) → q ≠ o → v' q = v q) ∧ (∀ q, (ω q ∈ KLr) → ρ' q = ρ q) ∧ HT ω v' ρ' Z ∧ ∃ r : Int, o9 = some (0, r) ∧ 0 ≤ r ∧ r ≤ 1
set_option maxHeartbeats 4000000 in
set_option maxRecDepth 100000 in
theorem c_LG_player (g : Gp) (ω : Rw) (v ρ : Mv) (Z : Mz) (hH : HT ω v ρ Z) (t : Int) (ht : ω t = 1) (p w : Int) (o : Int) (ho0 : ω o = 0) (hok : Z.1 o = 14) (hol : Z.2.1 o = 1) (ho4 : 4 ≤ o) (hst : (gL g).stackTraces = false) (hz4 : 4 ≤ Z.2.2) (hpr : inR p) (hwr : inR w) : OkH g 4 2 12 F_L_player [(0, 10, 13, 13)] [(2, t), (0, p), (0, w), (2, o)] v ρ Z (LhQG ω o v ρ Z) := by
  refine OkH.of mo_L_player (Nat.le_of_ble_eq_true rfl) ?_
  intro X hX hRm hxn hQ hkt htab
  show wp g X F_L_player 0 0 0 [(2, t), (0, p), (0, w), (2, o), (3, 0)] [] v ρ Z
  refine r_aload_n (pc := 0) hX 0 rfl rfl ?_
  refine r_iconst (pc := 1) hX 1 rfl ?_
  refine r_aload_n (pc := 2) hX 2 rfl rfl ?_
  refine r_iload_n (pc := 3) hX 3 rfl rfl ?_
  refine r_iload_n (pc := 4) hX 4 rfl rfl ?_
  refine r_callVC (as := [(0, p), (0, w)]) (st := [(0, 0), (2, o)]) (K := 11) (pc := 5) hX 5 hkt htab (by decide) cl_L_13 cg_L_13 (i2 := 9) (l := 2) (Or.inl ⟨4, by decide, rfl, rfl⟩) rfl mo_X11_player ml_L_7 im_X11_player se_X11_player (c_X11_player g ω v ρ Z hH t ht p w hst hz4 hpr hwr) rfl rfl rfl (hH.kd ht (by decide)) (by rw [hRm]; exact ⟨Nat.le_of_ble_eq_true rfl, Nat.le_of_ble_eq_true rfl⟩) (by rw [hRm]; exact ⟨Nat.le_of_ble_eq_true rfl, Nat.le_of_ble_eq_true rfl⟩) (Nat.le_of_ble_eq_true rfl) (fun v1 ρ1 Z1 hq1 _ => ?_) (fun o1 v1 ρ1 Z1 hq1 _ => ?_)
  · obtain ⟨rfl, rfl, rfl⟩ := hq1
    show wp g X F_L_player 2 12 15 [] [] v ρ Z
    refine r_iconst (pc := 15) hX 10 rfl ?_
    exact wpH hQ (r_iret (X := rq g X _ 2 12) (pc := 16) hX 11 rfl rfl rfl (Nat.le_of_ble_eq_true rfl) (Nat.le_of_ble_eq_true rfl) ⟨rfl, fun q _ _ => rfl, fun q _ => rfl, hH, 1, rfl, by decide, by decide⟩)
  · obtain ⟨rfl, rfl, rfl, r1, rfl, _⟩ := hq1
    show wp g X F_L_player 2 12 8 [(2, t), (0, p), (0, w), (2, o), (3, 0)] [(0, r1), (0, 0), (2, o)] v ρ Z
    refine r_i2l_any (pc := 8) hX 6 rfl (fun z1 _ => ?_)
    refine e_last (n := 1) (pc := 9) hX 7 rfl hok hol ho4 (by decide) (by decide) ?_
    refine r_goto (pc := 10) (tgt := 17) hX 8 rfl (by decide) ?_
    refine r_iconst (pc := 17) hX 12 rfl ?_
    exact wpH hQ (r_iret (X := rq g X _ 2 12) (pc := 18) hX 13 rfl rfl rfl (Nat.le_of_ble_eq_true rfl) (Nat.le_of_ble_eq_true rfl) ⟨rfl, fun q _ hne => up_f hne, fun q _ => rfl, hH.uz ho0 ho4, 0, rfl, by decide, by decide⟩)
set_option maxHeartbeats 4000000 in
set_option maxRecDepth 100000 in
theorem c_LG_likely (g : Gp) (ω : Rw) (v ρ : Mv) (Z : Mz) (hH : HT ω v ρ Z) (t : Int) (ht : ω t = 1) (p w : Int) (o : Int) (ho0 : ω o = 0) (hok : Z.1 o = 14) (hol : Z.2.1 o = 1) (ho4 : 4 ≤ o) (hst : (gL g).stackTraces = false) (hz4 : 4 ≤ Z.2.2) (hpr : inR p) (hwr : inR w) : OkH g 7 2 12 F_L_likely [(0, 9, 12, 13)] [(2, t), (0, p), (0, w), (2, o)] v ρ Z (LhQG ω o v ρ Z) := by
  refine OkH.of mo_L_likely (Nat.le_of_ble_eq_true rfl) ?_
  intro X hX hRm hxn hQ hkt htab
  show wp g X F_L_likely 0 0 0 [(2, t), (0, p), (0, w), (2, o), (3, 0)] [] v ρ Z
  refine r_aload_n (pc := 0) hX 0 rfl rfl ?_
  refine r_iconst (pc := 1) hX 1 rfl ?_
  refine r_aload_n (pc := 2) hX 2 rfl rfl ?_
  refine r_iload_n (pc := 3) hX 3 rfl rfl ?_
  refine r_iload_n (pc := 4) hX 4 rfl rfl ?_
  refine r_callVC (as := [(0, p), (0, w)]) (st := [(0, 0), (2, o)]) (K := 11) (pc := 5) hX 5 hkt htab (by decide) cl_L_13 cg_L_13 (i2 := 8) (l := 2) (Or.inl ⟨4, by decide, rfl, rfl⟩) rfl mo_X11_likely ml_L_15 im_X11_likely se_X11_likely (c_X11_likely g ω v ρ Z hH t ht p w hst hz4 hpr hwr) rfl rfl rfl (hH.kd ht (by decide)) (by rw [hRm]; exact ⟨Nat.le_of_ble_eq_true rfl, Nat.le_of_ble_eq_true rfl⟩) (by rw [hRm]; exact ⟨Nat.le_of_ble_eq_true rfl, Nat.le_of_ble_eq_true rfl⟩) (Nat.le_of_ble_eq_true rfl) (fun v1 ρ1 Z1 hq1 _ => ?_) (fun o1 v1 ρ1 Z1 hq1 _ => ?_)
  · obtain ⟨rfl, hf1, hr1, hH1⟩ := hq1
    show wp g X F_L_likely 2 12 14 [] [] v1 ρ1 Z
    refine r_iconst (pc := 14) hX 9 rfl ?_
    exact wpH hQ (r_iret (X := rq g X _ 2 12) (pc := 15) hX 10 rfl rfl rfl (Nat.le_of_ble_eq_true rfl) (Nat.le_of_ble_eq_true rfl) ⟨rfl, fun q h0 _ => hf1 q (KLr_n h0 (by decide)), fun q h0 => hr1 q (KLr_n h0 (by decide)), hH1, 1, rfl, by decide, by decide⟩)
  · obtain ⟨rfl, hf1, hr1, hH1, r1, rfl, _⟩ := hq1
    show wp g X F_L_likely 2 12 8 [(2, t), (0, p), (0, w), (2, o), (3, 0)] [(1, r1), (0, 0), (2, o)] v1 ρ1 Z
    refine e_last (n := 1) (pc := 8) hX 6 rfl hok hol ho4 (by decide) (by decide) ?_
    refine r_goto (pc := 9) (tgt := 16) hX 7 rfl (by decide) ?_
    refine r_iconst (pc := 16) hX 11 rfl ?_
    exact wpH hQ (r_iret (X := rq g X _ 2 12) (pc := 17) hX 12 rfl rfl rfl (Nat.le_of_ble_eq_true rfl) (Nat.le_of_ble_eq_true rfl) ⟨rfl, fun q h0 hne => (up_f hne).trans (hf1 q (KLr_n h0 (by decide))), fun q h0 => hr1 q (KLr_n h0 (by decide)), hH1.uz ho0 ho4, 0, rfl, by decide, by decide⟩)
set_option maxHeartbeats 4000000 in
set_option maxRecDepth 100000 in
theorem c_LG_nobody (g : Gp) (ω : Rw) (v ρ : Mv) (Z : Mz) (hH : HT ω v ρ Z) (t : Int) (ht : ω t = 1) (w : Int) (o : Int) (ho0 : ω o = 0) (hok : Z.1 o = 14) (hol : Z.2.1 o = 1) (ho4 : 4 ≤ o) (hst : (gL g).stackTraces = false) (hz4 : 4 ≤ Z.2.2) (hwr : inR w) : OkH g 7 1 6 F_L_nobody [(0, 8, 11, 13)] [(2, t), (0, w), (2, o)] v ρ Z (LhQG ω o v ρ Z) := by
  refine OkH.of mo_L_nobody (Nat.le_of_ble_eq_true rfl) ?_
  intro X hX hRm hxn hQ hkt htab
  show wp g X F_L_nobody 0 0 0 [(2, t), (0, w), (2, o), (3, 0)] [] v ρ Z
  refine r_aload_n (pc := 0) hX 0 rfl rfl ?_
  refine r_iconst (pc := 1) hX 1 rfl ?_
  refine r_aload_n (pc := 2) hX 2 rfl rfl ?_
  refine r_iload_n (pc := 3) hX 3 rfl rfl ?_
  refine r_callVC (as := [(0, w)]) (st := [(0, 0), (2, o)]) (K := 11) (pc := 4) hX 4 hkt htab (by decide) cl_L_13 cg_L_13 (i2 := 7) (l := 1) (Or.inr ⟨3, by decide, rfl, rfl⟩) rfl mo_X11_nobody ml_L_19 im_X11_nobody se_X11_nobody (c_X11_nobody g ω v ρ Z hH t ht w hst hz4 hwr) rfl rfl rfl (hH.kd ht (by decide)) (by rw [hRm]; exact ⟨Nat.le_of_ble_eq_true rfl, Nat.le_of_ble_eq_true rfl⟩) (by rw [hRm]; exact ⟨Nat.le_of_ble_eq_true rfl, Nat.le_of_ble_eq_true rfl⟩) (Nat.le_of_ble_eq_true rfl) (fun v1 ρ1 Z1 hq1 _ => ?_) (fun o1 v1 ρ1 Z1 hq1 _ => ?_)
  · obtain ⟨rfl, hf1, hr1, hH1⟩ := hq1
    show wp g X F_L_nobody 1 6 12 [] [] v1 ρ1 Z
    refine r_iconst (pc := 12) hX 8 rfl ?_
    exact wpH hQ (r_iret (X := rq g X _ 1 6) (pc := 13) hX 9 rfl rfl rfl (Nat.le_of_ble_eq_true rfl) (Nat.le_of_ble_eq_true rfl) ⟨rfl, fun q h0 _ => hf1 q (KLr_n h0 (by decide)), fun q h0 => hr1 q (KLr_n h0 (by decide)), hH1, 1, rfl, by decide, by decide⟩)
  · obtain ⟨rfl, hf1, hr1, hH1, r1, rfl, _⟩ := hq1
    show wp g X F_L_nobody 1 6 7 [(2, t), (0, w), (2, o), (3, 0)] [(1, r1), (0, 0), (2, o)] v1 ρ1 Z
    refine e_last (n := 1) (pc := 7) hX 5 rfl hok hol ho4 (by decide) (by decide) ?_
    refine r_goto (pc := 8) (tgt := 14) hX 6 rfl (by decide) ?_
    refine r_iconst (pc := 14) hX 10 rfl ?_
    exact wpH hQ (r_iret (X := rq g X _ 1 6) (pc := 15) hX 11 rfl rfl rfl (Nat.le_of_ble_eq_true rfl) (Nat.le_of_ble_eq_true rfl) ⟨rfl, fun q h0 hne => (up_f hne).trans (hf1 q (KLr_n h0 (by decide))), fun q h0 => hr1 q (KLr_n h0 (by decide)), hH1.uz ho0 ho4, 0, rfl, by decide, by decide⟩)
set_option maxHeartbeats 4000000 in
set_option maxRecDepth 100000 in
theorem c_LG_where (g : Gp) (ω : Rw) (v ρ : Mv) (Z : Mz) (hH : HT ω v ρ Z) (t : Int) (ht : ω t = 1) (p w : Int) (o : Int) (ho0 : ω o = 0) (hok : Z.1 o = 14) (hol : Z.2.1 o = 1) (ho4 : 4 ≤ o) (hst : (gL g).stackTraces = false) (hz4 : 4 ≤ Z.2.2) (hpr : inR p) (hwr : inR w) : OkH g 5 2 12 F_L_where [(0, 9, 12, 13)] [(2, t), (0, p), (0, w), (2, o)] v ρ Z (LhQG ω o v ρ Z) := by
  refine OkH.of mo_L_where (Nat.le_of_ble_eq_true rfl) ?_
  intro X hX hRm hxn hQ hkt htab
  show wp g X F_L_where 0 0 0 [(2, t), (0, p), (0, w), (2, o), (3, 0)] [] v ρ Z
  refine r_aload_n (pc := 0) hX 0 rfl rfl ?_
  refine r_iconst (pc := 1) hX 1 rfl ?_
  refine r_aload_n (pc := 2) hX 2 rfl rfl ?_
  refine r_iload_n (pc := 3) hX 3 rfl rfl ?_
  refine r_iload_n (pc := 4) hX 4 rfl rfl ?_
  refine r_callVC (as := [(0, p), (0, w)]) (st := [(0, 0), (2, o)]) (K := 11) (pc := 5) hX 5 hkt htab (by decide) cl_L_13 cg_L_13 (i2 := 8) (l := 2) (Or.inl ⟨4, by decide, rfl, rfl⟩) rfl mo_X11_where ml_L_23 im_X11_where se_X11_where (c_X11_where g ω v ρ Z hH t ht p w hst hz4 hpr hwr) rfl rfl rfl (hH.kd ht (by decide)) (by rw [hRm]; exact ⟨Nat.le_of_ble_eq_true rfl, Nat.le_of_ble_eq_true rfl⟩) (by rw [hRm]; exact ⟨Nat.le_of_ble_eq_true rfl, Nat.le_of_ble_eq_true rfl⟩) (Nat.le_of_ble_eq_true rfl) (fun v1 ρ1 Z1 hq1 _ => ?_) (fun o1 v1 ρ1 Z1 hq1 _ => ?_)
  · obtain ⟨rfl, rfl, rfl⟩ := hq1
    show wp g X F_L_where 2 12 14 [] [] v ρ Z
    refine r_iconst (pc := 14) hX 9 rfl ?_
    exact wpH hQ (r_iret (X := rq g X _ 2 12) (pc := 15) hX 10 rfl rfl rfl (Nat.le_of_ble_eq_true rfl) (Nat.le_of_ble_eq_true rfl) ⟨rfl, fun q _ _ => rfl, fun q _ => rfl, hH, 1, rfl, by decide, by decide⟩)
  · obtain ⟨rfl, rfl, rfl, r1, rfl, _⟩ := hq1
    show wp g X F_L_where 2 12 8 [(2, t), (0, p), (0, w), (2, o), (3, 0)] [(1, r1), (0, 0), (2, o)] v ρ Z
    refine e_last (n := 1) (pc := 8) hX 6 rfl hok hol ho4 (by decide) (by decide) ?_
    refine r_goto (pc := 9) (tgt := 16) hX 7 rfl (by decide) ?_
    refine r_iconst (pc := 16) hX 11 rfl ?_
    exact wpH hQ (r_iret (X := rq g X _ 2 12) (pc := 17) hX 12 rfl rfl rfl (Nat.le_of_ble_eq_true rfl) (Nat.le_of_ble_eq_true rfl) ⟨rfl, fun q _ hne => up_f hne, fun q _ => rfl, hH.uz ho0 ho4, 0, rfl, by decide, by decide⟩)
set_option maxHeartbeats 4000000 in
set_option maxRecDepth 100000 in
theorem c_LG_next (g : Gp) (ω : Rw) (v ρ : Mv) (Z : Mz) (hH : HT ω v ρ Z) (t : Int) (ht : ω t = 1) (p w : Int) (o : Int) (ho0 : ω o = 0) (hok : Z.1 o = 14) (hol : Z.2.1 o = 1) (ho4 : 4 ≤ o) (hst : (gL g).stackTraces = false) (hz4 : 4 ≤ Z.2.2) (hpr : inR p) (hwr : inR w) : OkH g 5 2 12 F_L_next [(0, 9, 12, 13)] [(2, t), (0, p), (0, w), (2, o)] v ρ Z (LhQG ω o v ρ Z) := by
  refine OkH.of mo_L_next (Nat.le_of_ble_eq_true rfl) ?_
  intro X hX hRm hxn hQ hkt htab
  show wp g X F_L_next 0 0 0 [(2, t), (0, p), (0, w), (2, o), (3, 0)] [] v ρ Z
  refine r_aload_n (pc := 0) hX 0 rfl rfl ?_
  refine r_iconst (pc := 1) hX 1 rfl ?_
  refine r_aload_n (pc := 2) hX 2 rfl rfl ?_
  refine r_iload_n (pc := 3) hX 3 rfl rfl ?_
  refine r_iload_n (pc := 4) hX 4 rfl rfl ?_
  refine r_callVC (as := [(0, p), (0, w)]) (st := [(0, 0), (2, o)]) (K := 11) (pc := 5) hX 5 hkt htab (by decide) cl_L_13 cg_L_13 (i2 := 8) (l := 2) (Or.inl ⟨4, by decide, rfl, rfl⟩) rfl mo_X11_next ml_L_26 im_X11_next se_X11_next (c_X11_next g ω v ρ Z hH t ht p w hst hz4 hpr hwr) rfl rfl rfl (hH.kd ht (by decide)) (by rw [hRm]; exact ⟨Nat.le_of_ble_eq_true rfl, Nat.le_of_ble_eq_true rfl⟩) (by rw [hRm]; exact ⟨Nat.le_of_ble_eq_true rfl, Nat.le_of_ble_eq_true rfl⟩) (Nat.le_of_ble_eq_true rfl) (fun v1 ρ1 Z1 hq1 _ => ?_) (fun o1 v1 ρ1 Z1 hq1 _ => ?_)
  · obtain ⟨rfl, rfl, rfl⟩ := hq1
    show wp g X F_L_next 2 12 14 [] [] v ρ Z
    refine r_iconst (pc := 14) hX 9 rfl ?_
    exact wpH hQ (r_iret (X := rq g X _ 2 12) (pc := 15) hX 10 rfl rfl rfl (Nat.le_of_ble_eq_true rfl) (Nat.le_of_ble_eq_true rfl) ⟨rfl, fun q _ _ => rfl, fun q _ => rfl, hH, 1, rfl, by decide, by decide⟩)
  · obtain ⟨rfl, rfl, rfl, r1, rfl, _⟩ := hq1
    show wp g X F_L_next 2 12 8 [(2, t), (0, p), (0, w), (2, o), (3, 0)] [(1, r1), (0, 0), (2, o)] v ρ Z
    refine e_last (n := 1) (pc := 8) hX 6 rfl hok hol ho4 (by decide) (by decide) ?_
    refine r_goto (pc := 9) (tgt := 16) hX 7 rfl (by decide) ?_
    refine r_iconst (pc := 16) hX 11 rfl ?_
    exact wpH hQ (r_iret (X := rq g X _ 2 12) (pc := 17) hX 12 rfl rfl rfl (Nat.le_of_ble_eq_true rfl) (Nat.le_of_ble_eq_true rfl) ⟨rfl, fun q _ hne => up_f hne, fun q _ => rfl, hH.uz ho0 ho4, 0, rfl, by decide, by decide⟩)
set_option maxHeartbeats 4000000 in
set_option maxRecDepth 100000 in
theorem c_LG_left (g : Gp) (ω : Rw) (v ρ : Mv) (Z : Mz) (hH : HT ω v ρ Z) (t : Int) (ht : ω t = 1) (w : Int) (o : Int) (ho0 : ω o = 0) (hok : Z.1 o = 14) (hol : Z.2.1 o = 1) (ho4 : 4 ≤ o) (hst : (gL g).stackTraces = false) (hz4 : 4 ≤ Z.2.2) (hwr : inR w) : OkH g 7 1 6 F_L_left [(0, 8, 11, 13)] [(2, t), (0, w), (2, o)] v ρ Z (LhQG ω o v ρ Z) := by
  refine OkH.of mo_L_left (Nat.le_of_ble_eq_true rfl) ?_
  intro X hX hRm hxn hQ hkt htab
  show wp g X F_L_left 0 0 0 [(2, t), (0, w), (2, o), (3, 0)] [] v ρ Z
  refine r_aload_n (pc := 0) hX 0 rfl rfl ?_
  refine r_iconst (pc := 1) hX 1 rfl ?_
  refine r_aload_n (pc := 2) hX 2 rfl rfl ?_
  refine r_iload_n (pc := 3) hX 3 rfl rfl ?_
  refine r_callVC (as := [(0, w)]) (st := [(0, 0), (2, o)]) (K := 11) (pc := 4) hX 4 hkt htab (by decide) cl_L_13 cg_L_13 (i2 := 7) (l := 1) (Or.inr ⟨3, by decide, rfl, rfl⟩) rfl mo_X11_left ml_L_29 im_X11_left se_X11_left (c_X11_left g ω v ρ Z hH t ht w hst hz4 hwr) rfl rfl rfl (hH.kd ht (by decide)) (by rw [hRm]; exact ⟨Nat.le_of_ble_eq_true rfl, Nat.le_of_ble_eq_true rfl⟩) (by rw [hRm]; exact ⟨Nat.le_of_ble_eq_true rfl, Nat.le_of_ble_eq_true rfl⟩) (Nat.le_of_ble_eq_true rfl) (fun v1 ρ1 Z1 hq1 _ => ?_) (fun o1 v1 ρ1 Z1 hq1 _ => ?_)
  · obtain ⟨rfl, hf1, hr1, hH1⟩ := hq1
    show wp g X F_L_left 1 6 12 [] [] v1 ρ1 Z
    refine r_iconst (pc := 12) hX 8 rfl ?_
    exact wpH hQ (r_iret (X := rq g X _ 1 6) (pc := 13) hX 9 rfl rfl rfl (Nat.le_of_ble_eq_true rfl) (Nat.le_of_ble_eq_true rfl) ⟨rfl, fun q h0 _ => hf1 q (KLr_n h0 (by decide)), fun q h0 => hr1 q (KLr_n h0 (by decide)), hH1, 1, rfl, by decide, by decide⟩)
  · obtain ⟨rfl, hf1, hr1, hH1, r1, rfl, _⟩ := hq1
    show wp g X F_L_left 1 6 7 [(2, t), (0, w), (2, o), (3, 0)] [(1, r1), (0, 0), (2, o)] v1 ρ1 Z
    refine e_last (n := 1) (pc := 7) hX 5 rfl hok hol ho4 (by decide) (by decide) ?_
    refine r_goto (pc := 8) (tgt := 14) hX 6 rfl (by decide) ?_
    refine r_iconst (pc := 14) hX 10 rfl ?_
    exact wpH hQ (r_iret (X := rq g X _ 1 6) (pc := 15) hX 11 rfl rfl rfl (Nat.le_of_ble_eq_true rfl) (Nat.le_of_ble_eq_true rfl) ⟨rfl, fun q h0 hne => (up_f hne).trans (hf1 q (KLr_n h0 (by decide))), fun q h0 => hr1 q (KLr_n h0 (by decide)), hH1.uz ho0 ho4, 0, rfl, by decide, by decide⟩)
set_option maxHeartbeats 4000000 in
set_option maxRecDepth 100000 in
theorem c_LG_over (g : Gp) (ω : Rw) (v ρ : Mv) (Z : Mz) (hH : HT ω v ρ Z) (t : Int) (ht : ω t = 1) (p w : Int) (o : Int) (ho0 : ω o = 0) (hok : Z.1 o = 14) (hol : Z.2.1 o = 1) (ho4 : 4 ≤ o) (hst : (gL g).stackTraces = false) (hz4 : 4 ≤ Z.2.2) (hpr : inR p) (hwr : inR w) : OkH g 7 2 12 F_L_over [(0, 9, 12, 13)] [(2, t), (0, p), (0, w), (2, o)] v ρ Z (LhQG ω o v ρ Z) := by
  refine OkH.of mo_L_over (Nat.le_of_ble_eq_true rfl) ?_
  intro X hX hRm hxn hQ hkt htab
  show wp g X F_L_over 0 0 0 [(2, t), (0, p), (0, w), (2, o), (3, 0)] [] v ρ Z
  refine r_aload_n (pc := 0) hX 0 rfl rfl ?_
  refine r_iconst (pc := 1) hX 1 rfl ?_
  refine r_aload_n (pc := 2) hX 2 rfl rfl ?_
  refine r_iload_n (pc := 3) hX 3 rfl rfl ?_
  refine r_iload_n (pc := 4) hX 4 rfl rfl ?_
  refine r_callVC (as := [(0, p), (0, w)]) (st := [(0, 0), (2, o)]) (K := 11) (pc := 5) hX 5 hkt htab (by decide) cl_L_13 cg_L_13 (i2 := 8) (l := 2) (Or.inl ⟨4, by decide, rfl, rfl⟩) rfl mo_X11_over ml_L_32 im_X11_over se_X11_over (c_X11_over g ω v ρ Z hH t ht p w hst hz4 hpr hwr) rfl rfl rfl (hH.kd ht (by decide)) (by rw [hRm]; exact ⟨Nat.le_of_ble_eq_true rfl, Nat.le_of_ble_eq_true rfl⟩) (by rw [hRm]; exact ⟨Nat.le_of_ble_eq_true rfl, Nat.le_of_ble_eq_true rfl⟩) (Nat.le_of_ble_eq_true rfl) (fun v1 ρ1 Z1 hq1 _ => ?_) (fun o1 v1 ρ1 Z1 hq1 _ => ?_)
  · obtain ⟨rfl, hf1, hr1, hH1⟩ := hq1
    show wp g X F_L_over 2 12 14 [] [] v1 ρ1 Z
    refine r_iconst (pc := 14) hX 9 rfl ?_
    exact wpH hQ (r_iret (X := rq g X _ 2 12) (pc := 15) hX 10 rfl rfl rfl (Nat.le_of_ble_eq_true rfl) (Nat.le_of_ble_eq_true rfl) ⟨rfl, fun q h0 _ => hf1 q (KLr_n h0 (by decide)), fun q h0 => hr1 q (KLr_n h0 (by decide)), hH1, 1, rfl, by decide, by decide⟩)
  · obtain ⟨rfl, hf1, hr1, hH1, r1, rfl, _⟩ := hq1
    show wp g X F_L_over 2 12 8 [(2, t), (0, p), (0, w), (2, o), (3, 0)] [(1, r1), (0, 0), (2, o)] v1 ρ1 Z
    refine e_last (n := 1) (pc := 8) hX 6 rfl hok hol ho4 (by decide) (by decide) ?_
    refine r_goto (pc := 9) (tgt := 16) hX 7 rfl (by decide) ?_
    refine r_iconst (pc := 16) hX 11 rfl ?_
    exact wpH hQ (r_iret (X := rq g X _ 2 12) (pc := 17) hX 12 rfl rfl rfl (Nat.le_of_ble_eq_true rfl) (Nat.le_of_ble_eq_true rfl) ⟨rfl, fun q h0 hne => (up_f hne).trans (hf1 q (KLr_n h0 (by decide))), fun q h0 => hr1 q (KLr_n h0 (by decide)), hH1.uz ho0 ho4, 0, rfl, by decide, by decide⟩)
set_option maxHeartbeats 4000000 in
set_option maxRecDepth 100000 in
theorem c_LG_chance (g : Gp) (ω : Rw) (v ρ : Mv) (Z : Mz) (hH : HT ω v ρ Z) (t : Int) (ht : ω t = 1) (p w : Int) (o : Int) (ho0 : ω o = 0) (hok : Z.1 o = 14) (hol : Z.2.1 o = 1) (ho4 : 4 ≤ o) (hst : (gL g).stackTraces = false) (hz4 : 4 ≤ Z.2.2) (hpr : inR p) (hwr : inR w) : OkH g 12 2 12 F_L_chance [(0, 9, 12, 13)] [(2, t), (0, p), (0, w), (2, o)] v ρ Z (LhQG ω o v ρ Z) := by
  refine OkH.of mo_L_chance (Nat.le_of_ble_eq_true rfl) ?_
  intro X hX hRm hxn hQ hkt htab
  show wp g X F_L_chance 0 0 0 [(2, t), (0, p), (0, w), (2, o), (3, 0)] [] v ρ Z
  refine r_aload_n (pc := 0) hX 0 rfl rfl ?_
  refine r_iconst (pc := 1) hX 1 rfl ?_
  refine r_aload_n (pc := 2) hX 2 rfl rfl ?_
  refine r_iload_n (pc := 3) hX 3 rfl rfl ?_
  refine r_iload_n (pc := 4) hX 4 rfl rfl ?_
  refine r_callVC (as := [(0, p), (0, w)]) (st := [(0, 0), (2, o)]) (K := 11) (pc := 5) hX 5 hkt htab (by decide) cl_L_13 cg_L_13 (i2 := 8) (l := 2) (Or.inl ⟨4, by decide, rfl, rfl⟩) rfl mo_X11_chance ml_L_35 im_X11_chance se_X11_chance (c_X11_chance g ω v ρ Z hH t ht p w hst hz4 hpr hwr) rfl rfl rfl (hH.kd ht (by decide)) (by rw [hRm]; exact ⟨Nat.le_of_ble_eq_true rfl, Nat.le_of_ble_eq_true rfl⟩) (by rw [hRm]; exact ⟨Nat.le_of_ble_eq_true rfl, Nat.le_of_ble_eq_true rfl⟩) (Nat.le_of_ble_eq_true rfl) (fun v1 ρ1 Z1 hq1 _ => ?_) (fun o1 v1 ρ1 Z1 hq1 _ => ?_)
  · obtain ⟨rfl, hf1, hr1, hH1⟩ := hq1
    show wp g X F_L_chance 2 12 14 [] [] v1 ρ1 Z
    refine r_iconst (pc := 14) hX 9 rfl ?_
    exact wpH hQ (r_iret (X := rq g X _ 2 12) (pc := 15) hX 10 rfl rfl rfl (Nat.le_of_ble_eq_true rfl) (Nat.le_of_ble_eq_true rfl) ⟨rfl, fun q h0 _ => hf1 q (KLr_n h0 (by decide)), fun q h0 => hr1 q (KLr_n h0 (by decide)), hH1, 1, rfl, by decide, by decide⟩)
  · obtain ⟨rfl, hf1, hr1, hH1, r1, rfl, _⟩ := hq1
    show wp g X F_L_chance 2 12 8 [(2, t), (0, p), (0, w), (2, o), (3, 0)] [(1, r1), (0, 0), (2, o)] v1 ρ1 Z
    refine e_last (n := 1) (pc := 8) hX 6 rfl hok hol ho4 (by decide) (by decide) ?_
    refine r_goto (pc := 9) (tgt := 16) hX 7 rfl (by decide) ?_
    refine r_iconst (pc := 16) hX 11 rfl ?_
    exact wpH hQ (r_iret (X := rq g X _ 2 12) (pc := 17) hX 12 rfl rfl rfl (Nat.le_of_ble_eq_true rfl) (Nat.le_of_ble_eq_true rfl) ⟨rfl, fun q h0 hne => (up_f hne).trans (hf1 q (KLr_n h0 (by decide))), fun q h0 => hr1 q (KLr_n h0 (by decide)), hH1.uz ho0 ho4, 0, rfl, by decide, by decide⟩)
set_option maxHeartbeats 4000000 in
set_option maxRecDepth 100000 in
theorem c_LG_right (g : Gp) (ω : Rw) (v ρ : Mv) (Z : Mz) (hH : HT ω v ρ Z) (t : Int) (ht : ω t = 1) (p w : Int) (o : Int) (ho0 : ω o = 0) (hok : Z.1 o = 14) (hol : Z.2.1 o = 1) (ho4 : 4 ≤ o) (hst : (gL g).stackTraces = false) (hz4 : 4 ≤ Z.2.2) (hpr : inR p) (hwr : inR w) : OkH g 8 4 24 F_L_right [(0, 9, 12, 13)] [(2, t), (0, p), (0, w), (2, o)] v ρ Z (LhQG ω o v ρ Z) := by
  refine OkH.of mo_L_right (Nat.le_of_ble_eq_true rfl) ?_
  intro X hX hRm hxn hQ hkt htab
  show wp g X F_L_right 0 0 0 [(2, t), (0, p), (0, w), (2, o), (3, 0)] [] v ρ Z
  refine r_aload_n (pc := 0) hX 0 rfl rfl ?_
  refine r_iconst (pc := 1) hX 1 rfl ?_
  refine r_aload_n (pc := 2) hX 2 rfl rfl ?_
  refine r_iload_n (pc := 3) hX 3 rfl rfl ?_
  refine r_iload_n (pc := 4) hX 4 rfl rfl ?_
  refine r_callVC (as := [(0, p), (0, w)]) (st := [(0, 0), (2, o)]) (K := 11) (pc := 5) hX 5 hkt htab (by decide) cl_L_13 cg_L_13 (i2 := 8) (l := 2) (Or.inl ⟨4, by decide, rfl, rfl⟩) rfl mo_X11_right ml_L_38 im_X11_right se_X11_right (c_X11_right g ω v ρ Z hH t ht p w hst hz4 hpr hwr) rfl rfl rfl (hH.kd ht (by decide)) (by rw [hRm]; exact ⟨Nat.le_of_ble_eq_true rfl, Nat.le_of_ble_eq_true rfl⟩) (by rw [hRm]; exact ⟨Nat.le_of_ble_eq_true rfl, Nat.le_of_ble_eq_true rfl⟩) (Nat.le_of_ble_eq_true rfl) (fun v1 ρ1 Z1 hq1 _ => ?_) (fun o1 v1 ρ1 Z1 hq1 _ => ?_)
  · obtain ⟨rfl, hf1, hr1, hH1⟩ := hq1
    show wp g X F_L_right 4 24 14 [] [] v1 ρ1 Z
    refine r_iconst (pc := 14) hX 9 rfl ?_
    exact wpH hQ (r_iret (X := rq g X _ 4 24) (pc := 15) hX 10 rfl rfl rfl (Nat.le_of_ble_eq_true rfl) (Nat.le_of_ble_eq_true rfl) ⟨rfl, fun q h0 _ => hf1 q (KLr_n h0 (by decide)), fun q h0 => hr1 q (KLr_n h0 (by decide)), hH1, 1, rfl, by decide, by decide⟩)
  · obtain ⟨rfl, hf1, hr1, hH1, r1, rfl, _⟩ := hq1
    show wp g X F_L_right 4 24 8 [(2, t), (0, p), (0, w), (2, o), (3, 0)] [(1, r1), (0, 0), (2, o)] v1 ρ1 Z
    refine e_last (n := 1) (pc := 8) hX 6 rfl hok hol ho4 (by decide) (by decide) ?_
    refine r_goto (pc := 9) (tgt := 16) hX 7 rfl (by decide) ?_
    refine r_iconst (pc := 16) hX 11 rfl ?_
    exact wpH hQ (r_iret (X := rq g X _ 4 24) (pc := 17) hX 12 rfl rfl rfl (Nat.le_of_ble_eq_true rfl) (Nat.le_of_ble_eq_true rfl) ⟨rfl, fun q h0 hne => (up_f hne).trans (hf1 q (KLr_n h0 (by decide))), fun q h0 => hr1 q (KLr_n h0 (by decide)), hH1.uz ho0 ho4, 0, rfl, by decide, by decide⟩)
set_option maxHeartbeats 4000000 in
set_option maxRecDepth 100000 in
theorem c_LG_also (g : Gp) (ω : Rw) (v ρ : Mv) (Z : Mz) (hH : HT ω v ρ Z) (t : Int) (ht : ω t = 1) (p c w : Int) (o : Int) (ho0 : ω o = 0) (hok : Z.1 o = 14) (hol : Z.2.1 o = 1) (ho4 : 4 ≤ o) (hst : (gL g).stackTraces = false) (hz4 : 4 ≤ Z.2.2) (hpr : inR p) (hcr : inR c) (hwr : inR w) : OkH g 7 3 18 F_L_also [(0, 11, 14, 13)] [(2, t), (0, p), (0, c), (0, w), (2, o)] v ρ Z (LhQG ω o v ρ Z) := by
  refine OkH.of mo_L_also (Nat.le_of_ble_eq_true rfl) ?_
  intro X hX hRm hxn hQ hkt htab
  show wp g X F_L_also 0 0 0 [(2, t), (0, p), (0, c), (0, w), (2, o), (3, 0)] [] v ρ Z
  refine r_aload (pc := 0) hX 0 rfl rfl ?_
  refine r_iconst (pc := 2) hX 1 rfl ?_
  refine r_aload_n (pc := 3) hX 2 rfl rfl ?_
  refine r_iload_n (pc := 4) hX 3 rfl rfl ?_
  refine r_iload_n (pc := 5) hX 4 rfl rfl ?_
  refine r_iload_n (pc := 6) hX 5 rfl rfl ?_
  refine r_callVC (as := [(0, p), (0, c), (0, w)]) (st := [(0, 0), (2, o)]) (K := 11) (pc := 7) hX 6 hkt htab (by decide) cl_L_13 cg_L_13 (i2 := 9) (l := 2) (Or.inl ⟨5, by decide, rfl, rfl⟩) rfl mo_X11_also ml_L_41 im_X11_also se_X11_also (c_X11_also g ω v ρ Z hH t ht p c w hst hz4 hpr hcr hwr) rfl rfl rfl (hH.kd ht (by decide)) (by rw [hRm]; exact ⟨Nat.le_of_ble_eq_true rfl, Nat.le_of_ble_eq_true rfl⟩) (by rw [hRm]; exact ⟨Nat.le_of_ble_eq_true rfl, Nat.le_of_ble_eq_true rfl⟩) (Nat.le_of_ble_eq_true rfl) (fun v1 ρ1 Z1 hq1 _ => ?_) (fun o1 v1 ρ1 Z1 hq1 _ => ?_)
  · obtain ⟨rfl, hf1, hr1, hH1⟩ := hq1
    show wp g X F_L_also 3 18 16 [] [] v1 ρ1 Z
    refine r_iconst (pc := 16) hX 10 rfl ?_
    exact wpH hQ (r_iret (X := rq g X _ 3 18) (pc := 17) hX 11 rfl rfl rfl (Nat.le_of_ble_eq_true rfl) (Nat.le_of_ble_eq_true rfl) ⟨rfl, fun q h0 _ => hf1 q (KLr_n h0 (by decide)), fun q h0 => hr1 q (KLr_n h0 (by decide)), hH1, 1, rfl, by decide, by decide⟩)
  · obtain ⟨rfl, hf1, hr1, hH1, r1, rfl, _⟩ := hq1
    show wp g X F_L_also 3 18 10 [(2, t), (0, p), (0, c), (0, w), (2, o), (3, 0)] [(1, r1), (0, 0), (2, o)] v1 ρ1 Z
    refine e_last (n := 1) (pc := 10) hX 7 rfl hok hol ho4 (by decide) (by decide) ?_
    refine r_goto (pc := 11) (tgt := 18) hX 8 rfl (by decide) ?_
    refine r_iconst (pc := 18) hX 12 rfl ?_
    exact wpH hQ (r_iret (X := rq g X _ 3 18) (pc := 19) hX 13 rfl rfl rfl (Nat.le_of_ble_eq_true rfl) (Nat.le_of_ble_eq_true rfl) ⟨rfl, fun q h0 hne => (up_f hne).trans (hf1 q (KLr_n h0 (by decide))), fun q h0 => hr1 q (KLr_n h0 (by decide)), hH1.uz ho0 ho4, 0, rfl, by decide, by decide⟩)
set_option maxHeartbeats 4000000 in
set_option maxRecDepth 100000 in
theorem c_LG_luck (g : Gp) (ω : Rw) (v ρ : Mv) (Z : Mz) (hH : HT ω v ρ Z) (t : Int) (ht : ω t = 1) (w : Int) (o : Int) (ho0 : ω o = 0) (hok : Z.1 o = 14) (hol : Z.2.1 o = 1) (ho4 : 4 ≤ o) (hst : (gL g).stackTraces = false) (hz4 : 4 ≤ Z.2.2) (hwr : inR w) : OkH g 5 1 6 F_L_luck [(0, 8, 11, 13)] [(2, t), (0, w), (2, o)] v ρ Z (LhQG ω o v ρ Z) := by
  refine OkH.of mo_L_luck (Nat.le_of_ble_eq_true rfl) ?_
  intro X hX hRm hxn hQ hkt htab
  show wp g X F_L_luck 0 0 0 [(2, t), (0, w), (2, o), (3, 0)] [] v ρ Z
  refine r_aload_n (pc := 0) hX 0 rfl rfl ?_
  refine r_iconst (pc := 1) hX 1 rfl ?_
  refine r_aload_n (pc := 2) hX 2 rfl rfl ?_
  refine r_iload_n (pc := 3) hX 3 rfl rfl ?_
  refine r_callVC (as := [(0, w)]) (st := [(0, 0), (2, o)]) (K := 11) (pc := 4) hX 4 hkt htab (by decide) cl_L_13 cg_L_13 (i2 := 7) (l := 1) (Or.inr ⟨3, by decide, rfl, rfl⟩) rfl mo_X11_luck ml_L_45 im_X11_luck se_X11_luck (c_X11_luck g ω v ρ Z hH t ht w hst hz4 hwr) rfl rfl rfl (hH.kd ht (by decide)) (by rw [hRm]; exact ⟨Nat.le_of_ble_eq_true rfl, Nat.le_of_ble_eq_true rfl⟩) (by rw [hRm]; exact ⟨Nat.le_of_ble_eq_true rfl, Nat.le_of_ble_eq_true rfl⟩) (Nat.le_of_ble_eq_true rfl) (fun v1 ρ1 Z1 hq1 _ => ?_) (fun o1 v1 ρ1 Z1 hq1 _ => ?_)
  · obtain ⟨rfl, rfl, rfl⟩ := hq1
    show wp g X F_L_luck 1 6 12 [] [] v ρ Z
    refine r_iconst (pc := 12) hX 8 rfl ?_
    exact wpH hQ (r_iret (X := rq g X _ 1 6) (pc := 13) hX 9 rfl rfl rfl (Nat.le_of_ble_eq_true rfl) (Nat.le_of_ble_eq_true rfl) ⟨rfl, fun q _ _ => rfl, fun q _ => rfl, hH, 1, rfl, by decide, by decide⟩)
  · obtain ⟨rfl, rfl, rfl, r1, rfl, _⟩ := hq1
    show wp g X F_L_luck 1 6 7 [(2, t), (0, w), (2, o), (3, 0)] [(1, r1), (0, 0), (2, o)] v ρ Z
    refine e_last (n := 1) (pc := 7) hX 5 rfl hok hol ho4 (by decide) (by decide) ?_
    refine r_goto (pc := 8) (tgt := 14) hX 6 rfl (by decide) ?_
    refine r_iconst (pc := 14) hX 10 rfl ?_
    exact wpH hQ (r_iret (X := rq g X _ 1 6) (pc := 15) hX 11 rfl rfl rfl (Nat.le_of_ble_eq_true rfl) (Nat.le_of_ble_eq_true rfl) ⟨rfl, fun q _ hne => up_f hne, fun q _ => rfl, hH.uz ho0 ho4, 0, rfl, by decide, by decide⟩)
