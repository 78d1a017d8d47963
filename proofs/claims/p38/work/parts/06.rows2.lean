section RowsB
variable {g : Gp} {X : Cx} {F : Fm} {cells slots pc : Nat} {ls st : List V2} {v ρ : Mv} {Z : Mz}
def st0 (ls : List V2) (i : Nat) : List V2 := if (ls.getD (i - 1) (3, 0)).1 = 1 ∧ 1 ≤ i then ls.set (i - 1) (3, 0) else ls
def st1 (ls : List V2) (i : Nat) (x : V2) : List V2 := (st0 ls i).set i x
def st2 (ls : List V2) (i : Nat) (x : V2) : List V2 := ((st0 ls i).set i x).set (i + 1) (3, 0)
theorem mem_lpr {ad : Int → Nat} {ls : List V2} {q : Nat × Value} (h : q ∈ lpr ad ls) : ∃ y : V2, ls[q.1]? = some y ∧ y.1 ≠ 3 ∧ q.2 = tr ad y := by
  obtain ⟨z, hz, rfl⟩ := List.mem_map.mp h
  obtain ⟨h1, h2⟩ := List.mem_filter.mp hz
  exact ⟨z.1, List.mem_zipIdx_iff_getElem?.mp h1, by simpa using h2, rfl⟩
theorem lpr_mem {ad : Int → Nat} {ls : List V2} {k : Nat} {y : V2} (h : ls[k]? = some y) (h3 : y.1 ≠ 3) : (k, tr ad y) ∈ lpr ad ls := List.mem_map.mpr ⟨(y, k), List.mem_filter.mpr ⟨List.mem_zipIdx_iff_getElem?.mpr h, by simpa using h3⟩, rfl⟩
theorem st0_at {ls : List V2} {i k : Nat} {y : V2} (h : (st0 ls i)[k]? = some y) (h3 : y.1 ≠ 3) : ls[k]? = some y ∧ ¬ (k + 1 = i ∧ y.1 = 1) := by
  unfold st0 at h
  by_cases c : (ls.getD (i - 1) (3, 0)).1 = 1 ∧ 1 ≤ i
  · rw [if_pos c] at h
    by_cases hk : i - 1 = k
    · subst hk
      rw [List.getElem?_set] at h
      simp only [if_true] at h
      split at h
      · cases h; exact absurd rfl h3
      · cases h
    · rw [List.getElem?_set_ne hk] at h
      exact ⟨h, fun q => hk (by omega)⟩
  · rw [if_neg c] at h
    refine ⟨h, fun q => c ⟨?_, by omega⟩⟩
    rw [show i - 1 = k by omega, List.getD_eq_getElem?_getD, h]
    exact q.2
theorem cat2 {ad : Int → Nat} {y : V2} (h : (tr ad y).category = 2) : y.1 = 1 := Classical.byContradiction fun q => by rw [cat_i q] at h; cases h
theorem lvr_st1 {ad : Int → Nat} {la : Array Slot} {nL i : Nat} {ls : List V2} {x : V2} (h : lv_has la nL ((i, tr ad x) :: (lpr ad ls).filter (fun q => !(q.1 == i) && !(q.1 + 1 == i && q.2.category == 2)))) : lvr ad la nL (st1 ls i x) := by
  refine ⟨h.1, h.2.1, fun q hq => ?_⟩
  obtain ⟨y, h1, h3, h4⟩ := mem_lpr hq
  obtain ⟨k, qv⟩ := q
  simp only at h1 h4
  subst h4
  unfold st1 at h1
  by_cases hk : i = k
  · subst hk
    rw [List.getElem?_set] at h1
    simp only [if_true] at h1
    split at h1
    · cases h1
      exact h.2.2 _ List.mem_cons_self
    · cases h1
  · rw [List.getElem?_set_ne hk] at h1
    obtain ⟨h5, h6⟩ := st0_at h1 h3
    refine h.2.2 _ (List.mem_cons_of_mem _ (List.mem_filter.mpr ⟨lpr_mem h5 h3, ?_⟩))
    have e1 : (k == i) = false := by simpa using Ne.symm hk
    have e2 : (k + 1 == i && (tr ad y).category == 2) = false := by
      rw [Bool.and_eq_false_iff]
      by_cases c : k + 1 = i
      · right
        have := fun z => h6 ⟨c, cat2 (ad := ad) z⟩
        simpa using this
      · left; simpa using c
    simp [e1, e2]
theorem lvr_st2 {ad : Int → Nat} {la : Array Slot} {nL i : Nat} {ls : List V2} {x : V2} (h : lv_has la nL ((i, tr ad x) :: (lpr ad ls).filter (fun q => !(q.1 == i) && (!(q.1 == i + 1) && !(q.1 + 1 == i && q.2.category == 2))))) : lvr ad la nL (st2 ls i x) := by
  refine ⟨h.1, h.2.1, fun q hq => ?_⟩
  obtain ⟨y, h1, h3, h4⟩ := mem_lpr hq
  obtain ⟨k, qv⟩ := q
  simp only at h1 h4
  subst h4
  unfold st2 at h1
  by_cases hk2 : i + 1 = k
  · subst hk2
    rw [List.getElem?_set] at h1
    simp only [if_true] at h1
    split at h1
    · cases h1; exact absurd rfl h3
    · cases h1
  rw [List.getElem?_set_ne hk2] at h1
  by_cases hk : i = k
  · subst hk
    rw [List.getElem?_set] at h1
    simp only [if_true] at h1
    split at h1
    · cases h1
      exact h.2.2 _ List.mem_cons_self
    · cases h1
  · rw [List.getElem?_set_ne hk] at h1
    obtain ⟨h5, h6⟩ := st0_at h1 h3
    refine h.2.2 _ (List.mem_cons_of_mem _ (List.mem_filter.mpr ⟨lpr_mem h5 h3, ?_⟩))
    have e1 : (k == i) = false := by simpa using Ne.symm hk
    have e3 : (k == i + 1) = false := by simpa using Ne.symm hk2
    have e2 : (k + 1 == i && (tr ad y).category == 2) = false := by
      rw [Bool.and_eq_false_iff]
      by_cases c : k + 1 = i
      · right
        have := fun z => h6 ⟨c, cat2 (ad := ad) z⟩
        simpa using this
      · left; simpa using c
    simp [e1, e2, e3]
theorem scop_st0 {Z : Mz} {ls : List V2} (h : scop Z ls) (i : Nat) : scop Z (st0 ls i) := by
  unfold st0
  split
  · exact scop_set h (fun q => by cases q)
  · exact h
theorem scop_st1 {Z : Mz} {ls : List V2} (h : scop Z ls) (i : Nat) {x : V2} (hx : x.1 = 2 → x.2 < Z.2.2) : scop Z (st1 ls i x) := scop_set (scop_st0 h i) hx
theorem scop_st2 {Z : Mz} {ls : List V2} (h : scop Z ls) (i : Nat) {x : V2} (hx : x.1 = 2 → x.2 < Z.2.2) : scop Z (st2 ls i x) := scop_set (scop_set (scop_st0 h i) hx) (fun q => by cases q)
theorem r_istore_n (hX : okX g X F) (i : Nat) {k : Fin 4} {x : Int} {ls' : List V2} (hf : (fprg F)[i]? = some (pc, .istore_n k, 1)) (hn : (k : Nat) < fnl F) (hl : st1 ls (k : Nat) (0, x) = ls') (k : wp g X F cells slots (pc + 1) ls' st v ρ Z) : wp g X F cells slots pc ls ((0, x) :: st) v ρ Z := by
  subst hl
  intro ad H locs la hR h1 h2 hq hv
  exact lv_istore_n hX.1 hX.2.1 (hX.dec hf) rfl hv hn rfl (fun la' h' => k ad H locs la' hR (scop_c h1) (scop_st1 h2 _ (fun q => by cases q)) hq (lvr_st1 (x := (0, x)) h'))
theorem r_istore (hX : okX g X F) (i : Nat) {k : Nat} {x : Int} {ls' : List V2} (hf : (fprg F)[i]? = some (pc, .istore k, 2)) (hn : k < fnl F) (hl : st1 ls k (0, x) = ls') (k : wp g X F cells slots (pc + 2) ls' st v ρ Z) : wp g X F cells slots pc ls ((0, x) :: st) v ρ Z := by
  subst hl
  intro ad H locs la hR h1 h2 hq hv
  exact lv_istore hX.1 hX.2.1 (hX.dec hf) hv hn rfl (fun la' h' => k ad H locs la' hR (scop_c h1) (scop_st1 h2 _ (fun q => by cases q)) hq (lvr_st1 (x := (0, x)) h'))
theorem r_lstore_n (hX : okX g X F) (i : Nat) {k : Fin 4} {x : Int} {ls' : List V2} (hf : (fprg F)[i]? = some (pc, .lstore_n k, 1)) (hn : (k : Nat) + 1 < fnl F) (hl : st2 ls (k : Nat) (1, x) = ls') (k : wp g X F cells slots (pc + 1) ls' st v ρ Z) : wp g X F cells slots pc ls ((1, x) :: st) v ρ Z := by
  subst hl
  intro ad H locs la hR h1 h2 hq hv
  exact lv_lstore_n hX.1 hX.2.1 (hX.dec hf) rfl hv hn rfl (fun la' h' => k ad H locs la' hR (scop_c h1) (scop_st2 h2 _ (fun q => by cases q)) hq (lvr_st2 (x := (1, x)) h'))
theorem r_lstore (hX : okX g X F) (i : Nat) {k : Nat} {x : Int} {ls' : List V2} (hf : (fprg F)[i]? = some (pc, .lstore k, 2)) (hn : k + 1 < fnl F) (hl : st2 ls k (1, x) = ls') (k : wp g X F cells slots (pc + 2) ls' st v ρ Z) : wp g X F cells slots pc ls ((1, x) :: st) v ρ Z := by
  subst hl
  intro ad H locs la hR h1 h2 hq hv
  exact lv_lstore hX.1 hX.2.1 (hX.dec hf) hv hn rfl (fun la' h' => k ad H locs la' hR (scop_c h1) (scop_st2 h2 _ (fun q => by cases q)) hq (lvr_st2 (x := (1, x)) h'))
theorem r_astore_n (hX : okX g X F) (i : Nat) {k : Fin 4} {x : Int} {ls' : List V2} (hf : (fprg F)[i]? = some (pc, .astore_n k, 1)) (hn : (k : Nat) < fnl F) (hl : st1 ls (k : Nat) (2, x) = ls') (k0 : wp g X F cells slots (pc + 1) ls' st v ρ Z) : wp g X F cells slots pc ls ((2, x) :: st) v ρ Z := by
  subst hl
  intro ad H locs la hR h1 h2 hq hv
  have K : ∀ la', lv_has la' (fnl F) (((k : Nat), tr ad (2, x)) :: (lpr ad ls).filter (fun q => !(q.1 == (k : Nat)) && !(q.1 + 1 == (k : Nat) && q.2.category == 2))) → _ := fun la' h' => k0 ad H locs la' hR (scop_c h1) (scop_st1 h2 _ (h1 _ List.mem_cons_self)) hq (lvr_st1 (x := (2, x)) h')
  rw [List.map_cons]
  by_cases hx : x < 0
  · have e : tr ad (2, x) = .null := if_pos hx
    rw [e] at K ⊢
    exact lv_astore_nN hX.1 hX.2.1 (hX.dec hf) rfl hv hn rfl K
  · have e : tr ad (2, x) = .ref (ad x) := if_neg hx
    rw [e] at K ⊢
    exact lv_astore_n hX.1 hX.2.1 (hX.dec hf) rfl hv hn rfl K
theorem r_astore (hX : okX g X F) (i : Nat) {k : Nat} {x : Int} {ls' : List V2} (hf : (fprg F)[i]? = some (pc, .astore k, 2)) (hn : k < fnl F) (hl : st1 ls k (2, x) = ls') (k0 : wp g X F cells slots (pc + 2) ls' st v ρ Z) : wp g X F cells slots pc ls ((2, x) :: st) v ρ Z := by
  subst hl
  intro ad H locs la hR h1 h2 hq hv
  have K : ∀ la', lv_has la' (fnl F) ((k, tr ad (2, x)) :: (lpr ad ls).filter (fun q => !(q.1 == k) && !(q.1 + 1 == k && q.2.category == 2))) → _ := fun la' h' => k0 ad H locs la' hR (scop_c h1) (scop_st1 h2 _ (h1 _ List.mem_cons_self)) hq (lvr_st1 (x := (2, x)) h')
  rw [List.map_cons]
  by_cases hx : x < 0
  · have e : tr ad (2, x) = .null := if_pos hx
    rw [e] at K ⊢
    exact lv_astoreN hX.1 hX.2.1 (hX.dec hf) hv hn rfl K
  · have e : tr ad (2, x) = .ref (ad x) := if_neg hx
    rw [e] at K ⊢
    exact lv_astore hX.1 hX.2.1 (hX.dec hf) hv hn rfl K
theorem lpr_at {ad : Int → Nat} {ls : List V2} {k : Nat} {y : V2} (h : ls[k]? = some y) (h3 : y.1 ≠ 3) : ∃ j : Nat, (lpr ad ls)[j]? = some (k, tr ad y) := List.getElem?_of_mem (lpr_mem h h3)
theorem r_iinc (hX : okX g X F) (i : Nat) {k : Nat} {n x : Int} {ls' : List V2} (hf : (fprg F)[i]? = some (pc, .iinc k n, 3)) (hx : ls[k]? = some (0, x)) (hn : k < fnl F) (hl : st1 ls k (0, x + n) = ls') (k : wp g X F cells slots (pc + 3) ls' st v ρ Z) : wp g X F cells slots pc ls st v ρ Z := by
  subst hl
  intro ad H locs la hR h1 h2 hq hv
  obtain ⟨j, hj⟩ := lpr_at (ad := ad) hx (by simp)
  exact lv_iinc hX.1 hX.2.1 (hX.dec hf) hv hj (by rw [← Int32.ofInt_add]) hn rfl (fun la' h' => k ad H locs la' hR h1 (scop_st1 h2 _ (fun q => by cases q)) hq (lvr_st1 (x := (0, x + n)) h'))
theorem oi {x : Int} (h : inR x) : (Int32.ofInt x).toInt = x := Int32.toInt_ofInt_of_le (by have := h.1; simp; omega) (by have := h.2; simp; omega)
theorem ol {x : Int} (h : inL x) : (Int64.ofInt x).toInt = x := Int64.toInt_ofInt_of_le (by have := h.1; simp; omega) (by have := h.2; simp; omega)
theorem oi_eq {x y : Int} (hx : inR x) (hy : inR y) : Int32.ofInt x = Int32.ofInt y ↔ x = y := by rw [← Int32.toInt_inj, oi hx, oi hy]
theorem oi_le {x y : Int} (hx : inR x) (hy : inR y) : Int32.ofInt x ≤ Int32.ofInt y ↔ x ≤ y := by rw [Int32.le_iff_toInt_le, oi hx, oi hy]
theorem oi_lt {x y : Int} (hx : inR x) (hy : inR y) : Int32.ofInt x < Int32.ofInt y ↔ x < y := by rw [Int32.lt_iff_toInt_lt, oi hx, oi hy]
theorem ol_lt {x y : Int} (hx : inL x) (hy : inL y) : Int64.ofInt x < Int64.ofInt y ↔ x < y := by rw [Int64.lt_iff_toInt_lt, ol hx, ol hy]
theorem ol_eq {x y : Int} (hx : inL x) (hy : inL y) : Int64.ofInt x = Int64.ofInt y ↔ x = y := by rw [← Int64.toInt_inj, ol hx, ol hy]
theorem inR_t (e : Int32) : inR e.toInt := ⟨by have := Int32.le_toInt e; simpa using this, by have := Int32.toInt_lt e; simpa using this⟩
theorem inL_t (e : Int64) : inL e.toInt := ⟨by have := Int64.le_toInt e; simpa using this, by have := Int64.toInt_lt e; simpa using this⟩
theorem inR0 : inR 0 := ⟨by decide, by decide⟩
theorem r_goto (hX : okX g X F) (i : Nat) {off : Int} {tgt : Nat} (hf : (fprg F)[i]? = some (pc, .goto off, 3)) (ht : (pc : Int) + off = (tgt : Int)) (k : wp g X F cells slots tgt ls st v ρ Z) : wp g X F cells slots pc ls st v ρ Z :=
  wp_pure (fun ad H locs la hv kk => lv_goto hX.1 hX.2.1 (hX.dec hf) ht kk) (fun h1 h2 => h1) k
theorem r_icmp_eq (hX : okX g X F) (i : Nat) {off x y : Int} {tgt : Nat} (hf : (fprg F)[i]? = some (pc, .if_icmp .eq off, 3)) (ht : (pc : Int) + off = (tgt : Int)) (hx : inR x) (hy : inR y) (k1 : x = y → wp g X F cells slots tgt ls st v ρ Z) (k2 : ¬ (x = y) → wp g X F cells slots (pc + 3) ls st v ρ Z) : wp g X F cells slots pc ls ((0, y) :: (0, x) :: st) v ρ Z :=
  fun ad H locs la hR h1 h2 hq hv => lv_icmp_eq hX.1 hX.2.1 (hX.dec hf) ht (fun h => k1 ((oi_eq hx hy).mp h) ad H locs la hR (scop_c (scop_c h1)) h2 hq hv) (fun h => k2 (fun q => h ((oi_eq hx hy).mpr q)) ad H locs la hR (scop_c (scop_c h1)) h2 hq hv)
theorem r_icmp_eq_any (hX : okX g X F) (i : Nat) {off x y : Int} {tgt : Nat} (hf : (fprg F)[i]? = some (pc, .if_icmp .eq off, 3)) (ht : (pc : Int) + off = (tgt : Int)) (k1 : wp g X F cells slots tgt ls st v ρ Z) (k2 : wp g X F cells slots (pc + 3) ls st v ρ Z) : wp g X F cells slots pc ls ((0, y) :: (0, x) :: st) v ρ Z :=
  fun ad H locs la hR h1 h2 hq hv => lv_icmp_eq hX.1 hX.2.1 (hX.dec hf) ht (fun h => k1 ad H locs la hR (scop_c (scop_c h1)) h2 hq hv) (fun h => k2 ad H locs la hR (scop_c (scop_c h1)) h2 hq hv)
theorem r_if_eq (hX : okX g X F) (i : Nat) {off x : Int} {tgt : Nat} (hf : (fprg F)[i]? = some (pc, .ifCond .eq off, 3)) (ht : (pc : Int) + off = (tgt : Int)) (hx : inR x) (k1 : x = 0 → wp g X F cells slots tgt ls st v ρ Z) (k2 : ¬ (x = 0) → wp g X F cells slots (pc + 3) ls st v ρ Z) : wp g X F cells slots pc ls ((0, x) :: st) v ρ Z :=
  have hy := inR0
  fun ad H locs la hR h1 h2 hq hv => lv_if_eq hX.1 hX.2.1 (hX.dec hf) ht (fun h => k1 ((oi_eq hx hy).mp h) ad H locs la hR (scop_c h1) h2 hq hv) (fun h => k2 (fun q => h ((oi_eq hx hy).mpr q)) ad H locs la hR (scop_c h1) h2 hq hv)
theorem r_if_eq_any (hX : okX g X F) (i : Nat) {off x : Int} {tgt : Nat} (hf : (fprg F)[i]? = some (pc, .ifCond .eq off, 3)) (ht : (pc : Int) + off = (tgt : Int)) (k1 : wp g X F cells slots tgt ls st v ρ Z) (k2 : wp g X F cells slots (pc + 3) ls st v ρ Z) : wp g X F cells slots pc ls ((0, x) :: st) v ρ Z :=
  fun ad H locs la hR h1 h2 hq hv => lv_if_eq hX.1 hX.2.1 (hX.dec hf) ht (fun h => k1 ad H locs la hR (scop_c h1) h2 hq hv) (fun h => k2 ad H locs la hR (scop_c h1) h2 hq hv)
theorem r_icmp_ne (hX : okX g X F) (i : Nat) {off x y : Int} {tgt : Nat} (hf : (fprg F)[i]? = some (pc, .if_icmp .ne off, 3)) (ht : (pc : Int) + off = (tgt : Int)) (hx : inR x) (hy : inR y) (k1 : x ≠ y → wp g X F cells slots tgt ls st v ρ Z) (k2 : ¬ (x ≠ y) → wp g X F cells slots (pc + 3) ls st v ρ Z) : wp g X F cells slots pc ls ((0, y) :: (0, x) :: st) v ρ Z :=
  fun ad H locs la hR h1 h2 hq hv => lv_icmp_ne hX.1 hX.2.1 (hX.dec hf) ht (fun h => k1 (fun q => h ((oi_eq hx hy).mpr q)) ad H locs la hR (scop_c (scop_c h1)) h2 hq hv) (fun h => k2 (fun q => q ((oi_eq hx hy).mp h)) ad H locs la hR (scop_c (scop_c h1)) h2 hq hv)
theorem r_icmp_ne_any (hX : okX g X F) (i : Nat) {off x y : Int} {tgt : Nat} (hf : (fprg F)[i]? = some (pc, .if_icmp .ne off, 3)) (ht : (pc : Int) + off = (tgt : Int)) (k1 : wp g X F cells slots tgt ls st v ρ Z) (k2 : wp g X F cells slots (pc + 3) ls st v ρ Z) : wp g X F cells slots pc ls ((0, y) :: (0, x) :: st) v ρ Z :=
  fun ad H locs la hR h1 h2 hq hv => lv_icmp_ne hX.1 hX.2.1 (hX.dec hf) ht (fun h => k1 ad H locs la hR (scop_c (scop_c h1)) h2 hq hv) (fun h => k2 ad H locs la hR (scop_c (scop_c h1)) h2 hq hv)
theorem r_if_ne (hX : okX g X F) (i : Nat) {off x : Int} {tgt : Nat} (hf : (fprg F)[i]? = some (pc, .ifCond .ne off, 3)) (ht : (pc : Int) + off = (tgt : Int)) (hx : inR x) (k1 : x ≠ 0 → wp g X F cells slots tgt ls st v ρ Z) (k2 : ¬ (x ≠ 0) → wp g X F cells slots (pc + 3) ls st v ρ Z) : wp g X F cells slots pc ls ((0, x) :: st) v ρ Z :=
  have hy := inR0
  fun ad H locs la hR h1 h2 hq hv => lv_if_ne hX.1 hX.2.1 (hX.dec hf) ht (fun h => k1 (fun q => h ((oi_eq hx hy).mpr q)) ad H locs la hR (scop_c h1) h2 hq hv) (fun h => k2 (fun q => q ((oi_eq hx hy).mp h)) ad H locs la hR (scop_c h1) h2 hq hv)
theorem r_if_ne_any (hX : okX g X F) (i : Nat) {off x : Int} {tgt : Nat} (hf : (fprg F)[i]? = some (pc, .ifCond .ne off, 3)) (ht : (pc : Int) + off = (tgt : Int)) (k1 : wp g X F cells slots tgt ls st v ρ Z) (k2 : wp g X F cells slots (pc + 3) ls st v ρ Z) : wp g X F cells slots pc ls ((0, x) :: st) v ρ Z :=
  fun ad H locs la hR h1 h2 hq hv => lv_if_ne hX.1 hX.2.1 (hX.dec hf) ht (fun h => k1 ad H locs la hR (scop_c h1) h2 hq hv) (fun h => k2 ad H locs la hR (scop_c h1) h2 hq hv)
theorem r_icmp_lt (hX : okX g X F) (i : Nat) {off x y : Int} {tgt : Nat} (hf : (fprg F)[i]? = some (pc, .if_icmp .lt off, 3)) (ht : (pc : Int) + off = (tgt : Int)) (hx : inR x) (hy : inR y) (k1 : x < y → wp g X F cells slots tgt ls st v ρ Z) (k2 : ¬ (x < y) → wp g X F cells slots (pc + 3) ls st v ρ Z) : wp g X F cells slots pc ls ((0, y) :: (0, x) :: st) v ρ Z :=
  fun ad H locs la hR h1 h2 hq hv => lv_icmp_lt hX.1 hX.2.1 (hX.dec hf) ht (fun h => k1 ((oi_lt hx hy).mp h) ad H locs la hR (scop_c (scop_c h1)) h2 hq hv) (fun h => k2 (fun q => h ((oi_lt hx hy).mpr q)) ad H locs la hR (scop_c (scop_c h1)) h2 hq hv)
theorem r_icmp_lt_any (hX : okX g X F) (i : Nat) {off x y : Int} {tgt : Nat} (hf : (fprg F)[i]? = some (pc, .if_icmp .lt off, 3)) (ht : (pc : Int) + off = (tgt : Int)) (k1 : wp g X F cells slots tgt ls st v ρ Z) (k2 : wp g X F cells slots (pc + 3) ls st v ρ Z) : wp g X F cells slots pc ls ((0, y) :: (0, x) :: st) v ρ Z :=
  fun ad H locs la hR h1 h2 hq hv => lv_icmp_lt hX.1 hX.2.1 (hX.dec hf) ht (fun h => k1 ad H locs la hR (scop_c (scop_c h1)) h2 hq hv) (fun h => k2 ad H locs la hR (scop_c (scop_c h1)) h2 hq hv)
theorem r_if_lt (hX : okX g X F) (i : Nat) {off x : Int} {tgt : Nat} (hf : (fprg F)[i]? = some (pc, .ifCond .lt off, 3)) (ht : (pc : Int) + off = (tgt : Int)) (hx : inR x) (k1 : x < 0 → wp g X F cells slots tgt ls st v ρ Z) (k2 : ¬ (x < 0) → wp g X F cells slots (pc + 3) ls st v ρ Z) : wp g X F cells slots pc ls ((0, x) :: st) v ρ Z :=
  have hy := inR0
  fun ad H locs la hR h1 h2 hq hv => lv_if_lt hX.1 hX.2.1 (hX.dec hf) ht (fun h => k1 ((oi_lt hx hy).mp h) ad H locs la hR (scop_c h1) h2 hq hv) (fun h => k2 (fun q => h ((oi_lt hx hy).mpr q)) ad H locs la hR (scop_c h1) h2 hq hv)
theorem r_if_lt_any (hX : okX g X F) (i : Nat) {off x : Int} {tgt : Nat} (hf : (fprg F)[i]? = some (pc, .ifCond .lt off, 3)) (ht : (pc : Int) + off = (tgt : Int)) (k1 : wp g X F cells slots tgt ls st v ρ Z) (k2 : wp g X F cells slots (pc + 3) ls st v ρ Z) : wp g X F cells slots pc ls ((0, x) :: st) v ρ Z :=
  fun ad H locs la hR h1 h2 hq hv => lv_if_lt hX.1 hX.2.1 (hX.dec hf) ht (fun h => k1 ad H locs la hR (scop_c h1) h2 hq hv) (fun h => k2 ad H locs la hR (scop_c h1) h2 hq hv)
theorem r_icmp_ge (hX : okX g X F) (i : Nat) {off x y : Int} {tgt : Nat} (hf : (fprg F)[i]? = some (pc, .if_icmp .ge off, 3)) (ht : (pc : Int) + off = (tgt : Int)) (hx : inR x) (hy : inR y) (k1 : y ≤ x → wp g X F cells slots tgt ls st v ρ Z) (k2 : ¬ (y ≤ x) → wp g X F cells slots (pc + 3) ls st v ρ Z) : wp g X F cells slots pc ls ((0, y) :: (0, x) :: st) v ρ Z :=
  fun ad H locs la hR h1 h2 hq hv => lv_icmp_ge hX.1 hX.2.1 (hX.dec hf) ht (fun h => k1 ((oi_le hy hx).mp h) ad H locs la hR (scop_c (scop_c h1)) h2 hq hv) (fun h => k2 (fun q => h ((oi_le hy hx).mpr q)) ad H locs la hR (scop_c (scop_c h1)) h2 hq hv)
theorem r_icmp_ge_any (hX : okX g X F) (i : Nat) {off x y : Int} {tgt : Nat} (hf : (fprg F)[i]? = some (pc, .if_icmp .ge off, 3)) (ht : (pc : Int) + off = (tgt : Int)) (k1 : wp g X F cells slots tgt ls st v ρ Z) (k2 : wp g X F cells slots (pc + 3) ls st v ρ Z) : wp g X F cells slots pc ls ((0, y) :: (0, x) :: st) v ρ Z :=
  fun ad H locs la hR h1 h2 hq hv => lv_icmp_ge hX.1 hX.2.1 (hX.dec hf) ht (fun h => k1 ad H locs la hR (scop_c (scop_c h1)) h2 hq hv) (fun h => k2 ad H locs la hR (scop_c (scop_c h1)) h2 hq hv)
theorem r_if_ge (hX : okX g X F) (i : Nat) {off x : Int} {tgt : Nat} (hf : (fprg F)[i]? = some (pc, .ifCond .ge off, 3)) (ht : (pc : Int) + off = (tgt : Int)) (hx : inR x) (k1 : 0 ≤ x → wp g X F cells slots tgt ls st v ρ Z) (k2 : ¬ (0 ≤ x) → wp g X F cells slots (pc + 3) ls st v ρ Z) : wp g X F cells slots pc ls ((0, x) :: st) v ρ Z :=
  have hy := inR0
  fun ad H locs la hR h1 h2 hq hv => lv_if_ge hX.1 hX.2.1 (hX.dec hf) ht (fun h => k1 ((oi_le hy hx).mp h) ad H locs la hR (scop_c h1) h2 hq hv) (fun h => k2 (fun q => h ((oi_le hy hx).mpr q)) ad H locs la hR (scop_c h1) h2 hq hv)
theorem r_if_ge_any (hX : okX g X F) (i : Nat) {off x : Int} {tgt : Nat} (hf : (fprg F)[i]? = some (pc, .ifCond .ge off, 3)) (ht : (pc : Int) + off = (tgt : Int)) (k1 : wp g X F cells slots tgt ls st v ρ Z) (k2 : wp g X F cells slots (pc + 3) ls st v ρ Z) : wp g X F cells slots pc ls ((0, x) :: st) v ρ Z :=
  fun ad H locs la hR h1 h2 hq hv => lv_if_ge hX.1 hX.2.1 (hX.dec hf) ht (fun h => k1 ad H locs la hR (scop_c h1) h2 hq hv) (fun h => k2 ad H locs la hR (scop_c h1) h2 hq hv)
theorem r_icmp_gt (hX : okX g X F) (i : Nat) {off x y : Int} {tgt : Nat} (hf : (fprg F)[i]? = some (pc, .if_icmp .gt off, 3)) (ht : (pc : Int) + off = (tgt : Int)) (hx : inR x) (hy : inR y) (k1 : y < x → wp g X F cells slots tgt ls st v ρ Z) (k2 : ¬ (y < x) → wp g X F cells slots (pc + 3) ls st v ρ Z) : wp g X F cells slots pc ls ((0, y) :: (0, x) :: st) v ρ Z :=
  fun ad H locs la hR h1 h2 hq hv => lv_icmp_gt hX.1 hX.2.1 (hX.dec hf) ht (fun h => k1 ((oi_lt hy hx).mp h) ad H locs la hR (scop_c (scop_c h1)) h2 hq hv) (fun h => k2 (fun q => h ((oi_lt hy hx).mpr q)) ad H locs la hR (scop_c (scop_c h1)) h2 hq hv)
theorem r_icmp_gt_any (hX : okX g X F) (i : Nat) {off x y : Int} {tgt : Nat} (hf : (fprg F)[i]? = some (pc, .if_icmp .gt off, 3)) (ht : (pc : Int) + off = (tgt : Int)) (k1 : wp g X F cells slots tgt ls st v ρ Z) (k2 : wp g X F cells slots (pc + 3) ls st v ρ Z) : wp g X F cells slots pc ls ((0, y) :: (0, x) :: st) v ρ Z :=
  fun ad H locs la hR h1 h2 hq hv => lv_icmp_gt hX.1 hX.2.1 (hX.dec hf) ht (fun h => k1 ad H locs la hR (scop_c (scop_c h1)) h2 hq hv) (fun h => k2 ad H locs la hR (scop_c (scop_c h1)) h2 hq hv)
theorem r_if_gt (hX : okX g X F) (i : Nat) {off x : Int} {tgt : Nat} (hf : (fprg F)[i]? = some (pc, .ifCond .gt off, 3)) (ht : (pc : Int) + off = (tgt : Int)) (hx : inR x) (k1 : 0 < x → wp g X F cells slots tgt ls st v ρ Z) (k2 : ¬ (0 < x) → wp g X F cells slots (pc + 3) ls st v ρ Z) : wp g X F cells slots pc ls ((0, x) :: st) v ρ Z :=
  have hy := inR0
  fun ad H locs la hR h1 h2 hq hv => lv_if_gt hX.1 hX.2.1 (hX.dec hf) ht (fun h => k1 ((oi_lt hy hx).mp h) ad H locs la hR (scop_c h1) h2 hq hv) (fun h => k2 (fun q => h ((oi_lt hy hx).mpr q)) ad H locs la hR (scop_c h1) h2 hq hv)
theorem r_if_gt_any (hX : okX g X F) (i : Nat) {off x : Int} {tgt : Nat} (hf : (fprg F)[i]? = some (pc, .ifCond .gt off, 3)) (ht : (pc : Int) + off = (tgt : Int)) (k1 : wp g X F cells slots tgt ls st v ρ Z) (k2 : wp g X F cells slots (pc + 3) ls st v ρ Z) : wp g X F cells slots pc ls ((0, x) :: st) v ρ Z :=
  fun ad H locs la hR h1 h2 hq hv => lv_if_gt hX.1 hX.2.1 (hX.dec hf) ht (fun h => k1 ad H locs la hR (scop_c h1) h2 hq hv) (fun h => k2 ad H locs la hR (scop_c h1) h2 hq hv)
theorem r_icmp_le (hX : okX g X F) (i : Nat) {off x y : Int} {tgt : Nat} (hf : (fprg F)[i]? = some (pc, .if_icmp .le off, 3)) (ht : (pc : Int) + off = (tgt : Int)) (hx : inR x) (hy : inR y) (k1 : x ≤ y → wp g X F cells slots tgt ls st v ρ Z) (k2 : ¬ (x ≤ y) → wp g X F cells slots (pc + 3) ls st v ρ Z) : wp g X F cells slots pc ls ((0, y) :: (0, x) :: st) v ρ Z :=
  fun ad H locs la hR h1 h2 hq hv => lv_icmp_le hX.1 hX.2.1 (hX.dec hf) ht (fun h => k1 ((oi_le hx hy).mp h) ad H locs la hR (scop_c (scop_c h1)) h2 hq hv) (fun h => k2 (fun q => h ((oi_le hx hy).mpr q)) ad H locs la hR (scop_c (scop_c h1)) h2 hq hv)
theorem r_icmp_le_any (hX : okX g X F) (i : Nat) {off x y : Int} {tgt : Nat} (hf : (fprg F)[i]? = some (pc, .if_icmp .le off, 3)) (ht : (pc : Int) + off = (tgt : Int)) (k1 : wp g X F cells slots tgt ls st v ρ Z) (k2 : wp g X F cells slots (pc + 3) ls st v ρ Z) : wp g X F cells slots pc ls ((0, y) :: (0, x) :: st) v ρ Z :=
  fun ad H locs la hR h1 h2 hq hv => lv_icmp_le hX.1 hX.2.1 (hX.dec hf) ht (fun h => k1 ad H locs la hR (scop_c (scop_c h1)) h2 hq hv) (fun h => k2 ad H locs la hR (scop_c (scop_c h1)) h2 hq hv)
theorem r_if_le (hX : okX g X F) (i : Nat) {off x : Int} {tgt : Nat} (hf : (fprg F)[i]? = some (pc, .ifCond .le off, 3)) (ht : (pc : Int) + off = (tgt : Int)) (hx : inR x) (k1 : x ≤ 0 → wp g X F cells slots tgt ls st v ρ Z) (k2 : ¬ (x ≤ 0) → wp g X F cells slots (pc + 3) ls st v ρ Z) : wp g X F cells slots pc ls ((0, x) :: st) v ρ Z :=
  have hy := inR0
  fun ad H locs la hR h1 h2 hq hv => lv_if_le hX.1 hX.2.1 (hX.dec hf) ht (fun h => k1 ((oi_le hx hy).mp h) ad H locs la hR (scop_c h1) h2 hq hv) (fun h => k2 (fun q => h ((oi_le hx hy).mpr q)) ad H locs la hR (scop_c h1) h2 hq hv)
theorem r_if_le_any (hX : okX g X F) (i : Nat) {off x : Int} {tgt : Nat} (hf : (fprg F)[i]? = some (pc, .ifCond .le off, 3)) (ht : (pc : Int) + off = (tgt : Int)) (k1 : wp g X F cells slots tgt ls st v ρ Z) (k2 : wp g X F cells slots (pc + 3) ls st v ρ Z) : wp g X F cells slots pc ls ((0, x) :: st) v ρ Z :=
  fun ad H locs la hR h1 h2 hq hv => lv_if_le hX.1 hX.2.1 (hX.dec hf) ht (fun h => k1 ad H locs la hR (scop_c h1) h2 hq hv) (fun h => k2 ad H locs la hR (scop_c h1) h2 hq hv)
theorem r_ifnonnull (hX : okX g X F) (i : Nat) {off x : Int} {tgt : Nat} (hf : (fprg F)[i]? = some (pc, .ifnonnull off, 3)) (ht : (pc : Int) + off = (tgt : Int)) (k1 : 0 ≤ x → wp g X F cells slots tgt ls st v ρ Z) (k2 : x < 0 → wp g X F cells slots (pc + 3) ls st v ρ Z) : wp g X F cells slots pc ls ((2, x) :: st) v ρ Z := by
  intro ad H locs la hR h1 h2 hq hv
  rw [List.map_cons]
  by_cases hx : x < 0
  · rw [show tr ad (2, x) = .null from if_pos hx]
    exact lv_ifnonnullN hX.1 hX.2.1 (hX.dec hf) (k2 hx ad H locs la hR (scop_c h1) h2 hq hv)
  · rw [show tr ad (2, x) = .ref (ad x) from if_neg hx]
    exact lv_ifnonnull hX.1 hX.2.1 (hX.dec hf) ht (k1 (by omega) ad H locs la hR (scop_c h1) h2 hq hv)
theorem r_tsIn (hX : okX g X F) (i : Nat) {dflt lo hi off x : Int} {offs : Array Int} {len tgt : Nat} (hf : (fprg F)[i]? = some (pc, .tableswitch dflt lo hi offs, len)) (hx : inR x) (h1 : lo ≤ x) (h2 : x ≤ hi) (ho : offs[(x - lo).toNat]? = some off) (ht : (pc : Int) + off = (tgt : Int)) (k : wp g X F cells slots tgt ls st v ρ Z) : wp g X F cells slots pc ls ((0, x) :: st) v ρ Z :=
  wp_pure (fun ad H locs la hv kk => lv_tableIn hX.1 hX.2.1 (hX.dec hf) (by rw [oi hx]; omega) (by rw [oi hx]; omega) (by rw [oi hx]; exact ho) ht kk) (fun h1 h2 => scop_c h1) k
theorem r_tsOut (hX : okX g X F) (i : Nat) {dflt lo hi x : Int} {offs : Array Int} {len tgt : Nat} (hf : (fprg F)[i]? = some (pc, .tableswitch dflt lo hi offs, len)) (hx : inR x) (h1 : x < lo ∨ hi < x) (ht : (pc : Int) + dflt = (tgt : Int)) (k : wp g X F cells slots tgt ls st v ρ Z) : wp g X F cells slots pc ls ((0, x) :: st) v ρ Z :=
  wp_pure (fun ad H locs la hv kk => lv_tableOut hX.1 hX.2.1 (hX.dec hf) (by rw [oi hx]; exact h1) ht kk) (fun h1 h2 => scop_c h1) k
theorem r_ls (hX : okX g X F) (i : Nat) {dflt off x : Int} {ps : Array (Int × Int)} {len tgt : Nat} (hf : (fprg F)[i]? = some (pc, .lookupswitch dflt ps, len)) (hx : inR x) (hp : (ps.toList.zip (ps.toList.drop 1)).all (fun (a, next) => a.1 < next.1) = true) (ho : Op.lookupswitch.offset ps.toList dflt x = off) (ht : (pc : Int) + off = (tgt : Int)) (k : wp g X F cells slots tgt ls st v ρ Z) : wp g X F cells slots pc ls ((0, x) :: st) v ρ Z :=
  wp_pure (fun ad H locs la hv kk => lv_lookup hX.1 hX.2.1 (hX.dec hf) hp (by rw [oi hx]; exact ho) ht kk) (fun h1 h2 => scop_c h1) k
end RowsB
