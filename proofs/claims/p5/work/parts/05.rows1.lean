section RowsA
variable {g : Gp} {X : Cx} {F : Fm} {cells slots pc : Nat} {ls st : List V2} {v ρ : Mv} {Z : Mz}
theorem scop_c {Z : Mz} {x : V2} {l : List V2} (h : scop Z (x :: l)) : scop Z l := fun y hy => h y (List.mem_cons_of_mem _ hy)
theorem scop_i {Z : Mz} {x : Int} {l : List V2} (h : scop Z l) : scop Z ((0, x) :: l) := fun y hy => (List.mem_cons.mp hy).elim (fun e => by subst e; exact fun q => by cases q) (h y)
theorem scop_l {Z : Mz} {x : Int} {l : List V2} (h : scop Z l) : scop Z ((1, x) :: l) := fun y hy => (List.mem_cons.mp hy).elim (fun e => by subst e; exact fun q => by cases q) (h y)
theorem scop_r {Z : Mz} {x : Int} {l : List V2} (h : scop Z l) (hx : x < Z.2.2) : scop Z ((2, x) :: l) := fun y hy => (List.mem_cons.mp hy).elim (fun e => by subst e; exact fun _ => hx) (h y)
theorem scop_v {Z : Mz} {x : V2} {l : List V2} (h : scop Z l) (hx : x.1 = 2 → x.2 < Z.2.2) : scop Z (x :: l) := fun y hy => (List.mem_cons.mp hy).elim (fun e => by subst e; exact hx) (h y)
theorem scop_at {Z : Mz} {l : List V2} (h : scop Z l) {k : Nat} {x : V2} (hk : l[k]? = some x) : x.1 = 2 → x.2 < Z.2.2 := h x (List.mem_of_getElem? hk)
theorem scop_set {Z : Mz} {l : List V2} (h : scop Z l) {k : Nat} {x : V2} (hx : x.1 = 2 → x.2 < Z.2.2) : scop Z (l.set k x) := fun y hy => (List.mem_or_eq_of_mem_set hy).elim (h y) (fun e => by rw [e]; exact hx)
theorem lvr_at {ad : Int → Nat} {la : Array Slot} {nL : Nat} {ls : List V2} (h : lvr ad la nL ls) {k : Nat} {x : V2} (hk : ls[k]? = some x) (h3 : x.1 ≠ 3) : la[k]? = some (.val (tr ad x)) := by
  refine h.2.2 (k, tr ad x) (List.mem_map.mpr ⟨(x, k), List.mem_filter.mpr ⟨List.mem_zipIdx_iff_getElem?.mpr hk, ?_⟩, rfl⟩)
  simpa using h3
/-- a step that leaves locals and memory -/
theorem wp_pure {pc' : Nat} {st' : List V2} (hs : ∀ (ad : Int → Nat) (H : Heap) (locs : List Loc) (la : Array Slot), lvr ad la (fnl F) ls → W (xp X) (gL g) (xe X) (xR X) (xs X) (xm X) (xa X) (xb X) (xt X) (xc X) H locs cells slots (xq X) (F0 (xm X) pc' la (st'.map (tr ad))) → W (xp X) (gL g) (xe X) (xR X) (xs X) (xm X) (xa X) (xb X) (xt X) (xc X) H locs cells slots (xq X) (F0 (xm X) pc la (st.map (tr ad))))
    (hc : scop Z st → scop Z ls → scop Z st') (k : wp g X F cells slots pc' ls st' v ρ Z) : wp g X F cells slots pc ls st v ρ Z := fun ad H locs la hR h1 h2 hq hv => hs ad H locs la hv (k ad H locs la hR (hc h1 h2) h2 hq hv)
theorem r_iconst (hX : okX g X F) (i : Nat) {n : Int} (hf : (fprg F)[i]? = some (pc, .iconst n, 1)) (k : wp g X F cells slots (pc + 1) ls ((0, n) :: st) v ρ Z) : wp g X F cells slots pc ls (st) v ρ Z :=
  wp_pure (fun ad H locs la hv kk => lv_iconst hX.1 hX.2.1 (hX.dec hf) rfl kk) (fun h1 h2 => scop_i h1) k
theorem b8 {n : Int} (h : -128 ≤ n ∧ n < 128) : (Int8.ofInt n).toInt32 = Int32.ofInt n := by
  apply Int32.toInt_inj.mp
  rw [Int8.toInt_toInt32, Int8.toInt_ofInt_of_le (by simpa using h.1) (by simpa using h.2), Int32.toInt_ofInt_of_le (by have := h.1; simp; omega) (by have := h.2; simp; omega)]
theorem b16 {n : Int} (h : -32768 ≤ n ∧ n < 32768) : (Int16.ofInt n).toInt32 = Int32.ofInt n := by
  apply Int32.toInt_inj.mp
  rw [Int16.toInt_toInt32, Int16.toInt_ofInt_of_le (by simpa using h.1) (by simpa using h.2), Int32.toInt_ofInt_of_le (by have := h.1; simp; omega) (by have := h.2; simp; omega)]
theorem r_bipush (hX : okX g X F) (i : Nat) {n : Int} (hf : (fprg F)[i]? = some (pc, .bipush n, 2)) (hn : -128 ≤ n ∧ n < 128) (k : wp g X F cells slots (pc + 2) ls ((0, n) :: st) v ρ Z) : wp g X F cells slots pc ls (st) v ρ Z :=
  wp_pure (fun ad H locs la hv kk => lv_bipush hX.1 hX.2.1 (hX.dec hf) (b8 hn) kk) (fun h1 h2 => scop_i h1) k
theorem r_sipush (hX : okX g X F) (i : Nat) {n : Int} (hf : (fprg F)[i]? = some (pc, .sipush n, 3)) (hn : -32768 ≤ n ∧ n < 32768) (k : wp g X F cells slots (pc + 3) ls ((0, n) :: st) v ρ Z) : wp g X F cells slots pc ls (st) v ρ Z :=
  wp_pure (fun ad H locs la hv kk => lv_sipush hX.1 hX.2.1 (hX.dec hf) (b16 hn) kk) (fun h1 h2 => scop_i h1) k
theorem r_lconst (hX : okX g X F) (i : Nat) {n : Fin 2} (hf : (fprg F)[i]? = some (pc, .lconst n, 1)) (k : wp g X F cells slots (pc + 1) ls ((1, (n : Nat)) :: st) v ρ Z) : wp g X F cells slots pc ls (st) v ρ Z :=
  wp_pure (fun ad H locs la hv kk => lv_lconst hX.1 hX.2.1 (hX.dec hf) rfl kk) (fun h1 h2 => scop_l h1) k
theorem r_null (hX : okX g X F) (i : Nat)  (hf : (fprg F)[i]? = some (pc, .aconst_null, 1)) (hn : (-1 : Int) < Z.2.2) (k : wp g X F cells slots (pc + 1) ls ((2, -1) :: st) v ρ Z) : wp g X F cells slots pc ls (st) v ρ Z :=
  wp_pure (fun ad H locs la hv kk => lv_null hX.1 hX.2.1 (hX.dec hf) kk) (fun h1 h2 => scop_r h1 hn) k
theorem r_ldc (hX : okX g X F) (i : Nat) {n : Nat} {x : Int32} {y : Int} (hf : (fprg F)[i]? = some (pc, .ldc n, 2)) (hw : Cond.constant (fown F) n x ∈ lw_tbl) (hy : x = Int32.ofInt y) (k : wp g X F cells slots (pc + 2) ls ((0, y) :: st) v ρ Z) : wp g X F cells slots pc ls (st) v ρ Z :=
  wp_pure (fun ad H locs la hv kk => lv_ldc hX.1 hX.2.1 hX.2.2.2.2.1 (hX.2.2.2.2.2.1 _ hw rfl) (hX.dec hf) (by rw [hy]; exact kk)) (fun h1 h2 => scop_i h1) k
theorem r_ldcw (hX : okX g X F) (i : Nat) {n : Nat} {x : Int32} {y : Int} (hf : (fprg F)[i]? = some (pc, .ldc_w n, 3)) (hw : Cond.constant (fown F) n x ∈ lw_tbl) (hy : x = Int32.ofInt y) (k : wp g X F cells slots (pc + 3) ls ((0, y) :: st) v ρ Z) : wp g X F cells slots pc ls (st) v ρ Z :=
  wp_pure (fun ad H locs la hv kk => lv_ldcw hX.1 hX.2.1 hX.2.2.2.2.1 (hX.2.2.2.2.2.1 _ hw rfl) (hX.dec hf) (by rw [hy]; exact kk)) (fun h1 h2 => scop_i h1) k
theorem r_ldc2 (hX : okX g X F) (i : Nat) {n : Nat} {x : Int64} {y : Int} (hf : (fprg F)[i]? = some (pc, .ldc2_w n, 3)) (hw : Cond.constantLong (fown F) n x ∈ lw_tbl) (hy : x = Int64.ofInt y) (k : wp g X F cells slots (pc + 3) ls ((1, y) :: st) v ρ Z) : wp g X F cells slots pc ls (st) v ρ Z :=
  wp_pure (fun ad H locs la hv kk => lv_ldc2 hX.1 hX.2.1 hX.2.2.2.2.1 (hX.2.2.2.2.2.1 _ hw rfl) (hX.dec hf) (by rw [hy]; exact kk)) (fun h1 h2 => scop_l h1) k
theorem r_iload_n (hX : okX g X F) (i : Nat) {k : Fin 4} {x : Int} (hf : (fprg F)[i]? = some (pc, .iload_n k, 1)) (hl : ls[(k : Nat)]? = some (0, x)) (k : wp g X F cells slots (pc + 1) ls ((0, x) :: st) v ρ Z) : wp g X F cells slots pc ls (st) v ρ Z :=
  wp_pure (fun ad H locs la hv kk => lv_iload_n hX.1 hX.2.1 (hX.dec hf) rfl (lvr_at hv hl (by simp)) kk) (fun h1 h2 => scop_i h1) k
theorem r_iload (hX : okX g X F) (i : Nat) {k : Nat} {x : Int} (hf : (fprg F)[i]? = some (pc, .iload k, 2)) (hl : ls[k]? = some (0, x)) (k : wp g X F cells slots (pc + 2) ls ((0, x) :: st) v ρ Z) : wp g X F cells slots pc ls (st) v ρ Z :=
  wp_pure (fun ad H locs la hv kk => lv_iload hX.1 hX.2.1 (hX.dec hf) (lvr_at hv hl (by simp)) kk) (fun h1 h2 => scop_i h1) k
theorem r_lload_n (hX : okX g X F) (i : Nat) {k : Fin 4} {x : Int} (hf : (fprg F)[i]? = some (pc, .lload_n k, 1)) (hl : ls[(k : Nat)]? = some (1, x)) (k : wp g X F cells slots (pc + 1) ls ((1, x) :: st) v ρ Z) : wp g X F cells slots pc ls (st) v ρ Z :=
  wp_pure (fun ad H locs la hv kk => lv_lload_n hX.1 hX.2.1 (hX.dec hf) rfl (lvr_at hv hl (by simp)) kk) (fun h1 h2 => scop_l h1) k
theorem r_lload (hX : okX g X F) (i : Nat) {k : Nat} {x : Int} (hf : (fprg F)[i]? = some (pc, .lload k, 2)) (hl : ls[k]? = some (1, x)) (k : wp g X F cells slots (pc + 2) ls ((1, x) :: st) v ρ Z) : wp g X F cells slots pc ls (st) v ρ Z :=
  wp_pure (fun ad H locs la hv kk => lv_lload hX.1 hX.2.1 (hX.dec hf) (lvr_at hv hl (by simp)) kk) (fun h1 h2 => scop_l h1) k
theorem lvr_ref {ad : Int → Nat} {la : Array Slot} {nL : Nat} {ls : List V2} (h : lvr ad la nL ls) {k : Nat} {x : Int} (hk : ls[k]? = some (2, x)) : (x < 0 ∧ tr ad (2, x) = .null ∧ la[k]? = some (.val .null)) ∨ (tr ad (2, x) = .ref (ad x) ∧ la[k]? = some (.val (.ref (ad x)))) := by
  have h1 := lvr_at h hk (by simp)
  by_cases hx : x < 0
  · have e : tr ad (2, x) = .null := if_pos hx
    rw [e] at h1
    exact Or.inl ⟨hx, e, h1⟩
  · have e : tr ad (2, x) = .ref (ad x) := if_neg hx
    rw [e] at h1
    exact Or.inr ⟨e, h1⟩
theorem r_aload_n (hX : okX g X F) (i : Nat) {k : Fin 4} {x : Int} (hf : (fprg F)[i]? = some (pc, .aload_n k, 1)) (hl : ls[(k : Nat)]? = some (2, x)) (k : wp g X F cells slots (pc + 1) ls ((2, x) :: st) v ρ Z) : wp g X F cells slots pc ls st v ρ Z := by
  refine wp_pure (fun ad H locs la hv kk => ?_) (fun h1 h2 => scop_v h1 (scop_at h2 hl)) k
  rw [List.map_cons] at kk
  rcases lvr_ref hv hl with ⟨-, e, h⟩ | ⟨e, h⟩
  · rw [e] at kk; exact lv_aload_nN hX.1 hX.2.1 (hX.dec hf) rfl h kk
  · rw [e] at kk; exact lv_aload_n hX.1 hX.2.1 (hX.dec hf) rfl h kk
theorem r_aload (hX : okX g X F) (i : Nat) {k : Nat} {x : Int} (hf : (fprg F)[i]? = some (pc, .aload k, 2)) (hl : ls[k]? = some (2, x)) (k : wp g X F cells slots (pc + 2) ls ((2, x) :: st) v ρ Z) : wp g X F cells slots pc ls st v ρ Z := by
  refine wp_pure (fun ad H locs la hv kk => ?_) (fun h1 h2 => scop_v h1 (scop_at h2 hl)) k
  rw [List.map_cons] at kk
  rcases lvr_ref hv hl with ⟨-, e, h⟩ | ⟨e, h⟩
  · rw [e] at kk; exact lv_aloadN hX.1 hX.2.1 (hX.dec hf) h kk
  · rw [e] at kk; exact lv_aload hX.1 hX.2.1 (hX.dec hf) h kk
theorem cat_i {ad : Int → Nat} {x : V2} (h : x.1 ≠ 1) : (tr ad x).category = 1 := by
  obtain ⟨t, y⟩ := x
  match t, h with
  | 0, _ => rfl
  | 1, h => exact absurd rfl h
  | 3, _ => rfl
  | 4, _ => rfl
  | n + 5, _ => rfl
  | 2, _ =>
    show (if y < 0 then Value.null else .ref (ad y)).category = 1
    by_cases hy : y < 0
    · rw [if_pos hy]; rfl
    · rw [if_neg hy]; rfl
theorem r_dup (hX : okX g X F) (i : Nat) {x : V2} (hf : (fprg F)[i]? = some (pc, .dup, 1)) (hx : x.1 ≠ 1) (k : wp g X F cells slots (pc + 1) ls (x :: x :: st) v ρ Z) : wp g X F cells slots pc ls (x :: st) v ρ Z :=
  wp_pure (fun ad H locs la hv kk => lv_dup hX.1 hX.2.1 (hX.dec hf) (cat_i hx) kk) (fun h1 h2 => scop_v h1 (h1 x List.mem_cons_self)) k
theorem r_pop (hX : okX g X F) (i : Nat) {x : V2} (hf : (fprg F)[i]? = some (pc, .pop, 1)) (hx : x.1 ≠ 1) (k : wp g X F cells slots (pc + 1) ls (st) v ρ Z) : wp g X F cells slots pc ls (x :: st) v ρ Z :=
  wp_pure (fun ad H locs la hv kk => lv_pop hX.1 hX.2.1 (hX.dec hf) (cat_i hx) kk) (fun h1 h2 => scop_c h1) k
theorem r_dup2i (hX : okX g X F) (i : Nat) {x y : V2} (hf : (fprg F)[i]? = some (pc, .dup2, 1)) (hx : x.1 ≠ 1) (hy : y.1 ≠ 1) (k : wp g X F cells slots (pc + 1) ls (x :: y :: x :: y :: st) v ρ Z) : wp g X F cells slots pc ls (x :: y :: st) v ρ Z :=
  wp_pure (fun ad H locs la hv kk => lv_dup2_11 hX.1 hX.2.1 (hX.dec hf) (cat_i hx) (cat_i hy) kk) (fun h1 h2 => scop_v (scop_v h1 (h1 y (List.mem_cons_of_mem _ List.mem_cons_self))) (h1 x List.mem_cons_self)) k
theorem r_dup2l (hX : okX g X F) (i : Nat) {x : Int} (hf : (fprg F)[i]? = some (pc, .dup2, 1)) (k : wp g X F cells slots (pc + 1) ls ((1, x) :: (1, x) :: st) v ρ Z) : wp g X F cells slots pc ls ((1, x) :: st) v ρ Z :=
  wp_pure (fun ad H locs la hv kk => lv_dup2_2 hX.1 hX.2.1 (hX.dec hf) rfl kk) (fun h1 h2 => scop_l h1) k
theorem r_pop2l (hX : okX g X F) (i : Nat) {x : Int} (hf : (fprg F)[i]? = some (pc, .pop2, 1)) (k : wp g X F cells slots (pc + 1) ls (st) v ρ Z) : wp g X F cells slots pc ls ((1, x) :: st) v ρ Z :=
  wp_pure (fun ad H locs la hv kk => lv_pop2_2 hX.1 hX.2.1 (hX.dec hf) rfl kk) (fun h1 h2 => scop_c h1) k
theorem r_iadd (hX : okX g X F) (i : Nat) {x y : Int} (hf : (fprg F)[i]? = some (pc, .iadd, 1)) (k : wp g X F cells slots (pc + 1) ls ((0, x + y) :: st) v ρ Z) : wp g X F cells slots pc ls ((0, y) :: (0, x) :: st) v ρ Z :=
  wp_pure (fun ad H locs la hv kk => lv_iadd hX.1 hX.2.1 (hX.dec hf) (by rw [List.map_cons, tr_i, Int32.ofInt_add] at kk; exact kk)) (fun h1 h2 => scop_i (scop_c (scop_c h1))) k
theorem r_isub (hX : okX g X F) (i : Nat) {x y : Int} (hf : (fprg F)[i]? = some (pc, .isub, 1)) (k : wp g X F cells slots (pc + 1) ls ((0, x - y) :: st) v ρ Z) : wp g X F cells slots pc ls ((0, y) :: (0, x) :: st) v ρ Z :=
  wp_pure (fun ad H locs la hv kk => lv_isub hX.1 hX.2.1 (hX.dec hf) (by rw [List.map_cons, tr_i, Int32.ofInt_sub] at kk; exact kk)) (fun h1 h2 => scop_i (scop_c (scop_c h1))) k
theorem r_imul (hX : okX g X F) (i : Nat) {x y : Int} (hf : (fprg F)[i]? = some (pc, .imul, 1)) (k : wp g X F cells slots (pc + 1) ls ((0, x * y) :: st) v ρ Z) : wp g X F cells slots pc ls ((0, y) :: (0, x) :: st) v ρ Z :=
  wp_pure (fun ad H locs la hv kk => lv_imul hX.1 hX.2.1 (hX.dec hf) (by rw [List.map_cons, tr_i, Int32.ofInt_mul] at kk; exact kk)) (fun h1 h2 => scop_i (scop_c (scop_c h1))) k
theorem r_ladd (hX : okX g X F) (i : Nat) {x y : Int} (hf : (fprg F)[i]? = some (pc, .ladd, 1)) (k : wp g X F cells slots (pc + 1) ls ((1, x + y) :: st) v ρ Z) : wp g X F cells slots pc ls ((1, y) :: (1, x) :: st) v ρ Z :=
  wp_pure (fun ad H locs la hv kk => lv_ladd hX.1 hX.2.1 (hX.dec hf) (by rw [List.map_cons, tr_l, Int64.ofInt_add] at kk; exact kk)) (fun h1 h2 => scop_l (scop_c (scop_c h1))) k
theorem r_lsub (hX : okX g X F) (i : Nat) {x y : Int} (hf : (fprg F)[i]? = some (pc, .lsub, 1)) (k : wp g X F cells slots (pc + 1) ls ((1, x - y) :: st) v ρ Z) : wp g X F cells slots pc ls ((1, y) :: (1, x) :: st) v ρ Z :=
  wp_pure (fun ad H locs la hv kk => lv_lsub hX.1 hX.2.1 (hX.dec hf) (by rw [List.map_cons, tr_l, Int64.ofInt_sub] at kk; exact kk)) (fun h1 h2 => scop_l (scop_c (scop_c h1))) k
theorem r_lmul (hX : okX g X F) (i : Nat) {x y : Int} (hf : (fprg F)[i]? = some (pc, .lmul, 1)) (k : wp g X F cells slots (pc + 1) ls ((1, x * y) :: st) v ρ Z) : wp g X F cells slots pc ls ((1, y) :: (1, x) :: st) v ρ Z :=
  wp_pure (fun ad H locs la hv kk => lv_lmul hX.1 hX.2.1 (hX.dec hf) (by rw [List.map_cons, tr_l, Int64.ofInt_mul] at kk; exact kk)) (fun h1 h2 => scop_l (scop_c (scop_c h1))) k
end RowsA
