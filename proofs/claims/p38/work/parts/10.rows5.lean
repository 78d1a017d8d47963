def up (v : Mv) (r k x : Int) : Mv := fun a b => if a = r ∧ b = k then x else v a b
theorem up_s (v : Mv) (r k x : Int) : up v r k x r k = x := if_pos ⟨rfl, rfl⟩
theorem up_r {v : Mv} {r k x a b : Int} (h : a ≠ r) : up v r k x a b = v a b := if_neg (fun q => h q.1)
theorem up_k {v : Mv} {r k x a b : Int} (h : b ≠ k) : up v r k x a b = v a b := if_neg (fun q => h q.2)
theorem up_f {v : Mv} {r k x a : Int} (h : a ≠ r) : up v r k x a = v a := funext fun _ => up_r h
section RowsE
variable {g : Gp} {X : Cx} {F : Fm} {cells slots pc : Nat} {ls st : List V2} {v ρ : Mv} {Z : Mz}
theorem cellAt.kept {s : State} {ad : Int → Nat} {H H1 : Heap} {r : Int} {K : Nat} {n : Int} {f q : Int → Int} (h : cellAt g s ad H r K n f q) (he : H1[ad r]? = H[ad r]?) : cellAt g s ad H1 r K n f q := by
  unfold cellAt at h ⊢
  split
  · rename_i hK
    rw [if_pos hK] at h
    obtain ⟨q, h1, h2⟩ := h
    exact ⟨q, h1, h2.kept he⟩
  · rename_i hK
    rw [if_neg hK, ] at h
    rw [he]
    exact h
theorem cellAt.lt {s : State} {ad : Int → Nat} {H : Heap} {r : Int} {K : Nat} {n : Int} {f q : Int → Int} (h : cellAt g s ad H r K n f q) : ad r < H.size := by
  unfold cellAt at h
  split at h
  · obtain ⟨q, -, cell, h2, -⟩ := h
    exact (Array.getElem?_eq_some_iff.mp h2).1
  · obtain ⟨-, -, -, cell, h2, -⟩ := h
    exact (Array.getElem?_eq_some_iff.mp h2).1
theorem KY.kept {s : State} {H H1 : Heap} (h : KY g s H) (hq : ∀ a : Nat, a < H.size → ¬ gB g ≤ a → H1[a]? = H[a]?) : KY g s H1 := ⟨h.1.kept hq, h.2.1.kept hq, h.2.2.1.kept hq, h.2.2.2.1.kept hq, h.2.2.2.2.1.kept hq, va_Zq.kept h.2.2.2.2.2 hq⟩
theorem SS.kept {s : State} {ad : Int → Nat} {H H1 : Heap} (h : SS g s ad H) (hq : ∀ a : Nat, a < H.size → ¬ gB g ≤ a → H1[a]? = H[a]?) : SS g s ad H1 := ⟨va_Z.kept h.1 hq, va_Z.kept h.2.1 hq, vx_Zq.kept h.2.2.1 hq, vx_Zq.kept h.2.2.2.1 hq, h.2.2.2.2.kept hq⟩
theorem Rel.upd {s : State} {ad : Int → Nat} {H H1 : Heap} {v' ρ' : Mv} {r : Int} (hR : Rel g s ad v ρ Z H) (hr : Z.1 r ≠ 99) (h4 : 4 ≤ r) (hv : ∀ q, q ≠ r → v' q = v q) (hρ : ∀ q, q ≠ r → ρ' q = ρ q) (hb : ∀ k, ρ' r k < Z.2.2) (hsz : H1.size = H.size) (ho : ∀ q, q ≠ ad r → H1[q]? = H[q]?)
    (hc : cellAt g s ad H1 r (Z.1 r) (Z.2.1 r) (v' r) (ρ' r)) : Rel g s ad v' ρ' Z H1 := by
  obtain ⟨a1, a2, a3, a4⟩ := hR
  have hA : gB g ≤ ad r := (a1 r hr).2.2.2.2.2 h4
  refine ⟨fun q hq => ?_, a2, by rw [hsz]; exact a3, a4.kept (fun a _ hn => ho a (fun e => hn (by rw [e]; exact hA)))⟩
  obtain ⟨b1, b2, b3, b4, b5, b6⟩ := a1 q hq
  by_cases e : q = r
  · subst e
    exact ⟨b1, b2, b3, hc, hb, b6⟩
  · refine ⟨b1, b2, b3, ?_, by rw [hρ q e]; exact b5, b6⟩
    rw [hv q e, hρ q e]
    exact b4.kept (ho _ (fun z => e (a2 r q hr hq h4 z.symm).symm))
theorem pv_i (x r : Int) : pv 0 x r = (0, x) := rfl
theorem pv_l (x r : Int) : pv 1 x r = (1, x) := rfl
theorem pv_r (x r : Int) : pv 2 x r = (2, r) := rfl
/-- an array's element written -/
theorem Rel.ast {s : State} {ad : Int → Nat} {H H1 : Heap} {v' ρ' : Mv} {r i : Int} {K : Nat} {w : Value} (hR : Rel g s ad v ρ Z H) (hKK : KK g s) (hk : Z.1 r = K) (hK : 13 ≤ K) (hK2 : K < 21) (h4 : 4 ≤ r) (h0 : 0 ≤ i) (hn : i < Z.2.1 r) (hv : ∀ q, q ≠ r → v' q = v q) (hρ : ∀ q, q ≠ r → ρ' q = ρ q) (hv2 : ∀ k, k ≠ i → v' r k = v r k) (hρ2 : ∀ k, k ≠ i → ρ' r k = ρ r k)
    (hb : ρ' r i < Z.2.2) (hw : tr ad (pv (ety K) (v' r i) (ρ' r i)) = w) (hg : rngK K (v' r i)) (hsz : H1.size = H.size) (ho : ∀ q, q ≠ ad r → H1[q]? = H[q]?) (hc : ∀ cell, H[ad r]? = some cell → H1[ad r]? = some (cell.setSlot (Int32.ofInt i).toNatClampNeg w)) : Rel g s ad v' ρ' Z H1 := by
  have h99 : Z.1 r ≠ 99 := by rw [hk]; omega
  refine hR.upd h99 h4 hv hρ (fun k => ?_) hsz ho ?_
  · by_cases e : k = i
    · subst e; exact hb
    · rw [hρ2 k e]; exact hR.scp h99 k
  obtain ⟨-, n0, n1, hrg, cell, c1, -, c3⟩ := hR.arr hk hK (by omega)
  have hcell := c3 h4
  have h1 := hc cell c1
  have ei := (oi_idx h0 hn n1).1
  rw [hk]
  unfold cellAt
  rw [if_neg (by omega)]
  have e2 : cell.setSlot (Int32.ofInt i).toNatClampNeg w = arrV (gA g K) (Z.2.1 r).toNat (fun j => tr ad (pv (ety K) (v' r j) (ρ' r j))) := by
    rw [hcell, arrV_store, ei]
    congr 1
    funext j
    unfold updV
    by_cases e : j = i.toNat
    · rw [if_pos e, ← hw, e, Int.toNat_of_nonneg h0]
    · rw [if_neg e, hv2 j (by omega), hρ2 j (by omega)]
  refine ⟨n0, n1, fun j hj0 hj1 => ?_, _, h1, ?_, fun _ => e2⟩
  · by_cases e : j = i
    · subst e; exact hg
    · rw [hv2 j e]; exact hrg j hj0 hj1
  · rw [e2]
    exact ⟨(hKK.2.2.1 K hK hK2).1 _ _, (fun h => by cases h), arrV_size _ _ _, fun j hj => arrV_read _ _ hj⟩
theorem ast_at {s : State} {ad : Int → Nat} {H : Heap} {r i : Int} {K : Nat} (hR : Rel g s ad v ρ Z H) (hk : Z.1 r = K) (hK : 13 ≤ K) (hK2 : K < 99) (h0 : 0 ≤ i) (h1 : i < Z.2.1 r) : tr ad (2, r) = .ref (ad r) ∧ ∃ cell, H[ad r]? = some cell ∧ s.isArrayOf cell (aty K) ∧ cell.vm ≠ .unknown ∧ ¬ (Int32.ofInt i < 0 ∨ cell.slots.size ≤ (Int32.ofInt i).toNatClampNeg) := by
  obtain ⟨e, -, cell, c1, c2, c3, c4, -⟩ := ald_ok hR hk hK hK2 h0 h1
  exact ⟨e, cell, c1, c2, c3, c4⟩
theorem locs_in {locs : List Loc} {a k : Nat} {ad : Int → Nat} (hq : LQ g X ad Z locs) (ha : gB g ≤ a) : LQ g X ad Z (locs ++ [(⟨a, k⟩ : Loc)]) := ⟨fun q h => by
  rcases List.mem_append.mp h with h1 | h1
  · exact hq.1 q h1
  · rw [List.mem_singleton.mp h1]; exact ha, hq.2⟩
theorem Rel.base {s : State} {ad : Int → Nat} {H : Heap} {r : Int} (hR : Rel g s ad v ρ Z H) (hk : Z.1 r ≠ 99) (h4 : 4 ≤ r) : gB g ≤ ad r := (hR.1 r hk).2.2.2.2.2 h4
theorem r_iast (hX : okX g X F) (i : Nat) {r x y : Int} (hf : (fprg F)[i]? = some (pc, .iastore, 1)) (hk : Z.1 r = 13) (h4 : 4 ≤ r) (h0 : 0 ≤ y) (hn : y < Z.2.1 r) (kk : wp g X F cells slots (pc + 1) ls st (up v r y x) ρ Z) : wp g X F cells slots pc ls ((0, x) :: (0, y) :: (2, r) :: st) v ρ Z := by
  intro ad H locs la hR h1 h2 hq hv
  obtain ⟨e, cell, c1, c2, c3, c4⟩ := ast_at hR hk (by decide) (by decide) h0 hn
  rw [List.map_cons, List.map_cons, List.map_cons, e]
  refine W.iast hX.1 hX.2.1 c1 c2 c3 c4 rfl rfl (hX.dec hf) fun H1 e1 z1 o1 => ?_
  exact kk ad H1 _ la (hR.ast hX.2.2.2.2.2.2.1 hk (by decide) (by decide) h4 h0 hn (fun q hq => up_f hq) (fun _ _ => rfl) (fun k hk => up_k hk) (fun _ _ => rfl) (hR.scp (by rw [hk]; decide) _) (by rw [up_s]) ⟨(fun q => by cases q), (fun q => by cases q)⟩ z1 o1 (fun c hc => by rw [c1] at hc; cases hc; exact e1)) (scop_c (scop_c (scop_c h1))) h2 (locs_in hq (hR.base (by rw [hk]; decide) h4)) hv
theorem r_last (hX : okX g X F) (i : Nat) {r x y : Int} (hf : (fprg F)[i]? = some (pc, .lastore, 1)) (hk : Z.1 r = 14) (h4 : 4 ≤ r) (h0 : 0 ≤ y) (hn : y < Z.2.1 r) (kk : wp g X F cells slots (pc + 1) ls st (up v r y x) ρ Z) : wp g X F cells slots pc ls ((1, x) :: (0, y) :: (2, r) :: st) v ρ Z := by
  intro ad H locs la hR h1 h2 hq hv
  obtain ⟨e, cell, c1, c2, c3, c4⟩ := ast_at hR hk (by decide) (by decide) h0 hn
  rw [List.map_cons, List.map_cons, List.map_cons, e]
  refine W.last hX.1 hX.2.1 c1 c2 c3 c4 rfl rfl (hX.dec hf) fun H1 e1 z1 o1 => ?_
  exact kk ad H1 _ la (hR.ast hX.2.2.2.2.2.2.1 hk (by decide) (by decide) h4 h0 hn (fun q hq => up_f hq) (fun _ _ => rfl) (fun k hk => up_k hk) (fun _ _ => rfl) (hR.scp (by rw [hk]; decide) _) (by rw [up_s]) ⟨(fun q => by cases q), (fun q => by cases q)⟩ z1 o1 (fun c hc => by rw [c1] at hc; cases hc; exact e1)) (scop_c (scop_c (scop_c h1))) h2 (locs_in hq (hR.base (by rw [hk]; decide) h4)) hv
theorem nar_b {x : Int} (h : -128 ≤ x ∧ x < 128) : narrow .byte (.int (Int32.ofInt x)) = .int (Int32.ofInt x) := by
  show Value.int (Int32.ofInt x).toInt8.toInt32 = _
  congr 1
  apply Int32.toInt_inj.mp
  rw [Int8.toInt_toInt32, Int32.toInt_toInt8, oi ⟨by omega, by omega⟩]
  exact Int.bmod_eq_of_le (by omega) (by omega)
theorem nar_z {x : Int} (h : 0 ≤ x ∧ x ≤ 1) : narrow .boolean (.int (Int32.ofInt x)) = .int (Int32.ofInt x) := by
  have : x = 0 ∨ x = 1 := by omega
  rcases this with rfl | rfl <;> rfl
theorem r_bast (hX : okX g X F) (i : Nat) {r x y : Int} (hf : (fprg F)[i]? = some (pc, .bastore, 1)) (hk : Z.1 r = 15) (h4 : 4 ≤ r) (h0 : 0 ≤ y) (hn : y < Z.2.1 r) (hx : -128 ≤ x ∧ x < 128) (kk : wp g X F cells slots (pc + 1) ls st (up v r y x) ρ Z) : wp g X F cells slots pc ls ((0, x) :: (0, y) :: (2, r) :: st) v ρ Z := by
  intro ad H locs la hR h1 h2 hq hv
  obtain ⟨e, cell, c1, c2, c3, c4⟩ := ast_at hR hk (by decide) (by decide) h0 hn
  rw [List.map_cons, List.map_cons, List.map_cons, e]
  refine W.bast hX.1 hX.2.1 c1 c2 c3 c4 rfl rfl (hX.dec hf) fun H1 e1 z1 o1 => ?_
  rw [nar_b hx] at e1
  exact kk ad H1 _ la (hR.ast hX.2.2.2.2.2.2.1 hk (by decide) (by decide) h4 h0 hn (fun q hq => up_f hq) (fun _ _ => rfl) (fun k hk => up_k hk) (fun _ _ => rfl) (hR.scp (by rw [hk]; decide) _) (by rw [up_s]) ⟨(fun q => by cases q), fun _ => by rw [up_s]; exact hx⟩ z1 o1 (fun c hc => by rw [c1] at hc; cases hc; exact e1)) (scop_c (scop_c (scop_c h1))) h2 (locs_in hq (hR.base (by rw [hk]; decide) h4)) hv
theorem r_zast (hX : okX g X F) (i : Nat) {r x y : Int} (hf : (fprg F)[i]? = some (pc, .bastore, 1)) (hk : Z.1 r = 16) (h4 : 4 ≤ r) (h0 : 0 ≤ y) (hn : y < Z.2.1 r) (hx : 0 ≤ x ∧ x ≤ 1) (kk : wp g X F cells slots (pc + 1) ls st (up v r y x) ρ Z) : wp g X F cells slots pc ls ((0, x) :: (0, y) :: (2, r) :: st) v ρ Z := by
  intro ad H locs la hR h1 h2 hq hv
  obtain ⟨e, cell, c1, c2, c3, c4⟩ := ast_at hR hk (by decide) (by decide) h0 hn
  rw [List.map_cons, List.map_cons, List.map_cons, e]
  refine W.zast hX.1 hX.2.1 c1 c2 c3 c4 rfl rfl (hX.dec hf) fun H1 e1 z1 o1 => ?_
  rw [nar_z hx] at e1
  exact kk ad H1 _ la (hR.ast hX.2.2.2.2.2.2.1 hk (by decide) (by decide) h4 h0 hn (fun q hq => up_f hq) (fun _ _ => rfl) (fun k hk => up_k hk) (fun _ _ => rfl) (hR.scp (by rw [hk]; decide) _) (by rw [up_s]) ⟨(fun _ => by rw [up_s]; exact hx), (fun q => by cases q)⟩ z1 o1 (fun c hc => by rw [c1] at hc; cases hc; exact e1)) (scop_c (scop_c (scop_c h1))) h2 (locs_in hq (hR.base (by rw [hk]; decide) h4)) hv
/-- a reference (or null) into an array of objects: K its kind, K1 the class's kind -/
theorem r_aast (hX : okX g X F) (i : Nat) {r x y : Int} (K K1 : Nat) {C : vw_C} (hf : (fprg F)[i]? = some (pc, .aastore, 1)) (hk : Z.1 r = K) (hK : 13 ≤ K) (hK2 : K < 21) (hty : aty K = .object C.1) (hC : cls[K1]? = some C) (h4 : 4 ≤ r) (h0 : 0 ≤ y) (hn : y < Z.2.1 r) (hx : x < 0 ∨ Z.1 x = K1) (kk : wp g X F cells slots (pc + 1) ls st v (up ρ r y x) Z) : wp g X F cells slots pc ls ((2, x) :: (0, y) :: (2, r) :: st) v ρ Z := by
  intro ad H locs la hR h1 h2 hq hv
  obtain ⟨e, cell, c1, c2, c3, c4⟩ := ast_at hR hk hK (by omega) h0 hn
  rw [List.map_cons, List.map_cons, List.map_cons, e]
  have he : ety K = 2 := by unfold ety; rw [hty]; rfl
  have hsx : x < Z.2.2 := h1 (2, x) List.mem_cons_self rfl
  have hK13 : K1 < 13 := by
    have := (List.getElem?_eq_some_iff.mp hC).1
    simpa [cls] using this
  have fin : ∀ H1 : Heap, H1[ad r]? = some (cell.setSlot (Int32.ofInt y).toNatClampNeg (tr ad (2, x))) → H1.size = H.size → (∀ q, q ≠ ad r → H1[q]? = H[q]?) → W (xp X) (gL g) (xe X) (xR X) (xs X) (xm X) (xa X) (xb X) (xt X) (xc X) H1 (locs ++ [⟨ad r, (Int32.ofInt y).toNatClampNeg⟩]) cells slots (xq X) (F0 (xm X) (pc + 1) la (st.map (tr ad))) := fun H1 e1 z1 o1 =>
    kk ad H1 _ la (hR.ast hX.2.2.2.2.2.2.1 hk hK hK2 h4 h0 hn (fun _ _ => rfl) (fun q hq => up_f hq) (fun _ _ => rfl) (fun k hk => up_k hk) (by rw [up_s]; exact hsx) (by rw [he, up_s]) ⟨fun q => by subst q; simp [aty] at hty, fun q => by subst q; simp [aty] at hty⟩ z1 o1 (fun c hc => by rw [c1] at hc; cases hc; exact e1)) (scop_c (scop_c (scop_c h1))) h2 (locs_in hq (hR.base (by rw [hk]; omega) h4)) hv
  by_cases hx0 : x < 0
  · have et : tr ad (2, x) = .null := if_pos hx0
    rw [et] at fin ⊢
    rw [hty] at c2
    exact va_WaastN hX.1 hX.2.1 c1 c2 c3 c4 rfl rfl (hX.dec hf) fin
  · have hkx : Z.1 x = K1 := hx.resolve_left hx0
    have et : tr ad (2, x) = .ref (ad x) := if_neg hx0
    rw [et] at fin ⊢
    obtain ⟨-, q', hc', cellV, g1, g2, g3, -⟩ := hR.obj hkx hK13
    cases hC.symm.trans hc'
    have hcls := (hX.2.2.2.2.2.2.1.1.1 K1 C hC).2
    have hRA := (hX.2.2.2.2.2.2.1.2.2.1 K hK hK2).2
    rw [hty] at hRA
    obtain ⟨kA, comp, k1, k2, k3, -⟩ := hRA
    have hcomp : comp = gC g K1 := Option.some.inj (k3.symm.trans hcls.1)
    subst hcomp
    obtain ⟨kC, hkC, -⟩ := hcls.2
    have hcell := (hR.arr hk hK (by omega)).2.2.2.2
    obtain ⟨cell', d1, -, d3⟩ := hcell
    cases c1.symm.trans d1
    have hcl : cell.cls = gA g K := by rw [d3 h4]; rfl
    exact W.aast hX.1 hX.2.1 c1 (fun q h => by rw [d3 h4] at h; cases h) c3 (by rw [hcl]; exact k1) k2 rfl hkC ⟨fun q => c4 (Or.inl q), Nat.not_le.mp fun q => c4 (Or.inr q)⟩ g1 (fun q h => by rw [g3] at h; cases h) (by rw [g2]; exact hkC) (by rw [g2]; exact va_assign hcls) rfl rfl (hX.dec hf) fin
/-- a field written -/
theorem Rel.put {s : State} {ad : Int → Nat} {H H1 : Heap} {v' ρ' : Mv} {r : Int} {K k : Nat} {q : vw_C} {cell : Cell} {w : Value} (hR : Rel g s ad v ρ Z H) (hk : Z.1 r = K) (hK : K < 13) (hc : cls[K]? = some q) (hkN : k < q.2.2) (h4 : 4 ≤ r) (hv : ∀ a, a ≠ r → v' a = v a) (hρ : ∀ a, a ≠ r → ρ' a = ρ a) (hv2 : ∀ b, b ≠ (k : Int) → v' r b = v r b) (hρ2 : ∀ b, b ≠ (k : Int) → ρ' r b = ρ r b)
    (hb : ρ' r k < Z.2.2) (hw : tr ad (pv (fty K k) (v' r k) (ρ' r k)) = w) (q1 : H[ad r]? = some cell) (q2 : cell.cls = gC g K) (q3 : cell.vm = .none) (q4 : ∀ j, j < q.2.2 → cell.slots[gI g K j]? = some (tr ad (pv (fty K j) (v r j) (ρ r j)))) (hap : ∀ x y, x < q.2.2 → y < q.2.2 → x ≠ y → gI g K x ≠ gI g K y) (hsz : H1.size = H.size) (ho : ∀ q, q ≠ ad r → H1[q]? = H[q]?) (e1 : H1[ad r]? = some (cell.setSlot (gI g K k) w)) : Rel g s ad v' ρ' Z H1 := by
  have h99 : Z.1 r ≠ 99 := by rw [hk]; omega
  refine hR.upd h99 h4 hv hρ (fun b => ?_) hsz ho ?_
  · by_cases e : b = (k : Int)
    · subst e; exact hb
    · rw [hρ2 b e]; exact hR.scp h99 b
  rw [hk]
  unfold cellAt
  rw [if_pos hK]
  refine ⟨q, hc, _, e1, q2, q3, fun j hj => ?_⟩
  have h := t_set (V := fun j => tr ad (pv (fty K j) (v r j) (ρ r j))) q4 hap hkN w j hj
  rw [h]
  unfold updV
  by_cases e : j = k
  · subst e
    rw [if_pos rfl]
    exact congrArg some hw.symm
  · rw [if_neg e]
    simp only [hv2 j (by omega), hρ2 j (by omega)]
end RowsE
