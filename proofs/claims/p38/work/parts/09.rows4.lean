section RowsD
variable {g : Gp} {X : Cx} {F : Fm} {cells slots pc : Nat} {ls st : List V2} {v ρ : Mv} {Z : Mz}
theorem Rel.obj {s : State} {ad : Int → Nat} {H : Heap} {r : Int} {K : Nat} (hR : Rel g s ad v ρ Z H) (hk : Z.1 r = K) (hK : K < 13) : 0 ≤ r ∧ ∃ q, cls[K]? = some q ∧ t_OB (ad r) (gC g K) q.2.2 (gI g K) H (fun k => tr ad (pv (fty K k) (v r k) (ρ r k))) := by
  obtain ⟨h0, -, -, hc, -⟩ := hR.1 r (by rw [hk]; omega)
  rw [hk] at hc
  unfold cellAt at hc
  rw [if_pos hK] at hc
  exact ⟨h0, hc⟩
theorem Rel.arr {s : State} {ad : Int → Nat} {H : Heap} {r : Int} {K : Nat} (hR : Rel g s ad v ρ Z H) (hk : Z.1 r = K) (hK : 13 ≤ K) (hK2 : K < 99) : 0 ≤ r ∧ 0 ≤ Z.2.1 r ∧ Z.2.1 r < 2147483648 ∧ (∀ j : Int, 0 ≤ j → j < Z.2.1 r → rngK K (v r j)) ∧ ∃ cell, H[ad r]? = some cell ∧ arrOK s (aty K) (Z.2.1 r).toNat (fun j => tr ad (pv (ety K) (v r j) (ρ r j))) cell ∧ (4 ≤ r → cell = arrV (gA g K) (Z.2.1 r).toNat (fun j => tr ad (pv (ety K) (v r j) (ρ r j)))) := by
  obtain ⟨h0, -, -, hc, -⟩ := hR.1 r (by rw [hk]; omega)
  rw [hk] at hc
  unfold cellAt at hc
  rw [if_neg (by omega)] at hc
  exact ⟨h0, hc⟩
theorem Rel.scp {s : State} {ad : Int → Nat} {H : Heap} {r : Int} (hR : Rel g s ad v ρ Z H) (hk : Z.1 r ≠ 99) (k : Int) : ρ r k < Z.2.2 := (hR.1 r hk).2.2.2.2.1 k
theorem r_get (hX : okX g X F) (i : Nat) {idx K k : Nat} {r : Int} (hf : (fprg F)[i]? = some (pc, .getfield idx, 3)) (L : LkF (fown F) idx K k) (hk : Z.1 r = K) (kk : wp g X F cells slots (pc + 3) ls (pv (fty K k) (v r k) (ρ r k) :: st) v ρ Z) : wp g X F cells slots pc ls ((2, r) :: st) v ρ Z := by
  intro ad H locs la hR h1 h2 hq hv
  obtain ⟨q, hc, hkN, hlink⟩ := L
  have hK13 : K < 13 := by
    have := (List.getElem?_eq_some_iff.mp hc).1
    simpa [cls] using this
  obtain ⟨h0, q', hc', cell, q1, q2, q3, q4⟩ := hR.obj hk hK13
  cases hc.symm.trans hc'
  obtain ⟨c1, c2, c3, c4⟩ := cls_ok K q hc
  obtain ⟨hS, hfc, kC, hkC, hkind⟩ := hX.2.2.2.2.2.2.1.1.1 K q hc
  obtain ⟨cf, kf, fi, f, hi, hsl⟩ := hS k hkN
  rw [c4 k hkN] at hi
  have hi' : (xs X).fieldFound? (q.2.1 k).1 (q.2.1 k).2.1 (q.2.1 k).2.2.1 = some (cf, kf, fi, f) := by rw [c4 k hkN]; exact hi
  have hst := (u_facts hfc hkC (u_lays hX.ts c1 hkN) hi').1
  have hslot : cell.slots[f.slot]? = some (tr ad (pv (fty K k) (v r k) (ρ r k))) := by rw [hsl]; exact q4 k hkN
  have kk2 := kk ad H locs la hR (scop_v (scop_c h1) (fun e => by
    have e2 : fty K k = 2 := e
    show (if fty K k = 2 then ρ r k else v r k) < _
    rw [if_pos e2]
    exact hR.scp (by rw [hk]; omega) k)) h2 hq hv
  rw [List.map_cons, tr_r ad h0]
  rcases hlink with hl | ⟨host, hl⟩
  · exact W.getf hX.1 hX.2.1 hX.2.2.2.2.1 (hX.2.2.2.2.2.1 _ hl rfl) hi hst q1 (by rw [q3]; exact fun h => by cases h) hslot rfl rfl (hX.dec hf) kk2
  · exact va_Wgetf hX.1 hX.2.1 hX.2.2.2.2.1 (va_Nw.use rfl (hX.2.2.2.2.2.2.1.2.1 _ hl rfl)) hi hst q1 (by rw [q3]; exact fun h => by cases h) hslot rfl rfl (hX.dec hf) kk2
theorem r_getI (hX : okX g X F) (i : Nat) {idx K k : Nat} {r : Int} (hf : (fprg F)[i]? = some (pc, .getfield idx, 3)) (L : LkF (fown F) idx K k) (ht : fty K k = 0) (hk : Z.1 r = K) (kk : wp g X F cells slots (pc + 3) ls ((0, v r k) :: st) v ρ Z) : wp g X F cells slots pc ls ((2, r) :: st) v ρ Z :=
  r_get hX i hf L hk (by rw [show pv (fty K k) (v r k) (ρ r k) = (0, v r k) by rw [ht]; rfl]; exact kk)
theorem r_getL (hX : okX g X F) (i : Nat) {idx K k : Nat} {r : Int} (hf : (fprg F)[i]? = some (pc, .getfield idx, 3)) (L : LkF (fown F) idx K k) (ht : fty K k = 1) (hk : Z.1 r = K) (kk : wp g X F cells slots (pc + 3) ls ((1, v r k) :: st) v ρ Z) : wp g X F cells slots pc ls ((2, r) :: st) v ρ Z :=
  r_get hX i hf L hk (by rw [show pv (fty K k) (v r k) (ρ r k) = (1, v r k) by rw [ht]; rfl]; exact kk)
theorem r_getR (hX : okX g X F) (i : Nat) {idx K k : Nat} {r q : Int} (hf : (fprg F)[i]? = some (pc, .getfield idx, 3)) (L : LkF (fown F) idx K k) (ht : fty K k = 2) (hk : Z.1 r = K) (hq : ρ r k = q) (kk : wp g X F cells slots (pc + 3) ls ((2, q) :: st) v ρ Z) : wp g X F cells slots pc ls ((2, r) :: st) v ρ Z :=
  r_get hX i hf L hk (by rw [show pv (fty K k) (v r k) (ρ r k) = (2, q) by rw [ht]; show (2, ρ r k) = _; rw [hq]]; exact kk)
theorem oi_idx {i n : Int} (h0 : 0 ≤ i) (h1 : i < n) (h2 : n < 2147483648) : (Int32.ofInt i).toNatClampNeg = i.toNat ∧ ¬ (Int32.ofInt i < 0 ∨ n.toNat ≤ (Int32.ofInt i).toNatClampNeg) := by
  have e : (Int32.ofInt i).toNatClampNeg = i.toNat := by rw [oi_nI h0, nI_clamp (by omega)]
  refine ⟨e, fun q => ?_⟩
  rcases q with q | q
  · have := (oi_lt (x := i) (y := 0) ⟨by omega, by omega⟩ inR0).mp q
    omega
  · rw [e] at q; omega
theorem ald_ok {s : State} {ad : Int → Nat} {H : Heap} {r i : Int} {K : Nat} (hR : Rel g s ad v ρ Z H) (hk : Z.1 r = K) (hK : 13 ≤ K) (hK2 : K < 99) (h0 : 0 ≤ i) (h1 : i < Z.2.1 r) : tr ad (2, r) = .ref (ad r) ∧ rngK K (v r i) ∧ ∃ cell, H[ad r]? = some cell ∧ s.isArrayOf cell (aty K) ∧ cell.vm ≠ .unknown ∧ ¬ (Int32.ofInt i < 0 ∨ cell.slots.size ≤ (Int32.ofInt i).toNatClampNeg) ∧ cell.slots[(Int32.ofInt i).toNatClampNeg]? = some (tr ad (pv (ety K) (v r i) (ρ r i))) := by
  obtain ⟨hr0, hn0, hn1, hrg, cell, hc, ⟨a1, a2, a3, a4⟩, -⟩ := hR.arr hk hK hK2
  obtain ⟨e, hin⟩ := oi_idx h0 h1 hn1
  refine ⟨tr_r ad hr0, hrg i h0 h1, cell, hc, a1, a2, by rw [a3]; exact hin, ?_⟩
  have e2 := a4 i.toNat (by omega)
  simp only [Int.toNat_of_nonneg h0] at e2
  rw [e]
  exact e2
theorem r_iald (hX : okX g X F) (i : Nat) {r x : Int} (hf : (fprg F)[i]? = some (pc, .iaload, 1)) (hk : Z.1 r = 13) (h0 : 0 ≤ x) (hn : x < Z.2.1 r) (kk : wp g X F cells slots (pc + 1) ls ((0, v r x) :: st) v ρ Z) : wp g X F cells slots pc ls ((0, x) :: (2, r) :: st) v ρ Z := by
  intro ad H locs la hR h1 h2 hq hv
  obtain ⟨e, -, cell, c1, c2, c3, c4, c5⟩ := ald_ok hR hk (by decide) (by decide) h0 hn
  rw [List.map_cons, List.map_cons, e]
  exact W.iald hX.1 hX.2.1 c1 c2 c3 c4 c5 rfl rfl (hX.dec hf) (kk ad H locs la hR (scop_i (scop_c (scop_c h1))) h2 hq hv)
theorem r_lald (hX : okX g X F) (i : Nat) {r x : Int} (hf : (fprg F)[i]? = some (pc, .laload, 1)) (hk : Z.1 r = 14) (h0 : 0 ≤ x) (hn : x < Z.2.1 r) (kk : wp g X F cells slots (pc + 1) ls ((1, v r x) :: st) v ρ Z) : wp g X F cells slots pc ls ((0, x) :: (2, r) :: st) v ρ Z := by
  intro ad H locs la hR h1 h2 hq hv
  obtain ⟨e, -, cell, c1, c2, c3, c4, c5⟩ := ald_ok hR hk (by decide) (by decide) h0 hn
  rw [List.map_cons, List.map_cons, e]
  exact W.lald hX.1 hX.2.1 c1 c2 c3 c4 c5 rfl rfl (hX.dec hf) (kk ad H locs la hR (scop_l (scop_c (scop_c h1))) h2 hq hv)
theorem r_bald (hX : okX g X F) (i : Nat) {r x : Int} (hf : (fprg F)[i]? = some (pc, .baload, 1)) (hk : Z.1 r = 15) (h0 : 0 ≤ x) (hn : x < Z.2.1 r) (kk : -128 ≤ v r x → v r x < 128 → wp g X F cells slots (pc + 1) ls ((0, v r x) :: st) v ρ Z) : wp g X F cells slots pc ls ((0, x) :: (2, r) :: st) v ρ Z := by
  intro ad H locs la hR h1 h2 hq hv
  obtain ⟨e, hg, cell, c1, c2, c3, c4, c5⟩ := ald_ok hR hk (by decide) (by decide) h0 hn
  rw [List.map_cons, List.map_cons, e]
  exact W.bald hX.1 hX.2.1 c1 c2 c3 c4 c5 rfl rfl (hX.dec hf) (kk (hg.2 rfl).1 (hg.2 rfl).2 ad H locs la hR (scop_i (scop_c (scop_c h1))) h2 hq hv)
theorem r_zald (hX : okX g X F) (i : Nat) {r x : Int} (hf : (fprg F)[i]? = some (pc, .baload, 1)) (hk : Z.1 r = 16) (h0 : 0 ≤ x) (hn : x < Z.2.1 r) (kk : 0 ≤ v r x → v r x ≤ 1 → wp g X F cells slots (pc + 1) ls ((0, v r x) :: st) v ρ Z) : wp g X F cells slots pc ls ((0, x) :: (2, r) :: st) v ρ Z := by
  intro ad H locs la hR h1 h2 hq hv
  obtain ⟨e, hg, cell, c1, c2, c3, c4, c5⟩ := ald_ok hR hk (by decide) (by decide) h0 hn
  rw [List.map_cons, List.map_cons, e]
  exact W.zald hX.1 hX.2.1 c1 c2 c3 c4 c5 rfl rfl (hX.dec hf) (kk (hg.1 rfl).1 (hg.1 rfl).2 ad H locs la hR (scop_i (scop_c (scop_c h1))) h2 hq hv)
theorem r_aald (hX : okX g X F) (i : Nat) {r x q : Int} (K : Nat) (hf : (fprg F)[i]? = some (pc, .aaload, 1)) (hk : Z.1 r = K) (hK : 17 ≤ K) (hK2 : K < 99) (ht : (aty K).isReference = true) (he : ety K = 2) (h0 : 0 ≤ x) (hn : x < Z.2.1 r) (hq : ρ r x = q) (kk : wp g X F cells slots (pc + 1) ls ((2, q) :: st) v ρ Z) : wp g X F cells slots pc ls ((0, x) :: (2, r) :: st) v ρ Z := by
  intro ad H locs la hR h1 h2 hql hv
  obtain ⟨e, hg, cell, c1, c2, c3, c4, c5⟩ := ald_ok hR hk (by omega) hK2 h0 hn
  rw [List.map_cons, List.map_cons, e]
  rw [he, show pv 2 (v r x) (ρ r x) = (2, q) by show (2, ρ r x) = _; rw [hq]] at c5
  exact W.aald hX.1 hX.2.1 c1 c2 ht c3 c4 c5 rfl rfl (hX.dec hf) (kk ad H locs la hR (scop_r (scop_c (scop_c h1)) (by rw [← hq]; exact hR.scp (by rw [hk]; omega) x)) h2 hql hv)
theorem r_alen (hX : okX g X F) (i : Nat) {r : Int} (K : Nat) (hf : (fprg F)[i]? = some (pc, .arraylength, 1)) (hk : Z.1 r = K) (hK : 13 ≤ K) (hK2 : K < 99) (kk : 0 ≤ Z.2.1 r → Z.2.1 r < 2147483648 → wp g X F cells slots (pc + 1) ls ((0, Z.2.1 r) :: st) v ρ Z) : wp g X F cells slots pc ls ((2, r) :: st) v ρ Z := by
  intro ad H locs la hR h1 h2 hq hv
  obtain ⟨hr0, hn0, hn1, -, cell, hc, ⟨a1, a2, a3, a4⟩, -⟩ := hR.arr hk hK hK2
  rw [List.map_cons, tr_r ad hr0]
  refine W.alen (n := Int32.ofInt (Z.2.1 r)) hX.1 hX.2.1 hc a1 ?_ rfl rfl (hX.dec hf) (kk hn0 hn1 ad H locs la hR (scop_i (scop_c h1)) h2 hq hv)
  rw [a3, oi_nI hn0]
  rfl
end RowsD
