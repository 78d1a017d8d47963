section RowsF
variable {g : Gp} {X : Cx} {F : Fm} {cells slots pc : Nat} {ls st : List V2} {v ρ : Mv} {Z : Mz}
theorem put_core (hX : okX g X F) (i : Nat) {idx K k : Nat} {r : Int} {w : V2} {v' ρ' : Mv} (hf : (fprg F)[i]? = some (pc, .putfield idx, 3)) (L : LkF (fown F) idx K k) (hk : Z.1 r = K) (h4 : 4 ≤ r) (hfin : ∀ q, cls[K]? = some q → (q.2.1 k).2.2.2 = false) (hnar : ∀ ad, narrow (tyC K k) (tr ad w) = tr ad w ∧ fits (tyC K k) (tr ad w) = true)
    (hv : ∀ a, a ≠ r → v' a = v a) (hρ : ∀ a, a ≠ r → ρ' a = ρ a) (hv2 : ∀ b, b ≠ (k : Int) → v' r b = v r b) (hρ2 : ∀ b, b ≠ (k : Int) → ρ' r b = ρ r b) (hw : pv (fty K k) (v' r k) (ρ' r k) = w) (hb : w.1 ≠ 2 → ρ' r k = ρ r k)
    (kk : wp g X F cells slots (pc + 3) ls st v' ρ' Z) : wp g X F cells slots pc ls (w :: (2, r) :: st) v ρ Z := by
  intro ad H locs la hR h1 h2 hq hvl
  obtain ⟨q, hc, hkN, hlink⟩ := L
  have hK13 : K < 13 := by
    have := (List.getElem?_eq_some_iff.mp hc).1
    simpa [cls] using this
  have h99 : Z.1 r ≠ 99 := by rw [hk]; omega
  obtain ⟨h0, q', hc', cell, q1, q2, q3, q4⟩ := hR.obj hk hK13
  cases hc.symm.trans hc'
  obtain ⟨c1, c2, c3, c4⟩ := cls_ok K q hc
  have hKv := hX.2.2.2.2.2.2.1.1
  obtain ⟨hS, hfc, kC, hkC, hkind⟩ := hKv.1 K q hc
  obtain ⟨cf, kf, fi, f, hi, hsl⟩ := hS k hkN
  have hlay := hX.ts _ (c1 _ (u_in_lay hkN))
  unfold u_lay at hlay
  rw [if_neg (by rw [hfin q hc]; decide)] at hlay
  have hst := (u_facts hfc hkC (u_lays hX.ts c1 hkN) hi).1
  have h6 := u_store hfc hkC hkind hlay hi (c2 k hkN) (hnar ad).1 (hnar ad).2
  have hi' : (xs X).fieldFound? q.1 (q.2.1 k).2.1 (q.2.1 k).2.2.1 = some (cf, kf, fi, f) := by rw [← c4 k hkN]; exact hi
  have hap := va_apart (own := fown F) hX.ts c1 (tyC K) c2 c3 hKv hc
  have hrb : ρ' r k < Z.2.2 := by
    by_cases e : w.1 = 2
    · have e1 := h1 w List.mem_cons_self e
      rw [← hw] at e e1
      have e2 : fty K k = 2 := e
      have e3 : (pv (fty K k) (v' r k) (ρ' r k)).2 = ρ' r k := if_pos e2
      rw [e3] at e1
      exact e1
    · rw [hb e]; exact hR.scp h99 k
  have fin : ∀ H1 : Heap, H1[ad r]? = some (cell.setSlot f.slot (tr ad w)) → H1.size = H.size → (∀ q, q ≠ ad r → H1[q]? = H[q]?) → W (xp X) (gL g) (xe X) (xR X) (xs X) (xm X) (xa X) (xb X) (xt X) (xc X) H1 (locs ++ [⟨ad r, f.slot⟩]) cells slots (xq X) (F0 (xm X) (pc + 3) la (st.map (tr ad))) := fun H1 e1 z1 o1 => by
    rw [hsl] at e1
    exact kk ad H1 _ la (hR.put hk hK13 hc hkN h4 hv hρ hv2 hρ2 hrb (by rw [hw]) q1 q2 q3 q4 hap z1 o1 e1) (scop_c (scop_c h1)) h2 (locs_in hq (hR.base h99 h4)) hvl
  rw [List.map_cons, List.map_cons, tr_r ad h0]
  rcases hlink with hl | ⟨host, hl⟩
  · exact W.putK hX.1 hX.2.1 (f := f) ⟨hX.2.2.2.2.1, hX.2.2.2.2.2.1 _ hl rfl, ⟨_, _, _, hi'⟩, hst⟩ (by rw [q2]; exact h6) q1 q3 (by rw [hsl]; exact k2_hasslot (q4 k hkN)) rfl rfl (hX.dec hf) fin
  · exact va_WputK hX.1 hX.2.1 (f := f) hX.2.2.2.2.1 (va_Nw.use rfl (hX.2.2.2.2.2.2.1.2.1 _ hl rfl)) hi' hst (by rw [q2]; exact h6) q1 q3 (by rw [hsl]; exact k2_hasslot (q4 k hkN)) rfl rfl (hX.dec hf) fin
theorem r_putI (hX : okX g X F) (i : Nat) {idx K k : Nat} {r x : Int} (hf : (fprg F)[i]? = some (pc, .putfield idx, 3)) (L : LkF (fown F) idx K k) (ht : tyC K k = .int) (hfin : ∀ q, cls[K]? = some q → (q.2.1 k).2.2.2 = false) (hk : Z.1 r = K) (h4 : 4 ≤ r) (kk : wp g X F cells slots (pc + 3) ls st (up v r k x) ρ Z) : wp g X F cells slots pc ls ((0, x) :: (2, r) :: st) v ρ Z :=
  put_core hX i hf L hk h4 hfin (fun ad => by rw [ht]; exact ⟨rfl, rfl⟩) (fun a ha => up_f ha) (fun _ _ => rfl) (fun b hb => up_k hb) (fun _ _ => rfl) (by unfold fty; rw [ht, up_s]; rfl) (fun _ => rfl) kk
theorem z_fit (ad : Int → Nat) {x : Int} (hx : 0 ≤ x ∧ x ≤ 1) : narrow .boolean (tr ad (0, x)) = tr ad (0, x) ∧ fits .boolean (tr ad (0, x)) = true := by
  have : x = 0 ∨ x = 1 := by omega
  rcases this with rfl | rfl <;> exact ⟨rfl, rfl⟩
theorem r_putZ (hX : okX g X F) (i : Nat) {idx K k : Nat} {r x : Int} (hf : (fprg F)[i]? = some (pc, .putfield idx, 3)) (L : LkF (fown F) idx K k) (ht : tyC K k = .boolean) (hfin : ∀ q, cls[K]? = some q → (q.2.1 k).2.2.2 = false) (hx : 0 ≤ x ∧ x ≤ 1) (hk : Z.1 r = K) (h4 : 4 ≤ r) (kk : wp g X F cells slots (pc + 3) ls st (up v r k x) ρ Z) : wp g X F cells slots pc ls ((0, x) :: (2, r) :: st) v ρ Z :=
  put_core hX i hf L hk h4 hfin (fun ad => by rw [ht]; exact z_fit ad hx) (fun a ha => up_f ha) (fun _ _ => rfl) (fun b hb => up_k hb) (fun _ _ => rfl) (by unfold fty; rw [ht, up_s]; rfl) (fun _ => rfl) kk
theorem r_putL (hX : okX g X F) (i : Nat) {idx K k : Nat} {r x : Int} (hf : (fprg F)[i]? = some (pc, .putfield idx, 3)) (L : LkF (fown F) idx K k) (ht : tyC K k = .long) (hfin : ∀ q, cls[K]? = some q → (q.2.1 k).2.2.2 = false) (hk : Z.1 r = K) (h4 : 4 ≤ r) (kk : wp g X F cells slots (pc + 3) ls st (up v r k x) ρ Z) : wp g X F cells slots pc ls ((1, x) :: (2, r) :: st) v ρ Z :=
  put_core hX i hf L hk h4 hfin (fun ad => by rw [ht]; exact ⟨rfl, rfl⟩) (fun a ha => up_f ha) (fun _ _ => rfl) (fun b hb => up_k hb) (fun _ _ => rfl) (by unfold fty; rw [ht, up_s]; rfl) (fun _ => rfl) kk
theorem ref_fit (ad : Int → Nat) (x : Int) {ty : FieldType} (h : sortT ty = 2) : narrow ty (tr ad (2, x)) = tr ad (2, x) ∧ fits ty (tr ad (2, x)) = true := by
  have e : tr ad (2, x) = .null ∨ tr ad (2, x) = .ref (ad x) := by
    by_cases hx : x < 0
    · exact Or.inl (if_pos hx)
    · exact Or.inr (if_neg hx)
  cases ty <;> first | (exact absurd h (by decide)) | (rcases e with e | e <;> rw [e] <;> exact ⟨rfl, rfl⟩)
theorem r_putR (hX : okX g X F) (i : Nat) {idx K k : Nat} {r x : Int} (hf : (fprg F)[i]? = some (pc, .putfield idx, 3)) (L : LkF (fown F) idx K k) (ht : fty K k = 2) (hfin : ∀ q, cls[K]? = some q → (q.2.1 k).2.2.2 = false) (hk : Z.1 r = K) (h4 : 4 ≤ r) (kk : wp g X F cells slots (pc + 3) ls st v (up ρ r k x) Z) : wp g X F cells slots pc ls ((2, x) :: (2, r) :: st) v ρ Z :=
  put_core hX i hf L hk h4 hfin (fun ad => ref_fit ad x ht) (fun _ _ => rfl) (fun a ha => up_f ha) (fun _ _ => rfl) (fun b hb => up_k hb) (by rw [ht, up_s]; rfl) (fun h => absurd rfl h) kk
theorem r_putRF (hX : okX g X F) (i : Nat) {idx K k : Nat} {r x : Int} {q : vw_C} (hf : (fprg F)[i]? = some (pc, .putfield idx, 3)) (hc : cls[K]? = some q) (hkN : k < q.2.2) (hl : Cond.fieldLink (fown F) idx q.1 (q.2.1 k).2.1 (q.2.1 k).2.2.1 ∈ lw_tbl) (hown : q.1 = fown F) (hnm : (fy F).name = "<init>") (ht : fty K k = 2) (hfin : (q.2.1 k).2.2.2 = true) (hk : Z.1 r = K) (h4 : 4 ≤ r) (kk : wp g X F cells slots (pc + 3) ls st v (up ρ r k x) Z) : wp g X F cells slots pc ls ((2, x) :: (2, r) :: st) v ρ Z := by
  intro ad H locs la hR h1 h2 hq hvl
  have hK13 : K < 13 := by
    have := (List.getElem?_eq_some_iff.mp hc).1
    simpa [cls] using this
  have h99 : Z.1 r ≠ 99 := by rw [hk]; omega
  obtain ⟨h0, q', hc', cell, q1, q2, q3, q4⟩ := hR.obj hk hK13
  cases hc.symm.trans hc'
  obtain ⟨c1, c2, c3, c4⟩ := cls_ok K q hc
  have hKv := hX.2.2.2.2.2.2.1.1
  obtain ⟨hS, hfc, kC, hkC, hkind⟩ := hKv.1 K q hc
  obtain ⟨cf, kf, fi, f, hi, hsl⟩ := hS k hkN
  have hlay := hX.ts _ (c1 _ (u_in_lay hkN))
  unfold u_lay at hlay
  rw [if_pos hfin] at hlay
  have hst := (u_facts hfc hkC (u_lays hX.ts c1 hkN) hi).1
  have hcf : (xm X).cls = cf := by
    obtain ⟨_, _, c', _, _, _, -, -, hf', -, -, -, hown2, -⟩ := Cond.laysFinal_spec hlay
    have e1 : c' = cf := by have := hi.symm.trans hf'; simp at this; exact this.1.symm
    rw [c4 k hkN, hown] at hown2
    rw [← e1]; exact Option.some.inj (hX.2.2.2.2.1.symm.trans hown2)
  have hfit := ref_fit ad x ht
  have h6 := u_fits hfc hkC hkind (Or.inr hlay) hi (c2 k hkN) hfit.1 hfit.2
  have hi' : (xs X).fieldFound? q.1 (q.2.1 k).2.1 (q.2.1 k).2.2.1 = some (cf, kf, fi, f) := by rw [← c4 k hkN]; exact hi
  have hap := va_apart (own := fown F) hX.ts c1 (tyC K) c2 c3 hKv hc
  rw [List.map_cons, List.map_cons, tr_r ad h0]
  refine W.putFinK hX.1 hX.2.1 hX.2.2.2.2.1 (hX.2.2.2.2.2.1 _ hl rfl) hi' hst hcf (hX.2.2.2.2.2.2.2.2.1.trans hnm) (by rw [q2]; exact h6) q1 q3 (by rw [hsl]; exact k2_hasslot (q4 k hkN)) rfl rfl (hX.dec hf) fun H1 e1 z1 o1 => ?_
  rw [hsl] at e1
  exact kk ad H1 _ la (hR.put hk hK13 hc hkN h4 (fun _ _ => rfl) (fun a ha => up_f ha) (fun _ _ => rfl) (fun b hb => up_k hb) (by rw [up_s]; exact h1 (2, x) List.mem_cons_self rfl) (by rw [ht, up_s]; rfl) q1 q2 q3 q4 hap z1 o1 e1) (scop_c (scop_c h1)) h2 (locs_in hq (hR.base h99 h4)) hvl
/-- the two static arrays -/
theorem r_getsS (hX : okX g X F) (i : Nat) {idx : Nat} {host : String} (hf : (fprg F)[i]? = some (pc, .getstatic idx, 3)) (hl : Cond.fieldLinkNest (fown F) idx "RedWhite" "STEPS" "[I" host ∈ lw_tbl) (hz : Z.1 0 ≠ 99) (kk : wp g X F cells slots (pc + 3) ls ((2, 0) :: st) v ρ Z) : wp g X F cells slots pc ls st v ρ Z := by
  intro ad H locs la hR h1 h2 hq hv
  obtain ⟨cf, kf, fi, f, a, cell, z1, z2, z3, z4, z5, z6, z7, z8⟩ := hR.2.2.2.1
  exact va_WgetsN hX.1 hX.2.1 hX.2.2.2.2.1 (va_Nw.use rfl (hX.2.2.2.2.2.2.1.2.1 _ hl rfl)) z1 z2 z3 z4 z5 (fun e => by rw [e] at z6; cases z6) z7 rfl (hX.dec hf) (kk ad H locs la hR (scop_r h1 (hR.1 0 hz).2.1) h2 hq hv)
theorem r_getsT (hX : okX g X F) (i : Nat) {idx : Nat} (hf : (fprg F)[i]? = some (pc, .getstatic idx, 3)) (hl : Cond.fieldLink (fown F) idx "RedWhite" "TWELVES" "[J" ∈ lw_tbl) (hz : Z.1 1 ≠ 99) (kk : wp g X F cells slots (pc + 3) ls ((2, 1) :: st) v ρ Z) : wp g X F cells slots pc ls st v ρ Z := by
  intro ad H locs la hR h1 h2 hq hv
  obtain ⟨cf, kf, fi, f, a, cell, z1, z2, z3, z4, z5, z6, z7, z8⟩ := hR.2.2.2.2.1
  exact W.gets hX.1 hX.2.1 hX.2.2.2.2.1 (hX.2.2.2.2.2.1 _ hl rfl) z1 z2 z3 z4 z5 (fun e => by rw [e] at z6; cases z6) z7 rfl (hX.dec hf) (kk ad H locs la hR (scop_r h1 (hR.1 1 hz).2.1) h2 hq hv)
theorem r_getsTN (hX : okX g X F) (i : Nat) {idx : Nat} {host : String} (hf : (fprg F)[i]? = some (pc, .getstatic idx, 3)) (hl : Cond.fieldLinkNest (fown F) idx "RedWhite" "TWELVES" "[J" host ∈ lw_tbl) (hz : Z.1 1 ≠ 99) (kk : wp g X F cells slots (pc + 3) ls ((2, 1) :: st) v ρ Z) : wp g X F cells slots pc ls st v ρ Z := by
  intro ad H locs la hR h1 h2 hq hv
  obtain ⟨cf, kf, fi, f, a, cell, z1, z2, z3, z4, z5, z6, z7, z8⟩ := hR.2.2.2.2.1
  exact va_WgetsN hX.1 hX.2.1 hX.2.2.2.2.1 (va_Nw.use rfl (hX.2.2.2.2.2.2.1.2.1 _ hl rfl)) z1 z2 z3 z4 z5 (fun e => by rw [e] at z6; cases z6) z7 rfl (hX.dec hf) (kk ad H locs la hR (scop_r h1 (hR.1 1 hz).2.1) h2 hq hv)
end RowsF
