section RowsH
variable {g : Gp} {X : Cx} {F : Fm} {cells slots pc : Nat} {ls st : List V2} {v ρ : Mv} {Z : Mz} {Q : Option V2 → Mv → Mv → Mz → Prop} {mc ms : Nat}
abbrev hQt (g : Gp) (X : Cx) (Q : Option V2 → Mv → Mv → Mz → Prop) (mc ms : Nat) : Prop := xq X = MQ (xb X) (QcM g (xd X) (xn X) Q) (xa X) (xs X) mc ms (fun q => gB g ≤ q)
theorem r_iret (hX : okX g X F) (i : Nat) {x : Int} (hQ : hQt g X Q mc ms) (hf : (fprg F)[i]? = some (pc, .ireturn, 1)) (hr : fret F = some .int) (hc : cells ≤ mc) (hs : slots ≤ ms) (q : Q (some (0, x)) v ρ Z) : wp g X F cells slots pc ls [(0, x)] v ρ Z := by
  intro ad H locs la hR h1 h2 hq hv
  rw [hQ]
  refine W.widen hc hs ?_
  exact W.iret hX.1 hX.2.1 (hX.2.2.1.trans hr) (fun t ht hW => ⟨some (0, x), v, ρ, Z, ad, rfl, q, by rw [ht]; exact hR.moved hW.alike, hq.2.1, hq.2.2, h1⟩) hq.1 (hX.dec hf) hX.2.2.2.2.2.2.2.1
theorem r_zret (hX : okX g X F) (i : Nat) {x : Int} (hQ : hQt g X Q mc ms) (hf : (fprg F)[i]? = some (pc, .ireturn, 1)) (hr : fret F = some .boolean) (hx : 0 ≤ x ∧ x ≤ 1) (hc : cells ≤ mc) (hs : slots ≤ ms) (q : Q (some (0, x)) v ρ Z) : wp g X F cells slots pc ls [(0, x)] v ρ Z := by
  intro ad H locs la hR h1 h2 hq hv
  rw [hQ]
  refine W.widen hc hs ?_
  exact W.zret hX.1 hX.2.1 (hX.2.2.1.trans hr) (nar_z hx) (fun t ht hW => ⟨some (0, x), v, ρ, Z, ad, rfl, q, by rw [ht]; exact hR.moved hW.alike, hq.2.1, hq.2.2, h1⟩) hq.1 (hX.dec hf) hX.2.2.2.2.2.2.2.1
theorem r_lret (hX : okX g X F) (i : Nat) {x : Int} (hQ : hQt g X Q mc ms) (hf : (fprg F)[i]? = some (pc, .lreturn, 1)) (hr : fret F = some .long) (hc : cells ≤ mc) (hs : slots ≤ ms) (q : Q (some (1, x)) v ρ Z) : wp g X F cells slots pc ls [(1, x)] v ρ Z := by
  intro ad H locs la hR h1 h2 hq hv
  rw [hQ]
  refine W.widen hc hs ?_
  exact W.lret hX.1 hX.2.1 (hX.2.2.1.trans hr) (fun t ht hW => ⟨some (1, x), v, ρ, Z, ad, rfl, q, by rw [ht]; exact hR.moved hW.alike, hq.2.1, hq.2.2, h1⟩) hq.1 (hX.dec hf) hX.2.2.2.2.2.2.2.1
theorem r_vret (hX : okX g X F) (i : Nat) (hQ : hQt g X Q mc ms) (hf : (fprg F)[i]? = some (pc, .return_, 1)) (hr : fret F = none) (hc : cells ≤ mc) (hs : slots ≤ ms) (q : Q none v ρ Z) : wp g X F cells slots pc ls [] v ρ Z := by
  intro ad H locs la hR h1 h2 hq hv
  rw [hQ]
  refine W.widen hc hs ?_
  exact W.vret hX.1 hX.2.1 (hX.2.2.1.trans hr) (fun t ht hW => ⟨none, v, ρ, Z, ad, rfl, q, by rw [ht]; exact hR.moved hW.alike, hq.2.1, hq.2.2, h1⟩) hq.1 (hX.dec hf) hX.2.2.2.2.2.2.2.1
theorem r_aret (hX : okX g X F) (i : Nat) {x : Int} {C : String} (hQ : hQt g X Q mc ms) (hf : (fprg F)[i]? = some (pc, .areturn, 1)) (hr : fret F = some (.object C)) (hc : cells ≤ mc) (hs : slots ≤ ms) (q : Q (some (2, x)) v ρ Z) : wp g X F cells slots pc ls [(2, x)] v ρ Z := by
  intro ad H locs la hR h1 h2 hq hv
  rw [hQ]
  refine W.widen hc hs ?_
  exact W.aret (v := tr ad (2, x)) hX.1 hX.2.1 (hX.2.2.1.trans hr) (Or.inl ⟨_, rfl⟩) (by
    by_cases hx : x < 0
    · exact Or.inl (if_pos hx)
    · exact Or.inr ⟨_, if_neg hx⟩) (fun t ht hW => ⟨some (2, x), v, ρ, Z, ad, rfl, q, by rw [ht]; exact hR.moved hW.alike, hq.2.1, hq.2.2, h1⟩) hq.1 (hX.dec hf) hX.2.2.2.2.2.2.2.1
theorem callGo {d : Nat} {F' : Fm} {ad : Int → Nat} {H : Heap} {locs : List Loc} {la : Array Slot} {st0 : List Value} {a : Array Value} (hr : va_Run (xp X) (gL g) (xe X) (xR X) (xs X) (xm X) (xa X) (xb X) (xt X) (xc X) H locs cells slots mc ms (F0 (xm X) pc la st0) (st.map (tr ad)) (QcM g ad Z.2.2 Q a) (fun q => gB g ≤ q)) (h1 : scop Z st) (h2 : scop Z ls) (hq : LQ g X ad Z locs) (hv : lvr ad la (fnl F) ls)
    (kk : ∀ (o : Option V2) (v' ρ' : Mv) (Z' : Mz), Q o v' ρ' Z' → Z.2.2 ≤ Z'.2.2 → wp g X F (cells + mc) (slots + ms) (pc + 3) ls (o.toList ++ st) v' ρ' Z') : W (xp X) (gL g) (xe X) (xR X) (xs X) (xm X) (xa X) (xb X) (xt X) (xc X) H locs cells slots (xq X) (F0 (xm X) pc la st0) := by
  intro T hT Xs
  obtain ⟨w, st₀, t, T', L, h0, X', hL, e1, e2, ⟨o, v', ρ', Z', ad', hw, hQ, hRel, hag, hnz, hsc⟩, stp⟩ := hr T hT Xs
  cases hw
  have hal : (xs X).vm.Alike t.vm := by rw [← e2]; exact X'.warmed.alike
  obtain ⟨t2, a1, b1⟩ := kk o v' ρ' Z' hQ hnz ad' T'.heap (locs ++ L) la (by rw [e1]; exact hRel.moved hal.symm) (fun x hx => (List.mem_append.mp hx).elim (hsc x) (scop_mono hnz h1 x)) (scop_mono hnz h2)
    ⟨fun q h => (List.mem_append.mp h).elim (hq.1 q) (hL q), fun r hr => by rw [hag r (by have := hq.2.2; omega)]; exact hq.2.1 r hr, by have := hq.2.2; omega⟩ (by unfold lvr; rw [lpr_ext hag h2]; exact hv) T' rfl X'
  refine ⟨t2, stp t2 ?_, b1⟩
  rw [List.map_append, map_ext hag h1] at a1
  have e3 : (o.map (tr ad')).toList = o.toList.map (tr ad') := by cases o <;> rfl
  rw [e3]
  exact a1
theorem good_all {s : State} {args : Array Value} (h : ∀ w ∈ lw_tbl, goodWord w = true → w.before args s = true) {F' : Fm} (hM : MOk F') : ∀ w ∈ wsy F', ∀ (a' : Array Value) (U : State), s.WarmedH U.vm → w.before a' U = true := by
  intro w hw a' U hW
  have key : w ∈ lw_tbl ∧ goodWord w = true := by
    rcases List.mem_cons.mp hw with rfl | h9
    · exact ⟨hM.2.2.1, rfl⟩
    · exact List.mem_filter.mp h9
  exact word_at hW (good_of_word key.2) (h w key.1 key.2)
theorem callB0 (hX : okX g X F) {d idx n : Nat} {F' : Fm} (hM : MOk F') (hl : LkM (fown F) idx F' n) (hd : 10 * d + 1 ≤ (xR X).frames ∧ 8 + (fnl F' + 11) + 100 * d ≤ (xR X).locals) : CallB (xR X) (xs X) (xa X) (fown F) idx (fy F') (fcode F') (fnl F') (fret F') (wsy F') (rmd d mc ms) mc ms n :=
  ⟨rfl, rfl, hd.1, hd.2, good_all hX.2.2.2.2.2.1 hM, List.mem_cons_self, hX.2.2.2.2.2.1 _ hM.2.2.1 rfl, hX.2.2.2.2.2.1 _ hM.2.2.2.1 rfl, hM.1.2, fun sig h => by have h2 := hl.2; rw [h] at h2; exact (Option.some.inj h2).symm, hX.2.2.2.2.2.1 _ hl.1 rfl⟩
theorem r_callV (hX : okX g X F) (i : Nat) {d idx n K : Nat} {F' : Fm} {as : List V2} {r : Int} {q : vw_C} (hf : (fprg F)[i]? = some (pc, .invokevirtual idx, 3)) (hM : MOk F') (hl : LkM (fown F) idx F' n) (hin : Cond.instanceMethod (fy F') ∈ lw_tbl) (hse : Cond.selects (fown F') (fy F') (fy F') ∈ lw_tbl) (hO : Ok g d mc ms F' ((2, r) :: as) v ρ Z Q) (hn : as.length = n) (hK : cls[K]? = some q) (hq1 : q.1 = fown F') (hk : Z.1 r = K) (hd : 10 * d + 1 ≤ (xR X).frames ∧ 8 + (fnl F' + 11) + 100 * d ≤ (xR X).locals) (hcm : cells + mc ≤ (xR X).cells ∧ slots + ms ≤ (xR X).slots) (hst : st.length ≤ 4)
    (kk : ∀ (o : Option V2) (v' ρ' : Mv) (Z' : Mz), Q o v' ρ' Z' → Z.2.2 ≤ Z'.2.2 → wp g X F (cells + mc) (slots + ms) (pc + 3) ls (o.toList ++ st) v' ρ' Z') : wp g X F cells slots pc ls (as.reverse ++ (2, r) :: st) v ρ Z := by
  intro ad H locs la hR h1 h2 hq hv
  have hK13 : K < 13 := by
    have := (List.getElem?_eq_some_iff.mp hK).1
    simpa [cls] using this
  obtain ⟨h0, q', hc', cell, c1, c2, c3, -⟩ := hR.obj hk hK13
  cases hK.symm.trans hc'
  have hfc := (hX.2.2.2.2.2.2.1.1.1 K q hK).2.1
  have hs1 : scop Z st := fun x hx => h1 x (List.mem_append_right _ (List.mem_cons_of_mem _ hx))
  have hsa : scop Z ((2, r) :: as) := fun x hx => by
    rcases List.mem_cons.mp hx with e | h
    · exact h1 x (List.mem_append_right _ (by rw [e]; exact List.mem_cons_self))
    · exact h1 x (List.mem_append_left _ (List.mem_reverse.mpr h))
  have hMet := hO ad hsa
  have hrun := va_runV (As := as.map (tr ad)) (rest := st.map (tr ad)) (b := ad r) (C := fown F') (H := H) (locs := locs) (cells := cells) (slots := slots) (e := xe X) (below := xb X) (meth := xt X) (g := F0 (xm X) pc la ((as.reverse ++ (2, r) :: st).map (tr ad))) (Ts := []) (cc := fcode F) (nL := fnl F) ⟨hX.1, hX.2.1, hX.2.2.2.1, hX.2.2.2.2.1, fun w hw => by cases hw⟩ hMet ⟨callB0 (d := d) hX hM hl hd, hX.2.2.2.2.2.1 _ hin rfl, hX.2.2.2.2.2.1 _ hse rfl⟩
    ⟨FB, ⟨cell, c1, by rw [c3]; rfl, by rw [c2, ← hq1]; exact hfc⟩, fun U hU hW => ⟨by rw [List.map_cons, tr_r ad h0], hX.2.2.2.2.2.2.1.warm hW, by rw [hU]; exact hR.moved hW.alike⟩⟩ rfl (by rw [List.length_map]; exact hn) hv.1 (by rw [List.map_append, List.map_cons, tr_r ad h0, List.map_reverse]) ?_ (hX.dec hf) hcm
  · exact callGo (d := d) (F' := F') hrun hs1 h2 hq hv kk
  · refine lv_room ?_
    have : ∀ l : List V2, ((l.map (tr ad)).map (fun v => v.category)).sum ≤ 2 * l.length := fun l => by
      induction l with
      | nil => simp
      | cons a l ih =>
        simp only [List.map_cons, List.sum_cons, List.length_cons]
        rcases lv_cat (tr ad a) with h | h <;> omega
    have := this st
    omega
end RowsH
