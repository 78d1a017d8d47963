section RowsT
variable {g : Gp} {X : Cx} {F : Fm} {cells slots pc : Nat} {ls st : List V2} {v ρ : Mv} {Z : Mz} {Q Q' : Option V2 → Mv → Mv → Mz → Prop} {Qx Qx' : Mv → Mv → Mz → Prop} {mc ms mc0 ms0 : Nat}
theorem callGoT {ad : Int → Nat} {H : Heap} {locs : List Loc} {la : Array Slot} {st0 : List Value} {a : Array Value} (hX : okX g X F) (hth : thX g X) (hQ0 : hQtT g X Q Qx mc0 ms0) (hr : vx_Run (xp X) (gL g) (xe X) (xR X) (xs X) (xm X) (xa X) (xb X) (xt X) (xc X) H locs cells slots mc ms (F0 (xm X) pc la st0) (st.map (tr ad)) (QcM g ad Z.2.2 Q' a) (XcM g ad Z.2.2 Qx') (fun q => gB g ≤ q)) (h1 : scop Z st) (h2 : scop Z ls) (hq : LQ g X ad Z locs) (hv : lvr ad la (fnl F) ls) (hc : cells + mc ≤ mc0) (hs : slots + ms ≤ ms0)
    (kx : ∀ (v' ρ' : Mv) (Z' : Mz), Qx' v' ρ' Z' → Z.2.2 ≤ Z'.2.2 → Qx v' ρ' Z')
    (kk : ∀ (o : Option V2) (v' ρ' : Mv) (Z' : Mz), Q' o v' ρ' Z' → Z.2.2 ≤ Z'.2.2 → wp g X F (cells + mc) (slots + ms) (pc + 3) ls (o.toList ++ st) v' ρ' Z') : W (xp X) (gL g) (xe X) (xR X) (xs X) (xm X) (xa X) (xb X) (xt X) (xc X) H locs cells slots (xq X) (F0 (xm X) pc la st0) := by
  intro T hT Xs
  rcases hr T hT Xs with ⟨w, st₀, t, T', L, h0, X', hL, e1, e2, ⟨o, v', ρ', Z', ad', hw, hQ, hRel, hag, hnz, hsc⟩, stp⟩ | ⟨q, st₀, t, T', L, E, ce, h0, X', hL, e1, e2, ⟨hE, v', ρ', Z', ad', hQ, hRel, hag, hnz⟩, hce, hcv, hcl, stp⟩
  · cases hw
    have hal : (xs X).vm.Alike t.vm := by rw [← e2]; exact X'.warmed.alike
    obtain ⟨t2, a1, b1⟩ := kk o v' ρ' Z' hQ hnz ad' T'.heap (locs ++ L) la (by rw [e1]; exact hRel.moved hal.symm) (fun x hx => (List.mem_append.mp hx).elim (hsc x) (scop_mono hnz h1 x)) (scop_mono hnz h2)
      ⟨fun q h => (List.mem_append.mp h).elim (hq.1 q) (hL q), fun r hr => by rw [hag r (by have := hq.2.2; omega)]; exact hq.2.1 r hr, by have := hq.2.2; omega⟩ (by unfold lvr; rw [lpr_ext hag h2]; exact hv) T' rfl X'
    refine ⟨t2, stp t2 ?_, b1⟩
    rw [List.map_append, map_ext hag h1] at a1
    have e3 : (o.map (tr ad')).toList = o.toList.map (tr ad') := by cases o <;> rfl
    rw [e3]
    exact a1
  · have hal : (xs X).vm.Alike t.vm := by rw [← e2]; exact X'.warmed.alike
    have hqn := hq.2.2
    obtain ⟨t2, a1, b1⟩ := vx_out (Qc := QcM g (xd X) (xn X) Q) (XC := XcM g (xd X) (xn X) Qx) (free := fun q => gB g ≤ q) (pc := pc) (ls := la) (rest := st.map (tr ad)) (E := E) (ce := ce) (q := q) (H := T'.heap) (locs := locs ++ L) (fun x hx => (hth.2.2.2.2 x hx).elim) hX.2.2.2.2.2.2.2.1 (by rw [e1]; exact hce) hcv hcl
      (fun t9 ht hal9 => ⟨hE, v', ρ', Z', ad', kx v' ρ' Z' hQ hnz, by rw [ht, e1]; exact (hRel.moved hal.symm).moved hal9, fun r hr => (hag r (by omega)).trans (hq.2.1 r hr), by omega⟩) (fun z h => (List.mem_append.mp h).elim (hq.1 z) (hL z)) hc hs T' rfl X'
    exact ⟨t2, stp.trans a1, by rw [hQ0]; exact b1⟩
theorem r_callVT (hX : okX g X F) (i : Nat) (hth : thX g X) (hQ0 : hQtT g X Q Qx mc0 ms0) {d idx n K : Nat} {F' : Fm} {as : List V2} {r : Int} {q : vw_C} (hf : (fprg F)[i]? = some (pc, .invokevirtual idx, 3)) (hM : MOk F') (hl : LkM (fown F) idx F' n) (hin : Cond.instanceMethod (fy F') ∈ lw_tbl) (hse : Cond.selects (fown F') (fy F') (fy F') ∈ lw_tbl) (hO : OkT g d mc ms F' ((2, r) :: as) v ρ Z Q' Qx') (hn : as.length = n) (hK : cls[K]? = some q) (hq1 : q.1 = fown F') (hk : Z.1 r = K) (hd : 10 * d + 1 ≤ (xR X).frames ∧ 8 + (fnl F' + 11) + 100 * d ≤ (xR X).locals) (hcm : cells + mc ≤ (xR X).cells ∧ slots + ms ≤ (xR X).slots) (hst : st.length ≤ 4) (hc : cells + mc ≤ mc0) (hs : slots + ms ≤ ms0)
    (kx : ∀ (v' ρ' : Mv) (Z' : Mz), Qx' v' ρ' Z' → Z.2.2 ≤ Z'.2.2 → Qx v' ρ' Z')
    (kk : ∀ (o : Option V2) (v' ρ' : Mv) (Z' : Mz), Q' o v' ρ' Z' → Z.2.2 ≤ Z'.2.2 → wp g X F (cells + mc) (slots + ms) (pc + 3) ls (o.toList ++ st) v' ρ' Z') : wp g X F cells slots pc ls (as.reverse ++ (2, r) :: st) v ρ Z := by
  intro ad H locs la hR h1 h2 hq hv
  have hK13 : K < 13 := by
    have := (List.getElem?_eq_some_iff.mp hK).1
    simpa [cls] using this
  obtain ⟨h0, q', hc', cell, c1, c2, c3, -⟩ := hR.obj hk hK13
  cases hK.symm.trans hc'
  have hfc := (hX.2.2.2.2.2.2.1.1.1 K q hK).2.1
  have hs1 : scop Z st := fun x hx => h1 x (List.mem_append_right _ (List.mem_cons_of_mem _ hx))
  have hsa : scop Z ((2, r) :: as) := fun x hx => by
    rcases List.mem_cons.mp hx with e | h
    · exact h1 x (List.mem_append_right _ (by rw [e]; exact List.mem_cons_self))
    · exact h1 x (List.mem_append_left _ (List.mem_reverse.mpr h))
  have hMet := hO ad hsa
  have hrun := vx_runV (As := as.map (tr ad)) (rest := st.map (tr ad)) (b := ad r) (C := fown F') (H := H) (locs := locs) (cells := cells) (slots := slots) (e := xe X) (below := xb X) (meth := xt X) (g := F0 (xm X) pc la ((as.reverse ++ (2, r) :: st).map (tr ad))) (Ts := []) (cc := fcode F) (nL := fnl F) ⟨hX.1, hX.2.1, hX.2.2.2.1, hX.2.2.2.2.1, fun w hw => by cases hw⟩ hMet ⟨callB0 (d := d) hX hM hl hd, hX.2.2.2.2.2.1 _ hin rfl, hX.2.2.2.2.2.1 _ hse rfl⟩
    ⟨FBT, ⟨cell, c1, by rw [c3]; rfl, by rw [c2, ← hq1]; exact hfc⟩, fun U hU hW => ⟨⟨by rw [List.map_cons, tr_r ad h0], hX.2.2.2.2.2.2.1.warm hW, by rw [hU]; exact hR.moved hW.alike⟩, hth.2.2.2.1.moved hW.alike⟩⟩ rfl (by rw [List.length_map]; exact hn) hv.1 (by rw [List.map_append, List.map_cons, tr_r ad h0, List.map_reverse]) ?_ (hX.dec hf) hcm
  · exact callGoT hX hth hQ0 hrun hs1 h2 hq hv hc hs kx kk
  · refine lv_room ?_
    have : ∀ l : List V2, ((l.map (tr ad)).map (fun v => v.category)).sum ≤ 2 * l.length := fun l => by
      induction l with
      | nil => simp
      | cons a l ih =>
        simp only [List.map_cons, List.sum_cons, List.length_cons]
        rcases lv_cat (tr ad a) with h | h <;> omega
    have := this st
    omega
theorem r_callST (hX : okX g X F) (i : Nat) (hth : thX g X) (hQ0 : hQtT g X Q Qx mc0 ms0) {d idx n : Nat} {F' : Fm} {as : List V2} (hf : (fprg F)[i]? = some (pc, .invokestatic idx, 3)) (hM : MOk F') (hl : LkM (fown F) idx F' n) (hstt : Cond.static (fy F') ∈ lw_tbl) (hO : OkT g d mc ms F' as v ρ Z Q' Qx') (hn : as.length = n) (hd : 10 * d + 1 ≤ (xR X).frames ∧ 8 + (fnl F' + 11) + 100 * d ≤ (xR X).locals) (hcm : cells + mc ≤ (xR X).cells ∧ slots + ms ≤ (xR X).slots) (hst : st.length ≤ 4) (hc : cells + mc ≤ mc0) (hs : slots + ms ≤ ms0)
    (kx : ∀ (v' ρ' : Mv) (Z' : Mz), Qx' v' ρ' Z' → Z.2.2 ≤ Z'.2.2 → Qx v' ρ' Z')
    (kk : ∀ (o : Option V2) (v' ρ' : Mv) (Z' : Mz), Q' o v' ρ' Z' → Z.2.2 ≤ Z'.2.2 → wp g X F (cells + mc) (slots + ms) (pc + 3) ls (o.toList ++ st) v' ρ' Z') : wp g X F cells slots pc ls (as.reverse ++ st) v ρ Z := by
  intro ad H locs la hR h1 h2 hq hv
  have hs1 : scop Z st := fun x hx => h1 x (List.mem_append_right _ hx)
  have hsa : scop Z as := fun x hx => h1 x (List.mem_append_left _ (List.mem_reverse.mpr hx))
  have hrun := vx_runS (As := as.map (tr ad)) (rest := st.map (tr ad)) (H := H) (locs := locs) (cells := cells) (slots := slots) (e := xe X) (below := xb X) (meth := xt X) (g := F0 (xm X) pc la ((as.reverse ++ st).map (tr ad))) (Ts := []) (cc := fcode F) (nL := fnl F) ⟨hX.1, hX.2.1, hX.2.2.2.1, hX.2.2.2.2.1, fun w hw => by cases hw⟩ (hO ad hsa) ⟨callB0 (d := d) hX hM hl hd, hX.2.2.2.2.2.1 _ hstt rfl⟩
    ⟨FBT, fun U hU hW => ⟨⟨rfl, hX.2.2.2.2.2.2.1.warm hW, by rw [hU]; exact hR.moved hW.alike⟩, hth.2.2.2.1.moved hW.alike⟩⟩ rfl (by rw [List.length_map]; exact hn) hv.1 (by rw [List.map_append, List.map_reverse]) (st_room hst) (hX.dec hf) hcm
  exact callGoT hX hth hQ0 hrun hs1 h2 hq hv hc hs kx kk
end RowsT
