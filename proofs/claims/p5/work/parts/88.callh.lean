section RowsI
variable {g : Gp} {X : Cx} {F : Fm} {cells slots pc : Nat} {ls st : List V2} {v ρ : Mv} {Z : Mz} {Q : Option V2 → Mv → Mv → Mz → Prop} {mc ms : Nat}
theorem good_allH {s : State} {args : Array Value} (h : ∀ w ∈ lw_tbl, goodWord w = true → w.before args s = true) {F' : Fm} {hh : List (Nat × Nat × Nat × Nat)} (hM : MOkH F' hh) : ∀ w ∈ wsH F' hh, ∀ (a' : Array Value) (U : State), s.WarmedH U.vm → w.before a' U = true := by
  intro w hw a' U hW
  have key : w ∈ lw_tbl ∧ goodWord w = true := by
    rcases List.mem_cons.mp hw with rfl | h9
    · exact ⟨hM.2.2.1, rfl⟩
    · exact List.mem_filter.mp h9
  exact word_at hW (good_of_word key.2) (h w key.1 key.2)
/-- a static call of a method that catches all that it throws -/
theorem r_callSH (hX : okX g X F) (i : Nat) (hkt : KT (xs X)) {d idx n : Nat} {F' : Fm} {hh : List (Nat × Nat × Nat × Nat)} {as : List V2} (hf : (fprg F)[i]? = some (pc, .invokestatic idx, 3)) (hM : MOkH F' hh) (hl : LkM (fown F) idx F' n) (hstt : Cond.static (fy F') ∈ lw_tbl) (hO : OkH g d mc ms F' hh as v ρ Z Q) (hn : as.length = n) (hd : 10 * d + 1 ≤ (xR X).frames ∧ 8 + (fnl F' + 11) + 100 * d ≤ (xR X).locals) (hcm : cells + mc ≤ (xR X).cells ∧ slots + ms ≤ (xR X).slots) (hst : st.length ≤ 4)
    (kk : ∀ (o : Option V2) (v' ρ' : Mv) (Z' : Mz), Q o v' ρ' Z' → Z.2.2 ≤ Z'.2.2 → wp g X F (cells + mc) (slots + ms) (pc + 3) ls (o.toList ++ st) v' ρ' Z') : wp g X F cells slots pc ls (as.reverse ++ st) v ρ Z := by
  intro ad H locs la hR h1 h2 hq hv
  have hs1 : scop Z st := fun x hx => h1 x (List.mem_append_right _ hx)
  have hsa : scop Z as := fun x hx => h1 x (List.mem_append_left _ (List.mem_reverse.mpr hx))
  have hrun := vx_runSX (As := as.map (tr ad)) (rest := st.map (tr ad)) (H := H) (locs := locs) (cells := cells) (slots := slots) (e := xe X) (below := xb X) (meth := xt X) (g := F0 (xm X) pc la ((as.reverse ++ st).map (tr ad))) (Ts := []) (cc := fcode F) (nL := fnl F) ⟨hX.1, hX.2.1, hX.2.2.2.1, hX.2.2.2.2.1, fun w hw => by cases hw⟩ (hO ad hsa)
    (⟨⟨rfl, rfl, hd.1, hd.2, good_allH hX.2.2.2.2.2.1 hM, List.mem_cons_self⟩, hX.2.2.2.2.2.1 _ hM.2.2.1 rfl, hX.2.2.2.2.2.1 _ hM.2.2.2.1 rfl, hM.1.2, fun sig h => by have h2 := hl.2; rw [h] at h2; exact (Option.some.inj h2).symm, hX.2.2.2.2.2.1 _ hl.1 rfl, hX.2.2.2.2.2.1 _ hstt rfl⟩ : vx_CSW (xR X) (xs X) (xa X) (fown F) idx (fy F') (fcode F') (fnl F') (fret F') hh (wsH F' hh) (rmd d mc ms) mc ms n)
    ⟨FBT, fun U hU hW => ⟨⟨rfl, hX.2.2.2.2.2.2.1.warm hW, by rw [hU]; exact hR.moved hW.alike⟩, hkt.moved hW.alike⟩⟩ rfl (by rw [List.length_map]; exact hn) hv.1 (by rw [List.map_append, List.map_reverse]) (st_room hst) (hX.dec hf) hcm
  refine callGo (d := d) (F' := F') (Q := Q) (mc := mc) (ms := ms) (a := (as.map (tr ad)).toArray) (fun T hT Xs => ?_) hs1 h2 hq hv kk
  rcases hrun T hT Xs with h | ⟨q, st₀, t, T', L, E, ce, h0, X', hL, e1, e2, hx, hce, hcv, hcl, stp⟩
  · exact h
  · exact hx.elim
end RowsI
