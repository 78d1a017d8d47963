section RowsI
variable {g : Gp} {X : Cx} {F : Fm} {cells slots pc : Nat} {ls st : List V2} {v ρ : Mv} {Z : Mz} {Q : Option V2 → Mv → Mv → Mz → Prop} {mc ms : Nat}
theorem st_room {ad : Int → Nat} {m : MethodId} {la : Array Slot} {st0 : List Value} (h : st.length ≤ 4) : 2 * (F0 m pc la st0).monitorRoom + ((st.map (tr ad)).map fun v => v.category).sum ≤ 8 := by
  refine lv_room ?_
  have : ∀ l : List V2, ((l.map (tr ad)).map (fun v => v.category)).sum ≤ 2 * l.length := fun l => by
    induction l with
    | nil => simp
    | cons a l ih =>
      simp only [List.map_cons, List.sum_cons, List.length_cons]
      rcases lv_cat (tr ad a) with h | h <;> omega
  have := this st
  omega
theorem r_callS (hX : okX g X F) (i : Nat) {d idx n : Nat} {F' : Fm} {as : List V2} (hf : (fprg F)[i]? = some (pc, .invokestatic idx, 3)) (hM : MOk F') (hl : LkM (fown F) idx F' n) (hstt : Cond.static (fy F') ∈ lw_tbl) (hO : Ok g d mc ms F' as v ρ Z Q) (hn : as.length = n) (hd : 10 * d + 1 ≤ (xR X).frames ∧ 8 + (fnl F' + 11) + 100 * d ≤ (xR X).locals) (hcm : cells + mc ≤ (xR X).cells ∧ slots + ms ≤ (xR X).slots) (hst : st.length ≤ 4)
    (kk : ∀ (o : Option V2) (v' ρ' : Mv) (Z' : Mz), Q o v' ρ' Z' → Z.2.2 ≤ Z'.2.2 → wp g X F (cells + mc) (slots + ms) (pc + 3) ls (o.toList ++ st) v' ρ' Z') : wp g X F cells slots pc ls (as.reverse ++ st) v ρ Z := by
  intro ad H locs la hR h1 h2 hq hv
  have hs1 : scop Z st := fun x hx => h1 x (List.mem_append_right _ hx)
  have hsa : scop Z as := fun x hx => h1 x (List.mem_append_left _ (List.mem_reverse.mpr hx))
  have hrun := va_runS (As := as.map (tr ad)) (rest := st.map (tr ad)) (H := H) (locs := locs) (cells := cells) (slots := slots) (e := xe X) (below := xb X) (meth := xt X) (g := F0 (xm X) pc la ((as.reverse ++ st).map (tr ad))) (Ts := []) (cc := fcode F) (nL := fnl F) ⟨hX.1, hX.2.1, hX.2.2.2.1, hX.2.2.2.2.1, fun w hw => by cases hw⟩ (hO ad hsa) ⟨callB0 (d := d) hX hM hl hd, hX.2.2.2.2.2.1 _ hstt rfl⟩
    ⟨FB, fun U hU hW => ⟨rfl, hX.2.2.2.2.2.2.1.warm hW, by rw [hU]; exact hR.moved hW.alike⟩⟩ rfl (by rw [List.length_map]; exact hn) hv.1 (by rw [List.map_append, List.map_reverse]) (st_room hst) (hX.dec hf) hcm
  exact callGo (d := d) (F' := F') hrun hs1 h2 hq hv kk
theorem callN0 (hX : okX g X F) {d idx n : Nat} {F' : Fm} {host : String} {ret : Option FieldType} (hret : fret F' = ret) (hM : MOk F') (hl : Cond.methodLinkNest (fown F) idx (fy F') host ∈ lw_tbl) (hn : (parseMethodDescriptor (fy F').desc).map (fun d => d.parameters.length) = some n) (hd : 10 * d + 1 ≤ (xR X).frames ∧ 8 + (fnl F' + 11) + 100 * d ≤ (xR X).locals) : va_CN (xR X) (xs X) (xa X) (fown F) idx (fy F') host (fcode F') (fnl F') ret (wsy F') (rmd d mc ms) mc ms n := by
  subst hret
  exact ⟨⟨rfl, rfl, hd.1, hd.2, good_all hX.2.2.2.2.2.1 hM, List.mem_cons_self⟩, hX.2.2.2.2.2.1 _ hM.2.2.1 rfl, hX.2.2.2.2.2.1 _ hM.2.2.2.1 rfl, hM.1.2, fun sig h => by have h2 := hn; rw [h] at h2; exact (Option.some.inj h2).symm, va_Nw.use rfl (hX.2.2.2.2.2.2.1.2.1 _ hl rfl)⟩
theorem r_callSN (hX : okX g X F) (i : Nat) {d idx n : Nat} {F' : Fm} {as : List V2} {host : String} (hf : (fprg F)[i]? = some (pc, .invokestatic idx, 3)) (hM : MOk F') (hl : Cond.methodLinkNest (fown F) idx (fy F') host ∈ lw_tbl) (hpn : (parseMethodDescriptor (fy F').desc).map (fun d => d.parameters.length) = some n) (hstt : Cond.static (fy F') ∈ lw_tbl) (hO : Ok g d mc ms F' as v ρ Z Q) (hn : as.length = n) (hd : 10 * d + 1 ≤ (xR X).frames ∧ 8 + (fnl F' + 11) + 100 * d ≤ (xR X).locals) (hcm : cells + mc ≤ (xR X).cells ∧ slots + ms ≤ (xR X).slots) (hst : st.length ≤ 4)
    (kk : ∀ (o : Option V2) (v' ρ' : Mv) (Z' : Mz), Q o v' ρ' Z' → Z.2.2 ≤ Z'.2.2 → wp g X F (cells + mc) (slots + ms) (pc + 3) ls (o.toList ++ st) v' ρ' Z') : wp g X F cells slots pc ls (as.reverse ++ st) v ρ Z := by
  intro ad H locs la hR h1 h2 hq hv
  have hs1 : scop Z st := fun x hx => h1 x (List.mem_append_right _ hx)
  have hsa : scop Z as := fun x hx => h1 x (List.mem_append_left _ (List.mem_reverse.mpr hx))
  have hrun := va_runSN (As := as.map (tr ad)) (rest := st.map (tr ad)) (H := H) (locs := locs) (cells := cells) (slots := slots) (e := xe X) (below := xb X) (meth := xt X) (g := F0 (xm X) pc la ((as.reverse ++ st).map (tr ad))) (Ts := []) (cc := fcode F) (nL := fnl F) ⟨hX.1, hX.2.1, hX.2.2.2.1, hX.2.2.2.2.1, fun w hw => by cases hw⟩ (hO ad hsa) ⟨callN0 (d := d) hX rfl hM hl hpn hd, hX.2.2.2.2.2.1 _ hstt rfl, trivial⟩
    ⟨FB, fun U hU hW => ⟨rfl, hX.2.2.2.2.2.2.1.warm hW, by rw [hU]; exact hR.moved hW.alike⟩⟩ rfl (by rw [List.length_map]; exact hn) hv.1 (by rw [List.map_append, List.map_reverse]) (st_room hst) (hX.dec hf) hcm
  exact callGo (d := d) (F' := F') hrun hs1 h2 hq hv kk
theorem r_callI (hX : okX g X F) (i : Nat) {d idx n : Nat} {F' : Fm} {as : List V2} {r : Int} (hf : (fprg F)[i]? = some (pc, .invokespecial idx, 3)) (hM : MOk F') (hnm : (fy F').name = "<init>") (hret : fret F' = none) (hl : LkM (fown F) idx F' n) (hin : Cond.instanceMethod (fy F') ∈ lw_tbl) (hO : Ok g d mc ms F' ((2, r) :: as) v ρ Z Q) (hn : as.length = n) (h0 : 0 ≤ r) (hd : 10 * d + 1 ≤ (xR X).frames ∧ 8 + (fnl F' + 11) + 100 * d ≤ (xR X).locals) (hcm : cells + mc ≤ (xR X).cells ∧ slots + ms ≤ (xR X).slots) (hst : st.length ≤ 4)
    (kk : ∀ (o : Option V2) (v' ρ' : Mv) (Z' : Mz), Q o v' ρ' Z' → Z.2.2 ≤ Z'.2.2 → wp g X F (cells + mc) (slots + ms) (pc + 3) ls (o.toList ++ st) v' ρ' Z') : wp g X F cells slots pc ls (as.reverse ++ (2, r) :: st) v ρ Z := by
  intro ad H locs la hR h1 h2 hq hv
  have hs1 : scop Z st := fun x hx => h1 x (List.mem_append_right _ (List.mem_cons_of_mem _ hx))
  have hsa : scop Z ((2, r) :: as) := fun x hx => by
    rcases List.mem_cons.mp hx with e | h
    · exact h1 x (List.mem_append_right _ (by rw [e]; exact List.mem_cons_self))
    · exact h1 x (List.mem_append_left _ (List.mem_reverse.mpr h))
  have hrun := va_runI (As := as.map (tr ad)) (rest := st.map (tr ad)) (b := ad r) (H := H) (locs := locs) (cells := cells) (slots := slots) (e := xe X) (below := xb X) (meth := xt X) (g := F0 (xm X) pc la ((as.reverse ++ (2, r) :: st).map (tr ad))) (Ts := []) (cc := fcode F) (nL := fnl F) ⟨hX.1, hX.2.1, hX.2.2.2.1, hX.2.2.2.2.1, fun w hw => by cases hw⟩ (hO ad hsa) ⟨by rw [← hret]; exact callB0 (d := d) hX hM hl hd, hnm, hX.2.2.2.2.2.1 _ hin rfl⟩
    ⟨FB, fun U hU hW => ⟨by rw [List.map_cons, tr_r ad h0], hX.2.2.2.2.2.2.1.warm hW, by rw [hU]; exact hR.moved hW.alike⟩⟩ rfl (by rw [List.length_map]; exact hn) hv.1 (by rw [List.map_append, List.map_cons, tr_r ad h0, List.map_reverse]) (st_room hst) (hX.dec hf) hcm
  exact callGo (d := d) (F' := F') hrun hs1 h2 hq hv kk
theorem r_callIN (hX : okX g X F) (i : Nat) {d idx n : Nat} {F' : Fm} {as : List V2} {r : Int} {host : String} (hf : (fprg F)[i]? = some (pc, .invokespecial idx, 3)) (hM : MOk F') (hnm : (fy F').name = "<init>") (hret : fret F' = none) (hl : Cond.methodLinkNest (fown F) idx (fy F') host ∈ lw_tbl) (hpn : (parseMethodDescriptor (fy F').desc).map (fun d => d.parameters.length) = some n) (hin : Cond.instanceMethod (fy F') ∈ lw_tbl) (hO : Ok g d mc ms F' ((2, r) :: as) v ρ Z Q) (hn : as.length = n) (h0 : 0 ≤ r) (hd : 10 * d + 1 ≤ (xR X).frames ∧ 8 + (fnl F' + 11) + 100 * d ≤ (xR X).locals) (hcm : cells + mc ≤ (xR X).cells ∧ slots + ms ≤ (xR X).slots) (hst : st.length ≤ 4)
    (kk : ∀ (o : Option V2) (v' ρ' : Mv) (Z' : Mz), Q o v' ρ' Z' → Z.2.2 ≤ Z'.2.2 → wp g X F (cells + mc) (slots + ms) (pc + 3) ls (o.toList ++ st) v' ρ' Z') : wp g X F cells slots pc ls (as.reverse ++ (2, r) :: st) v ρ Z := by
  intro ad H locs la hR h1 h2 hq hv
  have hs1 : scop Z st := fun x hx => h1 x (List.mem_append_right _ (List.mem_cons_of_mem _ hx))
  have hsa : scop Z ((2, r) :: as) := fun x hx => by
    rcases List.mem_cons.mp hx with e | h
    · exact h1 x (List.mem_append_right _ (by rw [e]; exact List.mem_cons_self))
    · exact h1 x (List.mem_append_left _ (List.mem_reverse.mpr h))
  have hrun := va_runIN (As := as.map (tr ad)) (rest := st.map (tr ad)) (b := ad r) (H := H) (locs := locs) (cells := cells) (slots := slots) (e := xe X) (below := xb X) (meth := xt X) (g := F0 (xm X) pc la ((as.reverse ++ (2, r) :: st).map (tr ad))) (Ts := []) (cc := fcode F) (nL := fnl F) ⟨hX.1, hX.2.1, hX.2.2.2.1, hX.2.2.2.2.1, fun w hw => by cases hw⟩ (hO ad hsa) ⟨callN0 (d := d) hX hret hM hl hpn hd, hnm, hX.2.2.2.2.2.1 _ hin rfl⟩
    ⟨FB, fun U hU hW => ⟨by rw [List.map_cons, tr_r ad h0], hX.2.2.2.2.2.2.1.warm hW, by rw [hU]; exact hR.moved hW.alike⟩⟩ rfl (by rw [List.length_map]; exact hn) hv.1 (by rw [List.map_append, List.map_cons, tr_r ad h0, List.map_reverse]) (st_room hst) (hX.dec hf) hcm
  exact callGo (d := d) (F' := F') hrun hs1 h2 hq hv kk
end RowsI
