section RowsW
variable {p : Program} {l : Launch} {e : Env} {R : Room} {s : State} {m : MethodId} {args : Array Value} {below : List Frame} {meth : Method} {c : Code} {H : Heap} {locs : List Loc} {cells slots : Nat}
variable {y : MethodName} {bytes cc : ByteArray} {maxL nL mc ms n index : Nat} {ret : Option FieldType} {ws : List Cond} {rm : Room} {Pc : Array Value → State → Prop} {Qc : Array Value → State → Outcome → State → Prop} {free : Addr → Prop} {Ts : List Cond} {own C : String} {b : Addr} {As rest : List Value} {g : JFrame}
/-! calls over a deeper stack -/
theorem backW (cb : CallB R s args own index y bytes maxL ret ws rm mc ms n) (h24 : 24 + (maxL + 11) + rm.locals ≤ R.locals) (hM : Met l y ws rm Pc Qc mc ms free) (hbl : FrameBlind Pc) : Back l R p e below s args y 3 24 (PreOf R mc ms Pc) (PostOf Qc mc ms free) := by
  obtain ⟨a1, a2, a3, -, a5, a6, -, a8, -⟩ := cb
  exact back_of (bytes := bytes) (maxL := maxL) (ret := ret) hM hbl a1 a2 a3 h24 a5 a6 (fun a' U hW => word_at hW (Or.inl (by first | rfl | simp [Cond.onTables, Cond.keeps, Cond.steady])) a8)
theorem runWV (S : CallFix p m c cc nL s args Ts own) (hM : Met l y ws rm Pc Qc mc ms free) (cw : CallW R s args own C index y bytes maxL ret ws rm mc ms n) (h24 : 24 + (maxL + 11) + rm.locals ≤ R.locals) (hp : PreV s H C b Pc As)
    (hg : g.method = m) (hn : As.length = n) (hsize : g.locals.size = nL) (hstack : g.stack = As.reverse ++ .ref b :: rest) (hW : 2 * g.monitorRoom + (rest.map fun v => v.category).sum ≤ 24) (hdg : decode cc g.pc = .ok (.invokevirtual index, 3)) (hf : cells + mc ≤ R.cells ∧ slots + ms ≤ R.slots) :
    va_Run p l e R s m args below meth c H locs cells slots mc ms g rest (Qc (Value.ref b :: As).toArray) (free) := by
  have hK := backW (p := p) (e := e) (below := below) cw.1 h24 hM hp.1
  obtain ⟨⟨-, -, -, -, -, -, b1, -, b2, b3, b4⟩, b5, b6⟩ := cw
  obtain ⟨d1, d2, d3, d4, -⟩ := S
  obtain ⟨-, ⟨cellB, f1, f2, f3⟩, f4⟩ := hp
  intro T hT X
  obtain ⟨v, vm₁, ⟨U', l2, c2, s2⟩, -, X', ⟨g', mk, t, L, e1, e2, hq, h1, hL, h2, h3⟩, st⟩ := callV X d1 (C := C) (bytes := bytes) (maxL := maxL) (ret := ret) d4 b4 b5 b6 b1 b2 hK (by rw [hT]; exact f1) f2 f3 hg (hsize.trans d3.symm) (argsL := As) (rest := rest) (fun sig h => hn.trans (b3 sig h)) hstack hW (by rw [d2]; exact hdg) (fun vm₁ hW₁ => ⟨hf.1, hf.2, f4 (T.setVm vm₁) hT hW₁⟩)
  dsimp only [Pt.U, Pt.locs, Pt.cells, Pt.slots] at X' e1 e2 h1 h2 h3 st
  subst h1 h2 h3
  exact ⟨v, (T.setVm vm₁).calling g' mk (Value.ref b :: As).toArray, t, U', L, hT, X', hL, e1, e2, hq, st⟩
theorem runWS (S : CallFix p m c cc nL s args Ts own) (hM : Met l y ws rm Pc Qc mc ms free) (cw : CallB R s args own index y bytes maxL ret ws rm mc ms n ∧ (Cond.static y).before args s = true) (h24 : 24 + (maxL + 11) + rm.locals ≤ R.locals) (hp : PreS s H Pc As)
    (hg : g.method = m) (hn : As.length = n) (hsize : g.locals.size = nL) (hstack : g.stack = As.reverse ++ rest) (hW : 2 * g.monitorRoom + (rest.map fun v => v.category).sum ≤ 24) (hdg : decode cc g.pc = .ok (.invokestatic index, 3)) (hf : cells + mc ≤ R.cells ∧ slots + ms ≤ R.slots) :
    va_Run p l e R s m args below meth c H locs cells slots mc ms g rest (Qc As.toArray) (free) := by
  have hK := backW (p := p) (e := e) (below := below) cw.1 h24 hM hp.1
  obtain ⟨⟨-, -, -, -, -, -, b1, b7, b2, b3, b4⟩, b5⟩ := cw
  obtain ⟨d1, d2, d3, d4, -⟩ := S
  intro T hT X
  obtain ⟨v, vm₁, ⟨U', l2, c2, s2⟩, -, X', ⟨g', mk, t, L, e1, e2, hq, h1, hL, h2, h3⟩, st⟩ := callS X d1 (bytes := bytes) (maxL := maxL) (ret := ret) d4 b4 b5 b7 b1 b2 hK hg (hsize.trans d3.symm) (argsL := As) (rest := rest) (fun sig h => hn.trans (b3 sig h)) hstack hW (by rw [d2]; exact hdg) (fun vm₁ hW₁ => ⟨hf.1, hf.2, hp.2 (T.setVm vm₁) hT hW₁⟩)
  dsimp only [Pt.U, Pt.locs, Pt.cells, Pt.slots] at X' e1 e2 h1 h2 h3 st
  subst h1 h2 h3
  exact ⟨v, (T.setVm vm₁).calling g' mk As.toArray, t, U', L, hT, X', hL, e1, e2, hq, st⟩
end RowsW
section RowsW2
variable {g : Gp} {X : Cx} {F : Fm} {cells slots pc : Nat} {ls st : List V2} {v ρ : Mv} {Z : Mz} {Q : Option V2 → Mv → Mv → Mz → Prop} {mc ms : Nat}
theorem st_roomW {ad : Int → Nat} {m : MethodId} {la : Array Slot} {st0 : List Value} (h : st.length ≤ 12) : 2 * (F0 m pc la st0).monitorRoom + ((st.map (tr ad)).map fun v => v.category).sum ≤ 24 := by
  have z : ∀ l : List V2, ((l.map (tr ad)).map (fun v => v.category)).sum ≤ 2 * l.length := fun l => by
    induction l with
    | nil => simp
    | cons a l ih =>
      simp only [List.map_cons, List.sum_cons, List.length_cons]
      rcases lv_cat (tr ad a) with h | h <;> omega
  have := z st
  have e : (F0 m pc la st0).monitorRoom = 0 := rfl
  rw [e]
  omega
theorem r_callVW (hX : okX g X F) (i : Nat) {d idx n K : Nat} {F' : Fm} {as : List V2} {r : Int} {q : vw_C} (hf : (fprg F)[i]? = some (pc, .invokevirtual idx, 3)) (hM : MOk F') (hl : LkM (fown F) idx F' n) (hin : Cond.instanceMethod (fy F') ∈ lw_tbl) (hse : Cond.selects (fown F') (fy F') (fy F') ∈ lw_tbl) (hO : Ok g d mc ms F' ((2, r) :: as) v ρ Z Q) (hn : as.length = n) (hK : cls[K]? = some q) (hq1 : q.1 = fown F') (hk : Z.1 r = K) (hd : 10 * d + 1 ≤ (xR X).frames ∧ 24 + (fnl F' + 11) + 100 * d ≤ (xR X).locals) (hcm : cells + mc ≤ (xR X).cells ∧ slots + ms ≤ (xR X).slots) (hst : st.length ≤ 12)
    (kk : ∀ (o : Option V2) (v' ρ' : Mv) (Z' : Mz), Q o v' ρ' Z' → Z.2.2 ≤ Z'.2.2 → wp g X F (cells + mc) (slots + ms) (pc + 3) ls (o.toList ++ st) v' ρ' Z') : wp g X F cells slots pc ls (as.reverse ++ (2, r) :: st) v ρ Z := by
  intro ad H locs la hR h1 h2 hq hv
  have hK13 : K < 13 := by
    have := (List.getElem?_eq_some_iff.mp hK).1
    simpa [cls] using this
  obtain ⟨h0, q', hc', cell, c1, c2, c3, -⟩ := hR.obj hk hK13
  cases hK.symm.trans hc'
  have hfc := (hX.2.2.2.2.2.2.1.1.1 K q hK).2.1
  have hs1 : scop Z st := fun x hx => h1 x (List.mem_append_right _ (List.mem_cons_of_mem _ hx))
  have hsa : scop Z ((2, r) :: as) := fun x hx => by
    rcases List.mem_cons.mp hx with e | h
    · exact h1 x (List.mem_append_right _ (by rw [e]; exact List.mem_cons_self))
    · exact h1 x (List.mem_append_left _ (List.mem_reverse.mpr h))
  have hMet := hO ad hsa
  have hrun := runWV (As := as.map (tr ad)) (rest := st.map (tr ad)) (b := ad r) (C := fown F') (H := H) (locs := locs) (cells := cells) (slots := slots) (e := xe X) (below := xb X) (meth := xt X) (g := F0 (xm X) pc la ((as.reverse ++ (2, r) :: st).map (tr ad))) (Ts := []) (cc := fcode F) (nL := fnl F) ⟨hX.1, hX.2.1, hX.2.2.2.1, hX.2.2.2.2.1, fun w hw => by cases hw⟩ hMet ⟨callB0 (d := d) hX hM hl ⟨hd.1, by omega⟩, hX.2.2.2.2.2.1 _ hin rfl, hX.2.2.2.2.2.1 _ hse rfl⟩ hd.2
    ⟨FB, ⟨cell, c1, by rw [c3]; rfl, by rw [c2, ← hq1]; exact hfc⟩, fun U hU hW => ⟨by rw [List.map_cons, tr_r ad h0], hX.2.2.2.2.2.2.1.warm hW, by rw [hU]; exact hR.moved hW.alike⟩⟩ rfl (by rw [List.length_map]; exact hn) hv.1 (by rw [List.map_append, List.map_cons, tr_r ad h0, List.map_reverse]) ?_ (hX.dec hf) hcm
  · exact callGo (d := d) (F' := F') hrun hs1 h2 hq hv kk
  · exact st_roomW hst
theorem r_callSW (hX : okX g X F) (i : Nat) {d idx n : Nat} {F' : Fm} {as : List V2} (hf : (fprg F)[i]? = some (pc, .invokestatic idx, 3)) (hM : MOk F') (hl : LkM (fown F) idx F' n) (hstt : Cond.static (fy F') ∈ lw_tbl) (hO : Ok g d mc ms F' as v ρ Z Q) (hn : as.length = n) (hd : 10 * d + 1 ≤ (xR X).frames ∧ 24 + (fnl F' + 11) + 100 * d ≤ (xR X).locals) (hcm : cells + mc ≤ (xR X).cells ∧ slots + ms ≤ (xR X).slots) (hst : st.length ≤ 12)
    (kk : ∀ (o : Option V2) (v' ρ' : Mv) (Z' : Mz), Q o v' ρ' Z' → Z.2.2 ≤ Z'.2.2 → wp g X F (cells + mc) (slots + ms) (pc + 3) ls (o.toList ++ st) v' ρ' Z') : wp g X F cells slots pc ls (as.reverse ++ st) v ρ Z := by
  intro ad H locs la hR h1 h2 hq hv
  have hs1 : scop Z st := fun x hx => h1 x (List.mem_append_right _ hx)
  have hsa : scop Z as := fun x hx => h1 x (List.mem_append_left _ (List.mem_reverse.mpr hx))
  have hrun := runWS (As := as.map (tr ad)) (rest := st.map (tr ad)) (H := H) (locs := locs) (cells := cells) (slots := slots) (e := xe X) (below := xb X) (meth := xt X) (g := F0 (xm X) pc la ((as.reverse ++ st).map (tr ad))) (Ts := []) (cc := fcode F) (nL := fnl F) ⟨hX.1, hX.2.1, hX.2.2.2.1, hX.2.2.2.2.1, fun w hw => by cases hw⟩ (hO ad hsa) ⟨callB0 (d := d) hX hM hl ⟨hd.1, by omega⟩, hX.2.2.2.2.2.1 _ hstt rfl⟩ hd.2
    ⟨FB, fun U hU hW => ⟨rfl, hX.2.2.2.2.2.2.1.warm hW, by rw [hU]; exact hR.moved hW.alike⟩⟩ rfl (by rw [List.length_map]; exact hn) hv.1 (by rw [List.map_append, List.map_reverse]) (st_roomW hst) (hX.dec hf) hcm
  exact callGo (d := d) (F' := F') hrun hs1 h2 hq hv kk
end RowsW2
