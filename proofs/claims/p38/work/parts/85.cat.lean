/-! a call within a try of one row: what is thrown goes to the handler, which puts it aside -/
section RowsC
variable {g : Gp} {X : Cx} {F : Fm} {cells slots pc : Nat} {ls st : List V2} {v ρ : Mv} {Z : Mz} {Q Q' : Option V2 → Mv → Mv → Mz → Prop} {Qx Qx' : Mv → Mv → Mz → Prop} {mc ms mc0 ms0 : Nat}
theorem nsC : Cond.castable nsX nsX ∈ (vx_at0 RX11 196 nsX nsN).filter (fun w => !goodWord w) := by decide +kernel
/-- the handler's first row -/
def hAst (F : Fm) (h i l : Nat) : Prop := (∃ k : Nat, k < fnl F ∧ l = 2 ∧ (fprg F)[i]? = some (h, .astore k, 2)) ∨ ∃ k : Fin 4, (k : Nat) < fnl F ∧ l = 1 ∧ (fprg F)[i]? = some (h, .astore_n k, 1)
theorem callGoC {ad : Int → Nat} {H : Heap} {locs : List Loc} {la : Array Slot} {st0 : List Value} {a : Array Value} {fr to h i l : Nat} (hX : okX g X F) (hk : KT (xs X)) (htab : (xc X).exceptionTable.toList = [⟨fr, to, h, 13⟩]) (hcov : covers ⟨fr, to, h, 13⟩ pc = true) (hlk : Cond.classLink (fown F) 13 nsX ∈ lw_tbl) (hgl : goodWord (Cond.classLink (fown F) 13 nsX) = true) (hA : hAst F h i l) (hr : vx_Run (xp X) (gL g) (xe X) (xR X) (xs X) (xm X) (xa X) (xb X) (xt X) (xc X) H locs cells slots mc ms (F0 (xm X) pc la st0) (st.map (tr ad)) (QcM g ad Z.2.2 Q' a) (XcM g ad Z.2.2 Qx') (fun q => gB g ≤ q)) (h1 : scop Z st) (h2 : scop Z ls) (hq : LQ g X ad Z locs) (hv : lvr ad la (fnl F) ls)
    (kx : ∀ (v' ρ' : Mv) (Z' : Mz), Qx' v' ρ' Z' → Z.2.2 ≤ Z'.2.2 → wp g X F (cells + mc) (slots + ms) (h + l) [] [] v' ρ' Z')
    (kk : ∀ (o : Option V2) (v' ρ' : Mv) (Z' : Mz), Q' o v' ρ' Z' → Z.2.2 ≤ Z'.2.2 → wp g X F (cells + mc) (slots + ms) (pc + 3) ls (o.toList ++ st) v' ρ' Z') : W (xp X) (gL g) (xe X) (xR X) (xs X) (xm X) (xa X) (xb X) (xt X) (xc X) H locs cells slots (xq X) (F0 (xm X) pc la st0) := by
  intro T hT Xs
  rcases hr T hT Xs with ⟨w, st₀, t, T', L, h0, X', hL, e1, e2, ⟨o, v', ρ', Z', ad', hw, hQ, hRel, hag, hnz, hsc⟩, stp⟩ | ⟨q, st₀, t, T', L, E, ce, h0, X', hL, e1, e2, ⟨hE, v', ρ', Z', ad', hQ, hRel, hag, hnz⟩, hce, hcv, hcl, stp⟩
  · cases hw
    have hal : (xs X).vm.Alike t.vm := by rw [← e2]; exact X'.warmed.alike
    obtain ⟨t2, a1, b1⟩ := kk o v' ρ' Z' hQ hnz ad' T'.heap (locs ++ L) la (by rw [e1]; exact hRel.moved hal.symm) (fun x hx => (List.mem_append.mp hx).elim (hsc x) (scop_mono hnz h1 x)) (scop_mono hnz h2)
      ⟨fun q h => (List.mem_append.mp h).elim (hq.1 q) (hL q), fun r hr => by rw [hag r (by have := hq.2.2; omega)]; exact hq.2.1 r hr, by have := hq.2.2; omega⟩ (by unfold lvr; rw [lpr_ext hag h2]; exact hv) T' rfl X'
    refine ⟨t2, stp t2 ?_, b1⟩
    rw [List.map_append, map_ext hag h1] at a1
    have e3 : (o.map (tr ad')).toList = o.toList.map (tr ad') := by cases o <;> rfl
    rw [e3]
    exact a1
  · have hal : (xs X).vm.Alike t.vm := by rw [← e2]; exact X'.warmed.alike
    have hqn := hq.2.2
    subst hE
    have K : ∀ la' : Array Slot, la'.size = fnl F → lv_wf la' → W (xp X) (gL g) (xe X) (xR X) (xs X) (xm X) (xa X) (xb X) (xt X) (xc X) T'.heap (locs ++ L) (cells + mc) (slots + ms) (xq X) (F0 (xm X) (h + l) la' []) := fun la' z1 z2 =>
      kx v' ρ' Z' hQ hnz ad' T'.heap (locs ++ L) la' (by rw [e1]; exact hRel.moved hal.symm) (fun x hx => by cases hx) (fun x hx => by cases hx) ⟨fun q h => (List.mem_append.mp h).elim (hq.1 q) (hL q), fun r hr => by rw [hag r (by omega)]; exact hq.2.1 r hr, by omega⟩ ⟨z1, z2, fun q hq => by cases hq⟩
    have hW : W (xp X) (gL g) (xe X) (xR X) (xs X) (xm X) (xa X) (xb X) (xt X) (xc X) T'.heap (locs ++ L) (cells + mc) (slots + ms) (xq X) (F0 (xm X) h la [.ref q]) := by
      rcases hA with ⟨k, hk1, rfl, hf⟩ | ⟨k, hk1, rfl, hf⟩
      · exact lv_astore hX.1 hX.2.1 (hX.dec hf) hv hk1 rfl (fun la' z => K la' z.1 z.2.1)
      · exact lv_astore_n hX.1 hX.2.1 (hX.dec hf) rfl hv hk1 rfl (fun la' z => K la' z.1 z.2.1)
    obtain ⟨t2, a1, b1⟩ := vx_catch (own := fown F) (name := nsX) (E := nsX) (ce := ce) (q := q) (rest := st.map (tr ad)) (pc := pc) (ls := la) (H := T'.heap) (locs := locs ++ L) hX.2.2.2.2.1 [] ⟨fr, to, h, 13⟩ [] htab (fun z hz => by cases hz) hcov (show (13 : Nat) ≠ 0 by decide) (hX.2.2.2.2.2.1 _ hlk hgl) (va_Nw.use rfl (hk _ nsC)) (by rw [e1]; exact hce) hcv hcl hW T' rfl X'
    exact ⟨t2, stp.trans a1, b1⟩
theorem r_callVC {fr to h i2 l : Nat} (hX : okX g X F) (i : Nat) (hkt : KT (xs X)) (htab : (xc X).exceptionTable.toList = [⟨fr, to, h, 13⟩]) (hcov : covers ⟨fr, to, h, 13⟩ pc = true) (hlk : Cond.classLink (fown F) 13 nsX ∈ lw_tbl) (hgl : goodWord (Cond.classLink (fown F) 13 nsX) = true) (hA : hAst F h i2 l) {d idx n K : Nat} {F' : Fm} {as : List V2} {r : Int} {q : vw_C} (hf : (fprg F)[i]? = some (pc, .invokevirtual idx, 3)) (hM : MOk F') (hl : LkM (fown F) idx F' n) (hin : Cond.instanceMethod (fy F') ∈ lw_tbl) (hse : Cond.selects (fown F') (fy F') (fy F') ∈ lw_tbl) (hO : OkT g d mc ms F' ((2, r) :: as) v ρ Z Q' Qx') (hn : as.length = n) (hK : cls[K]? = some q) (hq1 : q.1 = fown F') (hk : Z.1 r = K) (hd : 10 * d + 1 ≤ (xR X).frames ∧ 8 + (fnl F' + 11) + 100 * d ≤ (xR X).locals) (hcm : cells + mc ≤ (xR X).cells ∧ slots + ms ≤ (xR X).slots) (hst : st.length ≤ 4)
    (kx : ∀ (v' ρ' : Mv) (Z' : Mz), Qx' v' ρ' Z' → Z.2.2 ≤ Z'.2.2 → wp g X F (cells + mc) (slots + ms) (h + l) [] [] v' ρ' Z')
    (kk : ∀ (o : Option V2) (v' ρ' : Mv) (Z' : Mz), Q' o v' ρ' Z' → Z.2.2 ≤ Z'.2.2 → wp g X F (cells + mc) (slots + ms) (pc + 3) ls (o.toList ++ st) v' ρ' Z') : wp g X F cells slots pc ls (as.reverse ++ (2, r) :: st) v ρ Z := by
  intro ad H locs la hR h1 h2 hq hv
  have hK13 : K < 13 := by
    have := (List.getElem?_eq_some_iff.mp hK).1
    simpa [cls] using this
  obtain ⟨h0, q', hc', cell, c1, c2, c3, -⟩ := hR.obj hk hK13
  cases hK.symm.trans hc'
  have hfc := (hX.2.2.2.2.2.2.1.1.1 K q hK).2.1
  have hs1 : scop Z st := fun x hx => h1 x (List.mem_append_right _ (List.mem_cons_of_mem _ hx))
  have hsa : scop Z ((2, r) :: as) := fun x hx => by
    rcases List.mem_cons.mp hx with e | h
    · exact h1 x (List.mem_append_right _ (by rw [e]; exact List.mem_cons_self))
    · exact h1 x (List.mem_append_left _ (List.mem_reverse.mpr h))
  have hMet := hO ad hsa
  have hrun := vx_runV (As := as.map (tr ad)) (rest := st.map (tr ad)) (b := ad r) (C := fown F') (H := H) (locs := locs) (cells := cells) (slots := slots) (e := xe X) (below := xb X) (meth := xt X) (g := F0 (xm X) pc la ((as.reverse ++ (2, r) :: st).map (tr ad))) (Ts := []) (cc := fcode F) (nL := fnl F) ⟨hX.1, hX.2.1, hX.2.2.2.1, hX.2.2.2.2.1, fun w hw => by cases hw⟩ hMet ⟨callB0 (d := d) hX hM hl hd, hX.2.2.2.2.2.1 _ hin rfl, hX.2.2.2.2.2.1 _ hse rfl⟩
    ⟨FBT, ⟨cell, c1, by rw [c3]; rfl, by rw [c2, ← hq1]; exact hfc⟩, fun U hU hW => ⟨⟨by rw [List.map_cons, tr_r ad h0], hX.2.2.2.2.2.2.1.warm hW, by rw [hU]; exact hR.moved hW.alike⟩, hkt.moved hW.alike⟩⟩ rfl (by rw [List.length_map]; exact hn) hv.1 (by rw [List.map_append, List.map_cons, tr_r ad h0, List.map_reverse]) (st_room hst) (hX.dec hf) hcm
  exact callGoC hX hkt htab hcov hlk hgl hA hrun hs1 h2 hq hv kx kk
/-- a method with one handler: its contract; nothing leaves it thrown -/
def wsH (F : Fm) (hh : List (Nat × Nat × Nat × Nat)) : List Cond := Cond.codeWith (fy F) (fcode F) (fnl F) (fret F) hh :: tbg
def OkH (g : Gp) (d mc ms : Nat) (F : Fm) (hh : List (Nat × Nat × Nat × Nat)) (as : List V2) (v ρ : Mv) (Z : Mz) (Q : Option V2 → Mv → Mv → Mz → Prop) : Prop :=
  ∀ ad : Int → Nat, scop Z as → vx_Met (gL g) (fy F) (wsH F hh) (rmd d mc ms) (PcT g ad as v ρ Z) (QcM g ad Z.2.2 Q) (fun _ _ _ => False) mc ms (fun q => gB g ≤ q)
def MOkH (F : Fm) (hh : List (Nat × Nat × Nat × Nat)) : Prop := (plainName (fy F).cls = true ∧ (fy F).cls ≠ "java/lang/invoke/MethodHandle" ∧ (fy F).cls ≠ "java/lang/invoke/VarHandle") ∧ (fy F).cls = fown F ∧ Cond.codeWith (fy F) (fcode F) (fnl F) (fret F) hh ∈ lw_tbl ∧ Cond.initialized (fy F).cls ∈ lw_tbl ∧ (fprg F).all (fun q => decide (decode (fcode F) q.1 = .ok q.2)) = true
abbrev hQtH (g : Gp) (X : Cx) (Q : Option V2 → Mv → Mv → Mz → Prop) (mc ms : Nat) : Prop := xq X = vx_MQ (xb X) (QcM g (xd X) (xn X) Q) (fun _ _ _ => False) (xa X) (xs X) mc ms (fun q => gB g ≤ q)
theorem wpH (hQ : hQtH g X Q mc ms) (k : wp g (rq g X Q mc ms) F cells slots pc ls st v ρ Z) : wp g X F cells slots pc ls st v ρ Z := by
  intro ad H locs la a b c d e
  rw [hQ]
  exact vx_ret (k ad H locs la a b c d e)
theorem OkH.of {d : Nat} {hh : List (Nat × Nat × Nat × Nat)} {as : List V2} (hM : MOkH F hh) (hn : (lent as).length ≤ fnl F)
    (body : ∀ X : Cx, okX g X F → xR X = rmd d mc ms → xn X = Z.2.2 → hQtH g X Q mc ms → KT (xs X) → (xc X).exceptionTable.toList = hh.map (fun q => ⟨q.1, q.2.1, q.2.2.1, q.2.2.2⟩) → wp g X F 0 0 0 (entL (fnl F) as) [] v ρ Z) : OkH g d mc ms F hh as v ρ Z Q := by
  intro ad hsc
  refine vx_ofWH (cc := fcode F) (maxL := fnl F) (ret := fret F) (hh := hh) hM.1.1 rfl ?_
  intro p e s m args below meth c s₁ B hml hP
  obtain ⟨⟨rfl, hKK, hR⟩, hKT⟩ := hP
  have hts := atoms_spec (ws := wsH F hh) B.pre
  have htab := vx_table (x := fy F) B (hts _ List.mem_cons_self)
  have hX : okX g (p, e, (headSpec (wsH F hh) (rmd d mc ms)).room, s, m, (as.map (tr ad)).toArray, below, meth, c, vx_MQ below (QcM g ad Z.2.2 Q) (fun _ _ _ => False) (as.map (tr ad)).toArray s mc ms (fun q => gB g ≤ q), ad, Z.2.2) F := by
    refine ⟨B.exec, B.bytes, B.returns, hml, ?_, fun w hw hg => hts w (List.mem_cons_of_mem _ (tbg_in hw hg)), hKK, B.notSynchronized, (name_of_methodNamed B.named B.method).1, fun q hq => ?_⟩
    · rw [← hM.2.1]; exact findClass_of_methodNamed B.named
    · have := List.all_eq_true.mp hM.2.2.2.2 q hq
      exact of_decide_eq_true this
  have h := body _ hX rfl rfl rfl hKT htab ad s.heap [] _ hR (fun x hx => by cases hx) (scop_entL hsc) ⟨(fun q hq => by cases hq), fun _ _ => rfl, Int.le_refl _⟩ (lvr_entry hn)
  rw [lg_entry_eq]
  exact h
end RowsC
