/-! methods that may throw: NoSuchElementException, made at RedWhite's rows 194, 196 -/
def nsX : String := "java/util/NoSuchElementException"
def nsN : List String := ["java/lang/RuntimeException", "java/lang/Exception"]
def isDc : Cond → Bool
  | .declares _ => true
  | .castable _ _ => true
  | _ => false
theorem nsG : ((vx_at0 RX11 196 nsX nsN).filter (fun w => !goodWord w)).all isDc = true := by decide +kernel
theorem nsO : (Cond.classLink RX11 194 nsX :: Cond.initialized nsX :: vx_at0 RX11 196 nsX nsN).all vx_ot = true := by decide +kernel
theorem nsT : (Cond.initialized nsX :: vx_at0 RX11 196 nsX nsN).all (fun w => decide (w ∈ lw_tbl)) = true := by decide +kernel
theorem nsI : goodWord (Cond.initialized nsX) = true := by decide +kernel
theorem nsL : goodWord (Cond.classLink RX11 194 nsX) = true := by decide +kernel
def KT (U : State) : Prop := ∀ w ∈ (vx_at0 RX11 196 nsX nsN).filter (fun w => !goodWord w), va_Nw w U
theorem va_Nw.dc {w : Cond} (hd : isDc w = true) {s U : State} (hvm : s.vm.Alike U.vm) (h : va_Nw w s) : va_Nw w U := by
  cases w <;> first | exact va_tabs rfl (rfl : (s.setVm U.vm).vm = U.vm) (by rw [Cond.declares_setVm hvm]; exact h) | exact va_tabs rfl (rfl : (s.setVm U.vm).vm = U.vm) (by rw [Cond.castable_setVm hvm]; exact h) | (simp [isDc] at hd)
theorem KT.moved {s U : State} (hvm : s.vm.Alike U.vm) (h : KT s) : KT U := fun w hw => (h w hw).dc (List.all_eq_true.mp nsG w hw) hvm
def PcT (g : Gp) (ad : Int → Nat) (as : List V2) (v ρ : Mv) (Z : Mz) : Array Value → State → Prop := fun a U => PcM g ad as v ρ Z a U ∧ KT U
def XcM (g : Gp) (ad : Int → Nat) (n : Int) (Qx : Mv → Mv → Mz → Prop) : String → State → State → Prop := fun E _ t => E = nsX ∧ ∃ (v' ρ' : Mv) (Z' : Mz) (ad' : Int → Nat), Qx v' ρ' Z' ∧ Rel g t ad' v' ρ' Z' t.heap ∧ (∀ q : Int, q < n → ad' q = ad q) ∧ n ≤ Z'.2.2
/-- a method's contract at one start: it returns, with Q, or throws, with Qx -/
def OkT (g : Gp) (d mc ms : Nat) (F : Fm) (as : List V2) (v ρ : Mv) (Z : Mz) (Q : Option V2 → Mv → Mv → Mz → Prop) (Qx : Mv → Mv → Mz → Prop) : Prop :=
  ∀ ad : Int → Nat, scop Z as → vx_Met (gL g) (fy F) (wsy F) (rmd d mc ms) (PcT g ad as v ρ Z) (QcM g ad Z.2.2 Q) (XcM g ad Z.2.2 Qx) mc ms (fun q => gB g ≤ q)
theorem FBT {g : Gp} {ad : Int → Nat} {as : List V2} {v ρ : Mv} {Z : Mz} : FrameBlind (PcT g ad as v ρ Z) := fun a U gf mk h => ⟨FB a U gf mk h.1, KT.moved (s := U) (U := U.calling gf mk a) (Vm.Alike.refl U.vm) h.2⟩
/-- what a throw wants of the state at the start -/
def thX (g : Gp) (X : Cx) : Prop := gB g ≤ (xs X).heap.size ∧ vx_Zq Bundle.tN "UNASSIGNED_STACK" Bundle.steD (fun q => gB g ≤ q) (xs X) (xs X).heap ∧ vx_Zq Bundle.tN "SUPPRESSED_SENTINEL" Bundle.listD (fun q => gB g ≤ q) (xs X) (xs X).heap ∧ KT (xs X) ∧ ∀ x ∈ (xc X).exceptionTable.toList, False
abbrev hQtT (g : Gp) (X : Cx) (Q : Option V2 → Mv → Mv → Mz → Prop) (Qx : Mv → Mv → Mz → Prop) (mc ms : Nat) : Prop := xq X = vx_MQ (xb X) (QcM g (xd X) (xn X) Q) (XcM g (xd X) (xn X) Qx) (xa X) (xs X) mc ms (fun q => gB g ≤ q)
theorem OkT.of {g : Gp} {d mc ms : Nat} {F : Fm} {as : List V2} {v ρ : Mv} {Z : Mz} {Q : Option V2 → Mv → Mv → Mz → Prop} {Qx : Mv → Mv → Mz → Prop} (hM : MOk F) (hn : (lent as).length ≤ fnl F)
    (body : ∀ X : Cx, okX g X F → xR X = rmd d mc ms → xn X = Z.2.2 → hQtT g X Q Qx mc ms → thX g X → wp g X F 0 0 0 (entL (fnl F) as) [] v ρ Z) : OkT g d mc ms F as v ρ Z Q Qx := by
  intro ad hsc
  refine vx_ofW (cc := fcode F) (maxL := fnl F) (ret := fret F) hM.1.1 rfl ?_
  intro p e s m args below meth c s₁ B hml hex hP
  obtain ⟨⟨rfl, hKK, hR⟩, hKT⟩ := hP
  have hts := atoms_spec (ws := wsy F) B.pre
  have hX : okX g (p, e, (headSpec (wsy F) (rmd d mc ms)).room, s, m, (as.map (tr ad)).toArray, below, meth, c, vx_MQ below (QcM g ad Z.2.2 Q) (XcM g ad Z.2.2 Qx) (as.map (tr ad)).toArray s mc ms (fun q => gB g ≤ q), ad, Z.2.2) F := by
    refine ⟨B.exec, B.bytes, B.returns, hml, ?_, fun w hw hg => hts w (List.mem_cons_of_mem _ (tbg_in hw hg)), hKK, B.notSynchronized, (name_of_methodNamed B.named B.method).1, fun q hq => ?_⟩
    · rw [← hM.2.1]; exact findClass_of_methodNamed B.named
    · have := List.all_eq_true.mp hM.2.2.2.2 q hq
      exact of_decide_eq_true this
  have h := body _ hX rfl rfl rfl ⟨hR.2.2.1, hR.2.2.2.2.2.1, hR.2.2.2.2.2.2.1, hKT, hex⟩ ad s.heap [] _ hR (fun x hx => by cases hx) (scop_entL hsc) ⟨(fun q hq => by cases hq), fun _ _ => rfl, Int.le_refl _⟩ (lvr_entry hn)
  rw [lg_entry_eq]
  exact h
section RowsT
variable {g : Gp} {X : Cx} {F : Fm} {cells slots pc : Nat} {ls st : List V2} {v ρ : Mv} {Z : Mz} {Q : Option V2 → Mv → Mv → Mz → Prop} {Qx : Mv → Mv → Mz → Prop} {mc ms : Nat}
/-- the same place, with another end -/
def setq (X : Cx) (q : State → Prop) : Cx := (xp X, xe X, xR X, xs X, xm X, xa X, xb X, xt X, xc X, q, xd X, xn X)
abbrev rq (g : Gp) (X : Cx) (Q : Option V2 → Mv → Mv → Mz → Prop) (mc ms : Nat) : Cx := setq X (MQ (xb X) (QcM g (xd X) (xn X) Q) (xa X) (xs X) mc ms (fun q => gB g ≤ q))
/-- a return out of a body that may throw -/
theorem wpT (hQ : hQtT g X Q Qx mc ms) (k : wp g (rq g X Q mc ms) F cells slots pc ls st v ρ Z) : wp g X F cells slots pc ls st v ρ Z := by
  intro ad H locs la a b c d e
  rw [hQ]
  exact vx_ret (k ad H locs la a b c d e)
theorem thX.s {g : Gp} {X : Cx} {H : Heap} {locs : List Loc} {T : State} {cells slots : Nat} (h : thX g X) (hT : T.heap = H) (hS : Stand (xp X) (gL g) (xe X) (xR X) (xs X) (xm X) (xa X) (xb X) (xt X) (xc X) T locs cells slots) (hl : ∀ q ∈ locs, gB g ≤ q.base) : va_S (fun q => gB g ≤ q) (xs X).heap H locs := by
  obtain ⟨h1, h2⟩ := vx_frame hS.same
  rw [hT] at h1 h2
  exact ⟨h1, fun q hq hn => h2 q hq (fun z hz e => hn (by rw [← e]; exact hl z hz)), hl⟩
end RowsT
