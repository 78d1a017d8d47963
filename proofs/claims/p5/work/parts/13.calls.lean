def wsy (F : Fm) : List Cond := Cond.code (fy F) (fcode F) (fnl F) (fret F) :: tbg
def rmd (d mc ms : Nat) : Room := { frames := 10 * d, cells := mc, slots := ms, locals := 100 * d }
theorem va_AOA.moved {ty : FieldType} {u U : State} (hvm : u.vm.Alike U.vm) (h : va_AOA ty u) : va_AOA ty U := by
  have h1 : (Cond.arrayOver (.array ty)).before #[] (u.setVm U.vm) = true := by rw [Cond.arrayOver_setVmC hvm]; exact h
  unfold va_AOA Cond.before Cond.holds at h ⊢
  unfold Cond.before Cond.holds at h1
  exact h1
theorem KK.of {g : Gp} {u U : State} (hvm : u.vm.Alike U.vm) (hn : ∀ w ∈ lw_tbl, isNest w = true → va_Nw w U) (hk : vk_R "RedWhite$Tape" 70 keyT (gK g) U) (h : KK g u) : KK g U := ⟨va_K.moved hvm h.1, hn, fun K h1 h2 => ⟨arrOfT_moved hvm (h.2.2.1 K h1 h2).1, (h.2.2.1 K h1 h2).2.moved hvm⟩, va_AO.moved hvm h.2.2.2.1, va_AO.moved hvm h.2.2.2.2.1, va_AOA.moved hvm h.2.2.2.2.2.1, va_AOA.moved hvm h.2.2.2.2.2.2.1, hk⟩
theorem KK.warm {g : Gp} {s U : State} (hW : s.WarmedH U.vm) (h : KK g s) : KK g U := h.of hW.alike (fun w hw hn => by
  have h1 := h.2.1 w hw hn
  cases w <;> first | exact va_Nw.warmF hW h1 | exact va_Nw.warmM hW h1 | (simp [isNest] at hn)) (vk_R.warm hW h.2.2.2.2.2.2.2)
theorem KK.same {g : Gp} {u U : State} (e : u.vm = U.vm) (h : KK g u) : KK g U := h.of (by rw [e]; exact Vm.Alike.refl _) (fun w hw hn => by
  have h1 := h.2.1 w hw hn
  cases w <;> first | exact va_Nw.same rfl e h1 | (simp [isNest] at hn)) (vk_R.same e.symm h.2.2.2.2.2.2.2)
theorem arrOK.moved {u U : State} (hvm : u.vm.Alike U.vm) {ty : FieldType} {n : Nat} {f : Nat → Value} {cell : Cell} (h : arrOK u ty n f cell) : arrOK U ty n f cell := ⟨State.isArrayOf_alike hvm h.1, h.2⟩
theorem cellAt.moved {g : Gp} {u U : State} (hvm : u.vm.Alike U.vm) {ad : Int → Nat} {H : Heap} {r : Int} {K : Nat} {n : Int} {f q : Int → Int} (h : cellAt g u ad H r K n f q) : cellAt g U ad H r K n f q := by
  unfold cellAt at h ⊢
  split
  · rename_i hK
    rw [if_pos hK] at h
    exact h
  · rename_i hK
    rw [if_neg hK] at h
    obtain ⟨h1, h2, h3, cell, h4, h5, h6⟩ := h
    exact ⟨h1, h2, h3, cell, h4, h5.moved hvm, h6⟩
theorem KY.moved {g : Gp} {u U : State} (hvm : u.vm.Alike U.vm) {H : Heap} (h : KY g u H) : KY g U H := ⟨h.1.moved hvm, h.2.1.moved hvm, h.2.2.1.moved hvm, h.2.2.2.1.moved hvm, h.2.2.2.2.1.moved hvm, va_Zq.moved hvm h.2.2.2.2.2⟩
theorem SS.moved {g : Gp} {u U : State} (hvm : u.vm.Alike U.vm) {ad : Int → Nat} {H : Heap} (h : SS g u ad H) : SS g U ad H := ⟨va_Z.moved hvm h.1, va_Z.moved hvm h.2.1, vx_Zq.moved hvm h.2.2.1, vx_Zq.moved hvm h.2.2.2.1, h.2.2.2.2.moved hvm⟩
theorem Rel.moved {g : Gp} {u U : State} (hvm : u.vm.Alike U.vm) {ad : Int → Nat} {v ρ : Mv} {Z : Mz} {H : Heap} (h : Rel g u ad v ρ Z H) : Rel g U ad v ρ Z H := ⟨fun r hr => by
  obtain ⟨b1, b2, b3, b4, b5⟩ := h.1 r hr
  exact ⟨b1, b2, b3, b4.moved hvm, b5⟩, h.2.1, h.2.2.1, h.2.2.2.moved hvm⟩
def PcM (g : Gp) (ad : Int → Nat) (as : List V2) (v ρ : Mv) (Z : Mz) : Array Value → State → Prop := fun a U => a = (as.map (tr ad)).toArray ∧ KK g U ∧ Rel g U ad v ρ Z U.heap
def QcM (g : Gp) (ad : Int → Nat) (n : Int) (Q : Option V2 → Mv → Mv → Mz → Prop) : Array Value → State → Outcome → State → Prop := fun _ st o t => ∃ (r : Option V2) (v' ρ' : Mv) (Z' : Mz) (ad' : Int → Nat), o = .returned (r.map (tr ad')) ∧ Q r v' ρ' Z' ∧ Rel g t ad' v' ρ' Z' t.heap ∧ (∀ q : Int, q < n → ad' q = ad q) ∧ n ≤ Z'.2.2 ∧ scop Z' r.toList
/-- a method's contract at one start: it returns, with Q -/
def Ok (g : Gp) (d mc ms : Nat) (F : Fm) (as : List V2) (v ρ : Mv) (Z : Mz) (Q : Option V2 → Mv → Mv → Mz → Prop) : Prop :=
  ∀ ad : Int → Nat, scop Z as → Met (gL g) (fy F) (wsy F) (rmd d mc ms) (PcM g ad as v ρ Z) (QcM g ad Z.2.2 Q) mc ms (fun q => gB g ≤ q)
/-- what a method's own name needs: its code is what the tables say, its rows decode -/
def MOk (F : Fm) : Prop := (plainName (fy F).cls = true ∧ (fy F).cls ≠ "java/lang/invoke/MethodHandle" ∧ (fy F).cls ≠ "java/lang/invoke/VarHandle") ∧ (fy F).cls = fown F ∧ Cond.code (fy F) (fcode F) (fnl F) (fret F) ∈ lw_tbl ∧ Cond.initialized (fy F).cls ∈ lw_tbl ∧ (fprg F).all (fun q => decide (decode (fcode F) q.1 = .ok q.2)) = true
theorem FB {g : Gp} {ad : Int → Nat} {as : List V2} {v ρ : Mv} {Z : Mz} : FrameBlind (PcM g ad as v ρ Z) := fun a U gf mk h => ⟨h.1, KK.same (u := U) (U := U.calling gf mk a) rfl h.2.1, Rel.moved (u := U) (U := U.calling gf mk a) (Vm.Alike.refl U.vm) h.2.2⟩
/-- the entry's locals -/
def lent : List V2 → List V2
  | [] => []
  | x :: l => if x.1 = 1 then x :: (3, 0) :: lent l else x :: lent l
def entL (n : Nat) (as : List V2) : List V2 := lent as ++ List.replicate (n - (lent as).length) (3, 0)
theorem cat_2 {ad : Int → Nat} {x : V2} (h : x.1 = 1) : (tr ad x).category = 2 := by
  obtain ⟨t, y⟩ := x
  simp only at h
  subst h
  rfl
theorem lent_len (ad : Int → Nat) : ∀ as : List V2, (lg_sl (as.map (tr ad))).length = (lent as).length
  | [] => rfl
  | x :: l => by
    have ih := lent_len ad l
    unfold lg_sl at ih ⊢
    rw [List.map_cons, List.flatMap_cons, List.length_append, ih, show lent (x :: l) = if x.1 = 1 then x :: (3, 0) :: lent l else x :: lent l from rfl]
    by_cases h : x.1 = 1
    · rw [if_pos h, if_pos (cat_2 h)]
      simp
      omega
    · rw [if_neg h, if_neg (by rw [cat_i h]; decide)]
      simp
      omega
theorem mem_lent (ad : Int → Nat) : ∀ (as : List V2) (i k : Nat) (y : V2), (lent as)[k]? = some y → y.1 ≠ 3 → (i + k, tr ad y) ∈ lv_args i (as.map (tr ad))
  | [], i, k, y, h, _ => by simp [lent] at h
  | x :: l, i, k, y, h, h3 => by
    unfold lent at h
    rw [List.map_cons]
    unfold lv_args
    by_cases c : x.1 = 1
    · rw [if_pos c] at h
      rw [if_pos (cat_2 c)]
      match k, h with
      | 0, h => cases h; exact List.mem_cons_self
      | 1, h => cases h; exact absurd rfl h3
      | k + 2, h =>
        have := mem_lent ad l (i + 2) k y h h3
        rw [show i + (k + 2) = i + 2 + k by omega]
        exact List.mem_cons_of_mem _ this
    · rw [if_neg c] at h
      rw [if_neg (by rw [cat_i c]; decide)]
      match k, h with
      | 0, h => cases h; exact List.mem_cons_self
      | k + 1, h =>
        have := mem_lent ad l (i + 1) k y h h3
        rw [show i + (k + 1) = i + 1 + k by omega]
        exact List.mem_cons_of_mem _ this
theorem entL_at {n : Nat} {as : List V2} {k : Nat} {y : V2} (h : (entL n as)[k]? = some y) (h3 : y.1 ≠ 3) : (lent as)[k]? = some y := by
  unfold entL at h
  by_cases c : k < (lent as).length
  · rw [List.getElem?_append_left c] at h
    exact h
  · rw [List.getElem?_append_right (by omega)] at h
    have := List.mem_of_getElem? h
    rw [(List.mem_replicate.mp this).2] at h3
    exact absurd rfl h3
theorem lvr_entry {ad : Int → Nat} {n : Nat} {as : List V2} (hn : (lent as).length ≤ n) : lvr ad ((lg_sl (as.map (tr ad)) ++ List.replicate (n - (lg_sl (as.map (tr ad))).length) Slot.unset).toArray) n (entL n as) := by
  have h := lv_entry (as.map (tr ad)) (n := n) (by rw [lent_len]; exact hn)
  refine ⟨h.1, h.2.1, fun q hq => ?_⟩
  obtain ⟨y, h1, h3, h4⟩ := mem_lpr hq
  have h5 := mem_lent ad as 0 q.1 y (entL_at h1 h3) h3
  rw [Nat.zero_add, ← h4] at h5
  exact h.2.2 q h5
theorem scop_lent {Z : Mz} : ∀ {as : List V2}, scop Z as → scop Z (lent as)
  | [], h => h
  | x :: l, h => by
    unfold lent
    have ih := scop_lent (scop_c h)
    by_cases c : x.1 = 1
    · rw [if_pos c]
      exact scop_v (scop_v ih (fun e => by cases e)) (h x List.mem_cons_self)
    · rw [if_neg c]
      exact scop_v ih (h x List.mem_cons_self)
theorem scop_entL {Z : Mz} {n : Nat} {as : List V2} (h : scop Z as) : scop Z (entL n as) := fun x hx => by
  rcases List.mem_append.mp hx with h1 | h1
  · exact scop_lent h x h1
  · rw [(List.mem_replicate.mp h1).2]
    exact fun e => by cases e
theorem Ok.of {g : Gp} {d mc ms : Nat} {F : Fm} {as : List V2} {v ρ : Mv} {Z : Mz} {Q : Option V2 → Mv → Mv → Mz → Prop} (hM : MOk F) (hn : (lent as).length ≤ fnl F)
    (body : ∀ X : Cx, okX g X F → xR X = rmd d mc ms → xn X = Z.2.2 → xq X = MQ (xb X) (QcM g (xd X) (xn X) Q) (xa X) (xs X) mc ms (fun q => gB g ≤ q) → wp g X F 0 0 0 (entL (fnl F) as) [] v ρ Z) : Ok g d mc ms F as v ρ Z Q := by
  intro ad hsc
  refine Met.ofW (cc := fcode F) (maxL := fnl F) (ret := fret F) hM.1.1 rfl ?_
  intro p e s m args below meth c s₁ B hml hP
  obtain ⟨rfl, hKK, hR⟩ := hP
  have hts := atoms_spec (ws := wsy F) B.pre
  have hX : okX g (p, e, (headSpec (wsy F) (rmd d mc ms)).room, s, m, (as.map (tr ad)).toArray, below, meth, c, MQ below (QcM g ad Z.2.2 Q) (as.map (tr ad)).toArray s mc ms (fun q => gB g ≤ q), ad, Z.2.2) F := by
    refine ⟨B.exec, B.bytes, B.returns, hml, ?_, fun w hw hg => hts w (List.mem_cons_of_mem _ (tbg_in hw hg)), hKK, B.notSynchronized, (name_of_methodNamed B.named B.method).1, fun q hq => ?_⟩
    · rw [← hM.2.1]; exact findClass_of_methodNamed B.named
    · have := List.all_eq_true.mp hM.2.2.2.2 q hq
      exact of_decide_eq_true this
  have h := body _ hX rfl rfl rfl ad s.heap [] _ hR (fun x hx => by cases hx) (scop_entL hsc) ⟨(fun q hq => by cases hq), fun _ _ => rfl, Int.le_refl _⟩ (lvr_entry hn)
  rw [lg_entry_eq]
  exact h
/-- a method's link from a class -/
def LkM (own : String) (idx : Nat) (F' : Fm) (n : Nat) : Prop := Cond.methodLink own idx (fy F') ∈ lw_tbl ∧ (parseMethodDescriptor (fy F').desc).map (fun d => d.parameters.length) = some n
