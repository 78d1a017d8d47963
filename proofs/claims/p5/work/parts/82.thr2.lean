section RowsT
variable {g : Gp} {X : Cx} {F : Fm} {cells slots pc : Nat} {ls st : List V2} {v ρ : Mv} {Z : Mz} {Q : Option V2 → Mv → Mv → Mz → Prop} {Qx : Mv → Mv → Mz → Prop} {mc ms : Nat}
theorem isDc_on {w : Cond} (h : isDc w = true) : w.onTables = true := by
  cases w <;> first | rfl | (simp [isDc] at h)
theorem ns_hat (hX : okX g X F) (hk : KT (xs X)) : ∀ w ∈ vx_at0 RX11 196 nsX nsN, w.before (xa X) (xs X) = true := by
  intro w hw
  by_cases gd : goodWord w = true
  · exact hX.2.2.2.2.2.1 w (of_decide_eq_true (List.all_eq_true.mp nsT w (List.mem_cons_of_mem _ hw))) gd
  · have hm : w ∈ (vx_at0 RX11 196 nsX nsN).filter (fun w => !goodWord w) := List.mem_filter.mpr ⟨hw, by
      cases h : goodWord w
      · rfl
      · exact absurd h gd⟩
    exact va_Nw.use (isDc_on (List.all_eq_true.mp nsG w hm)) (hk w hm)
theorem Rel.grow {s : State} {ad : Int → Nat} {H H1 : Heap} (hR : Rel g s ad v ρ Z H) (h4 : 4 ≤ Z.2.2) (hsz : H.size ≤ H1.size) (ho : ∀ a : Nat, a < H.size → H1[a]? = H[a]?) : Rel g s ad v ρ Z H1 :=
  Rel.ext hR h4 (fun _ _ => rfl) (fun _ _ => ⟨rfl, rfl, rfl, rfl⟩) (Int.le_refl _) hsz ho (fun r hr hz => absurd (hR.1 r hz).2.1 (by omega)) (fun r q hr _ hz _ _ => absurd (hR.1 r hz).2.1 (by omega))
/-- throw new NoSuchElementException() -/
theorem r_thr (hX : okX g X F) (i : Nat) (hst : (gL g).stackTraces = false) (hth : thX g X) (hQ : hQtT g X Q Qx mc ms) (hown : fown F = RX11) (hf0 : (fprg F)[i]? = some (pc, .new 194, 3)) (hf1 : (fprg F)[i + 1]? = some (pc + 3, .dup, 1)) (hf2 : (fprg F)[i + 2]? = some (pc + 4, .invokespecial 196, 3)) (hf3 : (fprg F)[i + 3]? = some (pc + 7, .athrow, 1))
    (h4 : 4 ≤ Z.2.2) (hRf : 5 < (xR X).frames) (hRl : 81 ≤ (xR X).locals) (hcl : cells + 1 ≤ (xR X).cells) (hsl : slots + 6 ≤ (xR X).slots) (hc : cells + 1 ≤ mc) (hs : slots + 6 ≤ ms) (q : Qx v ρ Z) : wp g X F cells slots pc ls [] v ρ Z := by
  intro ad H locs la hR h1 h2 hq hv
  rw [hQ]
  intro T hT hS
  have hS9 := hth.s hT hS hq.1
  have ho : (xs X).vm.findClass RX11 = some (xm X).cls := by rw [← hown]; exact hX.2.2.2.2.1
  refine vx_throw0 (own := RX11) (cls := nsX) (names := nsN) (ik := 194) (ic := 196) (A := fun q => gB g ≤ q) (rest := []) hX.1 hX.2.1 hst ho (by decide +kernel) (by decide +kernel) (hX.2.2.2.2.2.1 _ cl_X11_194 nsL) (hX.2.2.2.2.2.1 _ (of_decide_eq_true (List.all_eq_true.mp nsT _ List.mem_cons_self)) nsI) (ns_hat hX hth.2.2.2.1) (fun w hw => List.all_eq_true.mp nsO w hw)
    hth.2.1 hth.2.2.1 hS9 ?_ (hX.dec hf0) (hX.dec hf1) (hX.dec hf2) (hX.dec hf3) (fun x hx => (hth.2.2.2.2 x hx).elim) hRf hRl hcl hsl hX.2.2.2.2.2.2.2.1 ?_ hq.1 hc hs T hT hS
  · rw [hX.2.2.2.1]; exact hv.1
  · intro t ht hsz hsame
    exact ⟨rfl, v, ρ, Z, ad, q, (hR.grow h4 hsz hsame).moved ht, hq.2.1, hq.2.2⟩
end RowsT
