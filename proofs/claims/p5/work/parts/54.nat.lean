set_option maxRecDepth 20000 in
theorem ms_min : Cond.static ⟨"java/lang/Math", "min", "(II)I"⟩ ∈ lw_tbl := List.mem_append_right _ (List.mem_append_right _ (List.mem_append_right _ (List.mem_append_right _ (List.mem_append_left _ (List.mem_of_getElem? (i := 220) rfl)))))
set_option maxRecDepth 20000 in
theorem mc_min : Cond.code ⟨"java/lang/Math", "min", "(II)I"⟩ prog_19_method_69_code 2 (Option.some FieldType.int) ∈ lw_tbl := List.mem_append_right _ (List.mem_append_right _ (List.mem_append_right _ (List.mem_append_right _ (List.mem_append_left _ (List.mem_of_getElem? (i := 221) rfl)))))
set_option maxRecDepth 20000 in
theorem ms_max : Cond.static ⟨"java/lang/Math", "max", "(II)I"⟩ ∈ lw_tbl := List.mem_append_right _ (List.mem_append_right _ (List.mem_append_right _ (List.mem_append_right _ (List.mem_append_right _ (List.mem_append_left _ (List.mem_of_getElem? (i := 166) rfl))))))
set_option maxRecDepth 20000 in
theorem mc_max : Cond.code ⟨"java/lang/Math", "max", "(II)I"⟩ prog_19_method_65_code 2 (Option.some FieldType.int) ∈ lw_tbl := List.mem_append_right _ (List.mem_append_right _ (List.mem_append_right _ (List.mem_append_right _ (List.mem_append_right _ (List.mem_append_left _ (List.mem_of_getElem? (i := 167) rfl))))))
set_option maxRecDepth 20000 in
theorem ms_abs : Cond.static ⟨"java/lang/Math", "abs", "(J)J"⟩ ∈ lw_tbl := List.mem_append_right _ (List.mem_append_right _ (List.mem_append_right _ (List.mem_append_right _ (List.mem_append_right _ (List.mem_append_left _ (List.mem_of_getElem? (i := 44) rfl))))))
set_option maxRecDepth 20000 in
theorem mc_abs : Cond.code ⟨"java/lang/Math", "abs", "(J)J"⟩ prog_19_method_61_code 2 (Option.some FieldType.long) ∈ lw_tbl := List.mem_append_right _ (List.mem_append_right _ (List.mem_append_right _ (List.mem_append_right _ (List.mem_append_right _ (List.mem_append_left _ (List.mem_of_getElem? (i := 45) rfl))))))
set_option maxRecDepth 20000 in
theorem mi_Math : Cond.initialized "java/lang/Math" ∈ lw_tbl := List.mem_append_right _ (List.mem_append_left _ (List.mem_of_getElem? (i := 24) rfl))
set_option maxRecDepth 20000 in
theorem ac_n : Cond.native ⟨"java/lang/System", "arraycopy", "(Ljava/lang/Object;ILjava/lang/Object;II)V"⟩ ∈ lw_tbl := List.mem_append_right _ (List.mem_append_right _ (List.mem_append_right _ (List.mem_append_right _ (List.mem_append_left _ (List.mem_of_getElem? (i := 117) rfl)))))
set_option maxRecDepth 20000 in
theorem ac_s : Cond.static ⟨"java/lang/System", "arraycopy", "(Ljava/lang/Object;ILjava/lang/Object;II)V"⟩ ∈ lw_tbl := List.mem_append_right _ (List.mem_append_right _ (List.mem_append_right _ (List.mem_append_right _ (List.mem_append_left _ (List.mem_of_getElem? (i := 116) rfl)))))
set_option maxRecDepth 20000 in
theorem ac_i : Cond.initialized "java/lang/System" ∈ lw_tbl := List.mem_append_right _ (List.mem_append_left _ (List.mem_of_getElem? (i := 22) rfl))
section RowsN
variable {g : Gp} {X : Cx} {F : Fm} {cells slots pc : Nat} {ls st : List V2} {v ρ : Mv} {Z : Mz}
theorem cat_sum (ad : Int → Nat) (l : List V2) : ((l.map (tr ad)).map (fun v => v.category)).sum ≤ 2 * l.length := by
  induction l with
  | nil => simp
  | cons x l ih =>
    have : (tr ad x).category ≤ 2 := by
      by_cases h : x.1 = 1
      · rw [cat_2 h]; exact Nat.le_refl 2
      · rw [cat_i h]; decide
    simp only [List.map_cons, List.sum_cons, List.length_cons]
    omega
theorem r_mmin (hX : okX g X F) (i : Nat) {idx : Nat} {x y : Int} (hf : (fprg F)[i]? = some (pc, .invokestatic idx, 3)) (hl : Cond.methodLink (fown F) idx ⟨"java/lang/Math", "min", "(II)I"⟩ ∈ lw_tbl) (hx : inR x) (hy : inR y) (hd : 1 ≤ (xR X).frames ∧ 40 ≤ (xR X).locals ∧ cells ≤ (xR X).cells ∧ slots ≤ (xR X).slots) (hst : st.length ≤ 12)
    (kk : ∀ z : Int, (z = x ∧ x ≤ y ∨ z = y ∧ y ≤ x) → wp g X F cells slots (pc + 3) ls ((0, z) :: st) v ρ Z) : wp g X F cells slots pc ls ((0, y) :: (0, x) :: st) v ρ Z := by
  intro ad H locs la hR h1 h2 hq hv
  have hs := cat_sum ad st
  refine va_mmin hX.1 hX.2.1 (hX.2.2.2.1.trans hv.1.symm) hX.2.2.2.2.1 (hX.2.2.2.2.2.1 _ hl rfl) (hX.2.2.2.2.2.1 _ ms_min rfl) (hX.2.2.2.2.2.1 _ mi_Math rfl) (hX.2.2.2.2.2.1 _ mc_min rfl) hd.1 (by omega) hd.2.2.1 hd.2.2.2 (hX.dec hf) ?_
  have e : (if Int32.ofInt y < Int32.ofInt x then Int32.ofInt y else Int32.ofInt x) = Int32.ofInt (if y < x then y else x) := by
    by_cases c : y < x
    · rw [if_pos c, if_pos ((oi_lt hy hx).mpr c)]
    · rw [if_neg c, if_neg (fun q => c ((oi_lt hy hx).mp q))]
  rw [e]
  exact kk (if y < x then y else x) (by by_cases c : y < x <;> simp [c] <;> omega) ad H locs la hR (scop_i (scop_c (scop_c h1))) h2 hq hv
theorem r_mmax (hX : okX g X F) (i : Nat) {idx : Nat} {x y : Int} (hf : (fprg F)[i]? = some (pc, .invokestatic idx, 3)) (hl : Cond.methodLink (fown F) idx ⟨"java/lang/Math", "max", "(II)I"⟩ ∈ lw_tbl) (hx : inR x) (hy : inR y) (hd : 1 ≤ (xR X).frames ∧ 40 ≤ (xR X).locals ∧ cells ≤ (xR X).cells ∧ slots ≤ (xR X).slots) (hst : st.length ≤ 12)
    (kk : ∀ z : Int, (z = x ∧ y ≤ x ∨ z = y ∧ x ≤ y) → wp g X F cells slots (pc + 3) ls ((0, z) :: st) v ρ Z) : wp g X F cells slots pc ls ((0, y) :: (0, x) :: st) v ρ Z := by
  intro ad H locs la hR h1 h2 hq hv
  have hs := cat_sum ad st
  refine va_mmax hX.1 hX.2.1 (hX.2.2.2.1.trans hv.1.symm) hX.2.2.2.2.1 (hX.2.2.2.2.2.1 _ hl rfl) (hX.2.2.2.2.2.1 _ ms_max rfl) (hX.2.2.2.2.2.1 _ mi_Math rfl) (hX.2.2.2.2.2.1 _ mc_max rfl) hd.1 (by omega) hd.2.2.1 hd.2.2.2 (hX.dec hf) ?_
  have e : (if Int32.ofInt x < Int32.ofInt y then Int32.ofInt y else Int32.ofInt x) = Int32.ofInt (if x < y then y else x) := by
    by_cases c : x < y
    · rw [if_pos c, if_pos ((oi_lt hx hy).mpr c)]
    · rw [if_neg c, if_neg (fun q => c ((oi_lt hx hy).mp q))]
  rw [e]
  exact kk (if x < y then y else x) (by by_cases c : x < y <;> simp [c] <;> omega) ad H locs la hR (scop_i (scop_c (scop_c h1))) h2 hq hv
theorem r_mabs (hX : okX g X F) (i : Nat) {idx : Nat} {x : Int} (hf : (fprg F)[i]? = some (pc, .invokestatic idx, 3)) (hl : Cond.methodLink (fown F) idx ⟨"java/lang/Math", "abs", "(J)J"⟩ ∈ lw_tbl) (hd : 1 ≤ (xR X).frames ∧ 40 ≤ (xR X).locals ∧ cells ≤ (xR X).cells ∧ slots ≤ (xR X).slots) (hst : st.length ≤ 12)
    (kk : ∀ z : Int, inL z → wp g X F cells slots (pc + 3) ls ((1, z) :: st) v ρ Z) : wp g X F cells slots pc ls ((1, x) :: st) v ρ Z := by
  intro ad H locs la hR h1 h2 hq hv
  have hs := cat_sum ad st
  refine va_mabs_long hX.1 hX.2.1 (hX.2.2.2.1.trans hv.1.symm) hX.2.2.2.2.1 (hX.2.2.2.2.2.1 _ hl rfl) (hX.2.2.2.2.2.1 _ ms_abs rfl) (hX.2.2.2.2.2.1 _ mi_Math rfl) (hX.2.2.2.2.2.1 _ mc_abs rfl) hd.1 (by omega) hd.2.2.1 hd.2.2.2 (hX.dec hf) ?_
  generalize (if 0 < Int64.ofInt x then Int64.ofInt x else -Int64.ofInt x) = w
  have h := kk w.toInt (inL_t w) ad H locs la hR (scop_l (scop_c h1)) h2 hq hv
  rw [List.map_cons, tr_l, Int64.ofInt_toInt] at h
  exact h
def cpM (v : Mv) (d a n : Int) : Mv := fun r k => if r = d ∧ 0 ≤ k ∧ k < n then v a k else v r k
theorem cpM_ne {d a n r : Int} (h : r ≠ d) : cpM v d a n r = v r := funext fun _ => if_neg (fun q => h q.1)
theorem cpM_in {d a n k : Int} (h0 : 0 ≤ k) (h1 : k < n) : cpM v d a n d k = v a k := if_pos ⟨rfl, h0, h1⟩
theorem cpM_out {d a n k : Int} (h : ¬ (0 ≤ k ∧ k < n)) : cpM v d a n d k = v d k := if_neg (fun q => h q.2)
theorem r_copy (hX : okX g X F) (i : Nat) {idx : Nat} {a d : Int} (K N : Nat) (hf : (fprg F)[i]? = some (pc, .invokestatic idx, 3)) (hl : Cond.methodLink (fown F) idx ⟨"java/lang/System", "arraycopy", "(Ljava/lang/Object;ILjava/lang/Object;II)V"⟩ ∈ lw_tbl) (hK : K = 13 ∨ K = 14) (hka : Z.1 a = K) (hkd : Z.1 d = K) (ha4 : 4 ≤ a) (hd4 : 4 ≤ d) (hN : N ≤ 1000) {na nd : Int} (hla : Z.2.1 a = na) (hld : Z.2.1 d = nd) (hna : (N : Int) ≤ na) (hnd : (N : Int) ≤ nd) (hd : 1 ≤ (xR X).frames ∧ 40 ≤ (xR X).locals ∧ cells ≤ (xR X).cells ∧ slots ≤ (xR X).slots) (hst : st.length ≤ 4)
    (kk : wp g X F cells slots (pc + 3) ls st (cpM v d a N) ρ Z) : wp g X F cells slots pc ls ((0, (N : Int)) :: (0, 0) :: (2, d) :: (0, 0) :: (2, a) :: st) v ρ Z := by
  intro ad H locs la hR h1 h2 hq hv
  have hs := cat_sum ad st
  subst hla hld
  have hK1 : 13 ≤ K := by omega
  have hK2 : K < 21 := by omega
  obtain ⟨a0, al0, al1, -, ca, ca1, -, ca3⟩ := hR.arr hka hK1 (by omega)
  obtain ⟨d0, dl0, dl1, hrg, cd, cd1, -, cd3⟩ := hR.arr hkd hK1 (by omega)
  have eca := ca3 ha4
  have ecd := cd3 hd4
  have hKK := hX.2.2.2.2.2.2.1
  have eN : (Int32.ofInt (N : Int)).toNatClampNeg = N := by
    have := (oi_idx (i := (N : Int)) (n := 2000) (by omega) (by omega) (by omega)).1
    rw [this]; exact Int.toNat_natCast N
  have e0 : (Int32.ofInt 0).toNatClampNeg = 0 := rfl
  have eNi : (Int32.ofInt (N : Int)).toInt = N := oi ⟨by omega, by omega⟩
  have e0i : (Int32.ofInt 0).toInt = 0 := rfl
  have hp : refKind (aty K) = false := by rcases hK with e | e <;> subst e <;> rfl
  rw [List.map_cons, List.map_cons, List.map_cons, List.map_cons, List.map_cons, tr_r ad a0, tr_r ad d0]
  have hnf : nativeFrameWords "java/lang/System" "arraycopy" 5 + 11 ≤ 32 := by decide
  intro T hT Xs
  obtain ⟨-, k0, hk0, cm0, hkk0⟩ := (hKK.2.2.1 K hK1 hK2).1 (Z.2.1 a).toNat (fun j => tr ad (pv (ety K) (v a j) (ρ a j)))
  obtain ⟨-, k1, hk1, cm1, hkk1⟩ := (hKK.2.2.1 K hK1 hK2).1 (Z.2.1 d).toNat (fun j => tr ad (pv (ety K) (v d j) (ρ d j)))
  rw [eca] at ca1
  rw [ecd] at cd1
  obtain ⟨vm', X', step⟩ := Xs.arraycopy hX.1 hX.2.2.2.2.1 (hX.2.2.2.2.2.1 _ hl rfl) (hX.2.2.2.2.2.1 _ ac_n rfl) (hX.2.2.2.2.2.1 _ ac_s rfl) (hX.2.2.2.2.2.1 _ ac_i rfl) (src := ad a) (dst := ad d) (srcPos := Int32.ofInt 0) (destPos := Int32.ofInt 0) (n := Int32.ofInt (N : Int)) (by rw [hT]; exact ca1) (by rw [hT]; exact cd1)
    (fun _ h => by cases h) (fun _ h => by cases h) (fun h => by cases h) (fun h => by cases h) hk0 hk1 hkk0 hkk1 (by simp [hp]) (by decide) (by decide) (by
      intro q
      have := Int32.lt_iff_toInt_lt.mp q
      rw [eNi] at this
      have z : (0 : Int32).toInt = 0 := rfl
      rw [z] at this
      omega)
    (by rw [e0i, eNi]; show ¬ _ > ((arrV _ _ _).slots.size : Int); rw [arrV_size]; omega)
    (by rw [e0i, eNi]; show ¬ _ > ((arrV _ _ _).slots.size : Int); rw [arrV_size]; omega)
    (fun vm₁ _ j hj => by
      rw [eN] at hj
      have e : (arrV (gA g K) (Z.2.1 a).toNat (fun j => tr ad (pv (ety K) (v a j) (ρ a j)))).slots.getD ((Int32.ofInt 0).toNatClampNeg + j) .null = tr ad (pv (ety K) (v a ((Int32.ofInt 0).toNatClampNeg + j : Nat)) (ρ a ((Int32.ofInt 0).toNatClampNeg + j : Nat))) := by
        rw [Array.getD_eq_getD_getElem?, arrV_read _ _ (by rw [e0]; omega)]
        rfl
      rw [e]
      rcases hK with q | q <;> subst q <;> exact ⟨rfl, trivial⟩)
    (g := F0 (xm X) pc la (.int (Int32.ofInt (N : Int)) :: .int (Int32.ofInt 0) :: .ref (ad d) :: .int (Int32.ofInt 0) :: .ref (ad a) :: st.map (tr ad))) rfl (by rw [hX.2.2.2.1]; exact hv.1) (rest := st.map (tr ad)) rfl (by rw [hX.2.1]; exact hX.dec hf) hd.1 (by show 2 * 0 + _ + _ ≤ _; omega)
  have e1 : copied (arrV (gA g K) (Z.2.1 a).toNat (fun j => tr ad (pv (ety K) (v a j) (ρ a j)))) (arrV (gA g K) (Z.2.1 d).toNat (fun j => tr ad (pv (ety K) (v d j) (ρ d j)))) (Int32.ofInt 0) (Int32.ofInt 0) (Int32.ofInt (N : Int)) = arrV (gA g K) (Z.2.1 d).toNat (fun j => tr ad (pv (ety K) (cpM v d a N d j) (ρ d j))) := by
    have h := va_copied (fun z : Value => z) (gA g K) (gA g K) (n0 := (Z.2.1 a).toNat) (n1 := (Z.2.1 d).toNat) (sp := (Int32.ofInt 0).toNatClampNeg) (dp := (Int32.ofInt 0).toNatClampNeg) (n := (Int32.ofInt (N : Int)).toNatClampNeg) (fun j => tr ad (pv (ety K) (v a j) (ρ a j))) (fun j => tr ad (pv (ety K) (v d j) (ρ d j))) (by rw [eN, e0]; omega)
    refine h.trans ?_
    rw [eN, e0]
    congr 1
    funext j
    by_cases c : j < N
    · rw [pk_cpy_in (Nat.zero_le j) (by omega), cpM_in (by omega) (by omega)]
      rw [show 0 + (j - 0) = j by omega]
      rcases hK with q | q <;> subst q <;> rfl
    · rw [pk_cpy_out (Or.inr (by omega)), cpM_out (by omega)]
  rw [e1] at X' step
  have hlt : ad d < H.size := (Array.getElem?_eq_some_iff.mp cd1).1
  have hheap : ((T.setVm vm').setCell (ad d) (arrV (gA g K) (Z.2.1 d).toNat (fun j => tr ad (pv (ety K) (cpM v d a N d j) (ρ d j))))).heap = H.setIfInBounds (ad d) (arrV (gA g K) (Z.2.1 d).toNat (fun j => tr ad (pv (ety K) (cpM v d a N d j) (ρ d j)))) := by rw [← hT]; rfl
  have h99 : Z.1 d ≠ 99 := by rw [hkd]; omega
  have hR' := hR.upd (v' := cpM v d a N) (ρ' := ρ) (H1 := H.setIfInBounds (ad d) (arrV (gA g K) (Z.2.1 d).toNat (fun j => tr ad (pv (ety K) (cpM v d a N d j) (ρ d j))))) h99 hd4 (fun q hq => cpM_ne hq) (fun _ _ => rfl) (hR.scp h99) (by simp) (fun q hq => by simp [Array.getElem?_setIfInBounds, Ne.symm hq]) (by
    rw [hkd]
    unfold cellAt
    rw [if_neg (by omega)]
    refine ⟨dl0, dl1, fun j hj0 hj1 => ?_, _, (show (H.setIfInBounds (ad d) _)[ad d]? = some _ by simp [Array.getElem?_setIfInBounds, hlt]), ⟨(hKK.2.2.1 K hK1 hK2).1 _ _, (fun h => by cases h), arrV_size _ _ _, fun j hj => arrV_read _ _ hj⟩, fun _ => rfl⟩
    rcases hK with q | q <;> subst q <;> exact ⟨(fun q => by cases q), (fun q => by cases q)⟩)
  obtain ⟨t, a1, b1⟩ := kk ad _ _ la hR' (scop_c (scop_c (scop_c (scop_c (scop_c h1))))) h2 ⟨fun q hq9 => (List.mem_append.mp hq9).elim (fun h => hq.1 q h) (fun h => by
      obtain ⟨z, -, hz⟩ := List.mem_map.mp h
      rw [← hz]
      exact hR.base h99 hd4), hq.2⟩ hv _ hheap X'
  exact ⟨t, step t a1, b1⟩
theorem HT.cp {ω : Rw} {a d n lo hi : Int} {c : Nat} (h : HT ω v ρ Z) (hw : ω d = c) (hc : c ≠ 0) (hk : ∀ k, rgO c k = some (lo, hi) ∨ rgO c k = none) (hb : ∀ k, 0 ≤ k → k < n → lo ≤ v a k ∧ v a k ≤ hi) : HT ω (cpM v d a n) ρ Z := ⟨fun q e he hn => by
  obtain ⟨a1, a2, a4, a5, a6, a7⟩ := h.1 q e he hn
  refine ⟨a1, a2, a4, a5, fun j y z hj => ?_, a7⟩
  by_cases hq : q = d ∧ 0 ≤ j ∧ j < n
  · obtain ⟨rfl, b1, b2⟩ := hq
    rw [cpM_in b1 b2]
    rw [← he, hw] at hj
    rcases hk j with e2 | e2
    · rw [e2] at hj; cases hj; exact hb j b1 b2
    · rw [e2] at hj; cases hj
  · rw [show cpM v d a n q j = v q j from if_neg hq]; exact a6 j y z hj, by
  have h4 := h.g4 hw hc
  obtain ⟨b1, b2, b3, b4, b5, b6, b7, b8⟩ := h.2
  exact ⟨b1, b2, by rw [cpM_ne (by omega)]; exact b3, by rw [cpM_ne (by omega)]; exact b4, by rw [cpM_ne (by omega)]; exact b5, b6, b7, fun k h0 h1 => by rw [cpM_ne (by omega)]; exact b8 k h0 h1⟩⟩
theorem FrW.cp {ω : Rw} {S : List Nat} {v' : Mv} {a d n : Int} {c : Nat} (h : FrW ω S v v') (hw : ω d = c) (hc : c ∈ S) : FrW ω S v (cpM v' d a n) := fun q hq => by
  rw [cpM_ne (fun e => hq (by rw [e, hw]; exact hc))]; exact h q hq
end RowsN
