section RowsG
variable {g : Gp} {X : Cx} {F : Fm} {cells slots pc : Nat} {ls st : List V2} {v ρ : Mv} {Z : Mz}
theorem tr_pv {ad ad' : Int → Nat} {n : Int} (h : ∀ r : Int, r < n → ad' r = ad r) {ty : FieldType} {x y : Int} (hy : y < n) : tr ad' (pv (sortT ty) x y) = tr ad (pv (sortT ty) x y) := by
  cases ty <;> first | rfl | (show (if y < 0 then Value.null else .ref (ad' y)) = if y < 0 then Value.null else .ref (ad y); rw [h y hy])
theorem cellAt.ext {s : State} {ad ad' : Int → Nat} {n : Int} {H : Heap} {r : Int} {K : Nat} {m : Int} {f q : Int → Int} (h : ∀ r : Int, r < n → ad' r = ad r) (hr : r < n) (hq : ∀ k, q k < n) (hc : cellAt g s ad H r K m f q) : cellAt g s ad' H r K m f q := by
  have e1 : (fun k : Nat => tr ad' (pv (fty K k) (f k) (q k))) = fun k : Nat => tr ad (pv (fty K k) (f k) (q k)) := funext fun k => tr_pv h (hq k)
  have e2 : (fun j : Nat => tr ad' (pv (ety K) (f j) (q j))) = fun j : Nat => tr ad (pv (ety K) (f j) (q j)) := funext fun k => tr_pv h (hq k)
  unfold cellAt at hc ⊢
  rw [e1, e2, h r hr]
  exact hc
theorem Rel.ext {s : State} {ad ad' : Int → Nat} {v' ρ' : Mv} {Z' : Mz} {H H1 : Heap} (hR : Rel g s ad v ρ Z H) (h4 : 4 ≤ Z.2.2) (ha : ∀ r : Int, r < Z.2.2 → ad' r = ad r) (hv : ∀ r : Int, r < Z.2.2 → v' r = v r ∧ ρ' r = ρ r ∧ Z'.1 r = Z.1 r ∧ Z'.2.1 r = Z.2.1 r) (hz : Z.2.2 ≤ Z'.2.2) (hsz : H.size ≤ H1.size) (ho : ∀ a : Nat, a < H.size → H1[a]? = H[a]?)
    (hn : ∀ r : Int, Z.2.2 ≤ r → Z'.1 r ≠ 99 → r < Z'.2.2 ∧ Z'.1 r < 21 ∧ cellAt g s ad' H1 r (Z'.1 r) (Z'.2.1 r) (v' r) (ρ' r) ∧ (∀ k, ρ' r k < Z'.2.2) ∧ H.size ≤ ad' r) (hi : ∀ r q : Int, Z.2.2 ≤ r → Z.2.2 ≤ q → Z'.1 r ≠ 99 → Z'.1 q ≠ 99 → ad' r = ad' q → r = q) : Rel g s ad' v' ρ' Z' H1 := by
  obtain ⟨a1, a2, a3, a4⟩ := hR
  have old : ∀ r : Int, r < Z.2.2 → Z'.1 r ≠ 99 → Z.1 r ≠ 99 := fun r hr h => by rw [(hv r hr).2.2.1] at h; exact h
  refine ⟨fun r hr => ?_, fun r q hr hq h4r e => ?_, Nat.le_trans a3 hsz, ?_⟩
  · by_cases c : r < Z.2.2
    · obtain ⟨e1, e2, e3, e4⟩ := hv r c
      obtain ⟨b1, b2, b3, b4, b5, b6⟩ := a1 r (old r c hr)
      refine ⟨b1, by omega, by rw [e3]; exact b3, ?_, fun k => by rw [e2]; have := b5 k; omega, fun h => by rw [ha r c]; exact b6 h⟩
      rw [e1, e2, e3, e4]
      refine cellAt.ext ha c b5 (b4.kept ?_)
      exact ho _ b4.lt
    · obtain ⟨b2, b3, b4, b5, b6⟩ := hn r (by omega) hr
      exact ⟨by omega, b2, b3, b4, b5, fun _ => Nat.le_trans a3 b6⟩
  · by_cases c : r < Z.2.2 <;> by_cases d : q < Z.2.2
    · rw [ha r c, ha q d] at e
      exact a2 r q (old r c hr) (old q d hq) h4r e
    · exfalso
      have h1 := (a1 r (old r c hr)).2.2.2.1.lt
      have h2 := (hn q (by omega) hq).2.2.2.2
      rw [ha r c] at e
      omega
    · exfalso
      have h1 := (a1 q (old q d hq)).2.2.2.1.lt
      have h2 := (hn r (by omega) hr).2.2.2.2
      rw [ha q d] at e
      omega
    · exact hi r q (by omega) (by omega) hr hq e
  · obtain ⟨s1, s2, s3, s4⟩ := a4.kept (H1 := H1) (fun a h _ => ho a h)
    refine ⟨?_, ?_, s3, s4⟩
    · rw [ha 0 (by omega)]; exact s1
    · rw [ha 1 (by omega)]; exact s2
theorem map_ext {ad ad' : Int → Nat} (h : ∀ r : Int, r < Z.2.2 → ad' r = ad r) (hs : scop Z st) : st.map (tr ad') = st.map (tr ad) := by
  apply List.map_congr_left
  intro x hx
  obtain ⟨t, y⟩ := x
  match t with
  | 0 => rfl
  | 1 => rfl
  | 2 =>
    show (if y < 0 then Value.null else .ref (ad' y)) = if y < 0 then Value.null else .ref (ad y)
    rw [h y (hs _ hx rfl)]
  | 3 => rfl
  | 4 => rfl
  | n + 5 => rfl
theorem lpr_ext {ad ad' : Int → Nat} (h : ∀ r : Int, r < Z.2.2 → ad' r = ad r) (hs : scop Z ls) : lpr ad' ls = lpr ad ls := by
  unfold lpr
  apply List.map_congr_left
  intro x hx
  have hm : x.1 ∈ ls := List.mem_of_getElem? (List.mem_zipIdx_iff_getElem?.mp (List.mem_filter.mp hx).1)
  have := map_ext (st := [x.1]) h (fun y hy => by rw [List.mem_singleton.mp hy]; exact hs _ hm)
  simp only [List.map_cons, List.map_nil, List.cons.injEq, and_true] at this
  rw [this]
theorem scop_mono {Z' : Mz} {l : List V2} (hz : Z.2.2 ≤ Z'.2.2) (h : scop Z l) : scop Z' l := fun x hx e => by have := h x hx e; omega
/-- going on in a larger picture -/
theorem wp.grow {v' ρ' : Mv} {Z' : Mz} {c' s' pc' : Nat} {x : V2} {ad ad' : Int → Nat} {H1 : Heap} {locs : List Loc} {la : Array Slot} (k : wp g X F c' s' pc' ls (x :: st) v' ρ' Z') (hR : Rel g (xs X) ad' v' ρ' Z' H1) (ha : ∀ r : Int, r < Z.2.2 → ad' r = ad r) (hz : Z.2.2 ≤ Z'.2.2) (h1 : scop Z st) (h2 : scop Z ls) (hx : x.1 = 2 → x.2 < Z'.2.2) (hq : LQ g X ad Z locs) (hv : lvr ad la (fnl F) ls) :
    W (xp X) (gL g) (xe X) (xR X) (xs X) (xm X) (xa X) (xb X) (xt X) (xc X) H1 locs c' s' (xq X) (F0 (xm X) pc' la (tr ad' x :: st.map (tr ad))) := by
  have h := k ad' H1 locs la hR (scop_v (scop_mono hz h1) hx) (scop_mono hz h2) ⟨hq.1, fun r hr => by rw [ha r (by have := hq.2.2; omega)]; exact hq.2.1 r hr, by have := hq.2.2; omega⟩ (by unfold lvr; rw [lpr_ext ha h2]; exact hv)
  rw [List.map_cons, map_ext ha h1] at h
  exact h
/-- one region more, of kind K and length n, all 0 and null -/
def zN (Z : Mz) (K : Nat) (n : Int) : Mz := (fun r => if r = Z.2.2 then K else Z.1 r, fun r => if r = Z.2.2 then n else Z.2.1 r, Z.2.2 + 1)
def clr (f : Mv) (r x : Int) : Mv := fun a b => if a = r then x else f a b
theorem clr_ne {f : Mv} {r x a : Int} (h : a ≠ r) : clr f r x a = f a := funext fun _ => if_neg h
theorem clr_eq {f : Mv} {r x : Int} : clr f r x r = fun _ => x := funext fun _ => if_pos rfl
theorem Rel.new1 {s : State} {ad : Int → Nat} {H H1 : Heap} {K : Nat} {n : Int} (hR : Rel g s ad v ρ Z H) (h4 : 4 ≤ Z.2.2) (hK : K < 21) (hsz : H1.size = H.size + 1) (ho : ∀ a : Nat, a < H.size → H1[a]? = H[a]?) (hc : cellAt g s (fun r => if r = Z.2.2 then H.size else ad r) H1 Z.2.2 K n (fun _ => 0) (fun _ => -1)) : Rel g s (fun r => if r = Z.2.2 then H.size else ad r) (clr v Z.2.2 0) (clr ρ Z.2.2 (-1)) (zN Z K n) H1 := by
  have h99 : ∀ r : Int, Z.2.2 ≤ r → Z.1 r = 99 := fun r hr => Classical.byContradiction fun q => by have := (hR.1 r q).2.1; omega
  have key : ∀ r : Int, Z.2.2 ≤ r → (zN Z K n).1 r ≠ 99 → r = Z.2.2 := fun r hr h => Classical.byContradiction fun q => h (by show (if r = Z.2.2 then K else Z.1 r) = 99; rw [if_neg q]; exact h99 r hr)
  refine hR.ext h4 (fun r hr => if_neg (by omega)) (fun r hr => ⟨clr_ne (by omega), clr_ne (by omega), if_neg (by omega), if_neg (by omega)⟩) (by show Z.2.2 ≤ Z.2.2 + 1; omega) (by omega) ho (fun r hr h => ?_) (fun r q hr hq h1 h2 _ => by rw [key r hr h1, key q hq h2])
  have e := key r hr h
  subst e
  have e1 : (zN Z K n).1 Z.2.2 = K := if_pos rfl
  have e2 : (zN Z K n).2.1 Z.2.2 = n := if_pos rfl
  rw [e1, e2, clr_eq, clr_eq]
  refine ⟨by show Z.2.2 < Z.2.2 + 1; omega, hK, hc, fun k => by show (-1 : Int) < Z.2.2 + 1; omega, ?_⟩
  show H.size ≤ if Z.2.2 = Z.2.2 then H.size else ad Z.2.2
  rw [if_pos rfl]
  exact Nat.le_refl _
def noFl : FieldType → Bool
  | .float => false
  | .double => false
  | _ => true
theorem dflt_tr {ad : Int → Nat} {ty : FieldType} (h : noFl ty = true) : defaultValue ty = tr ad (pv (sortT ty) 0 (-1)) := by
  cases ty <;> first | rfl | (exact absurd h (by decide))
theorem cls_nf : ∀ (K : Nat) (q : vw_C), cls[K]? = some q → ∀ k, k < q.2.2 → noFl (tyC K k) = true
  | 0, q, h => by cases h; decide +kernel
  | 1, q, h => by cases h; decide +kernel
  | 2, q, h => by cases h; decide +kernel
  | 3, q, h => by cases h; decide +kernel
  | 4, q, h => by cases h; decide +kernel
  | 5, q, h => by cases h; decide +kernel
  | 6, q, h => by cases h; decide +kernel
  | 7, q, h => by cases h; decide +kernel
  | 8, q, h => by cases h; decide +kernel
  | 9, q, h => by cases h; decide +kernel
  | 10, q, h => by cases h; decide +kernel
  | 11, q, h => by cases h; decide +kernel
  | 12, q, h => by cases h; decide +kernel
  | n + 13, q, h => by simp [cls] at h
theorem r_new (hX : okX g X F) (i : Nat) {idx K : Nat} {q : vw_C} (hf : (fprg F)[i]? = some (pc, .new idx, 3)) (hc : cls[K]? = some q) (hl : Cond.classLink (fown F) idx q.1 ∈ lw_tbl) (hin : Cond.instantiable q.1 q.2.2 ∈ lw_tbl) (hini : Cond.initialized q.1 ∈ lw_tbl) (h4 : 4 ≤ Z.2.2) (hcl : cells + 1 ≤ (xR X).cells) (hsl : slots + q.2.2 ≤ (xR X).slots)
    (kk : wp g X F (cells + 1) (slots + q.2.2) (pc + 3) ls ((2, Z.2.2) :: st) (clr v Z.2.2 0) (clr ρ Z.2.2 (-1)) (zN Z K 0)) : wp g X F cells slots pc ls st v ρ Z := by
  intro ad H locs la hR h1 h2 hq hv
  have hK13 : K < 13 := by
    have := (List.getElem?_eq_some_iff.mp hc).1
    simpa [cls] using this
  obtain ⟨c1, c2, -, -⟩ := cls_ok K q hc
  have hKn := hX.2.2.2.2.2.2.1.1.1 K q hc
  refine W.newcK hX.1 hX.2.1 hX.2.2.2.2.1 (hX.2.2.2.2.2.1 _ hl rfl) (hX.2.2.2.2.2.1 _ hin rfl) (hX.2.2.2.2.2.1 _ hini rfl) rfl (hX.dec hf) hcl hsl hKn.2.1 rfl fun H1 kC hkC e1 z1 o1 => ?_
  have hob := u_born (tyC K) hX.ts c1 hKn hkC e1 c2
  have hR1 := hR.new1 (K := K) (n := 0) h4 (by omega) z1 (fun a ha => o1 a ha) (by
    unfold cellAt
    rw [if_pos hK13]
    refine ⟨q, hc, ?_⟩
    show t_OB (if Z.2.2 = Z.2.2 then H.size else ad Z.2.2) _ _ _ _ _
    rw [if_pos rfl]
    exact hob.to (fun j hj => dflt_tr (cls_nf K q hc j hj)))
  have h := wp.grow (Z := Z) (ad := ad) kk hR1 (fun r hr => if_neg (by omega)) (by show Z.2.2 ≤ Z.2.2 + 1; omega) h1 h2 (fun _ => by show Z.2.2 < Z.2.2 + 1; omega) hq hv
  rw [tr_r _ (by omega), if_pos rfl] at h
  exact h
theorem cell_arr {s : State} {ad : Int → Nat} {H1 : Heap} {r : Int} {K N : Nat} (hKK : KK g s) (hK : 13 ≤ K) (hK2 : K < 21) (hN : N < 2147483648) (hf : noFl (aty K) = true) (e : H1[ad r]? = some (arrV (gA g K) N (fun _ => defaultValue (aty K)))) : cellAt g s ad H1 r K (N : Int) (fun _ => 0) (fun _ => -1) := by
  unfold cellAt
  rw [if_neg (by omega)]
  have e2 : (fun _ : Nat => defaultValue (aty K)) = fun j : Nat => tr ad (pv (ety K) 0 (-1)) := funext fun _ => dflt_tr hf
  rw [e2] at e
  refine ⟨by omega, by omega, fun j _ _ => (⟨fun _ => ⟨by decide, by decide⟩, fun _ => ⟨by decide, by decide⟩⟩ : rngK K 0), _, e, ⟨(hKK.2.2.1 K hK hK2).1 _ _, (fun h => by cases h), ?_, fun j hj => ?_⟩, fun _ => by rw [Int.toNat_natCast]⟩
  · rw [arrV_size, Int.toNat_natCast]
  · rw [Int.toNat_natCast] at hj
    exact arrV_read _ _ hj
theorem r_newa (hX : okX g X F) (i : Nat) {at' : ArrayType} (K N : Nat) (hf : (fprg F)[i]? = some (pc, .newarray at', 2)) (hty : newarray.typeOf at' = aty K) (hK : 13 ≤ K) (hK2 : K < 17) (hl : Cond.arrayClass (aty K) ∈ lw_tbl) (hN : N ≤ 100000) (h4 : 4 ≤ Z.2.2) (hcl : cells + 1 ≤ (xR X).cells) (hsl : slots + N ≤ (xR X).slots)
    (kk : wp g X F (cells + 1) (slots + N) (pc + 2) ls ((2, Z.2.2) :: st) (clr v Z.2.2 0) (clr ρ Z.2.2 (-1)) (zN Z K N)) : wp g X F cells slots pc ls ((0, (N : Int)) :: st) v ρ Z := by
  intro ad H locs la hR h1 h2 hq hv
  have hKs := hX.2.2.2.2.2.2.1
  have hcb : componentBytes (aty K) ≤ 8 := by
    have : K = 13 ∨ K = 14 ∨ K = 15 ∨ K = 16 := by omega
    rcases this with rfl | rfl | rfl | rfl <;> decide
  have hfl : noFl (aty K) = true := by
    have : K = 13 ∨ K = 14 ∨ K = 15 ∨ K = 16 := by omega
    rcases this with rfl | rfl | rfl | rfl <;> rfl
  have hcl0 : Int32.ofInt (N : Int) = nI N := (nI_oi N).symm
  refine va_newaK (N := N) hX.1 hX.2.1 (by rw [hty]; exact hX.2.2.2.2.2.1 _ hl rfl) rfl (hX.dec hf) (by rw [List.map_cons]; rfl) (by rw [hcl0]; exact nI_pos (by omega)) (by rw [hcl0]; exact nI_clamp (by omega)) ?_ hcl hsl rfl fun H1 cA e1 z1 o1 hAr hNm => ?_
  · rw [hty]
    calc N * componentBytes (aty K) ≤ 100000 * 8 := Nat.mul_le_mul hN hcb
      _ ≤ 536870912 := by decide
  · rw [hty] at e1 hNm
    have hRA := (hKs.2.2.1 K hK (by omega)).2
    have hcA : cA = gA g K := by
      have h9 : (xs X).vm.findClass ("[" ++ (aty K).toString) = some (gA g K) := by
        have : K = 13 ∨ K = 14 ∨ K = 15 ∨ K = 16 := by omega
        rcases this with rfl | rfl | rfl | rfl <;> exact hRA
      exact Option.some.inj (hNm.symm.trans h9)
    subst hcA
    have hR1 := hR.new1 (K := K) (n := N) h4 (by omega) z1 (fun a ha => o1 a ha) (cell_arr hKs hK (by omega) (by omega) hfl (by rw [if_pos rfl]; exact e1))
    have h := wp.grow (Z := Z) (ad := ad) kk hR1 (fun r hr => if_neg (by omega)) (by show Z.2.2 ≤ Z.2.2 + 1; omega) (scop_c h1) h2 (fun _ => by show Z.2.2 < Z.2.2 + 1; omega) hq hv
    rw [tr_r _ (by omega), if_pos rfl] at h
    exact h
theorem r_anewa (hX : okX g X F) (i : Nat) {idx : Nat} (K N : Nat) {C : String} (hf : (fprg F)[i]? = some (pc, .anewarray idx, 3)) (hty : aty K = .object C) (hK : 13 ≤ K) (hK2 : K < 21) (hl : Cond.classLink (fown F) idx C ∈ lw_tbl) (hao : va_AO C (xs X)) (hN : N ≤ 100000) (h4 : 4 ≤ Z.2.2) (hcl : cells + 1 ≤ (xR X).cells) (hsl : slots + N ≤ (xR X).slots)
    (kk : wp g X F (cells + 1) (slots + N) (pc + 3) ls ((2, Z.2.2) :: st) (clr v Z.2.2 0) (clr ρ Z.2.2 (-1)) (zN Z K N)) : wp g X F cells slots pc ls ((0, (N : Int)) :: st) v ρ Z := by
  intro ad H locs la hR h1 h2 hq hv
  have hKs := hX.2.2.2.2.2.2.1
  have hcl0 : Int32.ofInt (N : Int) = nI N := (nI_oi N).symm
  have hcl1 : (Int32.ofInt (N : Int)).toNatClampNeg = N := by rw [hcl0]; exact nI_clamp (by omega)
  refine W.anew hX.1 hX.2.1 hX.2.2.2.2.1 (hX.2.2.2.2.2.1 _ hl rfl) (va_AO.use hao) rfl (hX.dec hf) (by rw [List.map_cons]; rfl) (by rw [hcl0]; exact nI_pos (by omega)) (by rw [hcl1]; omega) hcl (by rw [hcl1]; exact hsl) fun cA kA comp f1 f2 f3 f4 => ?_
  rw [hcl1]
  generalize hH1 : H.push ({ cls := cA, slots := Array.replicate N .null, vm := .none } : Cell) = H1
  have z1 : H1.size = H.size + 1 := by rw [← hH1, Array.size_push]
  have e1 : H1[H.size]? = some (arrV cA N (fun _ => .null)) := by rw [← hH1, Array.getElem?_push_size, ← arrV_new]
  have o1 : ∀ a : Nat, a < H.size → H1[a]? = H[a]? := fun a ha => by rw [← hH1, Array.getElem?_push, if_neg (by omega)]
  have hRA := (hKs.2.2.1 K hK hK2).2
  rw [hty] at hRA
  obtain ⟨-, -, -, -, -, hfa⟩ := hRA
  have hcA : cA = gA g K := Option.some.inj (f1.symm.trans hfa)
  subst hcA
  have hR1 := hR.new1 (K := K) (n := N) h4 (by omega) z1 o1 (cell_arr hKs hK hK2 (by omega) (by rw [hty]; rfl) (by rw [if_pos rfl, hty]; exact e1))
  have h := wp.grow (Z := Z) (ad := ad) kk hR1 (fun r hr => if_neg (by omega)) (by show Z.2.2 ≤ Z.2.2 + 1; omega) (scop_c h1) h2 (fun _ => by show Z.2.2 < Z.2.2 + 1; omega) hq hv
  rw [tr_r _ (by omega), if_pos rfl] at h
  exact h
theorem r_objInit (hX : okX g X F) (i : Nat) {idx : Nat} {r : Int} (hf : (fprg F)[i]? = some (pc, .invokespecial idx, 3)) (hr : 0 ≤ r) (hl : Cond.methodLink (fown F) idx objectInit ∈ lw_tbl) (hin : Cond.instanceMethod objectInit ∈ lw_tbl) (hcd : Cond.code objectInit ⟨#[0xb1]⟩ 1 none ∈ lw_tbl) (hR1 : 1 ≤ (xR X).frames) (hR2 : 40 ≤ (xR X).locals) (hst : st = []) (kk : wp g X F cells slots (pc + 3) ls st v ρ Z) : wp g X F cells slots pc ls ((2, r) :: st) v ρ Z := by
  intro ad H locs la hR h1 h2 hq hv
  subst hst
  rw [List.map_cons, tr_r ad hr]
  exact W.objInit hX.1 hX.2.1 hX.2.2.2.2.1 (hX.2.2.2.2.2.1 _ hl rfl) (hX.2.2.2.2.2.1 _ hin rfl) (hX.2.2.2.2.2.1 _ hcd rfl) rfl (hv.1.trans hX.2.2.2.1.symm) rfl (hX.dec hf) hR1 (by show 2 * 0 + _ + 12 ≤ _; simp; omega) (kk ad H locs la hR (scop_c h1) h2 hq hv)
end RowsG
