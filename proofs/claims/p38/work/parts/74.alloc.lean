/-! MAKING: new regions, and their roles once they are made -/
def setR (ω : Rw) (r : Int) (c : Nat) : Rw := fun q => if q = r then c else ω q
theorem setR_s {ω : Rw} {r : Int} {c : Nat} : setR ω r c r = c := if_pos rfl
theorem setR_ne {ω : Rw} {r q : Int} {c : Nat} (h : q ≠ r) : setR ω r c q = ω q := if_neg h
def Al1 (n : Int) (v ρ : Mv) (Z : Mz) (v' ρ' : Mv) (Z' : Mz) (K : Nat) (N : Int) : Prop := Z'.2.2 = n + 1 ∧ Z'.1 n = K ∧ Z'.2.1 n = N ∧ (∀ k, v' n k = 0) ∧ (∀ k, ρ' n k = -1) ∧ ∀ r, r ≠ n → v' r = v r ∧ ρ' r = ρ r ∧ Z'.1 r = Z.1 r ∧ Z'.2.1 r = Z.2.1 r
theorem al1_N {n : Int} {v ρ : Mv} {Z : Mz} {K : Nat} {N : Int} (hn : Z.2.2 = n) : Al1 n v ρ Z (clr v n 0) (clr ρ n (-1)) (zN Z K N) K N := by
  subst hn
  exact ⟨rfl, if_pos rfl, if_pos rfl, fun k => congrFun clr_eq k, fun k => congrFun clr_eq k, fun r hr => ⟨clr_ne hr, clr_ne hr, if_neg hr, if_neg hr⟩⟩
theorem arrV_congr {c : ClassId} {N : Nat} {f g : Nat → Value} (h : ∀ j, j < N → f j = g j) : arrV c N f = arrV c N g := by
  unfold arrV
  have e : (fun j : Fin N => f j.val) = fun j : Fin N => g j.val := funext fun j => h j.val j.isLt
  rw [e]
section RowsM
variable {g : Gp} {X : Cx} {F : Fm} {cells slots pc : Nat} {ls st : List V2} {v ρ : Mv} {Z : Mz}
theorem r_newX (hX : okX g X F) (i : Nat) {idx K : Nat} {q : vw_C} {n : Int} (hn : Z.2.2 = n) (hf : (fprg F)[i]? = some (pc, .new idx, 3)) (hc : cls[K]? = some q) (hl : Cond.classLink (fown F) idx q.1 ∈ lw_tbl) (hin : Cond.instantiable q.1 q.2.2 ∈ lw_tbl) (hini : Cond.initialized q.1 ∈ lw_tbl) (h4 : 4 ≤ n) (hcl : cells + 1 ≤ (xR X).cells) (hsl : slots + q.2.2 ≤ (xR X).slots)
    (kk : ∀ (v' ρ' : Mv) (Z' : Mz), Al1 n v ρ Z v' ρ' Z' K 0 → wp g X F (cells + 1) (slots + q.2.2) (pc + 3) ls ((2, n) :: st) v' ρ' Z') : wp g X F cells slots pc ls st v ρ Z := by
  subst hn
  exact r_new hX i hf hc hl hin hini h4 hcl hsl (kk _ _ _ (al1_N rfl))
theorem r_newaX (hX : okX g X F) (i : Nat) {at' : ArrayType} (K N : Nat) {n : Int} (hn : Z.2.2 = n) (hf : (fprg F)[i]? = some (pc, .newarray at', 2)) (hty : newarray.typeOf at' = aty K) (hK : 13 ≤ K) (hK2 : K < 17) (hl : Cond.arrayClass (aty K) ∈ lw_tbl) (hN : N ≤ 100000) (h4 : 4 ≤ n) (hcl : cells + 1 ≤ (xR X).cells) (hsl : slots + N ≤ (xR X).slots)
    (kk : ∀ (v' ρ' : Mv) (Z' : Mz), Al1 n v ρ Z v' ρ' Z' K N → wp g X F (cells + 1) (slots + N) (pc + 2) ls ((2, n) :: st) v' ρ' Z') : wp g X F cells slots pc ls ((0, (N : Int)) :: st) v ρ Z := by
  subst hn
  exact r_newa hX i K N hf hty hK hK2 hl hN h4 hcl hsl (kk _ _ _ (al1_N rfl))
theorem r_anewaX (hX : okX g X F) (i : Nat) {idx : Nat} (K N : Nat) {C : String} {n : Int} (hn : Z.2.2 = n) (hf : (fprg F)[i]? = some (pc, .anewarray idx, 3)) (hty : aty K = .object C) (hK : 13 ≤ K) (hK2 : K < 21) (hl : Cond.classLink (fown F) idx C ∈ lw_tbl) (hao : va_AO C (xs X)) (hN : N ≤ 100000) (h4 : 4 ≤ n) (hcl : cells + 1 ≤ (xR X).cells) (hsl : slots + N ≤ (xR X).slots)
    (kk : ∀ (v' ρ' : Mv) (Z' : Mz), Al1 n v ρ Z v' ρ' Z' K N → wp g X F (cells + 1) (slots + N) (pc + 3) ls ((2, n) :: st) v' ρ' Z') : wp g X F cells slots pc ls ((0, (N : Int)) :: st) v ρ Z := by
  subst hn
  exact r_anewa hX i K N hf hty hK hK2 hl hao hN h4 hcl hsl (kk _ _ _ (al1_N rfl))
def Al2 (n : Int) (v ρ : Mv) (Z : Mz) (v' ρ' : Mv) (Z' : Mz) (Ko Ki : Nat) (N M : Int) : Prop := Z'.2.2 = n + 1 + N ∧ Z'.1 n = Ko ∧ Z'.2.1 n = N ∧ (∀ j, 0 ≤ j → j < N → ρ' n j = n + 1 + j ∧ Z'.1 (n + 1 + j) = Ki ∧ Z'.2.1 (n + 1 + j) = M ∧ ∀ k, v' (n + 1 + j) k = 0) ∧ (∀ k, v' n k = 0) ∧ ∀ r, r < n → v' r = v r ∧ ρ' r = ρ r ∧ Z'.1 r = Z.1 r ∧ Z'.2.1 r = Z.2.1 r
theorem r_mna (hX : okX g X F) (i : Nat) {idx : Nat} (Ko Ki N M : Nat) {n : Int} (hn : Z.2.2 = n) (hf : (fprg F)[i]? = some (pc, .multianewarray idx 2, 4)) (hKi : Ki = 13 ∧ Ko = 19 ∨ Ki = 14 ∧ Ko = 20) (hl : Cond.classLink (fown F) idx ("[" ++ (FieldType.array (aty Ki)).toString) ∈ lw_tbl) (hla : Cond.arrayClass (aty Ki) ∈ lw_tbl) (hN : N ≤ 1000) (hM : M ≤ 100000) (h4 : 4 ≤ n) (hcl : cells + (1 + N) ≤ (xR X).cells) (hsl : slots + (N + N * M) ≤ (xR X).slots)
    (kk : ∀ (v' ρ' : Mv) (Z' : Mz), Al2 n v ρ Z v' ρ' Z' Ko Ki N M → wp g X F (cells + 1 + N) (slots + N + N * M) (pc + 4) ls ((2, n) :: st) v' ρ' Z') : wp g X F cells slots pc ls ((0, (M : Int)) :: (0, (N : Int)) :: st) v ρ Z := by
  intro ad H locs la hR h1 h2 hq hv
  subst hn
  have hKs := hX.2.2.2.2.2.2.1
  have eo : aty Ko = .array (aty Ki) := by rcases hKi with ⟨a, b⟩ | ⟨a, b⟩ <;> subst a b <;> rfl
  have hov : va_AOA (aty Ki) (xs X) := by rcases hKi with ⟨a, b⟩ | ⟨a, b⟩ <;> subst a b; exact hKs.2.2.2.2.2.1; exact hKs.2.2.2.2.2.2.1
  have hcN : (Int32.ofInt (N : Int)).toNatClampNeg = N := by
    have := (oi_idx (i := (N : Int)) (n := 2000) (by omega) (by omega) (by omega)).1
    rw [this]; exact Int.toNat_natCast N
  have hcM : (Int32.ofInt (M : Int)).toNatClampNeg = M := by
    have := (oi_idx (i := (M : Int)) (n := 200000) (by omega) (by omega) (by omega)).1
    rw [this]; exact Int.toNat_natCast M
  have hp : ∀ x : Nat, x ≤ 100000 → ¬ Int32.ofInt (x : Int) < 0 := fun x hx q => by
    have := Int32.lt_iff_toInt_lt.mp q
    rw [oi ⟨by omega, by omega⟩] at this
    have z : (0 : Int32).toInt = 0 := rfl
    rw [z] at this
    omega
  intro T hT Xs
  obtain ⟨vm₁, cA, comp, -, fA, fC, -, -, X', step⟩ := Xs.multianewarray2F hX.1 hX.2.2.2.2.1 (hX.2.2.2.2.2.1 _ hl rfl) (va_AOA.use hov) (hX.2.2.2.2.2.1 _ hla rfl) (g := F0 (xm X) pc la (.int (Int32.ofInt (M : Int)) :: .int (Int32.ofInt (N : Int)) :: st.map (tr ad))) rfl (by rw [hX.2.1]; exact hX.dec hf) rfl (hp N (by omega)) (hp M hM) (by rw [hcN]; omega) (by rw [hcM]; rcases hKi with ⟨a, b⟩ | ⟨a, b⟩ <;> subst a b; show M * 4 ≤ _; omega; show M * 8 ≤ _; omega) (by rw [hcM]; omega) (by rcases hKi with ⟨a, b⟩ | ⟨a, b⟩ <;> subst a b <;> rfl) (by rcases hKi with ⟨a, b⟩ | ⟨a, b⟩ <;> subst a b <;> rfl) (by rw [hcN]; exact hcl) (by rw [hcN, hcM]; exact hsl)
  rw [hcN, hcM] at X' step
  generalize hF : Jvm.Free.Multi.fill (T.setVm vm₁) cA comp N M (defaultValue (aty Ki)) N = U at X' step
  have hTh : (T.setVm vm₁).heap = H := hT
  obtain ⟨f1, f2, -, -⟩ := Jvm.Free.Multi.fill_facts (T.setVm vm₁) cA comp N M (defaultValue (aty Ki)) N
  rw [hF, hTh] at f1 f2
  have hold : ∀ x : Nat, x < H.size → U.heap[x]? = H[x]? := fun x hx => by
    have := Jvm.Free.Multi.fill_old (T.setVm vm₁) cA comp N M (defaultValue (aty Ki)) (a := x) (by rw [hTh]; exact hx) N
    rw [hF, hTh] at this
    exact this
  have hrow : ∀ j : Nat, j < N → U.heap[H.size + 1 + j]? = some (arrV comp M (fun _ => defaultValue (aty Ki))) := fun j hj => by
    have := Jvm.Free.Multi.fill_inner (T.setVm vm₁) cA comp N M (defaultValue (aty Ki)) N j hj
    rw [hF, hTh] at this
    rw [this]
    show some ({ cls := comp, slots := Array.replicate M (defaultValue (aty Ki)), vm := .none } : Cell) = _
    rw [arrV_new]
  rw [vr_outer] at f2
  have hcA : cA = gA g Ko := by
    have hRA := (hKs.2.2.1 Ko (by omega) (by omega)).2
    rw [eo] at hRA
    exact Option.some.inj (fA.symm.trans hRA)
  have hcC : comp = gA g Ki := by
    have hRA := (hKs.2.2.1 Ki (by omega) (by omega)).2
    rcases hKi with ⟨a, b⟩ | ⟨a, b⟩ <;> subst a b <;> exact Option.some.inj (fC.symm.trans hRA)
  subst hcA hcC
  have hfl : noFl (aty Ki) = true := by rcases hKi with ⟨a, b⟩ | ⟨a, b⟩ <;> subst a b <;> rfl
  have h99 : ∀ r : Int, Z.2.2 ≤ r → Z.1 r = 99 := fun r hr => Classical.byContradiction fun q => by have := (hR.1 r q).2.1; omega
  -- the new picture
  let ad' : Int → Nat := fun r => if Z.2.2 ≤ r then H.size + (r - Z.2.2).toNat else ad r
  let v' : Mv := fun a b => if Z.2.2 ≤ a then 0 else v a b
  let ρ' : Mv := fun a b => if Z.2.2 ≤ a then (if a = Z.2.2 ∧ 0 ≤ b ∧ b < N then Z.2.2 + 1 + b else -1) else ρ a b
  let Z' : Mz := (fun r => if r = Z.2.2 then Ko else if Z.2.2 < r ∧ r ≤ Z.2.2 + N then Ki else Z.1 r, fun r => if r = Z.2.2 then (N : Int) else if Z.2.2 < r ∧ r ≤ Z.2.2 + N then (M : Int) else Z.2.1 r, Z.2.2 + 1 + N)
  have ha : ∀ r : Int, r < Z.2.2 → ad' r = ad r := fun r hr => if_neg (by omega)
  have hAl : Al2 Z.2.2 v ρ Z v' ρ' Z' Ko Ki N M := by
    refine ⟨rfl, if_pos rfl, if_pos rfl, fun j j0 jN => ⟨?_, ?_, ?_, fun k => if_pos (by omega)⟩, fun k => if_pos (Int.le_refl _), fun r hr => ⟨funext fun k => if_neg (by omega), funext fun k => if_neg (by omega), ?_, ?_⟩⟩
    · show (if Z.2.2 ≤ Z.2.2 then _ else _) = _
      rw [if_pos (Int.le_refl _), if_pos ⟨rfl, j0, jN⟩]
    · show (if _ = _ then _ else _) = _
      rw [if_neg (by omega), if_pos (by omega)]
    · show (if _ = _ then _ else _) = _
      rw [if_neg (by omega), if_pos (by omega)]
    · show (if _ = _ then _ else _) = _
      rw [if_neg (by omega), if_neg (by omega)]
    · show (if _ = _ then _ else _) = _
      rw [if_neg (by omega), if_neg (by omega)]
  obtain ⟨q1, q2, q3, q4, q5, q6⟩ := hAl
  have hR1 : Rel g (xs X) ad' v' ρ' Z' U.heap := by
    refine hR.ext h4 ha (fun r hr => q6 r hr) (by show Z.2.2 ≤ Z.2.2 + 1 + N; omega) (by rw [f1]; omega) hold (fun r hr h => ?_) (fun r q hr hq h1 h2 e => ?_)
    · by_cases e : r = Z.2.2
      · subst e
        rw [q2, q3]
        refine ⟨by show Z.2.2 < Z.2.2 + 1 + N; omega, by omega, ?_, fun k => ?_, ?_⟩
        · unfold cellAt
          rw [if_neg (by omega)]
          have ea : ad' Z.2.2 = H.size := by show (if Z.2.2 ≤ Z.2.2 then _ else _) = _; rw [if_pos (Int.le_refl _)]; simp
          have ec : ∀ j : Nat, j < N → va_rf (if j < N then some (H.size + 1 + j) else none) = tr ad' (pv (ety Ko) (v' Z.2.2 j) (ρ' Z.2.2 j)) := fun j hj => by
            rw [if_pos hj, (q4 j (by omega) (by omega)).1]
            have e2 : ety Ko = 2 := by rcases hKi with ⟨a, b⟩ | ⟨a, b⟩ <;> subst a b <;> rfl
            rw [e2]
            show Value.ref _ = tr ad' (2, Z.2.2 + 1 + j)
            rw [tr_r _ (by omega)]
            show _ = Value.ref (if Z.2.2 ≤ Z.2.2 + 1 + (j : Int) then _ else _)
            rw [if_pos (by omega)]
            have e3 : (Z.2.2 + 1 + (j : Int) - Z.2.2).toNat = 1 + j := by clear ea; omega
            rw [e3, Nat.add_assoc]
          have ef : arrV (gA g Ko) N (fun j => va_rf (if j < N then some (H.size + 1 + j) else none)) = arrV (gA g Ko) N (fun j : Nat => tr ad' (pv (ety Ko) (v' Z.2.2 j) (ρ' Z.2.2 j))) := arrV_congr (fun j hj => ec j hj)
          refine ⟨by omega, by omega, fun j _ _ => by rw [q5]; exact ⟨fun _ => ⟨by decide, by decide⟩, fun _ => ⟨by decide, by decide⟩⟩, _, by rw [ea]; exact f2, ?_, fun _ => by rw [Int.toNat_natCast]; exact ef⟩
          rw [Int.toNat_natCast, ef]
          exact ⟨(hKs.2.2.1 Ko (by omega) (by omega)).1 _ _, (fun h => by cases h), arrV_size _ _ _, fun j hj => arrV_read _ _ hj⟩
        · show (if Z.2.2 ≤ Z.2.2 then (if Z.2.2 = Z.2.2 ∧ 0 ≤ k ∧ k < (N : Int) then Z.2.2 + 1 + k else -1) else ρ Z.2.2 k) < Z.2.2 + 1 + N
          rw [if_pos (Int.le_refl _)]
          split <;> omega
        · show H.size ≤ if Z.2.2 ≤ Z.2.2 then _ else _
          rw [if_pos (Int.le_refl _)]; omega
      · have hin : Z.2.2 < r ∧ r ≤ Z.2.2 + N := Classical.byContradiction fun q => h (by
          show (if r = Z.2.2 then Ko else if Z.2.2 < r ∧ r ≤ Z.2.2 + N then Ki else Z.1 r) = 99
          rw [if_neg e, if_neg q]; exact h99 r hr)
        obtain ⟨j, hj⟩ : ∃ j : Int, j = r - Z.2.2 - 1 := ⟨_, rfl⟩
        have er : r = Z.2.2 + 1 + j := by omega
        subst er
        obtain ⟨-, r2, r3, r4⟩ := q4 j (by omega) (by omega)
        rw [r2, r3]
        refine ⟨by show Z.2.2 + 1 + j < Z.2.2 + 1 + N; omega, by omega, ?_, fun k => ?_, ?_⟩
        · have ea : ad' (Z.2.2 + 1 + j) = H.size + 1 + j.toNat := by show (if Z.2.2 ≤ Z.2.2 + 1 + j then _ else _) = _; rw [if_pos (by omega)]; omega
          have ev : v' (Z.2.2 + 1 + j) = fun _ => 0 := funext r4
          have eρ : ρ' (Z.2.2 + 1 + j) = fun _ => -1 := funext fun k => by
            show (if Z.2.2 ≤ Z.2.2 + 1 + j then (if Z.2.2 + 1 + j = Z.2.2 ∧ 0 ≤ k ∧ k < (N : Int) then _ else _) else _) = _
            rw [if_pos (by omega), if_neg (by omega)]
          rw [ev, eρ]
          exact cell_arr hKs (by omega) (by omega) (by omega) hfl (by rw [ea]; exact hrow j.toNat (by omega))
        · show (if Z.2.2 ≤ Z.2.2 + 1 + j then (if Z.2.2 + 1 + j = Z.2.2 ∧ 0 ≤ k ∧ k < (N : Int) then Z.2.2 + 1 + k else -1) else ρ (Z.2.2 + 1 + j) k) < Z.2.2 + 1 + N
          rw [if_pos (by omega), if_neg (by omega)]; omega
        · show H.size ≤ if Z.2.2 ≤ Z.2.2 + 1 + j then _ else _
          rw [if_pos (by omega)]; omega
    · have e1 : (if Z.2.2 ≤ r then H.size + (r - Z.2.2).toNat else ad r) = if Z.2.2 ≤ q then H.size + (q - Z.2.2).toNat else ad q := e
      rw [if_pos hr, if_pos hq] at e1
      omega
  have hx := wp.grow (Z := Z) (ad := ad) (kk v' ρ' Z' ⟨q1, q2, q3, q4, q5, q6⟩) hR1 ha (by show Z.2.2 ≤ Z.2.2 + 1 + N; omega) (scop_c (scop_c h1)) h2 (fun _ => by show Z.2.2 < Z.2.2 + 1 + N; omega) hq hv
  rw [tr_r _ (by omega)] at hx
  have ea : ad' Z.2.2 = H.size := by show (if Z.2.2 ≤ Z.2.2 then _ else _) = _; rw [if_pos (Int.le_refl _)]; simp
  rw [ea] at hx
  obtain ⟨t, a1, b1⟩ := hx U rfl X'
  exact ⟨t, step t (by rw [hT]; exact a1), b1⟩
end RowsM
