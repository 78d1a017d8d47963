section RowsJ
variable {g : Gp} {X : Cx} {F : Fm} {cells slots pc : Nat} {ls st : List V2} {v ρ : Mv} {Z : Mz}
theorem e_iald (hX : okX g X F) (i : Nat) {r x y : Int} (hf : (fprg F)[i]? = some (pc, .iaload, 1)) (hk : Z.1 r = 13) {n : Int} (hl : Z.2.1 r = n) (h0 : 0 ≤ x) (hn : x < n) (hy : v r x = y) (kk : wp g X F cells slots (pc + 1) ls ((0, y) :: st) v ρ Z) : wp g X F cells slots pc ls ((0, x) :: (2, r) :: st) v ρ Z := by
  subst hy; subst hl; exact r_iald hX i hf hk h0 hn kk
theorem e_lald (hX : okX g X F) (i : Nat) {r x y : Int} (hf : (fprg F)[i]? = some (pc, .laload, 1)) (hk : Z.1 r = 14) {n : Int} (hl : Z.2.1 r = n) (h0 : 0 ≤ x) (hn : x < n) (hy : v r x = y) (kk : wp g X F cells slots (pc + 1) ls ((1, y) :: st) v ρ Z) : wp g X F cells slots pc ls ((0, x) :: (2, r) :: st) v ρ Z := by
  subst hy; subst hl; exact r_lald hX i hf hk h0 hn kk
theorem e_bald (hX : okX g X F) (i : Nat) {r x y : Int} (hf : (fprg F)[i]? = some (pc, .baload, 1)) (hk : Z.1 r = 15) {n : Int} (hl : Z.2.1 r = n) (h0 : 0 ≤ x) (hn : x < n) (hy : v r x = y) (kk : -128 ≤ y → y < 128 → wp g X F cells slots (pc + 1) ls ((0, y) :: st) v ρ Z) : wp g X F cells slots pc ls ((0, x) :: (2, r) :: st) v ρ Z := by
  subst hy; subst hl; exact r_bald hX i hf hk h0 hn kk
theorem e_zald (hX : okX g X F) (i : Nat) {r x y : Int} (hf : (fprg F)[i]? = some (pc, .baload, 1)) (hk : Z.1 r = 16) {n : Int} (hl : Z.2.1 r = n) (h0 : 0 ≤ x) (hn : x < n) (hy : v r x = y) (kk : 0 ≤ y → y ≤ 1 → wp g X F cells slots (pc + 1) ls ((0, y) :: st) v ρ Z) : wp g X F cells slots pc ls ((0, x) :: (2, r) :: st) v ρ Z := by
  subst hy; subst hl; exact r_zald hX i hf hk h0 hn kk
theorem e_iast (hX : okX g X F) (i : Nat) {r x y : Int} (hf : (fprg F)[i]? = some (pc, .iastore, 1)) (hk : Z.1 r = 13) {n : Int} (hl : Z.2.1 r = n) (h4 : 4 ≤ r) (h0 : 0 ≤ y) (hn : y < n) (kk : wp g X F cells slots (pc + 1) ls st (up v r y x) ρ Z) : wp g X F cells slots pc ls ((0, x) :: (0, y) :: (2, r) :: st) v ρ Z := by
  subst hl; exact r_iast hX i hf hk h4 h0 hn kk
theorem e_last (hX : okX g X F) (i : Nat) {r x y : Int} (hf : (fprg F)[i]? = some (pc, .lastore, 1)) (hk : Z.1 r = 14) {n : Int} (hl : Z.2.1 r = n) (h4 : 4 ≤ r) (h0 : 0 ≤ y) (hn : y < n) (kk : wp g X F cells slots (pc + 1) ls st (up v r y x) ρ Z) : wp g X F cells slots pc ls ((1, x) :: (0, y) :: (2, r) :: st) v ρ Z := by
  subst hl; exact r_last hX i hf hk h4 h0 hn kk
theorem e_bast (hX : okX g X F) (i : Nat) {r x y : Int} (hf : (fprg F)[i]? = some (pc, .bastore, 1)) (hk : Z.1 r = 15) {n : Int} (hl : Z.2.1 r = n) (h4 : 4 ≤ r) (h0 : 0 ≤ y) (hn : y < n) (hx : -128 ≤ x ∧ x < 128) (kk : wp g X F cells slots (pc + 1) ls st (up v r y x) ρ Z) : wp g X F cells slots pc ls ((0, x) :: (0, y) :: (2, r) :: st) v ρ Z := by
  subst hl; exact r_bast hX i hf hk h4 h0 hn hx kk
theorem e_zast (hX : okX g X F) (i : Nat) {r x y : Int} (hf : (fprg F)[i]? = some (pc, .bastore, 1)) (hk : Z.1 r = 16) {n : Int} (hl : Z.2.1 r = n) (h4 : 4 ≤ r) (h0 : 0 ≤ y) (hn : y < n) (hx : 0 ≤ x ∧ x ≤ 1) (kk : wp g X F cells slots (pc + 1) ls st (up v r y x) ρ Z) : wp g X F cells slots pc ls ((0, x) :: (0, y) :: (2, r) :: st) v ρ Z := by
  subst hl; exact r_zast hX i hf hk h4 h0 hn hx kk
theorem e_getI (hX : okX g X F) (i : Nat) {idx K k : Nat} {r y : Int} (hf : (fprg F)[i]? = some (pc, .getfield idx, 3)) (L : LkF (fown F) idx K k) (ht : fty K k = 0) (hk : Z.1 r = K) (hy : v r k = y) (kk : wp g X F cells slots (pc + 3) ls ((0, y) :: st) v ρ Z) : wp g X F cells slots pc ls ((2, r) :: st) v ρ Z := by
  subst hy; exact r_getI hX i hf L ht hk kk
theorem e_getL (hX : okX g X F) (i : Nat) {idx K k : Nat} {r y : Int} (hf : (fprg F)[i]? = some (pc, .getfield idx, 3)) (L : LkF (fown F) idx K k) (ht : fty K k = 1) (hk : Z.1 r = K) (hy : v r k = y) (kk : wp g X F cells slots (pc + 3) ls ((1, y) :: st) v ρ Z) : wp g X F cells slots pc ls ((2, r) :: st) v ρ Z := by
  subst hy; exact r_getL hX i hf L ht hk kk
/-- 'this.f', two instructions -/
theorem t_getI (hX : okX g X F) (i : Nat) {idx K k : Nat} {r y : Int} (hf0 : (fprg F)[i]? = some (pc, .aload_n 0, 1)) (hf : (fprg F)[i + 1]? = some (pc + 1, .getfield idx, 3)) (hl : ls[0]? = some (2, r)) (L : LkF (fown F) idx K k) (ht : fty K k = 0) (hk : Z.1 r = K) (hy : v r k = y) (kk : wp g X F cells slots (pc + 1 + 3) ls ((0, y) :: st) v ρ Z) : wp g X F cells slots pc ls st v ρ Z :=
  r_aload_n hX i hf0 hl (e_getI hX (i + 1) hf L ht hk hy kk)
theorem t_getL (hX : okX g X F) (i : Nat) {idx K k : Nat} {r y : Int} (hf0 : (fprg F)[i]? = some (pc, .aload_n 0, 1)) (hf : (fprg F)[i + 1]? = some (pc + 1, .getfield idx, 3)) (hl : ls[0]? = some (2, r)) (L : LkF (fown F) idx K k) (ht : fty K k = 1) (hk : Z.1 r = K) (hy : v r k = y) (kk : wp g X F cells slots (pc + 1 + 3) ls ((1, y) :: st) v ρ Z) : wp g X F cells slots pc ls st v ρ Z :=
  r_aload_n hX i hf0 hl (e_getL hX (i + 1) hf L ht hk hy kk)
theorem t_getR (hX : okX g X F) (i : Nat) {idx K k : Nat} {r q : Int} (hf0 : (fprg F)[i]? = some (pc, .aload_n 0, 1)) (hf : (fprg F)[i + 1]? = some (pc + 1, .getfield idx, 3)) (hl : ls[0]? = some (2, r)) (L : LkF (fown F) idx K k) (ht : fty K k = 2) (hk : Z.1 r = K) (hq : ρ r k = q) (kk : wp g X F cells slots (pc + 1 + 3) ls ((2, q) :: st) v ρ Z) : wp g X F cells slots pc ls st v ρ Z :=
  r_aload_n hX i hf0 hl (r_getR hX (i + 1) hf L ht hk hq kk)
/-- less is known of the locals -/
def Wk : List V2 → List V2 → Prop
  | [], [] => True
  | x :: l, y :: m => (y.1 = 3 ∨ x = y) ∧ Wk l m
  | _, _ => False
theorem Wk.at : ∀ {l m : List V2}, Wk l m → ∀ {k : Nat} {y : V2}, m[k]? = some y → y.1 ≠ 3 → l[k]? = some y
  | [], [], _, k, y, h, _ => by simp at h
  | x :: l, z :: m, hw, 0, y, h, h3 => by
    rw [List.getElem?_cons_zero] at h
    cases h
    rw [List.getElem?_cons_zero, hw.1.resolve_left h3]
  | x :: l, z :: m, hw, k + 1, y, h, h3 => by
    rw [List.getElem?_cons_succ] at h ⊢
    exact Wk.at hw.2 h h3
  | [], y :: m, hw, _, _, _, _ => hw.elim
  | x :: l, [], hw, _, _, _, _ => hw.elim
theorem r_wk {ls' : List V2} (h : Wk ls ls') (k : wp g X F cells slots pc ls' st v ρ Z) : wp g X F cells slots pc ls st v ρ Z := fun ad H locs la hR h1 h2 hq hv =>
  k ad H locs la hR h1 (fun x hx e => by
    obtain ⟨i, hi⟩ := List.getElem?_of_mem hx
    exact h2 x (List.mem_of_getElem? (h.at hi (by rw [e]; decide))) e) hq ⟨hv.1, hv.2.1, fun q hq => by
    obtain ⟨y, g1, g2, g3⟩ := mem_lpr hq
    have := lvr_at hv (h.at g1 g2) g2
    rw [g3]
    exact this⟩
end RowsJ
