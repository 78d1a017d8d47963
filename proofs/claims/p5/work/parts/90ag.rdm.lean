/-! what the reference's small readers say, over a token that stands -/
theorem Ok.imp {g : Gp} {d mc ms : Nat} {F : Fm} {as : List V2} {v ρ : Mv} {Z : Mz} {Q Q' : Option V2 → Mv → Mv → Mz → Prop} (h : Ok g d mc ms F as v ρ Z Q) (hq : ∀ o v' ρ' Z', Q o v' ρ' Z' → Q' o v' ρ' Z') : Ok g d mc ms F as v ρ Z Q' := fun ad hs p e ha hf hc s m args below h1 h2 h3 h4 => by
  obtain ⟨n, o, a, b, c, ⟨r, v', ρ', Z', ad', e1, e2, e3⟩, e4⟩ := h ad hs p e ha hf hc s m args below h1 h2 h3 h4
  exact ⟨n, o, a, b, c, ⟨r, v', ρ', Z', ad', e1, hq _ _ _ _ e2, e3⟩, e4⟩
section RowsY
variable {g : Gp} {X : Cx} {F : Fm} {cells slots pc : Nat} {ls st : List V2} {v ρ : Mv} {Z : Mz}
theorem r_ishrB (hX : okX g X F) (i : Nat) {x y : Int} (hf : (fprg F)[i]? = some (pc, .ishr, 1)) (hx : 0 ≤ x ∧ x ≤ 7) (hy : 0 ≤ y ∧ y ≤ 2) (k : ∀ z : Int, (0 ≤ z ∧ z ≤ 7) ∧ (y = 0 → z = x) ∧ (y = 1 → z = x / 2) ∧ (y = 2 → z = x / 4) → wp g X F cells slots (pc + 1) ls ((0, z) :: st) v ρ Z) : wp g X F cells slots pc ls ((0, y) :: (0, x) :: st) v ρ Z := by
  have h1 : x = 0 ∨ x = 1 ∨ x = 2 ∨ x = 3 ∨ x = 4 ∨ x = 5 ∨ x = 6 ∨ x = 7 := by omega
  have h2 : y = 0 ∨ y = 1 ∨ y = 2 := by omega
  rcases h1 with rfl | rfl | rfl | rfl | rfl | rfl | rfl | rfl <;> rcases h2 with rfl | rfl | rfl <;> exact wp_some _ (fun ad H locs la kk => lv_ishr hX.1 hX.2.1 (hX.dec hf) kk) (fun h => scop_c (scop_c h)) (k _ (by decide))
theorem r_ishlB (hX : okX g X F) (i : Nat) {x y : Int} (hf : (fprg F)[i]? = some (pc, .ishl, 1)) (hx : x = 1) (hy : 0 ≤ y ∧ y ≤ 2) (k : ∀ z : Int, (y = 0 → z = 1) ∧ (y = 1 → z = 2) ∧ (y = 2 → z = 4) → wp g X F cells slots (pc + 1) ls ((0, z) :: st) v ρ Z) : wp g X F cells slots pc ls ((0, y) :: (0, x) :: st) v ρ Z := by
  subst hx
  have h2 : y = 0 ∨ y = 1 ∨ y = 2 := by omega
  rcases h2 with rfl | rfl | rfl <;> exact wp_some _ (fun ad H locs la kk => lv_ishl hX.1 hX.2.1 (hX.dec hf) kk) (fun h => scop_c (scop_c h)) (k _ (by decide))
theorem r_iorB (hX : okX g X F) (i : Nat) {x y : Int} (hf : (fprg F)[i]? = some (pc, .ior, 1)) (hx : 0 ≤ x ∧ x ≤ 7) (hy : y = 1 ∨ y = 2 ∨ y = 4) (k : ∀ z : Int, (y = 1 ∧ x % 2 = 0 ∨ y = 2 ∧ x / 2 % 2 = 0 ∨ y = 4 ∧ x / 4 % 2 = 0 → z = x + y) → wp g X F cells slots (pc + 1) ls ((0, z) :: st) v ρ Z) : wp g X F cells slots pc ls ((0, y) :: (0, x) :: st) v ρ Z := by
  have h1 : x = 0 ∨ x = 1 ∨ x = 2 ∨ x = 3 ∨ x = 4 ∨ x = 5 ∨ x = 6 ∨ x = 7 := by omega
  rcases h1 with rfl | rfl | rfl | rfl | rfl | rfl | rfl | rfl <;> rcases hy with rfl | rfl | rfl <;> exact wp_some _ (fun ad H locs la kk => lv_ior hX.1 hX.2.1 (hX.dec hf) kk) (fun h => scop_c (scop_c h)) (k _ (by decide))
end RowsY
/-! places of names -/
theorem fnd_none {N : Int → Int} {x a : Int} : ∀ (k : Nat) (i : Int), (∀ j, i ≤ j → j < i + k → N (a + j) ≠ x) → fnd N x a k i = -1
  | 0, _, _ => rfl
  | k + 1, i, h => (if_neg (h i (by omega) (by omega))).trans (fnd_none k (i + 1) (fun j p q => h j (by omega) (by omega)))
theorem fnd_hit {N : Int → Int} {x a r : Int} : ∀ (k : Nat) (i : Int), i ≤ r → r < i + k → N (a + r) = x → (∀ j, i ≤ j → j < r → N (a + j) ≠ x) → fnd N x a k i = r
  | 0, i, h1, h2, _, _ => absurd h1 (by omega)
  | k + 1, i, h1, h2, h3, h4 => by
    show (if N (a + i) = x then i else fnd N x a k (i + 1)) = r
    by_cases e : i = r
    · subst e; rw [if_pos h3]
    · rw [if_neg (h4 i (by omega) (by omega))]
      exact fnd_hit k (i + 1) (by omega) (by omega) h3 (fun j p q => h4 j (by omega) q)
theorem fnd_bd {N : Int → Int} {x a : Int} : ∀ (k : Nat) (i : Int), fnd N x a k i = -1 ∨ i ≤ fnd N x a k i ∧ fnd N x a k i < i + k
  | 0, _ => Or.inl rfl
  | k + 1, i => by
    show (if N (a + i) = x then i else fnd N x a k (i + 1)) = -1 ∨ i ≤ (if N (a + i) = x then i else fnd N x a k (i + 1)) ∧ (if N (a + i) = x then i else fnd N x a k (i + 1)) < i + ((k + 1 : Nat) : Int)
    by_cases e : N (a + i) = x
    · rw [if_pos e]; omega
    · rw [if_neg e]
      have := fnd_bd (N := N) (x := x) (a := a) k (i + 1)
      omega
theorem FdP.fd {N w : Int → Int} {x y a fr many r : Int} (h : FdP w y fr many r) (hm : 0 ≤ many) (hn : ∀ j, 0 ≤ j → j < many → NmW (N (a + j)) (w (fr + j))) (hx : NmR x y) : r = fnd N x a many.toNat 0 := by
  have ne : ∀ j, 0 ≤ j → j < many → w (fr + j) ≠ y → N (a + j) ≠ x := fun j p q z e => z (((hn j p q).1.eq hx).mp e)
  rcases h with ⟨h1, h2⟩ | ⟨h1, h2, h3, h4⟩
  · rw [h1, fnd_none _ 0 (fun j p q => ne j p (by omega) (h2 j p (by omega)))]
  · exact (fnd_hit _ 0 h1 (by omega) (((hn r h1 h2).1.eq hx).mpr h3) (fun j p q => ne j p (by omega) (h4 j p q))).symm
/-- the reserved words stand -/
def RsI (w : Int → Int) : Prop := ∀ i : Nat, i < 22 → w i = (K256[i]?).getD 0
theorem K256_in : ∀ i : Nat, i < 22 → inL ((K256[i]?).getD 0) := by decide +kernel
theorem RsI.rg {w : Int → Int} (h : RsI w) : ∀ j : Int, 0 ≤ j → j < 22 → inL (w j) := fun j a b => by
  have e := h j.toNat (by omega)
  rw [Int.toNat_of_nonneg a] at e
  rw [e]
  exact K256_in _ (by omega)
/-- is it a name: what isName says -/
theorem nm_of {F : Int → Int} {n m p : Int} {v : Mv} {r : Int} (hT : TkM F n m v p) (hR : RsI (v 184)) (h : r = 1 ∧ v 178 11 = 1 ∧ (∀ j, 0 ≤ j → j < 22 → v 184 j ≠ v 178 17) ∨ r = 0 ∧ (v 178 11 = 1 → ∃ j, 0 ≤ j ∧ j < 22 ∧ v 184 j = v 178 17)) : r = 1 ∧ nm F n m p = true ∧ v 178 11 = 1 ∨ r = 0 ∧ nm F n m p = false := by
  obtain ⟨hp0, hp1, hn3, hm5, hsm, h4p, h11, h12, h14, h17⟩ := hT
  have key : v 178 11 = 1 → (kix (tn F n p) = -1 ↔ ∀ j : Int, 0 ≤ j → j < 22 → v 184 j ≠ v 178 17) := fun h1 => by
    have hw := (tk_word (f := F) (n := n) (m := m) (p := p) hp1 (by omega)).1
    rw [kix_none hw, h17 h1]
    constructor
    · intro q j a b e
      have e2 := hR j.toNat (by omega)
      rw [Int.toNat_of_nonneg a] at e2
      have hlt : j.toNat < 22 := by omega
      have e3 : K256[j.toNat]? = some ((K256[j.toNat]?).getD 0) := by
        have : j.toNat < K256.length := hlt
        rw [List.getElem?_eq_getElem this]
        rfl
      exact q j.toNat hlt (by rw [e3, ← e2, e])
    · intro q i hi e
      have e2 := hR i hi
      rw [e] at e2
      exact q (i : Int) (by omega) (by omega) e2
  unfold nm
  rcases h with ⟨a, b, c⟩ | ⟨a, b⟩
  · exact Or.inl ⟨a, decide_eq_true ⟨by omega, (key b).mpr c⟩, b⟩
  · refine Or.inr ⟨a, decide_eq_false fun z => ?_⟩
    obtain ⟨j, j0, j1, j2⟩ := b (by omega)
    exact (key (by omega)).mp z.2 j j0 j1 j2
/-- which reserved word stands: what isWord says -/
theorem ky_of {F : Int → Int} {n m p : Int} {v : Mv} {r w : Int} (hT : TkM F n m v p) (i : Nat) (hi : i < 22) (hw : w = (K256[i]?).getD 0) (h : r = 1 ∧ (v 178 11 = 1 ∧ v 178 17 = w) ∨ r = 0 ∧ ¬ (v 178 11 = 1 ∧ v 178 17 = w)) : r = 1 ∧ ky F n m p = i ∨ r = 0 ∧ ky F n m p ≠ i := by
  obtain ⟨hp0, hp1, hn3, hm5, hsm, h4p, h11, h12, h14, h17⟩ := hT
  have key : v 178 11 = 1 → (kix (tn F n p) = i ↔ v 178 17 = w) := fun h1 => by
    have h2 := (tk_word (f := F) (n := n) (m := m) (p := p) hp1 (by omega)).1
    rw [kix_is h2 i hi, h17 h1, hw]
  unfold ky
  rw [← h11]
  rcases h with ⟨a, b, c⟩ | ⟨a, b⟩
  · exact Or.inl ⟨a, by rw [if_pos b]; exact (key b).mpr c⟩
  · refine Or.inr ⟨a, ?_⟩
    by_cases q : v 178 11 = 1
    · rw [if_pos q]
      exact fun z => b ⟨q, (key q).mp z⟩
    · rw [if_neg q]; omega
theorem TkM.nw {F : Int → Int} {n m p : Int} {v : Mv} (h : TkM F n m v p) (h1 : v 178 11 = 1) : NmW (tn F n p) (v 178 17) := by
  obtain ⟨hp0, hp1, hn3, hm5, hsm, h4p, h11, h12, h14, h17⟩ := h
  have hw := tk_word (f := F) (n := n) (m := m) (p := p) hp1 (by omega)
  rw [h17 h1]
  refine ⟨hw.1, ?_⟩
  have h2 := n256_b (f := F) (q := tq F n p) (te F n p - tq F n p).toNat
  have h3 : 256 ^ (te F n p - tq F n p).toNat ≤ 256 ^ 7 := Nat.pow_le_pow_right (by decide) (by omega)
  unfold tw
  omega
/-- which sign stands: what isSign says -/
theorem mk_of {F : Int → Int} {n m p : Int} {v : Mv} {r c : Int} (hT : TkM F n m v p) (h : r = 1 ∧ (v 178 11 = 3 ∧ v 178 14 = c) ∨ r = 0 ∧ ¬ (v 178 11 = 3 ∧ v 178 14 = c)) : r = 1 ∧ mk F n m p c = true ∨ r = 0 ∧ mk F n m p c = false := by
  obtain ⟨hp0, hp1, hn3, hm5, hsm, h4p, h11, h12, h14, h17⟩ := hT
  unfold mk
  rcases h with ⟨a, b, c⟩ | ⟨a, b⟩
  · exact Or.inl ⟨a, decide_eq_true ⟨by omega, by have := h14 (by omega); omega⟩⟩
  · exact Or.inr ⟨a, decide_eq_false fun z => b ⟨by omega, by have := h14 (by omega); omega⟩⟩
/-- the token stands where what it needs stands -/
theorem TkM.cg {F : Int → Int} {n m p : Int} {v v' : Mv} (h : TkM F n m v p) (h9 : v' 179 = v 179) (hk : ∀ k, k = 3 ∨ k = 4 ∨ k = 5 ∨ k = 11 ∨ k = 12 ∨ k = 14 ∨ k = 17 ∨ k = 15 → v' 178 k = v 178 k) : TkM F n m v' p := by
  unfold TkM at h ⊢
  rw [h9, hk 3 (by omega), hk 4 (by omega), hk 5 (by omega), hk 11 (by omega), hk 12 (by omega), hk 14 (by omega), hk 17 (by omega), hk 15 (by omega)]
  exact h
theorem TkM.arr {F : Int → Int} {n m p : Int} {v : Mv} (h : TkM F n m v p) {r k x : Int} (h8 : r ≠ 178) (h9 : r ≠ 179) : TkM F n m (up v r k x) p := h.cg (up_f (fun e => h9 e.symm)) (fun j _ => up_r (fun e => h8 e.symm))
theorem TkM.fld {F : Int → Int} {n m p : Int} {v : Mv} (h : TkM F n m v p) {k x : Int} (hk : k ≠ 3 ∧ k ≠ 4 ∧ k ≠ 5 ∧ k ≠ 11 ∧ k ≠ 12 ∧ k ≠ 14 ∧ k ≠ 17 ∧ k ≠ 15) : TkM F n m (up v 178 k x) p := h.cg (up_f (by decide)) (fun j hj => up_k (by omega))
theorem TkM.fr {F : Int → Int} {n m p : Int} {v v' : Mv} {R Ks : List Int} (h : TkM F n m v p) (hf : Fr R Ks v v') (h9 : 179 ∉ R) (hk : ∀ k ∈ Ks, ¬ (k = 3 ∨ k = 4 ∨ k = 5 ∨ k = 11 ∨ k = 12 ∨ k = 14 ∨ k = 17 ∨ k = 15)) : TkM F n m v' p := h.cg (hf.1 179 h9 (by decide)) (fun k h1 => hf.2 k (fun e => hk k e h1))
/-- the reference's state while it reads a road, as the road's function has it -/
def NmI (N w : Int → Int) (a b c : Int) : Prop :=
  (∀ j, 0 ≤ j → j < a → NmW (N (0 + j)) (w (10 + j))) ∧ (∀ j, 0 ≤ j → j < b → NmW (N (4 + j)) (w (14 + j))) ∧ (∀ j, 0 ≤ j → j < c → NmW (N (7 + j)) (w (17 + j)))
def RdM (F : Int → Int) (n m : Int) (v : Mv) (s : Rd) : Prop :=
  TkM F n m v s.p ∧ (∀ k, 0 ≤ k → k < 35 → v 181 k = s.H k) ∧ NmI s.N (v 183) (s.H 0) (s.H 1) (s.H 2) ∧ v 178 20 = s.o0 + 2 * s.o1 + 4 * s.H 5 ∧ (0 ≤ s.o0 ∧ s.o0 ≤ 1) ∧ (0 ≤ s.o1 ∧ s.o1 ≤ 1) ∧ (0 ≤ s.H 5 ∧ s.H 5 ≤ 1)
/-- how a reader ends: with the state that follows, or with a fault -/
def PoM (F : Int → Int) (n m : Int) (v : Mv) (r : Int) (q : Int × Rd) : Prop := r = 1 ∧ q.1 = 0 ∧ RdM F n m v q.2 ∨ r = 0 ∧ q.1 ≠ 0 ∧ v 178 15 = q.1 ∧ v 178 16 = ta F n m q.2.p
/-- the same, where a line that has no closing sign may be found out early -/
def PoL (F : Int → Int) (n m : Int) (v : Mv) (r : Int) (q : Int × Rd) : Prop := r = 1 ∧ q.1 = 0 ∧ RdM F n m v q.2 ∨ r = 0 ∧ (cl F n m q).1 ≠ 0 ∧ v 178 15 = (cl F n m q).1 ∧ v 178 16 = ta F n m (cl F n m q).2.p
theorem thn_0 {a : Int × Rd} {b : Rd → Int × Rd} (h : a.1 = 0) : thn a b = b a.2 := if_pos h
theorem thn_1 {a : Int × Rd} {b : Rd → Int × Rd} (h : a.1 ≠ 0) : thn a b = a := if_neg h
theorem PoM.L {F : Int → Int} {n m : Int} {v : Mv} {r : Int} {q : Int × Rd} (h : PoM F n m v r q) : PoL F n m v r q := by
  rcases h with h | ⟨a, b, c⟩
  · exact Or.inl h
  · have e : cl F n m q = q := thn_1 b
    refine Or.inr ⟨a, ?_⟩
    rw [e]
    exact ⟨b, c⟩
/-- behind the token that stands -/
def adv (F : Int → Int) (n m : Int) (q : Int × Rd) : Int × Rd := thn q fun s => (0, nx F n m s)
/-- what takes says -/
def TaP (F : Int → Int) (n m p lo hi : Int) (v' : Mv) (r : Int) : Prop := r = 1 ∧ (tk F n m p = 2 ∧ lo ≤ tv F n p ∧ tv F n p ≤ hi) ∧ v' 178 18 = tv F n p ∧ TkM F n m v' (tp F n m p) ∨ r = 0 ∧ (tk F n m p ≠ 2 ∧ v' 178 15 = 1 ∨ tk F n m p = 2 ∧ ¬ (lo ≤ tv F n p ∧ tv F n p ≤ hi) ∧ v' 178 15 = 2) ∧ v' 178 16 = ta F n m p
def PuP (F : Int → Int) (n m p k lo hi : Int) (v' : Mv) (r : Int) : Prop := r = 1 ∧ (tk F n m p = 2 ∧ lo ≤ tv F n p ∧ tv F n p ≤ hi) ∧ v' 181 k = tv F n p ∧ TkM F n m v' (tp F n m p) ∨ r = 0 ∧ (tk F n m p ≠ 2 ∧ v' 178 15 = 1 ∨ tk F n m p = 2 ∧ ¬ (lo ≤ tv F n p ∧ tv F n p ≤ hi) ∧ v' 178 15 = 2) ∧ v' 178 16 = ta F n m p
theorem rNumAt_0 {F : Int → Int} {n m : Int} {s : Rd} {k lo hi : Int} (h : tk F n m s.p = 2 ∧ lo ≤ tv F n s.p ∧ tv F n s.p ≤ hi) : rNumAt F n m s k lo hi = (0, (Rd.wH s (sv s.H k (tv F n s.p)))) := by
  unfold rNumAt
  rw [if_neg (fun z => z h.1), if_neg (by omega)]
theorem rNumAt_1 {F : Int → Int} {n m : Int} {s : Rd} {k lo hi : Int} (h : tk F n m s.p ≠ 2) : rNumAt F n m s k lo hi = (1, s) := if_pos h
theorem rNumAt_2 {F : Int → Int} {n m : Int} {s : Rd} {k lo hi : Int} (h : tk F n m s.p = 2) (h2 : ¬ (lo ≤ tv F n s.p ∧ tv F n s.p ≤ hi)) : rNumAt F n m s k lo hi = (2, s) := by
  unfold rNumAt
  rw [if_neg (fun z => z h), if_pos (by omega)]
/-- puts, as the road's function has it -/
theorem PuP.po {F : Int → Int} {n m : Int} {s : Rd} {k lo hi r : Int} {v v' : Mv} (h : PuP F n m s.p k lo hi v' r) (hR : RdM F n m v s) (hk : k ≠ 0 ∧ k ≠ 1 ∧ k ≠ 2 ∧ k ≠ 5) (ho : r ≠ 0 → ∀ j, j ≠ k → v' 181 j = v 181 j) (h3 : v' 183 = v 183) (h20 : v' 178 20 = v 178 20) : PoM F n m v' r (adv F n m (rNumAt F n m s k lo hi)) := by
  obtain ⟨b1, b2, b3, b4, b5, b6, b7⟩ := hR
  rcases h with ⟨a1, a2, a3, a4⟩ | ⟨a1, a2, a3⟩
  · rw [rNumAt_0 a2]
    refine Or.inl ⟨a1, rfl, a4, fun j p q => ?_, ?_, ?_, b5, b6, ?_⟩
    · show v' 181 j = sv s.H k (tv F n s.p) j
      by_cases e : j = k
      · subst e; rw [a3]; exact (if_pos rfl).symm
      · rw [ho (by omega) j e, b2 j p q]; exact (if_neg e).symm
    · show NmI s.N (v' 183) (sv s.H k (tv F n s.p) 0) (sv s.H k (tv F n s.p) 1) (sv s.H k (tv F n s.p) 2)
      rw [h3, show sv s.H k (tv F n s.p) 0 = s.H 0 from if_neg (fun e => hk.1 e.symm), show sv s.H k (tv F n s.p) 1 = s.H 1 from if_neg (fun e => hk.2.1 e.symm), show sv s.H k (tv F n s.p) 2 = s.H 2 from if_neg (fun e => hk.2.2.1 e.symm)]
      exact b3
    · show v' 178 20 = s.o0 + 2 * s.o1 + 4 * sv s.H k (tv F n s.p) 5
      rw [h20, show sv s.H k (tv F n s.p) 5 = s.H 5 from if_neg (fun e => hk.2.2.2 e.symm)]
      exact b4
    · show 0 ≤ sv s.H k (tv F n s.p) 5 ∧ sv s.H k (tv F n s.p) 5 ≤ 1
      rw [show sv s.H k (tv F n s.p) 5 = s.H 5 from if_neg (fun e => hk.2.2.2 e.symm)]
      exact b7
  · refine Or.inr ⟨a1, ?_⟩
    rcases a2 with ⟨c1, c2⟩ | ⟨c1, c2, c3⟩
    · rw [rNumAt_1 c1, show adv F n m (1, s) = (1, s) from thn_1 (show (1 : Int) ≠ 0 by decide)]
      exact ⟨show (1 : Int) ≠ 0 by decide, c2, a3⟩
    · rw [rNumAt_2 c1 c2, show adv F n m (2, s) = (2, s) from thn_1 (show (2 : Int) ≠ 0 by decide)]
      exact ⟨show (2 : Int) ≠ 0 by decide, c3, a3⟩
/-- what fresh says: x the name's place among the ten -/
def FsP (F : Int → Int) (n m : Int) (s : Rd) (k : Int) (v' : Mv) (r : Int) : Prop := PoM F n m v' r (adv F n m (rNewAt F n m s (k - 10))) ∧ (r = 1 → NmW (tn F n s.p) (v' 183 k))
theorem rNewAt_0 {F : Int → Int} {n m : Int} {s : Rd} {k : Int} (h : nm F n m s.p = true) (h2 : tol s.N s.H (tn F n s.p) = false) : rNewAt F n m s k = (0, (Rd.wN s (sv s.N k (tn F n s.p)))) := by
  unfold rNewAt
  rw [h, h2]
  rfl
theorem rNewAt_1 {F : Int → Int} {n m : Int} {s : Rd} {k : Int} (h : nm F n m s.p = false) : rNewAt F n m s k = (1, s) := if_pos h
theorem rNewAt_3 {F : Int → Int} {n m : Int} {s : Rd} {k : Int} (h : nm F n m s.p = true) (h2 : tol s.N s.H (tn F n s.p) = true) : rNewAt F n m s k = (3, s) := by
  unfold rNewAt
  rw [h, h2]
  rfl
theorem tol_t {N H : Int → Int} {x : Int} (h : fnd N x 0 (H 0).toNat 0 ≠ -1 ∨ fnd N x 7 (H 2).toNat 0 ≠ -1 ∨ fnd N x 4 (H 1).toNat 0 ≠ -1) : tol N H x = true := decide_eq_true h
theorem tol_f {N H : Int → Int} {x : Int} (h1 : fnd N x 0 (H 0).toNat 0 = -1) (h2 : fnd N x 4 (H 1).toNat 0 = -1) (h3 : fnd N x 7 (H 2).toNat 0 = -1) : tol N H x = false := decide_eq_false (by omega)
/-- the word that stands, as a name -/
theorem RdM.nw {F : Int → Int} {n m : Int} {v : Mv} {s : Rd} (h : RdM F n m v s) (h1 : v 178 11 = 1) : NmW (tn F n s.p) (v 178 17) := h.1.nw h1
/-- a name's place, as find says it -/
theorem RdM.fd {F : Int → Int} {n m : Int} {v : Mv} {s : Rd} (h : RdM F n m v s) (h1 : v 178 11 = 1) {fr many a r : Int} (hm : 0 ≤ many) (hf : FdP (v 183) (v 178 17) fr many r) (hn : ∀ j, 0 ≤ j → j < many → NmW (s.N (a + j)) (v 183 (fr + j))) : r = fnd s.N (tn F n s.p) a many.toNat 0 := hf.fd hm hn (h.nw h1).1
/-- fresh, where the name is new -/
theorem FsP.good {F : Int → Int} {n m : Int} {v v' : Mv} {s : Rd} {k : Int} (h : RdM F n m v s) (h1 : v 178 11 = 1) (hn : nm F n m s.p = true) (ht : tol s.N s.H (tn F n s.p) = false) (hT : TkM F n m v' (tp F n m s.p)) (h181 : v' 181 = v 181) (h20 : v' 178 20 = v 178 20) (hw : v' 183 k = v 178 17) (ho : ∀ j, j ≠ k → v' 183 j = v 183 j)
    (hk : k = 10 + s.H 0 ∧ s.H 0 < 4 ∨ k = 14 + s.H 1 ∧ s.H 1 < 3 ∨ k = 17 + s.H 2 ∧ s.H 2 < 3) (hb : (0 ≤ s.H 0 ∧ s.H 0 ≤ 4) ∧ (0 ≤ s.H 1 ∧ s.H 1 ≤ 3) ∧ (0 ≤ s.H 2 ∧ s.H 2 ≤ 3)) : FsP F n m s k v' 1 := by
  have hnw := h.nw h1
  obtain ⟨b1, b2, b3, b4, b5, b6, b7⟩ := h
  refine ⟨Or.inl ⟨rfl, ?_⟩, fun _ => by rw [hw]; exact hnw⟩
  rw [rNewAt_0 hn ht]
  have ho2 : ∀ a j, 0 ≤ j → (a = 0 ∧ j < s.H 0 ∨ a = 4 ∧ j < s.H 1 ∨ a = 7 ∧ j < s.H 2) → ∀ w, NmW (s.N (a + j)) (v 183 (10 + a + j)) → w = 10 + a + j → NmW (sv s.N (k - 10) (tn F n s.p) (a + j)) (v' 183 w) := fun a j p q w z e => by
    subst e
    rw [ho _ (by omega), show sv s.N (k - 10) (tn F n s.p) (a + j) = s.N (a + j) from if_neg (by omega)]
    exact z
  refine ⟨rfl, hT, fun j p q => ?_, ⟨fun j p q => ?_, fun j p q => ?_, fun j p q => ?_⟩, ?_, b5, b6, b7⟩
  · rw [h181]; exact b2 j p q
  · exact ho2 0 j p (Or.inl ⟨rfl, q⟩) _ (b3.1 j p q) (by omega)
  · exact ho2 4 j p (Or.inr (Or.inl ⟨rfl, q⟩)) _ (b3.2.1 j p q) (by omega)
  · exact ho2 7 j p (Or.inr (Or.inr ⟨rfl, q⟩)) _ (b3.2.2 j p q) (by omega)
  · rw [h20]; exact b4
theorem FsP.bad {F : Int → Int} {n m : Int} {v' : Mv} {s : Rd} {k c : Int} (hc : rNewAt F n m s (k - 10) = (c, s)) (h0 : c ≠ 0) (h15 : v' 178 15 = c) (h16 : v' 178 16 = ta F n m s.p) : FsP F n m s k v' 0 := by
  refine ⟨Or.inr ⟨rfl, ?_⟩, fun z => absurd z (by decide)⟩
  rw [hc, show adv F n m (c, s) = (c, s) from thn_1 h0]
  exact ⟨h0, h15, h16⟩
/-- what looksAt says, among the colours -/
def LkP (F : Int → Int) (n m : Int) (s : Rd) (v' : Mv) (r : Int) : Prop := r = 1 ∧ nm F n m s.p = true ∧ rCol F n s ≠ -1 ∧ v' 178 18 = rCol F n s ∧ v' 178 15 = 0 ∨ r = 0 ∧ (nm F n m s.p = false ∧ v' 178 15 = 1 ∨ nm F n m s.p = true ∧ rCol F n s = -1 ∧ v' 178 15 = 3) ∧ v' 178 16 = ta F n m s.p
/-- what isOnce says: k the bit -/
def bt (x k : Int) : Int := if k = 0 then x % 2 else if k = 1 then x / 2 % 2 else x / 4 % 2
def pw (k : Int) : Int := if k = 0 then 1 else if k = 1 then 2 else 4
def OnP (F : Int → Int) (n m p k x : Int) (v' : Mv) (r : Int) : Prop := r = 1 ∧ bt x k = 0 ∧ v' 178 20 = x + pw k ∧ TkM F n m v' (tp F n m p) ∨ r = 0 ∧ bt x k = 1 ∧ v' 178 15 = 3 ∧ v' 178 16 = ta F n m p
theorem TaP.p0 {F : Int → Int} {n m p k lo hi r : Int} {v' : Mv} (h : TaP F n m p lo hi v' r) (hr : r = 0) : PuP F n m p k lo hi v' 0 := by
  rcases h with ⟨a, -⟩ | ⟨a, b⟩
  · omega
  · exact Or.inr ⟨rfl, b⟩
theorem TaP.p1 {F : Int → Int} {n m p k lo hi r : Int} {v' : Mv} (h : TaP F n m p lo hi v' r) (hr : r ≠ 0) : PuP F n m p k lo hi (up v' 181 k (v' 178 18)) 1 := by
  rcases h with ⟨a, b, c, d⟩ | ⟨a, b⟩
  · exact Or.inl ⟨rfl, b, (up_s _ _ _ _).trans c, d.arr (by decide) (by decide)⟩
  · omega
/-- what sign says -/
def SgP (F : Int → Int) (n m p c : Int) (v' : Mv) (r : Int) : Prop := r = 1 ∧ mk F n m p c = true ∧ TkM F n m v' (tp F n m p) ∨ r = 0 ∧ mk F n m p c = false ∧ v' 178 15 = 1 ∧ v' 178 16 = ta F n m p
theorem PuP.b {F : Int → Int} {n m p k lo hi r : Int} {v' : Mv} (h : PuP F n m p k lo hi v' r) (hr : r ≠ 0) : tk F n m p = 2 ∧ lo ≤ v' 181 k ∧ v' 181 k ≤ hi := by
  rcases h with ⟨a, b, c, d⟩ | ⟨a, b⟩
  · rw [c]; exact b
  · exact absurd a hr
theorem LkP.f15 {F : Int → Int} {n m r : Int} {s : Rd} {v' : Mv} (h : LkP F n m s v' r) (hr : r ≠ 0) : v' 178 15 = 0 := by
  rcases h with ⟨-, -, -, -, a⟩ | ⟨a, -⟩
  · exact a
  · exact absurd a hr
theorem LkP.b {F : Int → Int} {n m r : Int} {s : Rd} {v' : Mv} (h : LkP F n m s v' r) (h0 : 0 ≤ s.H 0) (hr : r ≠ 0) : nm F n m s.p = true ∧ rCol F n s ≠ -1 ∧ v' 178 18 = rCol F n s ∧ 0 ≤ v' 178 18 ∧ v' 178 18 < s.H 0 := by
  rcases h with ⟨a, b, c, d, -⟩ | ⟨a, b⟩
  · refine ⟨b, c, d, ?_⟩
    rw [d]
    have z := fnd_bd (N := s.N) (x := tn F n s.p) (a := 0) (s.H 0).toNat 0
    unfold rCol at c ⊢
    omega
  · exact absurd a hr
