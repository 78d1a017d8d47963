/-! A SENTENCE's text, as a machine: what both parsers do. f the bytes, n how many, m how many may be read; C the colour of a name (-1: none). S the brackets (true) and nots (false) that wait, the latest first -/
section Sent
variable (f : Int → Int) (n m : Int) (C : Int → Int)
/-- nots that wait are done -/
def nts : List Bool → List Bool
  | false :: S => nts S
  | S => S
/-- an operand's end behind its word: (0, place) or (fault, place) -/
def sLeaf (k p : Int) : Int × Int :=
  if k = 14 ∨ k = 15 ∨ k = 17 then (0, p)
  else if k = 16 then (if nm f n m p = false then (1, p) else if C (tn f n p) = -1 then (3, p) else (0, tp f n m p))
  else if ¬ (tk f n m p = 3 ∧ 60 ≤ tv f n p ∧ tv f n p ≤ 62) then (1, p)
  else if tk f n m (tp f n m p) ≠ 2 then (1, tp f n m p)
  else (0, tp f n m (tp f n m p))
/-- w: an operand was read; o how many ones; (0, ones) or (fault, its place) -/
def sRun : Nat → Bool → List Bool → Int → Int → Int × Int
  | 0, _, _, _, p => (1, ta f n m p)
  | x + 1, false, S, o, p =>
    if mk f n m p 40 = false ∧ ¬ (13 ≤ ky f n m p ∧ ky f n m p ≤ 21) then (1, ta f n m p)
    else if 20 ≤ o ∨ 8 ≤ S.length then (4, ta f n m p)
    else if mk f n m p 40 = true then sRun x false (true :: S) (o + 1) (tp f n m p)
    else if ky f n m p = 13 then sRun x false (false :: S) (o + 1) (tp f n m p)
    else if (sLeaf f n m C (ky f n m p) (tp f n m p)).1 = 0 then sRun x true S (o + 1) (sLeaf f n m C (ky f n m p) (tp f n m p)).2
    else ((sLeaf f n m C (ky f n m p) (tp f n m p)).1, ta f n m (sLeaf f n m C (ky f n m p) (tp f n m p)).2)
  | x + 1, true, S, o, p =>
    if tk f n m p = 0 then (if nts S = [] then (0, o) else (1, ta f n m p))
    else if ky f n m p = 11 ∨ ky f n m p = 12 then sRun x false (nts S) o (tp f n m p)
    else if mk f n m p 41 = true ∧ nts S ≠ [] then sRun x true (nts S).tail o (tp f n m p)
    else (1, ta f n m p)
/-- what sentence answers -/
def sAns : Int := if (sRun f n m C 942 false [] 0 0).1 = 0 then (sRun f n m C 942 false [] 0 0).2 else -1 - (sRun f n m C 942 false [] 0 0).2
end Sent
section Sent2
variable {f : Int → Int} {n m : Int} {C : Int → Int}
theorem nts_i : ∀ S : List Bool, nts (nts S) = nts S
  | [] => rfl
  | false :: S => nts_i S
  | true :: _ => rfl
theorem sLeaf_p {k p : Int} (hp : p ≤ n) : p ≤ (sLeaf f n m C k p).2 ∧ (sLeaf f n m C k p).2 ≤ n := by
  have h1 := tp_bd (f := f) (n := n) (m := m) hp
  have h2 := tp_bd (f := f) (n := n) (m := m) h1.2
  unfold sLeaf
  split
  · exact ⟨Int.le_refl _, hp⟩
  · split
    · split
      · exact ⟨Int.le_refl _, hp⟩
      · split
        · exact ⟨Int.le_refl _, hp⟩
        · exact h1
    · split
      · exact ⟨Int.le_refl _, hp⟩
      · split
        · exact h1
        · exact ⟨by show p ≤ tp f n m (tp f n m p); omega, h2.2⟩
/-- steps enough: more of them say the same -/
theorem sRun_more : ∀ (x : Nat) (w : Bool) (S : List Bool) (o p : Int), p ≤ n → n - p < x → sRun f n m C (x + 1) w S o p = sRun f n m C x w S o p
  | 0, w, S, o, p, hp, hx => by omega
  | x + 1, false, S, o, p, hp, hx => by
    show (if mk f n m p 40 = false ∧ ¬ (13 ≤ ky f n m p ∧ ky f n m p ≤ 21) then _ else if 20 ≤ o ∨ 8 ≤ S.length then _ else if mk f n m p 40 = true then sRun f n m C (x + 1) false (true :: S) (o + 1) (tp f n m p) else if ky f n m p = 13 then sRun f n m C (x + 1) false (false :: S) (o + 1) (tp f n m p) else if (sLeaf f n m C (ky f n m p) (tp f n m p)).1 = 0 then sRun f n m C (x + 1) true S (o + 1) (sLeaf f n m C (ky f n m p) (tp f n m p)).2 else _) = (if mk f n m p 40 = false ∧ ¬ (13 ≤ ky f n m p ∧ ky f n m p ≤ 21) then _ else if 20 ≤ o ∨ 8 ≤ S.length then _ else if mk f n m p 40 = true then sRun f n m C x false (true :: S) (o + 1) (tp f n m p) else if ky f n m p = 13 then sRun f n m C x false (false :: S) (o + 1) (tp f n m p) else if (sLeaf f n m C (ky f n m p) (tp f n m p)).1 = 0 then sRun f n m C x true S (o + 1) (sLeaf f n m C (ky f n m p) (tp f n m p)).2 else _)
    by_cases c1 : mk f n m p 40 = false ∧ ¬ (13 ≤ ky f n m p ∧ ky f n m p ≤ 21)
    · rw [if_pos c1, if_pos c1]
    · rw [if_neg c1, if_neg c1]
      by_cases c2 : 20 ≤ o ∨ 8 ≤ S.length
      · rw [if_pos c2, if_pos c2]
      · rw [if_neg c2, if_neg c2]
        have ht : tk f n m p = 1 ∨ tk f n m p = 3 := by
          by_cases e : mk f n m p 40 = true
          · exact Or.inr (of_decide_eq_true e).1
          · have k2 : ky f n m p ≠ -1 := fun z => c1 ⟨by cases hh : mk f n m p 40; rfl; exact absurd hh e, by omega⟩
            unfold ky at k2
            by_cases q : tk f n m p = 1
            · exact Or.inl q
            · rw [if_neg q] at k2; exact absurd rfl k2
        have hlt := tp_lt (f := f) (n := n) (m := m) hp (by omega)
        have hb := tp_bd (f := f) (n := n) (m := m) hp
        have hl := sLeaf_p (f := f) (m := m) (C := C) (k := ky f n m p) hb.2
        rw [sRun_more x false (true :: S) (o + 1) (tp f n m p) hb.2 (by omega), sRun_more x false (false :: S) (o + 1) (tp f n m p) hb.2 (by omega), sRun_more x true S (o + 1) (sLeaf f n m C (ky f n m p) (tp f n m p)).2 hl.2 (by omega)]
  | x + 1, true, S, o, p, hp, hx => by
    show (if tk f n m p = 0 then _ else if ky f n m p = 11 ∨ ky f n m p = 12 then sRun f n m C (x + 1) false (nts S) o (tp f n m p) else if mk f n m p 41 = true ∧ nts S ≠ [] then sRun f n m C (x + 1) true (nts S).tail o (tp f n m p) else _) = (if tk f n m p = 0 then _ else if ky f n m p = 11 ∨ ky f n m p = 12 then sRun f n m C x false (nts S) o (tp f n m p) else if mk f n m p 41 = true ∧ nts S ≠ [] then sRun f n m C x true (nts S).tail o (tp f n m p) else _)
    have hb := tp_bd (f := f) (n := n) (m := m) hp
    by_cases c0 : tk f n m p = 0
    · rw [if_pos c0, if_pos c0]
    · rw [if_neg c0, if_neg c0]
      by_cases c1 : ky f n m p = 11 ∨ ky f n m p = 12
      · have ht : tk f n m p = 1 := by
          unfold ky at c1
          by_cases q : tk f n m p = 1
          · exact q
          · rw [if_neg q] at c1; omega
        have hlt := tp_lt (f := f) (n := n) (m := m) hp (Or.inl ht)
        rw [if_pos c1, if_pos c1, sRun_more x false (nts S) o (tp f n m p) hb.2 (by omega)]
      · rw [if_neg c1, if_neg c1]
        by_cases c2 : mk f n m p 41 = true ∧ nts S ≠ []
        · have hlt := tp_lt (f := f) (n := n) (m := m) hp (Or.inr (Or.inr (of_decide_eq_true c2.1).1))
          rw [if_pos c2, if_pos c2, sRun_more x true (nts S).tail o (tp f n m p) hb.2 (by omega)]
        · rw [if_neg c2, if_neg c2]
end Sent2
/-! the reference's stack: g its rows, t its height, S the brackets and nots in it, the latest first -/
def StN (g : Int → Int) : Nat → List Bool → Prop
  | 0, S => S = []
  | t + 1, S => g (t : Int) = 20 ∧ (∃ R, S = false :: R ∧ StN g t R) ∨ g (t : Int) = 23 ∧ (∃ R, S = true :: R ∧ StN g t R) ∨ (g (t : Int) = 21 ∨ g (t : Int) = 22) ∧ ((t : Int) = 0 ∨ g ((t : Int) - 1) ≠ 20) ∧ StN g t S
def StS (g : Int → Int) (t : Int) (S : List Bool) : Prop := 0 ≤ t ∧ StN g t.toNat S
section Stk
variable {g u : Int → Int} {t : Int} {S : List Bool}
theorem StS.pos (h : StS g t S) : 0 ≤ t := h.1
theorem StS.nil : StS g 0 [] := ⟨Int.le_refl _, rfl⟩
theorem StS.up1 (h : 0 ≤ t) : (t + 1).toNat = t.toNat + 1 ∧ ((t.toNat : Nat) : Int) = t := by omega
theorem StS.no (h : StS g t S) (a : g t = 20) : StS g (t + 1) (false :: S) := by
  have e := StS.up1 h.1
  refine ⟨by have := h.1; omega, ?_⟩
  rw [e.1]
  exact Or.inl ⟨by rw [e.2]; exact a, S, rfl, h.2⟩
theorem StS.op (h : StS g t S) (a : g t = 23) : StS g (t + 1) (true :: S) := by
  have e := StS.up1 h.1
  refine ⟨by have := h.1; omega, ?_⟩
  rw [e.1]
  exact Or.inr (Or.inl ⟨by rw [e.2]; exact a, S, rfl, h.2⟩)
theorem StS.jn (h : StS g t S) (b : t = 0 ∨ g (t - 1) ≠ 20) (a : g t = 21 ∨ g t = 22) : StS g (t + 1) S := by
  have e := StS.up1 h.1
  refine ⟨by have := h.1; omega, ?_⟩
  rw [e.1]
  exact Or.inr (Or.inr ⟨by rw [e.2]; exact a, by rw [e.2]; exact b, h.2⟩)
theorem StS.cs (h : StS g t S) (a : 0 < t) : g (t - 1) = 20 ∧ (∃ R, S = false :: R ∧ StS g (t - 1) R) ∨ g (t - 1) = 23 ∧ (∃ R, S = true :: R ∧ StS g (t - 1) R) ∨ (g (t - 1) = 21 ∨ g (t - 1) = 22) ∧ (t - 1 = 0 ∨ g (t - 1 - 1) ≠ 20) ∧ StS g (t - 1) S := by
  obtain ⟨k, e⟩ : ∃ k : Nat, t - 1 = k := ⟨(t - 1).toNat, by omega⟩
  have e1 : t.toNat = k + 1 := by omega
  have h2 := h.2
  rw [e1] at h2
  have z : ∀ R, StN g k R → StS g (t - 1) R := fun R y => ⟨by omega, by rw [e, Int.toNat_natCast]; exact y⟩
  rw [e]
  rw [e] at z
  rcases h2 with ⟨x, R, y, w⟩ | ⟨x, R, y, w⟩ | ⟨x, y, w⟩
  · exact Or.inl ⟨x, R, y, z R w⟩
  · exact Or.inr (Or.inl ⟨x, R, y, z R w⟩)
  · exact Or.inr (Or.inr ⟨x, y, z S w⟩)
theorem StN.cg : ∀ (k : Nat) (S : List Bool), StN g k S → (∀ j : Int, 0 ≤ j → j < k → u j = g j) → StN u k S
  | 0, S, h, _ => h
  | k + 1, S, h, e => by
    have e0 : u (k : Int) = g k := e k (by omega) (by omega)
    have ih := fun R y => StN.cg k R y (fun j a b => e j a (by omega))
    rcases h with ⟨x, R, y, w⟩ | ⟨x, R, y, w⟩ | ⟨x, y, w⟩
    · exact Or.inl ⟨by rw [e0]; exact x, R, y, ih R w⟩
    · exact Or.inr (Or.inl ⟨by rw [e0]; exact x, R, y, ih R w⟩)
    · refine Or.inr (Or.inr ⟨by rw [e0]; exact x, ?_, ih S w⟩)
      by_cases c : (k : Int) = 0
      · exact Or.inl c
      · rcases y with y | y
        · exact absurd y c
        · exact Or.inr (by rw [e _ (by omega) (by omega)]; exact y)
theorem StS.cg (h : StS g t S) (e : ∀ k, 0 ≤ k → k < t → u k = g k) : StS u t S := ⟨h.1, StN.cg _ S h.2 fun j a b => e j a (by have := h.1; omega)⟩
theorem StN.nt : ∀ (k : Nat) (S : List Bool), StN g k S → ((k : Int) = 0 ∨ g ((k : Int) - 1) ≠ 20) → nts S = S
  | 0, S, h, _ => by rw [show S = [] from h]; rfl
  | k + 1, S, h, b => by
    have e : ((k + 1 : Nat) : Int) - 1 = k := by omega
    rw [e] at b
    rcases h with ⟨x, R, y, w⟩ | ⟨x, R, y, w⟩ | ⟨x, y, w⟩
    · rcases b with b | b
      · omega
      · exact absurd x b
    · rw [y]; rfl
    · exact StN.nt k S w y
/-- no not on top: none waits -/
theorem StS.nt (h : StS g t S) (b : t = 0 ∨ g (t - 1) ≠ 20) : nts S = S := StN.nt _ S h.2 (by rw [Int.toNat_of_nonneg h.1]; exact b)
theorem StN.len : ∀ (k : Nat) (S : List Bool), StN g k S → S.length ≤ k
  | 0, S, h => by rw [show S = [] from h]; exact Nat.le_refl 0
  | k + 1, S, h => by
    rcases h with ⟨-, R, y, w⟩ | ⟨-, R, y, w⟩ | ⟨-, -, w⟩
    · have := StN.len k R w
      rw [y, List.length_cons]; omega
    · have := StN.len k R w
      rw [y, List.length_cons]; omega
    · have := StN.len k S w
      omega
theorem StS.len (h : StS g t S) : (S.length : Int) ≤ t := by
  have := StN.len _ S h.2
  have := h.1
  omega
/-- a not on top goes -/
theorem StS.no1 (h : StS g t S) (a : 0 < t) (b : g (t - 1) = 20) : ∃ S2, S = false :: S2 ∧ StS g (t - 1) S2 := by
  rcases h.cs a with ⟨-, R, y, w⟩ | ⟨x, -⟩ | ⟨x, -⟩
  · exact ⟨R, y, w⟩
  · omega
  · omega
/-- a join on top goes -/
theorem StS.jn1 (h : StS g t S) (a : 0 < t) (b : g (t - 1) = 21 ∨ g (t - 1) = 22) : StS g (t - 1) S ∧ (t - 1 = 0 ∨ g (t - 1 - 1) ≠ 20) := by
  rcases h.cs a with ⟨x, -⟩ | ⟨x, -⟩ | ⟨-, y, w⟩
  · omega
  · omega
  · exact ⟨w, y⟩
/-- what is on top where neither not nor join is -/
theorem StS.top (h : StS g t S) (b : t = 0 ∨ g (t - 1) ≠ 20) (c : t ≤ 0 ∨ g (t - 1) ≠ 21 ∧ g (t - 1) ≠ 22) : t = 0 ∧ S = [] ∨ 0 < t ∧ ∃ S2, S = true :: S2 ∧ StS g (t - 1) S2 := by
  have p := h.1
  by_cases z : t = 0
  · have h2 := h.2
    rw [z] at h2
    exact Or.inl ⟨z, h2⟩
  · rcases h.cs (by omega) with ⟨x, -⟩ | ⟨-, R, y, w⟩ | ⟨x, -⟩
    · rcases b with b | b
      · exact absurd b z
      · exact absurd x b
    · exact Or.inr ⟨by omega, R, y, w⟩
    · omega
/-- the stack with its depth -/
def StD (g : Int → Int) (t d : Int) (S : List Bool) : Prop := StS g t S ∧ d = S.length + 1
theorem StD.no1 {d : Int} (h : StD g t d S) (a : 0 < t) (b : g (t - 1) = 20) {R : List Bool} (hR : nts S = R) : ∃ S2, nts S2 = R ∧ StD g (t - 1) (d - 1) S2 := by
  obtain ⟨S2, e, h2⟩ := h.1.no1 a b
  refine ⟨S2, by rw [← hR, e]; rfl, h2, ?_⟩
  have := h.2
  rw [e, List.length_cons] at this
  omega
end Stk
/-! the machine with steps enough: no count of steps any more -/
def sR (f : Int → Int) (n m : Int) (C : Int → Int) (w : Bool) (S : List Bool) (o p : Int) : Int × Int := sRun f n m C 942 w S o p
section Run
variable {f : Int → Int} {n m : Int} {C : Int → Int} {S : List Bool} {o p : Int}
theorem sR_f (hn : n ≤ 940) (h0 : 0 ≤ p) (hp : p ≤ n) : sR f n m C false S o p =
    if mk f n m p 40 = false ∧ ¬ (13 ≤ ky f n m p ∧ ky f n m p ≤ 21) then (1, ta f n m p)
    else if 20 ≤ o ∨ 8 ≤ S.length then (4, ta f n m p)
    else if mk f n m p 40 = true then sR f n m C false (true :: S) (o + 1) (tp f n m p)
    else if ky f n m p = 13 then sR f n m C false (false :: S) (o + 1) (tp f n m p)
    else if (sLeaf f n m C (ky f n m p) (tp f n m p)).1 = 0 then sR f n m C true S (o + 1) (sLeaf f n m C (ky f n m p) (tp f n m p)).2
    else ((sLeaf f n m C (ky f n m p) (tp f n m p)).1, ta f n m (sLeaf f n m C (ky f n m p) (tp f n m p)).2) := by
  have hb := tp_bd (f := f) (n := n) (m := m) hp
  have hl := sLeaf_p (f := f) (m := m) (C := C) (k := ky f n m p) hb.2
  unfold sR
  rw [sRun_more 941 false (true :: S) (o + 1) (tp f n m p) hb.2 (by omega), sRun_more 941 false (false :: S) (o + 1) (tp f n m p) hb.2 (by omega), sRun_more 941 true S (o + 1) (sLeaf f n m C (ky f n m p) (tp f n m p)).2 hl.2 (by omega)]
  rfl
theorem sR_t (hn : n ≤ 940) (h0 : 0 ≤ p) (hp : p ≤ n) : sR f n m C true S o p =
    if tk f n m p = 0 then (if nts S = [] then (0, o) else (1, ta f n m p))
    else if ky f n m p = 11 ∨ ky f n m p = 12 then sR f n m C false (nts S) o (tp f n m p)
    else if mk f n m p 41 = true ∧ nts S ≠ [] then sR f n m C true (nts S).tail o (tp f n m p)
    else (1, ta f n m p) := by
  have hb := tp_bd (f := f) (n := n) (m := m) hp
  unfold sR
  rw [sRun_more 941 false (nts S) o (tp f n m p) hb.2 (by omega), sRun_more 941 true (nts S).tail o (tp f n m p) hb.2 (by omega)]
  rfl
theorem sR_bad (hn : n ≤ 940) (h0 : 0 ≤ p) (hp : p ≤ n) (a : mk f n m p 40 = false) (b : ¬ (13 ≤ ky f n m p ∧ ky f n m p ≤ 21)) : sR f n m C false S o p = (1, ta f n m p) := by
  rw [sR_f hn h0 hp, if_pos ⟨a, b⟩]
theorem sR_many (hn : n ≤ 940) (h0 : 0 ≤ p) (hp : p ≤ n) (a : mk f n m p 40 = true ∨ 13 ≤ ky f n m p ∧ ky f n m p ≤ 21) (b : 20 ≤ o ∨ 8 ≤ S.length) : sR f n m C false S o p = (4, ta f n m p) := by
  rw [sR_f hn h0 hp, if_neg (fun z => a.elim (fun y => by rw [z.1] at y; exact absurd y (by decide)) z.2), if_pos b]
theorem sR_open (hn : n ≤ 940) (h0 : 0 ≤ p) (hp : p ≤ n) (a : mk f n m p 40 = true) (b : o < 20) (c : S.length < 8) : sR f n m C false S o p = sR f n m C false (true :: S) (o + 1) (tp f n m p) := by
  rw [sR_f hn h0 hp, if_neg (fun z => by rw [z.1] at a; exact absurd a (by decide)), if_neg (by omega), if_pos a]
theorem sR_not (hn : n ≤ 940) (h0 : 0 ≤ p) (hp : p ≤ n) (a : mk f n m p 40 = false) (k : ky f n m p = 13) (b : o < 20) (c : S.length < 8) : sR f n m C false S o p = sR f n m C false (false :: S) (o + 1) (tp f n m p) := by
  rw [sR_f hn h0 hp, if_neg (fun z => z.2 (by omega)), if_neg (by omega), if_neg (by rw [a]; decide), if_pos k]
theorem sR_leaf (hn : n ≤ 940) (h0 : 0 ≤ p) (hp : p ≤ n) (a : mk f n m p 40 = false) (k : 14 ≤ ky f n m p ∧ ky f n m p ≤ 21) (b : o < 20) (c : S.length < 8) (d : (sLeaf f n m C (ky f n m p) (tp f n m p)).1 = 0) : sR f n m C false S o p = sR f n m C true S (o + 1) (sLeaf f n m C (ky f n m p) (tp f n m p)).2 := by
  rw [sR_f hn h0 hp, if_neg (fun z => z.2 (by omega)), if_neg (by omega), if_neg (by rw [a]; decide), if_neg (by omega), if_pos d]
theorem sR_leafb (hn : n ≤ 940) (h0 : 0 ≤ p) (hp : p ≤ n) (a : mk f n m p 40 = false) (k : 14 ≤ ky f n m p ∧ ky f n m p ≤ 21) (b : o < 20) (c : S.length < 8) (d : (sLeaf f n m C (ky f n m p) (tp f n m p)).1 ≠ 0) : sR f n m C false S o p = ((sLeaf f n m C (ky f n m p) (tp f n m p)).1, ta f n m (sLeaf f n m C (ky f n m p) (tp f n m p)).2) := by
  rw [sR_f hn h0 hp, if_neg (fun z => z.2 (by omega)), if_neg (by omega), if_neg (by rw [a]; decide), if_neg (by omega), if_neg d]
theorem sR_end (hn : n ≤ 940) (h0 : 0 ≤ p) (hp : p ≤ n) (a : tk f n m p = 0) (b : nts S = []) : sR f n m C true S o p = (0, o) := by
  rw [sR_t hn h0 hp, if_pos a, if_pos b]
theorem sR_endb (hn : n ≤ 940) (h0 : 0 ≤ p) (hp : p ≤ n) (a : tk f n m p = 0) (b : nts S ≠ []) : sR f n m C true S o p = (1, ta f n m p) := by
  rw [sR_t hn h0 hp, if_pos a, if_neg b]
theorem sR_join (hn : n ≤ 940) (h0 : 0 ≤ p) (hp : p ≤ n) (a : ky f n m p = 11 ∨ ky f n m p = 12) : sR f n m C true S o p = sR f n m C false (nts S) o (tp f n m p) := by
  have t : tk f n m p ≠ 0 := by
    unfold ky at a
    by_cases q : tk f n m p = 1
    · omega
    · rw [if_neg q] at a; omega
  rw [sR_t hn h0 hp, if_neg t, if_pos a]
theorem sR_shut (hn : n ≤ 940) (h0 : 0 ≤ p) (hp : p ≤ n) (a : mk f n m p 41 = true) (b : nts S ≠ []) : sR f n m C true S o p = sR f n m C true (nts S).tail o (tp f n m p) := by
  have t := (of_decide_eq_true a).1
  have k : ¬ (ky f n m p = 11 ∨ ky f n m p = 12) := by
    unfold ky
    rw [if_neg (by omega)]
    omega
  rw [sR_t hn h0 hp, if_neg (by omega), if_neg k, if_pos ⟨a, b⟩]
theorem sR_badt (hn : n ≤ 940) (h0 : 0 ≤ p) (hp : p ≤ n) (t : tk f n m p ≠ 0) (k : ¬ (ky f n m p = 11 ∨ ky f n m p = 12)) (b : ¬ (mk f n m p 41 = true ∧ nts S ≠ [])) : sR f n m C true S o p = (1, ta f n m p) := by
  rw [sR_t hn h0 hp, if_neg t, if_neg k, if_neg b]
end Run
/-- a step of the reference's sentence is a step of the machine -/
def SmP (F : Int → Int) (n m : Int) (C : Int → Int) (w : Bool) (S : List Bool) (o p : Int) (v : Mv) (r : Int) : Prop :=
  r = 1 ∧ (∃ S2 p2, StD (v 205) (v 178 53) (v 178 54) S2 ∧ TkM F n m v p2 ∧ sR F n m C w S o p = sR F n m C (decide (v 178 55 = 1)) S2 (v 178 52) p2) ∨
  r = 0 ∧ v 178 15 ≠ 0 ∧ sR F n m C w S o p = (v 178 15, v 178 16)
section Smp
variable {F : Int → Int} {n m : Int} {C : Int → Int} {w : Bool} {S S2 : List Bool} {o p p2 k o2 : Int} {v : Mv}
theorem SmP.mk1 (hS : StD (v 205) (v 178 53) (v 178 54) S2) (hT : TkM F n m v p2) (e : v 178 55 = 1) (eo : v 178 52 = o2) (h : sR F n m C w S o p = sR F n m C true S2 o2 p2) : SmP F n m C w S o p v 1 :=
  Or.inl ⟨rfl, S2, p2, hS, hT, by rw [h, decide_eq_true e, eo]⟩
theorem SmP.mk0 (hS : StD (v 205) (v 178 53) (v 178 54) S2) (hT : TkM F n m v p2) (e : v 178 55 = 0) (eo : v 178 52 = o2) (h : sR F n m C w S o p = sR F n m C false S2 o2 p2) : SmP F n m C w S o p v 1 :=
  Or.inl ⟨rfl, S2, p2, hS, hT, by rw [h, decide_eq_false (by omega), eo]⟩
theorem SmP.bad (h15 : v 178 15 = k) (h16 : v 178 16 = ta F n m p2) (hk : k ≠ 0) (h : sR F n m C w S o p = (k, ta F n m p2)) : SmP F n m C w S o p v 0 :=
  Or.inr ⟨rfl, by omega, by rw [h, h15, h16]⟩
end Smp
/-- the next token is behind this one, or there is none -/
theorem TkM.adv {F : Int → Int} {n m p : Int} {v v' : Mv} (h : TkM F n m v p) (h2 : TkM F n m v' (tp F n m p)) (hr : 0 ≤ v' 178 11 ∧ v' 178 11 ≤ 4) : v 178 4 < v' 178 4 ∨ v' 178 11 = 0 ∨ v' 178 11 = 4 := by
  obtain ⟨-, -, -, -, -, a4, -⟩ := h
  obtain ⟨-, b1, -, -, -, b4, b11, -⟩ := h2
  by_cases c : tk F n m (tp F n m p) = 1 ∨ tk F n m (tp F n m p) = 2 ∨ tk F n m (tp F n m p) = 3
  · have := tp_lt (f := F) (n := n) (m := m) b1 c
    omega
  · omega
section Leaf
variable {F : Int → Int} {n m : Int} {C : Int → Int} {k p : Int}
theorem ky_1 (h : ky F n m p ≠ -1) : tk F n m p = 1 := by
  unfold ky at h
  by_cases q : tk F n m p = 1
  · exact q
  · rw [if_neg q] at h; exact absurd rfl h
theorem sLeaf_0 (h : k = 14 ∨ k = 15 ∨ k = 17) : sLeaf F n m C k p = (0, p) := by unfold sLeaf; rw [if_pos h]
theorem sLeaf_h1 (h : k = 16) (a : nm F n m p = false) : sLeaf F n m C k p = (1, p) := by unfold sLeaf; rw [if_neg (by omega), if_pos h, if_pos a]
theorem sLeaf_h3 (h : k = 16) (a : nm F n m p = true) (b : C (tn F n p) = -1) : sLeaf F n m C k p = (3, p) := by unfold sLeaf; rw [if_neg (by omega), if_pos h, if_neg (by rw [a]; decide), if_pos b]
theorem sLeaf_h0 (h : k = 16) (a : nm F n m p = true) (b : C (tn F n p) ≠ -1) : sLeaf F n m C k p = (0, tp F n m p) := by unfold sLeaf; rw [if_neg (by omega), if_pos h, if_neg (by rw [a]; decide), if_neg b]
theorem sLeaf_c1 (h : 18 ≤ k) (a : ¬ (tk F n m p = 3 ∧ 60 ≤ tv F n p ∧ tv F n p ≤ 62)) : sLeaf F n m C k p = (1, p) := by unfold sLeaf; rw [if_neg (by omega), if_neg (by omega), if_pos a]
theorem sLeaf_c2 (h : 18 ≤ k) (a : tk F n m p = 3 ∧ 60 ≤ tv F n p ∧ tv F n p ≤ 62) (b : tk F n m (tp F n m p) ≠ 2) : sLeaf F n m C k p = (1, tp F n m p) := by unfold sLeaf; rw [if_neg (by omega), if_neg (by omega), if_neg (fun z => z a), if_pos b]
theorem sLeaf_c0 (h : 18 ≤ k) (a : tk F n m p = 3 ∧ 60 ≤ tv F n p ∧ tv F n p ≤ 62) (b : tk F n m (tp F n m p) = 2) : sLeaf F n m C k p = (0, tp F n m (tp F n m p)) := by unfold sLeaf; rw [if_neg (by omega), if_neg (by omega), if_neg (fun z => z a), if_neg (fun z => z b)]
variable {S : List Bool} {o : Int} {a b : Int}
theorem sR_l1 (hn : n ≤ 940) (h0 : 0 ≤ p) (hp : p ≤ n) (hm : mk F n m p 40 = false) (hk : 14 ≤ ky F n m p ∧ ky F n m p ≤ 21) (ho : o < 20) (hc : S.length < 8) (e : sLeaf F n m C (ky F n m p) (tp F n m p) = (0, b)) : sR F n m C false S o p = sR F n m C true S (o + 1) b := by
  rw [sR_leaf hn h0 hp hm hk ho hc (by rw [e]), e]
theorem sR_l0 (hn : n ≤ 940) (h0 : 0 ≤ p) (hp : p ≤ n) (hm : mk F n m p 40 = false) (hk : 14 ≤ ky F n m p ∧ ky F n m p ≤ 21) (ho : o < 20) (hc : S.length < 8) (e : sLeaf F n m C (ky F n m p) (tp F n m p) = (a, b)) (ha : a ≠ 0) : sR F n m C false S o p = (a, ta F n m b) := by
  rw [sR_leafb hn h0 hp hm hk ho hc (by rw [e]; exact ha), e]
end Leaf
/-- while the reference's sentence is read: ok 0: it is done -/
def SqI (F : Int → Int) (n m : Int) (C : Int → Int) (v : Mv) (ok : Int) : Prop :=
  ok = 1 ∧ (∃ S p, StD (v 205) (v 178 53) (v 178 54) S ∧ TkM F n m v p ∧ sR F n m C false [] 0 0 = sR F n m C (decide (v 178 55 = 1)) S (v 178 52) p) ∨ ok = 0 ∧ sR F n m C false [] 0 0 = (0, v 178 52) ∧ v 178 15 = 0
section Sqi
variable {F : Int → Int} {n m : Int} {C : Int → Int} {v : Mv} {ok o p r k x : Int} {w : Bool} {S : List Bool}
theorem SqI.run (h : SqI F n m C v ok) (hk : ok ≠ 0) : ∃ S p, StD (v 205) (v 178 53) (v 178 54) S ∧ TkM F n m v p ∧ sR F n m C false [] 0 0 = sR F n m C (decide (v 178 55 = 1)) S (v 178 52) p := by
  rcases h with ⟨-, z⟩ | ⟨z, -⟩
  · exact z
  · exact absurd z hk
theorem SqI.done (h : SqI F n m C v ok) (hk : ok = 0) : sR F n m C false [] 0 0 = (0, v 178 52) ∧ v 178 15 = 0 := by
  rcases h with ⟨z, -⟩ | ⟨-, z⟩
  · omega
  · exact z
theorem SqI.next (e : sR F n m C false [] 0 0 = sR F n m C w S o p) (h : SmP F n m C w S o p v r) (hr : r ≠ 0) (hok : ok = 1) : SqI F n m C v ok := by
  rcases h with ⟨-, S2, p2, a, b, c⟩ | ⟨z, -⟩
  · exact Or.inl ⟨hok, S2, p2, a, b, e.trans c⟩
  · exact absurd z hr
theorem sAns_0 (h : sR F n m C false [] 0 0 = (0, x)) : sAns F n m C = x := by
  unfold sR at h
  unfold sAns
  rw [h]
  rfl
theorem sAns_1 (h : sR F n m C false [] 0 0 = (k, x)) (hk : k ≠ 0) : sAns F n m C = -1 - x := by
  unfold sR at h
  unfold sAns
  rw [h, if_neg (show ¬ k = 0 from hk)]
theorem SmP.ans (e : sR F n m C false [] 0 0 = sR F n m C w S o p) (h : SmP F n m C w S o p v r) (hr : r = 0) : -1 - v 178 16 = sAns F n m C := by
  rcases h with ⟨z, -⟩ | ⟨-, a, b⟩
  · omega
  · exact (sAns_1 (e.trans b) a).symm
end Sqi
theorem SmP.fa {F : Int → Int} {n m : Int} {C : Int → Int} {w : Bool} {S : List Bool} {o p r : Int} {v : Mv} (e : sR F n m C false [] 0 0 = sR F n m C w S o p) (h : SmP F n m C w S o p v r) (hr : r = 0) : v 178 15 = (sR F n m C false [] 0 0).1 := by
  rcases h with ⟨z, -⟩ | ⟨-, a, b⟩
  · omega
  · rw [e, b]
