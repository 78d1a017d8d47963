/-! A LOG's text: what both parsers do, as a function. f the bytes, n how many, m how many may be read; C a colour's place by its name, P a player's (-1: none); i the lines that were -/
section LogT
variable (f : Int → Int) (n m : Int) (C P : Int → Int)
/-- who acts, what he does: (0, the place where the word for it stands) or (fault, place) -/
def lAct (i p : Int) : Int × Int :=
  if ky f n m p = 9 then (if i = 40 then (4, p) else (0, p))
  else if nm f n m p = false then (1, p)
  else if P (tn f n p) = -1 then (3, p)
  else if i = 40 then (4, p)
  else if ky f n m (tp f n m p) = 7 ∨ ky f n m (tp f n m p) = 8 then (0, tp f n m p)
  else (1, tp f n m p)
/-- the colour at q; g: grey may stand there -/
def lCol (g : Bool) (q : Int) : Int × Int :=
  if g = true ∧ ky f n m q = 10 then (0, q)
  else if nm f n m q = false then (1, q)
  else if C (tn f n q) = -1 then (3, q)
  else (0, q)
/-- a line, without the sign that closes it: (0, its last token's place) or (fault, place) -/
def lLine (i p : Int) : Int × Int :=
  if (lAct f n m P i p).1 = 0 then lCol f n m C (decide (ky f n m p = 9)) (tp f n m (lAct f n m P i p).2) else lAct f n m P i p
/-- all lines: (0, how many) or (fault, its place) -/
def lAll : Nat → Int → Int → Int × Int
  | 0, i, _ => (0, i)
  | k + 1, i, p =>
    if tk f n m p = 0 then (0, i)
    else if (lLine f n m C P i p).1 = 0 then
      (if mk f n m (tp f n m (lLine f n m C P i p).2) 59 = true then lAll k (i + 1) (tp f n m (tp f n m (lLine f n m C P i p).2)) else (1, ta f n m (tp f n m (lLine f n m C P i p).2)))
    else ((lLine f n m C P i p).1, ta f n m (lLine f n m C P i p).2)
def lA (i p : Int) : Int × Int := lAll f n m C P (41 - i).toNat i p
end LogT
section LogT2
variable {f : Int → Int} {n m : Int} {C P : Int → Int} {i p q a : Int} {g : Bool}
theorem nm_ky (h : nm f n m p = true) : ky f n m p = -1 := by
  have z := of_decide_eq_true h
  unfold ky
  rw [if_pos z.1]
  exact z.2
theorem lAct_c4 (h : ky f n m p = 9) (hi : i = 40) : lAct f n m P i p = (4, p) := by unfold lAct; rw [if_pos h, if_pos hi]
theorem lAct_c0 (h : ky f n m p = 9) (hi : i ≠ 40) : lAct f n m P i p = (0, p) := by unfold lAct; rw [if_pos h, if_neg hi]
theorem lAct_1 (h : ky f n m p ≠ 9) (hn : nm f n m p = false) : lAct f n m P i p = (1, p) := by unfold lAct; rw [if_neg h, if_pos hn]
theorem lAct_3 (hn : nm f n m p = true) (hP : P (tn f n p) = -1) : lAct f n m P i p = (3, p) := by
  have k := nm_ky hn
  unfold lAct
  rw [if_neg (by omega), if_neg (by rw [hn]; decide), if_pos hP]
theorem lAct_4 (hn : nm f n m p = true) (hP : P (tn f n p) ≠ -1) (hi : i = 40) : lAct f n m P i p = (4, p) := by
  have k := nm_ky hn
  unfold lAct
  rw [if_neg (by omega), if_neg (by rw [hn]; decide), if_neg hP, if_pos hi]
theorem lAct_v0 (hn : nm f n m p = true) (hP : P (tn f n p) ≠ -1) (hi : i ≠ 40) (hv : ky f n m (tp f n m p) = 7 ∨ ky f n m (tp f n m p) = 8) : lAct f n m P i p = (0, tp f n m p) := by
  have k := nm_ky hn
  unfold lAct
  rw [if_neg (by omega), if_neg (by rw [hn]; decide), if_neg hP, if_neg hi, if_pos hv]
theorem lAct_v1 (hn : nm f n m p = true) (hP : P (tn f n p) ≠ -1) (hi : i ≠ 40) (hv : ¬ (ky f n m (tp f n m p) = 7 ∨ ky f n m (tp f n m p) = 8)) : lAct f n m P i p = (1, tp f n m p) := by
  have k := nm_ky hn
  unfold lAct
  rw [if_neg (by omega), if_neg (by rw [hn]; decide), if_neg hP, if_neg hi, if_neg hv]
theorem lCol_g (h : ky f n m q = 10) : lCol f n m C true q = (0, q) := if_pos ⟨rfl, h⟩
theorem lCol_1 (hg : g = false ∨ ky f n m q ≠ 10) (hn : nm f n m q = false) : lCol f n m C g q = (1, q) := by
  unfold lCol
  rw [if_neg (fun z => hg.elim (fun y => by rw [y] at z; exact absurd z.1 (by decide)) (fun y => y z.2)), if_pos hn]
theorem lCol_3 (hn : nm f n m q = true) (h : C (tn f n q) = -1) : lCol f n m C g q = (3, q) := by
  have k := nm_ky hn
  unfold lCol
  rw [if_neg (fun z => by have := z.2; omega), if_neg (by rw [hn]; decide), if_pos h]
theorem lCol_0 (hn : nm f n m q = true) (h : C (tn f n q) ≠ -1) : lCol f n m C g q = (0, q) := by
  have k := nm_ky hn
  unfold lCol
  rw [if_neg (fun z => by have := z.2; omega), if_neg (by rw [hn]; decide), if_neg h]
theorem lLine_a (h : lAct f n m P i p = (a, q)) (ha : a ≠ 0) : lLine f n m C P i p = (a, q) := by
  unfold lLine
  rw [h, if_neg ha]
theorem lLine_c (h : lAct f n m P i p = (0, q)) {b : Int × Int} (hb : lCol f n m C (decide (ky f n m p = 9)) (tp f n m q) = b) : lLine f n m C P i p = b := by
  unfold lLine
  rw [h, if_pos rfl]
  exact hb
theorem lLine_i (h : (lLine f n m C P i p).1 = 0) : i ≠ 40 := by
  intro e
  have k : (lAct f n m P i p).1 ≠ 0 := by
    unfold lAct
    rw [if_pos e, if_pos e]
    by_cases c1 : ky f n m p = 9
    · rw [if_pos c1]
      exact (show (4 : Int) ≠ 0 by decide)
    · rw [if_neg c1]
      by_cases c2 : nm f n m p = false
      · rw [if_pos c2]
        exact (show (1 : Int) ≠ 0 by decide)
      · rw [if_neg c2]
        by_cases c3 : P (tn f n p) = -1
        · rw [if_pos c3]
          exact (show (3 : Int) ≠ 0 by decide)
        · rw [if_neg c3]
          exact (show (4 : Int) ≠ 0 by decide)
  unfold lLine at h
  rw [if_neg k] at h
  exact k h
theorem lA_s (hi : i ≤ 40) : lA f n m C P i p = if tk f n m p = 0 then (0, i)
    else if (lLine f n m C P i p).1 = 0 then
      (if mk f n m (tp f n m (lLine f n m C P i p).2) 59 = true then lA f n m C P (i + 1) (tp f n m (tp f n m (lLine f n m C P i p).2)) else (1, ta f n m (tp f n m (lLine f n m C P i p).2)))
    else ((lLine f n m C P i p).1, ta f n m (lLine f n m C P i p).2) := by
  unfold lA
  rw [show (41 - i).toNat = (41 - (i + 1)).toNat + 1 by omega]
  rfl
theorem lA_end (hi : i ≤ 40) (h : tk f n m p = 0) : lA f n m C P i p = (0, i) := by rw [lA_s hi, if_pos h]
theorem lA_bad (hi : i ≤ 40) (h : tk f n m p ≠ 0) (e : lLine f n m C P i p = (a, q)) (ha : a ≠ 0) : lA f n m C P i p = (a, ta f n m q) := by
  rw [lA_s hi, if_neg h, e, if_neg ha]
theorem lA_sg (hi : i ≤ 40) (h : tk f n m p ≠ 0) (e : lLine f n m C P i p = (0, q)) (hm : mk f n m (tp f n m q) 59 = false) : lA f n m C P i p = (1, ta f n m (tp f n m q)) := by
  rw [lA_s hi, if_neg h, e, if_pos rfl, if_neg (by rw [hm]; decide)]
theorem lA_st (hi : i ≤ 40) (h : tk f n m p ≠ 0) (e : lLine f n m C P i p = (0, q)) (hm : mk f n m (tp f n m q) 59 = true) : lA f n m C P i p = lA f n m C P (i + 1) (tp f n m (tp f n m q)) := by
  rw [lA_s hi, if_neg h, e, if_pos rfl, if_pos hm]
end LogT2
/-- how the reference reads a log's line -/
def LlM (F : Int → Int) (n m : Int) (C P : Int → Int) (v' : Mv) (i p r : Int) : Prop :=
  r = 1 ∧ (∃ q, lLine F n m C P i p = (0, q) ∧ TkM F n m v' (tp F n m q)) ∨
  r = 0 ∧ ∃ q a, lLine F n m C P i p = (a, q) ∧ a ≠ 0 ∧ v' 178 15 = a ∧ v' 178 16 = ta F n m q
theorem LlM.bad {F : Int → Int} {n m : Int} {C P : Int → Int} {v' : Mv} {i p q a : Int} (h : lLine F n m C P i p = (a, q)) (ha : a ≠ 0) (h15 : v' 178 15 = a) (h16 : v' 178 16 = ta F n m q) : LlM F n m C P v' i p 0 := Or.inr ⟨rfl, q, a, h, ha, h15, h16⟩
theorem LlM.good {F : Int → Int} {n m : Int} {C P : Int → Int} {v' : Mv} {i p q : Int} (h : lLine F n m C P i p = (0, q)) (hT : TkM F n m v' (tp F n m q)) : LlM F n m C P v' i p 1 := Or.inl ⟨rfl, q, h, hT⟩
/-- looksAt, over the ten names -/
def LoP (F : Int → Int) (n m p x : Int) (v' : Mv) (r : Int) : Prop := r = 1 ∧ nm F n m p = true ∧ x ≠ -1 ∧ TkM F n m v' p ∨ r = 0 ∧ (nm F n m p = false ∧ v' 178 15 = 1 ∨ nm F n m p = true ∧ x = -1 ∧ v' 178 15 = 3) ∧ v' 178 16 = ta F n m p
/-- looksAt at a colour: the line ends there -/
theorem LoP.col {F : Int → Int} {n m : Int} {C P : Int → Int} {v' : Mv} {i p q r x : Int} (h : LoP F n m (tp F n m q) x v' r) (hx : C (tn F n (tp F n m q)) = x) (hA : lAct F n m P i p = (0, q)) (hg : ky F n m p ≠ 9 ∨ ky F n m (tp F n m q) ≠ 10) (hr : r = 0) : LlM F n m C P v' i p 0 := by
  rcases h with ⟨a, -⟩ | ⟨-, ⟨a, b⟩ | ⟨a, b, c⟩, d⟩
  · omega
  · exact LlM.bad (lLine_c hA (lCol_1 (hg.imp (fun y => decide_eq_false y) id) a)) (by decide) b d
  · exact LlM.bad (lLine_c hA (lCol_3 a (hx.trans b))) (by decide) c d
theorem LoP.ok {F : Int → Int} {n m p x r : Int} {v' : Mv} (h : LoP F n m p x v' r) (hr : r ≠ 0) : nm F n m p = true ∧ x ≠ -1 ∧ TkM F n m v' p := by
  rcases h with ⟨-, z⟩ | ⟨z, -⟩
  · exact z
  · exact absurd z hr
/-- looksAt at a player -/
theorem LoP.who {F : Int → Int} {n m : Int} {C P : Int → Int} {v' : Mv} {i p r x : Int} (h : LoP F n m p x v' r) (hx : P (tn F n p) = x) (hk : ky F n m p ≠ 9) (hr : r = 0) : LlM F n m C P v' i p 0 := by
  rcases h with ⟨a, -⟩ | ⟨-, ⟨a, b⟩ | ⟨a, b, c⟩, d⟩
  · omega
  · exact LlM.bad (lLine_a (lAct_1 hk a) (by decide)) (by decide) b d
  · exact LlM.bad (lLine_a (lAct_3 a (hx.trans b)) (by decide)) (by decide) c d
/-- while a log is read by the reference -/
def LgI (F : Int → Int) (n m : Int) (C P : Int → Int) (v : Mv) : Prop := ∃ p, TkM F n m v p ∧ lA F n m C P 0 0 = lA F n m C P (v 178 47) p
/-- what the class's reader of who acts says -/
def LaC (F : Int → Int) (n m : Int) (P : Int → Int) (v' ρ : Mv) (t i p r : Int) : Prop :=
  r = 1 ∧ (∃ q, lAct F n m P i p = (0, q) ∧ TkC F n m v' ρ (ρ t 0) q ∧ v' (ρ t 1) i = ky F n m q) ∨
  r = 0 ∧ ∃ q a, lAct F n m P i p = (a, q) ∧ a ≠ 0 ∧ v' (ρ t 0) 9 = a ∧ v' (ρ t 0) 10 = ta F n m q
def LcC (F : Int → Int) (n m : Int) (C : Int → Int) (v' ρ : Mv) (t q r : Int) (g : Bool) : Prop :=
  r = 1 ∧ lCol F n m C g (tp F n m q) = (0, tp F n m q) ∧ TkC F n m v' ρ (ρ t 0) (tp F n m q) ∨
  r = 0 ∧ ∃ a, lCol F n m C g (tp F n m q) = (a, tp F n m q) ∧ a ≠ 0 ∧ v' (ρ t 0) 9 = a ∧ v' (ρ t 0) 10 = ta F n m (tp F n m q)
/-- while a log is read by the class -/
def LgC (F : Int → Int) (n m : Int) (C P : Int → Int) (v ρ : Mv) (t i : Int) : Prop := ∃ p, TkC F n m v ρ (ρ t 0) p ∧ lA F n m C P 0 0 = lA F n m C P i p
/-- a log is read by the class -/
def LdC (F : Int → Int) (n m : Int) (C P : Int → Int) (v ρ : Mv) (t r : Int) : Prop := r = 1 ∧ (lA F n m C P 0 0).1 = 0 ∧ v (ρ t 0) 9 = 0 ∨ r = 0 ∧ (lA F n m C P 0 0).1 ≠ 0 ∧ v (ρ t 0) 9 = (lA F n m C P 0 0).1 ∧ v (ρ t 0) 10 = (lA F n m C P 0 0).2
section LogT3
variable {F : Int → Int} {n m : Int} {C P : Int → Int} {v' ρ : Mv} {t i p q r : Int} {g : Bool}
theorem lAct_g (h : lAct F n m P i p = (0, q)) : ky F n m q = 9 ∧ decide (ky F n m p = 9) = true ∨ ky F n m q ≠ 9 ∧ decide (ky F n m p = 9) = false := by
  unfold lAct at h
  by_cases c1 : ky F n m p = 9
  · rw [if_pos c1] at h
    by_cases c2 : i = 40
    · rw [if_pos c2] at h
      exact absurd (congrArg Prod.fst h) (show ¬ (4 : Int) = 0 by decide)
    · rw [if_neg c2] at h
      have e : p = q := congrArg Prod.snd h
      rw [← e]
      exact Or.inl ⟨c1, decide_eq_true c1⟩
  · rw [if_neg c1] at h
    by_cases c2 : nm F n m p = false
    · rw [if_pos c2] at h
      exact absurd (congrArg Prod.fst h) (show ¬ (1 : Int) = 0 by decide)
    · rw [if_neg c2] at h
      by_cases c3 : P (tn F n p) = -1
      · rw [if_pos c3] at h
        exact absurd (congrArg Prod.fst h) (show ¬ (3 : Int) = 0 by decide)
      · rw [if_neg c3] at h
        by_cases c4 : i = 40
        · rw [if_pos c4] at h
          exact absurd (congrArg Prod.fst h) (show ¬ (4 : Int) = 0 by decide)
        · rw [if_neg c4] at h
          by_cases c5 : ky F n m (tp F n m p) = 7 ∨ ky F n m (tp F n m p) = 8
          · rw [if_pos c5] at h
            have e : tp F n m p = q := congrArg Prod.snd h
            rw [← e]
            exact Or.inr ⟨by omega, decide_eq_false c1⟩
          · rw [if_neg c5] at h
            exact absurd (congrArg Prod.fst h) (show ¬ (1 : Int) = 0 by decide)
theorem LaC.fin (h : LaC F n m P v' ρ t i p r) (hr : r = 0) (hi : i ≤ 40) (hk : tk F n m p ≠ 0) (heq : lA F n m C P 0 0 = lA F n m C P i p) : (lA F n m C P 0 0).1 ≠ 0 ∧ v' (ρ t 0) 9 = (lA F n m C P 0 0).1 ∧ v' (ρ t 0) 10 = (lA F n m C P 0 0).2 := by
  rcases h with ⟨a, -⟩ | ⟨-, q, a, b, c, d, e⟩
  · omega
  · rw [heq, lA_bad hi hk (lLine_a b c) c]
    exact ⟨c, d, e⟩
theorem LcC.fin {p0 : Int} (h : LcC F n m C v' ρ t q r (decide (ky F n m p = 9))) (hr : r = 0) (hl : lAct F n m P i p = (0, q)) (hi : i ≤ 40) (hk : tk F n m p ≠ 0) (heq : lA F n m C P 0 p0 = lA F n m C P i p) : (lA F n m C P 0 p0).1 ≠ 0 ∧ v' (ρ t 0) 9 = (lA F n m C P 0 p0).1 ∧ v' (ρ t 0) 10 = (lA F n m C P 0 p0).2 := by
  rcases h with ⟨a, -⟩ | ⟨-, a, b, c, d, e⟩
  · omega
  · rw [heq, lA_bad hi hk (lLine_c hl b) c]
    exact ⟨c, d, e⟩
theorem LdC.f (h : LdC F n m C P v' ρ t r) : v' (ρ t 0) 9 = (lA F n m C P 0 0).1 := by
  rcases h with ⟨-, a, b⟩ | ⟨-, -, b, -⟩
  · rw [a]; exact b
  · exact b
end LogT3
