/-! the class's sentence, against the machine. t the reader: ρ t 0 the tape, ρ t 1 the sentence; k the word of the operand -/
def LfC (F : Int → Int) (n m : Int) (C : Int → Int) (v v' ρ : Mv) (t k p r : Int) : Prop :=
  r = 1 ∧ (∃ p2, sLeaf F n m C k p = (0, p2) ∧ TkC F n m v' ρ (ρ t 0) p2 ∧ v' (ρ t 1) 4 = v (ρ t 1) 4) ∨
  r = 0 ∧ (∃ p2 a, sLeaf F n m C k p = (a, p2) ∧ a ≠ 0 ∧ v' (ρ t 0) 9 = a ∧ v' (ρ t 0) 10 = ta F n m p2)
/-- an operand is read at depth d, where o ones were -/
def OnC (F : Int → Int) (n m : Int) (C : Int → Int) (v' ρ : Mv) (t d o p r : Int) : Prop :=
  r = 1 ∧ (∃ p2, TkC F n m v' ρ (ρ t 0) p2 ∧ o < v' (ρ t 1) 4 ∧ ∀ S : List Bool, (S.length : Int) = d - 1 → sR F n m C false S o p = sR F n m C true S (v' (ρ t 1) 4) p2) ∨
  r = 0 ∧ v' (ρ t 0) 9 ≠ 0 ∧ ∀ S : List Bool, (S.length : Int) = d - 1 → sR F n m C false S o p = (v' (ρ t 0) 9, v' (ρ t 0) 10)
/-- operands with and, or between -/
def CdC (F : Int → Int) (n m : Int) (C : Int → Int) (v' ρ : Mv) (t d o p r : Int) : Prop :=
  r = 1 ∧ (∃ p2, TkC F n m v' ρ (ρ t 0) p2 ∧ o < v' (ρ t 1) 4 ∧ ky F n m p2 ≠ 11 ∧ ky F n m p2 ≠ 12 ∧ ∀ S : List Bool, (S.length : Int) = d - 1 → nts S = S → sR F n m C false S o p = sR F n m C true S (v' (ρ t 1) 4) p2) ∨
  r = 0 ∧ v' (ρ t 0) 9 ≠ 0 ∧ ∀ S : List Bool, (S.length : Int) = d - 1 → nts S = S → sR F n m C false S o p = (v' (ρ t 0) 9, v' (ρ t 0) 10)
section StC
variable {F : Int → Int} {n m : Int} {C : Int → Int} {v v1 v' ρ : Mv} {t d o p p1 p2 r k : Int} {ω : Rw} {Z : Mz}
theorem TkC.fw {S : List Nat} {τ : Int} (h : TkC F n m v ρ τ p) (hf : FrW ω S v v') (h2 : ω τ = 2) (h3 : ω (ρ τ 0) = 3) (hS : 2 ∉ S ∧ 3 ∉ S) : TkC F n m v' ρ τ p := by
  have e2 : v' τ = v τ := hf _ (by rw [h2]; exact hS.1)
  have e3 : v' (ρ τ 0) = v (ρ τ 0) := hf _ (by rw [h3]; exact hS.2)
  unfold TkC at h ⊢
  rw [e2, e3]
  exact h
theorem TkC.ot {τ q k x : Int} {c : Nat} (h : TkC F n m v ρ τ p) (h2 : ω τ = 2) (h3 : ω (ρ τ 0) = 3) (hq : ω q = c) (hc : c ≠ 2 ∧ c ≠ 3) : TkC F n m (up v q k x) ρ τ p := by
  have e2 : (up v q k x) τ = v τ := up_f (rne h2 hq (fun e => hc.1 e.symm))
  have e3 : (up v q k x) (ρ τ 0) = v (ρ τ 0) := up_f (rne h3 hq (fun e => hc.2 e.symm))
  unfold TkC at h ⊢
  rw [e2, e3]
  exact h
theorem sRt_no {S : List Bool} (hn : n ≤ 940) (h0 : 0 ≤ p) (hp : p ≤ n) : sR F n m C true (false :: S) o p = sR F n m C true S o p := by
  rw [sR_t hn h0 hp, sR_t hn h0 hp]; rfl
theorem OnC.bad (hn : n ≤ 940) (h0 : 0 ≤ p) (hp : p ≤ n) (hT : v' (ρ t 0) 9 = 1 ∧ v' (ρ t 0) 10 = ta F n m p) (a : mk F n m p 40 = false) (b : ¬ (13 ≤ ky F n m p ∧ ky F n m p ≤ 21)) : OnC F n m C v' ρ t d o p 0 :=
  Or.inr ⟨rfl, by rw [hT.1]; decide, fun S _ => by rw [hT.1, hT.2]; exact sR_bad hn h0 hp a b⟩
theorem OnC.many (hn : n ≤ 940) (h0 : 0 ≤ p) (hp : p ≤ n) (hT : v' (ρ t 0) 9 = 4 ∧ v' (ρ t 0) 10 = ta F n m p) (a : mk F n m p 40 = true ∨ 13 ≤ ky F n m p ∧ ky F n m p ≤ 21) (b : 20 ≤ o ∨ 8 < d) : OnC F n m C v' ρ t d o p 0 :=
  Or.inr ⟨rfl, by rw [hT.1]; decide, fun S hl => by rw [hT.1, hT.2]; exact sR_many hn h0 hp a (by omega)⟩
theorem OnC.not1 (hn : n ≤ 940) (h0 : 0 ≤ p) (hp : p ≤ n) (a : mk F n m p 40 = false) (k : ky F n m p = 13) (b : o < 20) (c : d ≤ 8) (h : OnC F n m C v1 ρ t (d + 1) (o + 1) (tp F n m p) 1) (e : v' (ρ t 1) 4 = v1 (ρ t 1) 4) (hT : ∀ p, TkC F n m v1 ρ (ρ t 0) p → TkC F n m v' ρ (ρ t 0) p) : OnC F n m C v' ρ t d o p 1 := by
  rcases h with ⟨-, p2, h1, h2, h3⟩ | ⟨z, -⟩
  · refine Or.inl ⟨rfl, p2, hT _ h1, by omega, fun S hl => ?_⟩
    rw [sR_not hn h0 hp a k b (by omega), h3 (false :: S) (by rw [List.length_cons]; omega), e, sRt_no hn h1.1 h1.2.1]
  · cases z
theorem OnC.not0 (hn : n ≤ 940) (h0 : 0 ≤ p) (hp : p ≤ n) (a : mk F n m p 40 = false) (k : ky F n m p = 13) (b : o < 20) (c : d ≤ 8) (h : OnC F n m C v' ρ t (d + 1) (o + 1) (tp F n m p) 0) : OnC F n m C v' ρ t d o p 0 := by
  rcases h with ⟨z, -⟩ | ⟨-, h1, h2⟩
  · cases z
  · exact Or.inr ⟨rfl, h1, fun S hl => by rw [sR_not hn h0 hp a k b (by omega)]; exact h2 (false :: S) (by rw [List.length_cons]; omega)⟩
theorem OnC.op0 (hn : n ≤ 940) (h0 : 0 ≤ p) (hp : p ≤ n) (a : mk F n m p 40 = true) (b : o < 20) (c : d ≤ 8) (h : CdC F n m C v' ρ t (d + 1) (o + 1) (tp F n m p) 0) : OnC F n m C v' ρ t d o p 0 := by
  rcases h with ⟨z, -⟩ | ⟨-, h1, h2⟩
  · cases z
  · exact Or.inr ⟨rfl, h1, fun S hl => by rw [sR_open hn h0 hp a b (by omega)]; exact h2 (true :: S) (by rw [List.length_cons]; omega) rfl⟩
theorem OnC.op1 (hn : n ≤ 940) (h0 : 0 ≤ p) (hp : p ≤ n) (a : mk F n m p 40 = true) (b : o < 20) (c : d ≤ 8) (h1 : TkC F n m v1 ρ (ρ t 0) p2) (h2 : o + 1 < v1 (ρ t 1) 4) (h3 : ∀ S : List Bool, (S.length : Int) = d + 1 - 1 → nts S = S → sR F n m C false S (o + 1) (tp F n m p) = sR F n m C true S (v1 (ρ t 1) 4) p2)
    (hc : mk F n m p2 41 = true) (hT : TkC F n m v' ρ (ρ t 0) (tp F n m p2)) (e : v' (ρ t 1) 4 = v1 (ρ t 1) 4) : OnC F n m C v' ρ t d o p 1 := by
  refine Or.inl ⟨rfl, tp F n m p2, hT, by omega, fun S hl => ?_⟩
  rw [sR_open hn h0 hp a b (by omega), h3 (true :: S) (by rw [List.length_cons]; omega) rfl, sR_shut (S := true :: S) hn h1.1 h1.2.1 hc (show nts (true :: S) ≠ [] from List.cons_ne_nil _ _), e]
  rfl
theorem OnC.op2 (hn : n ≤ 940) (h0 : 0 ≤ p) (hp : p ≤ n) (a : mk F n m p 40 = true) (b : o < 20) (c : d ≤ 8) (h1 : TkC F n m v1 ρ (ρ t 0) p2) (k1 : ky F n m p2 ≠ 11) (k2 : ky F n m p2 ≠ 12) (h3 : ∀ S : List Bool, (S.length : Int) = d + 1 - 1 → nts S = S → sR F n m C false S (o + 1) (tp F n m p) = sR F n m C true S (v1 (ρ t 1) 4) p2)
    (hc : mk F n m p2 41 = false) (hT : v' (ρ t 0) 9 = 1 ∧ v' (ρ t 0) 10 = ta F n m p2) : OnC F n m C v' ρ t d o p 0 := by
  refine Or.inr ⟨rfl, by rw [hT.1]; decide, fun S hl => ?_⟩
  rw [sR_open hn h0 hp a b (by omega), h3 (true :: S) (by rw [List.length_cons]; omega) rfl, hT.1, hT.2]
  by_cases z : tk F n m p2 = 0
  · exact sR_endb hn h1.1 h1.2.1 z (show nts (true :: S) ≠ [] from List.cons_ne_nil _ _)
  · exact sR_badt hn h1.1 h1.2.1 z (by omega) (fun y => by rw [hc] at y; exact absurd y.1 (by decide))
theorem OnC.leaf (hn : n ≤ 940) (h0 : 0 ≤ p) (hp : p ≤ n) (a : mk F n m p 40 = false) (k : 14 ≤ ky F n m p ∧ ky F n m p ≤ 21) (b : o < 20) (c : d ≤ 8) (eo : v1 (ρ t 1) 4 = o + 1) (h : LfC F n m C v1 v' ρ t (ky F n m p) (tp F n m p) r) : OnC F n m C v' ρ t d o p r := by
  rcases h with ⟨e, p2, h1, h2, h3⟩ | ⟨e, p2, x, h1, h2, h3, h4⟩
  · exact Or.inl ⟨e, p2, h2, by omega, fun S hl => by rw [sR_l1 hn h0 hp a k b (by omega) h1, h3, eo]⟩
  · exact Or.inr ⟨e, by rw [h3]; exact h2, fun S hl => by rw [sR_l0 hn h0 hp a k b (by omega) h1 h2, h3, h4]⟩
end StC
section StC2
variable {F : Int → Int} {n m : Int} {C : Int → Int} {v v1 v' ρ : Mv} {t d o p r : Int}
theorem OnC.ok (h : OnC F n m C v' ρ t d o p r) (hr : r ≠ 0) : ∃ p2, TkC F n m v' ρ (ρ t 0) p2 ∧ o < v' (ρ t 1) 4 ∧ ∀ S : List Bool, (S.length : Int) = d - 1 → sR F n m C false S o p = sR F n m C true S (v' (ρ t 1) 4) p2 := by
  rcases h with ⟨-, z⟩ | ⟨z, -⟩
  · exact z
  · exact absurd z hr
theorem OnC.no (h : OnC F n m C v' ρ t d o p r) (hr : r = 0) : v' (ρ t 0) 9 ≠ 0 ∧ ∀ S : List Bool, (S.length : Int) = d - 1 → sR F n m C false S o p = (v' (ρ t 0) 9, v' (ρ t 0) 10) := by
  rcases h with ⟨z, -⟩ | ⟨-, z⟩
  · omega
  · exact z
theorem CdC.ok (h : CdC F n m C v' ρ t d o p r) (hr : r ≠ 0) : ∃ p2, TkC F n m v' ρ (ρ t 0) p2 ∧ o < v' (ρ t 1) 4 ∧ ky F n m p2 ≠ 11 ∧ ky F n m p2 ≠ 12 ∧ ∀ S : List Bool, (S.length : Int) = d - 1 → nts S = S → sR F n m C false S o p = sR F n m C true S (v' (ρ t 1) 4) p2 := by
  rcases h with ⟨-, z⟩ | ⟨z, -⟩
  · exact z
  · exact absurd z hr
theorem CdC.no (h : CdC F n m C v' ρ t d o p r) (hr : r = 0) : v' (ρ t 0) 9 ≠ 0 ∧ ∀ S : List Bool, (S.length : Int) = d - 1 → nts S = S → sR F n m C false S o p = (v' (ρ t 0) 9, v' (ρ t 0) 10) := by
  rcases h with ⟨z, -⟩ | ⟨-, z⟩
  · omega
  · exact z
def CqI (F : Int → Int) (n m : Int) (C : Int → Int) (v' ρ : Mv) (t d o p : Int) : Prop := ∃ p2, TkC F n m v' ρ (ρ t 0) p2 ∧ ∀ S : List Bool, (S.length : Int) = d - 1 → nts S = S → sR F n m C false S o p = sR F n m C false S (v' (ρ t 1) 4) p2
end StC2
/-- the class's sentence is read: r the sentence, or none and the tape has the fault -/
def SaC (F : Int → Int) (n m : Int) (C : Int → Int) (v' ρ' : Mv) (t r : Int) : Prop := 0 ≤ r ∧ (sR F n m C false [] 0 0).1 = 0 ∧ v' r 4 = (sR F n m C false [] 0 0).2 ∨ r < 0 ∧ (sR F n m C false [] 0 0).1 ≠ 0 ∧ v' (ρ' t 0) 9 = (sR F n m C false [] 0 0).1 ∧ v' (ρ' t 0) 10 = (sR F n m C false [] 0 0).2
theorem SaC.ans1 {F : Int → Int} {n m : Int} {C : Int → Int} {v ρ : Mv} {t r : Int} (h : SaC F n m C v ρ t r) (hr : 0 ≤ r) : sAns F n m C = v r 4 := by
  rcases h with ⟨-, a, b⟩ | ⟨z, -⟩
  · unfold sAns
    unfold sR at a b
    rw [if_pos a, b]
  · omega
theorem SaC.ans0 {F : Int → Int} {n m : Int} {C : Int → Int} {v ρ : Mv} {t r : Int} (h : SaC F n m C v ρ t r) (hr : r < 0) : sAns F n m C = -1 - v (ρ t 0) 10 := by
  rcases h with ⟨z, -⟩ | ⟨-, a, -, b⟩
  · omega
  · unfold sAns
    unfold sR at a b
    rw [if_neg a, b]
