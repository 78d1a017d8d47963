/-! class and reference: the same roads with their names, and one tape -/
def EqS (v ρ : Mv) : Prop := EqN v ρ ∧ ρ (ρ 4 2) 0 = ρ 4 0 ∧ ρ (ρ 4 3) 0 = ρ 4 0
def LInv5 (N : Int) (sc : Int → Int) (ω : Rw) (v ρ : Mv) (Z : Mz) : Prop := LInv3 N sc ω v ρ Z ∧ EqS v ρ
def CaseOk5 (g : Gp) (X : Cx) (N : Int) (sc : Int → Int) (pc : Nat) : Prop := ∀ (i : Int) (cells slots : Nat) (ω : Rw) (v ρ : Mv) (Z : Mz), 0 ≤ i → i + 6 ≤ N → cells + 20 ≤ 601024 → slots + 150 ≤ 7293034 → LInv5 N sc ω v ρ Z →
  (∀ (ω' : Rw) (v' ρ' : Mv) (Z' : Mz), LInv5 N sc ω' v' ρ' Z' → wp g X (LF []) (cells + 20) (slots + 150) 1410 (lls i) [] v' ρ' Z') → wp g X (LF []) cells slots pc (lls i) [] v ρ Z
theorem tapS {ρ ρ1 : Mv} {k : Int} (e0 : ρ1 4 0 = ρ 4 0) (e2 : ρ1 4 k = ρ 4 k) (e3 : ρ1 (ρ 4 k) 0 = ρ (ρ 4 k) 0) (h : ρ (ρ 4 k) 0 = ρ 4 0) : ρ1 (ρ1 4 k) 0 = ρ1 4 0 := by
  rw [e2, e3, e0]; exact h
theorem RdN.nm {f w g u : Int → Int} {s : Rd} (hm : RsM f s) (hn : NmS w s) (e1 : g = f) (e2 : u = w) : ∀ j, 0 ≤ j → j < g 0 → NmW (s.N (0 + j)) (u (0 + j)) := by
  intro j a b
  rw [e1, hm.1 0 (by decide) (by decide) (by decide) (by decide) (by decide) (by decide)] at b
  rw [e2, show w (0 + j) = w j from by rw [Int.zero_add]]
  exact hn.1 j a b
theorem RoN.cg {F : Int → Int} {n m : Int} {v v1 v2 : Mv} (e : v1 183 = v 183) (h : RoN F n m v1 v2) : RoN F n m v v2 := h.imp id (fun z => ⟨z.1, fun j a => (z.2 j a).trans (congrFun e j)⟩)
theorem rd0_b : HdB rd0 := by unfold HdB; decide
theorem rd0_n {w : Int → Int} : NmS w rd0 := by
  refine ⟨fun j a b => ?_, fun j a b => ?_, fun j a b => ?_⟩ <;> (have z : j < (0 : Int) := b; omega)
