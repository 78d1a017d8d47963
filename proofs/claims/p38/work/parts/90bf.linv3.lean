/-! class and reference: the same text on the tape -/
def EqT (v ρ : Mv) : Prop := ρ (ρ 4 1) 0 = ρ 4 0 ∧ RsI (v 184) ∧ Sam (v 178 2) (v (ρ (ρ 4 0) 0)) (v 179)
def LInv3 (N : Int) (sc : Int → Int) (ω : Rw) (v ρ : Mv) (Z : Mz) : Prop := LInv2 N sc ω v ρ Z ∧ EqT v ρ
theorem EqT.step {v v1 v2 ρ ρ1 : Mv} (h : EqT v ρ) (hr : ρ1 4 0 = ρ 4 0 ∧ ρ1 4 1 = ρ 4 1 ∧ ρ1 (ρ 4 1) 0 = ρ (ρ 4 1) 0 ∧ ρ1 (ρ 4 0) 0 = ρ (ρ 4 0) 0) (e1 : v1 184 = v 184) (e2 : v2 184 = v1 184) (f1 : v1 179 = v 179) (f2 : v2 179 = v1 179) (g1 : v1 (ρ (ρ 4 0) 0) = v (ρ (ρ 4 0) 0)) (g2 : v2 (ρ1 (ρ1 4 0) 0) = v1 (ρ1 (ρ1 4 0) 0)) (n : v2 178 2 ≤ v 178 2) : EqT v2 ρ1 := by
  obtain ⟨a, b, c, d⟩ := hr
  refine ⟨?_, by rw [e2, e1]; exact h.2.1, ?_⟩
  · rw [b, c, a]; exact h.1
  · rw [g2, a, d, g1, f2, f1]
    exact h.2.2.le n
theorem EqT.feed {v v1 v2 ρ : Mv} {r1 r2 a b c d e : Int} (h : EqT v ρ) (h0 : 0 ≤ v1 178 2) (hE : v (ρ 4 0) 1 = v 178 2) (z3 : v1 178 2 = v 178 2) (e1 : v1 184 = v 184) (e2 : v2 184 = v1 184) (f1 : v1 179 = v 179) (g2 : v2 (ρ (ρ 4 0) 0) = v1 (ρ (ρ 4 0) 0))
    (hp1 : ((v (ρ 4 0) 1 ≤ 920 ∧ r1 = v (ρ 4 0) 1 + 20 ∧ v1 (ρ 4 0) 1 = v (ρ 4 0) 1 + 20 ∨ 920 < v (ρ 4 0) 1 ∧ r1 = -1 ∧ v1 (ρ 4 0) 1 = v (ρ 4 0) 1)) ∧ ((r1 = -1 ∧ v1 (ρ (ρ 4 0) 0) = v (ρ (ρ 4 0) 0) ∨ r1 = v (ρ 4 0) 1 + 20 ∧ v1 (ρ (ρ 4 0) 0) = ap5 (v (ρ (ρ 4 0) 0)) (v (ρ 4 0) 1) a b c d e)))
    (hp2 : ((v1 178 2 ≤ 920 ∧ r2 = v1 178 2 + 20 ∧ v2 178 2 = v1 178 2 + 20 ∨ 920 < v1 178 2 ∧ r2 = -1 ∧ v2 178 2 = v1 178 2)) ∧ ((r2 = -1 ∧ v2 179 = v1 179 ∨ r2 = v1 178 2 + 20 ∧ v2 179 = ap5 (v1 179) (v1 178 2) a b c d e))) : EqT v2 ρ := by
  refine ⟨h.1, by rw [e2, e1]; exact h.2.1, ?_⟩
  obtain ⟨p1, p2⟩ := hp1
  obtain ⟨q1, q2⟩ := hp2
  rw [g2]
  rcases p2 with ⟨x1, x2⟩ | ⟨x1, x2⟩ <;> rcases q2 with ⟨y1, y2⟩ | ⟨y1, y2⟩
  · rw [x2, y2, f1]
    have hk : v2 178 2 ≤ v 178 2 := by omega
    exact h.2.2.le hk
  · exfalso; omega
  · exfalso; omega
  · rw [x2, y2, f1, z3, hE]
    have z := h.2.2.b20 (a := a) (b := b) (c := c) (d := d) (e := e)
    have hk : v2 178 2 ≤ v 178 2 + 20 := by omega
    exact z.le hk
def CaseOk3 (g : Gp) (X : Cx) (N : Int) (sc : Int → Int) (pc : Nat) : Prop := ∀ (i : Int) (cells slots : Nat) (ω : Rw) (v ρ : Mv) (Z : Mz), 0 ≤ i → i + 6 ≤ N → cells + 20 ≤ 601024 → slots + 150 ≤ 7293034 → LInv3 N sc ω v ρ Z →
  (∀ (ω' : Rw) (v' ρ' : Mv) (Z' : Mz), LInv3 N sc ω' v' ρ' Z' → wp g X (LF []) (cells + 20) (slots + 150) 1410 (lls i) [] v' ρ' Z') → wp g X (LF []) cells slots pc (lls i) [] v ρ Z
