/-! class and reference: the same roads with their names, in the trip and in the images -/
theorem NmS.cg {w u : Int → Int} {s : Rd} (h : NmS w s) (hb : s.H 0 ≤ 4 ∧ s.H 1 ≤ 3 ∧ s.H 2 ≤ 3) (e : ∀ j, 0 ≤ j → j < 10 → u j = w j) : NmS u s := by
  refine ⟨fun j a b => ?_, fun j a b => ?_, fun j a b => ?_⟩
  · rw [e j a (by omega)]; exact h.1 j a b
  · rw [e _ (by omega) (by omega)]; exact h.2.1 j a b
  · rw [e _ (by omega) (by omega)]; exact h.2.2 j a b
def RdN (v ρ : Mv) (o : Int) (f w : Int → Int) : Prop := ∃ (s : Rd) (i : Int), RcI v ρ o (s.H 1) i s ∧ RsM f s ∧ HdB s ∧ NmS w s
def EqN (v ρ : Mv) : Prop := TrI v ρ 4 ∧ RdN v ρ (ρ (ρ 4 4) 0) (v 180) (v 183) ∧ ∀ k, 0 ≤ k → k < 2 → v 209 k ≠ 0 → RdN v ρ (ρ (ρ (ρ 4 11) k) 0) (fun j => v 207 (238 * k + j)) (fun j => v 208 (10 * k + j))
theorem RdN.s {v ρ : Mv} {o : Int} {f w : Int → Int} (h : RdN v ρ o f w) : RdS v ρ o f := by
  obtain ⟨s, i, a, b, -⟩ := h
  exact ⟨s, i, a, b⟩
theorem EqN.r {v ρ : Mv} (h : EqN v ρ) : EqR v ρ := ⟨h.1, h.2.1.s, fun k a b c => (h.2.2 k a b c).s⟩
section EqNs
variable {ω : Rw} {v v1 v2 ρ ρ1 : Mv} {Z : Mz} {r k0 : Int}
theorem RdN.cg {o : Int} {f g w u : Int → Int} (h : RdN v ρ o f w) (hK : RcK ω v ρ v2 ρ1) (ho : ω o = 5) (e : ∀ k, 0 ≤ k → k < 35 → g k = f k) (e2 : ∀ k, 0 ≤ k → k < 10 → u k = w k) : RdN v2 ρ1 o g u := by
  obtain ⟨s, i, a, b, c, d⟩ := h
  exact ⟨s, i, hK o _ i s ho a, b.cg e, c, d.cg c e2⟩
/-- no road changes -/
theorem EqN.k1 (h : EqN v ρ) (hH : HT ω v ρ Z) (w4 : ω 4 = 1) (hP : TrP ρ v2 ρ1 4) (hK : RcK ω v ρ v2 ρ1) (h180 : ∀ k, 0 ≤ k → k < 35 → v2 180 k = v 180 k) (h207 : v2 207 = v 207) (h209 : v2 209 = v 209) (h183 : ∀ k, 0 ≤ k → k < 10 → v2 183 k = v 183 k) (h208 : v2 208 = v 208) : EqN v2 ρ1 := by
  obtain ⟨p1, ⟨p4, p11, pK⟩, pT, pk⟩ := hP
  refine ⟨p1, ?_, fun k a b c => ?_⟩
  · rw [p4, pT]
    exact h.2.1.cg hK (EqR.w5 hH w4) h180 h183
  · rw [p11, pK, pk k a b, h207, h208]
    rw [h209] at c
    exact (h.2.2 k a b c).cg hK (EqR.wk hH w4 a b) (fun _ _ _ => rfl) (fun _ _ _ => rfl)
theorem EqN.image (h : EqN v ρ) (hH : HT ω v ρ Z) (w4 : ω 4 = 1) (hP : TrG ρ v2 ρ1 4 k0 r) (hK : RcK ω v ρ v2 ρ1) (h180 : v2 180 = v 180) (h183 : v2 183 = v 183)
    (hq : (r = 0 ∧ (k0 < 0 ∨ 1 < k0) ∧ v2 207 = v 207 ∧ v2 209 = v 209 ∨ r = 1 ∧ 0 ≤ k0 ∧ k0 ≤ 1 ∧ (∀ i, 0 ≤ i → i < 238 → v2 207 (238 * k0 + i) = v 180 i) ∧ (∀ j, ¬ (238 * k0 ≤ j ∧ j < 238 * k0 + 238) → v2 207 j = v 207 j) ∧ (∀ j, j ≠ k0 → v2 209 j = v 209 j) ∧ v2 209 k0 = 1))
    (hn : (r = 1 → (∀ j, 0 ≤ j → j < 10 → v2 208 (10 * k0 + j) = v 183 j) ∧ ∀ j, ¬ (10 * k0 ≤ j ∧ j < 10 * k0 + 10) → v2 208 j = v 208 j) ∧ (r = 0 → v2 208 = v 208)) : EqN v2 ρ1 := by
  obtain ⟨p1, ⟨p4, p11, pK⟩, pT, pj, pk⟩ := hP
  have hT : RdN v2 ρ1 (ρ (ρ 4 4) 0) (v 180) (v 183) := h.2.1.cg hK (EqR.w5 hH w4) (fun _ _ _ => rfl) (fun _ _ _ => rfl)
  refine ⟨p1, ?_, fun k a b c => ?_⟩
  · rw [p4, pT, h180, h183]
    exact hT
  · rw [p11, pK]
    rcases hq with ⟨e, -, e1, e2⟩ | ⟨e, k1, k2, f1, f2, f3, f4⟩
    · rw [pj k a b (by omega), e1, hn.2 e]
      rw [e2] at c
      exact (h.2.2 k a b c).cg hK (EqR.wk hH w4 a b) (fun _ _ _ => rfl) (fun _ _ _ => rfl)
    · obtain ⟨n1, n2⟩ := hn.1 e
      by_cases z : k = k0
      · subst z
        rw [pk e]
        obtain ⟨s, i, x, y, t, u⟩ := hT
        exact ⟨s, i, x, y.cg (fun j p q => f1 j p (by omega)), t, u.cg t (fun j p q => n1 j p q)⟩
      · rw [pj k a b (fun _ => z)]
        rw [f3 k z] at c
        exact (h.2.2 k a b c).cg hK (EqR.wk hH w4 a b) (fun j p q => f2 _ (by omega)) (fun j p q => n2 _ (by omega))
theorem EqN.restore (h : EqN v ρ) (hH : HT ω v ρ Z) (w4 : ω 4 = 1) (hP : TrR ρ v2 ρ1 4 k0 r) (hK : RcK ω v ρ v2 ρ1) (h207 : v2 207 = v 207) (h209 : v2 209 = v 209) (h208 : v2 208 = v 208)
    (hq : (r = 1 ∧ 0 ≤ k0 ∧ k0 ≤ 1 ∧ v 209 k0 ≠ 0 ∨ r = 0 ∧ (k0 < 0 ∨ 1 < k0 ∨ v 209 k0 = 0))) (hs : (r = 1 → ∀ j, 0 ≤ j → j < 238 → v2 180 j = v 207 (238 * k0 + j)) ∧ (r = 0 → v2 180 = v 180)) (hn : (r = 1 → ∀ j, 0 ≤ j → j < 10 → v2 183 j = v 208 (10 * k0 + j)) ∧ (r = 0 → v2 183 = v 183)) : EqN v2 ρ1 := by
  obtain ⟨p1, ⟨p4, p11, pK⟩, pT, pN, pk⟩ := hP
  refine ⟨p1, ?_, fun k a b c => ?_⟩
  · rw [p4]
    rcases hq with ⟨e, k1, k2, k3⟩ | ⟨e, -⟩
    · rw [pN e]
      exact (h.2.2 k0 k1 (by omega) k3).cg hK (EqR.wk hH w4 k1 (by omega)) (fun j p q => hs.1 e j p (by omega)) (fun j p q => hn.1 e j p q)
    · rw [pT (by omega), hs.2 e, hn.2 e]
      exact h.2.1.cg hK (EqR.w5 hH w4) (fun _ _ _ => rfl) (fun _ _ _ => rfl)
  · rw [p11, pK, pk k a b, h207, h208]
    rw [h209] at c
    exact (h.2.2 k a b c).cg hK (EqR.wk hH w4 a b) (fun _ _ _ => rfl) (fun _ _ _ => rfl)
/-- road: F n m the text -/
theorem EqN.road {F : Int → Int} {n m : Int} (h : EqN v ρ) (hH : HT ω v ρ Z) (w4 : ω 4 = 1) (hP : RdT F n m ρ v2 ρ1 4) (hK : RcK ω v ρ v2 ρ1) (h207 : v2 207 = v 207) (h209 : v2 209 = v 209) (h208 : v2 208 = v 208) (hq : RoP F n m v v2) (hn : RoN F n m v v2) : EqN v2 ρ1 := by
  obtain ⟨p1, ⟨p4, p11, pK⟩, pk, pT⟩ := hP
  refine ⟨p1, ?_, fun k a b c => ?_⟩
  · rw [p4]
    rcases pT with ⟨e, x⟩ | ⟨e, x⟩
    · rcases hq with ⟨-, y, z⟩ | ⟨e2, -⟩
      · rcases hn with ⟨-, hb, u⟩ | ⟨e3, -⟩
        · exact ⟨_, _, x, ⟨y, z⟩, hb, u⟩
        · exact absurd e e3
      · exact absurd e e2
    · rcases hq with ⟨e2, -⟩ | ⟨-, y⟩
      · exact absurd e2 e
      · rcases hn with ⟨e3, -⟩ | ⟨-, u⟩
        · exact absurd e3 e
        · rw [x, y]
          exact h.2.1.cg hK (EqR.w5 hH w4) (fun _ _ _ => rfl) (fun j _ p => u j p)
  · rw [p11, pK, pk k a b, h207, h208]
    rw [h209] at c
    exact (h.2.2 k a b c).cg hK (EqR.wk hH w4 a b) (fun _ _ _ => rfl) (fun _ _ _ => rfl)
end EqNs
