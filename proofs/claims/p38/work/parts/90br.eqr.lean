/-! class and reference: the same roads, in the trip and in the images -/
def RdS (v ρ : Mv) (o : Int) (f : Int → Int) : Prop := ∃ (s : Rd) (i : Int), RcI v ρ o (s.H 1) i s ∧ RsM f s
def EqR (v ρ : Mv) : Prop := TrI v ρ 4 ∧ RdS v ρ (ρ (ρ 4 4) 0) (v 180) ∧ ∀ k, 0 ≤ k → k < 2 → v 209 k ≠ 0 → RdS v ρ (ρ (ρ (ρ 4 11) k) 0) (fun j => v 207 (238 * k + j))
def LInv4 (N : Int) (sc : Int → Int) (ω : Rw) (v ρ : Mv) (Z : Mz) : Prop := LInv3 N sc ω v ρ Z ∧ EqR v ρ
/-- roads that stand -/
def RcK (ω : Rw) (v ρ v' ρ' : Mv) : Prop := ∀ o L i s, ω o = 5 → RcI v ρ o L i s → RcI v' ρ' o L i s
section EqRs
variable {ω : Rw} {v v1 v2 ρ ρ1 : Mv} {Z : Mz} {r k0 : Int}
theorem RdS.cg {o : Int} {f g : Int → Int} (h : RdS v ρ o f) (hK : RcK ω v ρ v2 ρ1) (ho : ω o = 5) (e : ∀ k, 0 ≤ k → k < 35 → g k = f k) : RdS v2 ρ1 o g := by
  obtain ⟨s, i, a, b⟩ := h
  exact ⟨s, i, hK o _ i s ho a, b.cg e⟩
theorem EqR.w5 (hH : HT ω v ρ Z) (w4 : ω 4 = 1) : ω (ρ (ρ 4 4) 0) = 5 := hH.rf (hH.rf w4 (by decide) rfl : ω (ρ 4 4) = 22) (by decide) rfl
theorem EqR.wk (hH : HT ω v ρ Z) (w4 : ω 4 = 1) {k : Int} (a : 0 ≤ k) (b : k < 2) : ω (ρ (ρ (ρ 4 11) k) 0) = 5 := hH.rf (hH.rf (hH.rf w4 (by decide) rfl : ω (ρ 4 11) = 60) (by decide) (rf60 ⟨a, b⟩) : ω (ρ (ρ 4 11) k) = 66) (by decide) rfl
/-- no road changes -/
theorem EqR.k1 (h : EqR v ρ) (hH : HT ω v ρ Z) (w4 : ω 4 = 1) (hP : TrP ρ v2 ρ1 4) (hK : RcK ω v ρ v2 ρ1) (h180 : ∀ k, 0 ≤ k → k < 35 → v2 180 k = v 180 k) (h207 : v2 207 = v 207) (h209 : v2 209 = v 209) : EqR v2 ρ1 := by
  obtain ⟨p1, ⟨p4, p11, pK⟩, pT, pk⟩ := hP
  refine ⟨p1, ?_, fun k a b c => ?_⟩
  · rw [p4, pT]
    exact h.2.1.cg hK (EqR.w5 hH w4) h180
  · rw [p11, pK, pk k a b, h207]
    rw [h209] at c
    exact (h.2.2 k a b c).cg hK (EqR.wk hH w4 a b) (fun _ _ _ => rfl)
theorem EqR.image (h : EqR v ρ) (hH : HT ω v ρ Z) (w4 : ω 4 = 1) (hP : TrG ρ v2 ρ1 4 k0 r) (hK : RcK ω v ρ v2 ρ1) (h180 : v2 180 = v 180)
    (hq : (r = 0 ∧ (k0 < 0 ∨ 1 < k0) ∧ v2 207 = v 207 ∧ v2 209 = v 209 ∨ r = 1 ∧ 0 ≤ k0 ∧ k0 ≤ 1 ∧ (∀ i, 0 ≤ i → i < 238 → v2 207 (238 * k0 + i) = v 180 i) ∧ (∀ j, ¬ (238 * k0 ≤ j ∧ j < 238 * k0 + 238) → v2 207 j = v 207 j) ∧ (∀ j, j ≠ k0 → v2 209 j = v 209 j) ∧ v2 209 k0 = 1)) : EqR v2 ρ1 := by
  obtain ⟨p1, ⟨p4, p11, pK⟩, pT, pj, pk⟩ := hP
  have hT : RdS v2 ρ1 (ρ (ρ 4 4) 0) (v 180) := h.2.1.cg hK (EqR.w5 hH w4) (fun _ _ _ => rfl)
  refine ⟨p1, ?_, fun k a b c => ?_⟩
  · rw [p4, pT, h180]
    exact hT
  · rw [p11, pK]
    rcases hq with ⟨e, -, e1, e2⟩ | ⟨e, k1, k2, f1, f2, f3, f4⟩
    · rw [pj k a b (by omega), e1]
      rw [e2] at c
      exact (h.2.2 k a b c).cg hK (EqR.wk hH w4 a b) (fun _ _ _ => rfl)
    · by_cases z : k = k0
      · subst z
        rw [pk e]
        obtain ⟨s, i, x, y⟩ := hT
        exact ⟨s, i, x, y.cg (fun j p q => f1 j p (by omega))⟩
      · rw [pj k a b (fun _ => z)]
        rw [f3 k z] at c
        exact (h.2.2 k a b c).cg hK (EqR.wk hH w4 a b) (fun j p q => f2 _ (by omega))
theorem EqR.restore (h : EqR v ρ) (hH : HT ω v ρ Z) (w4 : ω 4 = 1) (hP : TrR ρ v2 ρ1 4 k0 r) (hK : RcK ω v ρ v2 ρ1) (h207 : v2 207 = v 207) (h209 : v2 209 = v 209)
    (hq : (r = 1 ∧ 0 ≤ k0 ∧ k0 ≤ 1 ∧ v 209 k0 ≠ 0 ∨ r = 0 ∧ (k0 < 0 ∨ 1 < k0 ∨ v 209 k0 = 0))) (hs : (r = 1 → ∀ j, 0 ≤ j → j < 238 → v2 180 j = v 207 (238 * k0 + j)) ∧ (r = 0 → v2 180 = v 180)) : EqR v2 ρ1 := by
  obtain ⟨p1, ⟨p4, p11, pK⟩, pT, pN, pk⟩ := hP
  refine ⟨p1, ?_, fun k a b c => ?_⟩
  · rw [p4]
    rcases hq with ⟨e, k1, k2, k3⟩ | ⟨e, -⟩
    · rw [pN e]
      exact (h.2.2 k0 k1 (by omega) k3).cg hK (EqR.wk hH w4 k1 (by omega)) (fun j p q => hs.1 e j p (by omega))
    · rw [pT (by omega), hs.2 e]
      exact h.2.1.cg hK (EqR.w5 hH w4) (fun _ _ _ => rfl)
  · rw [p11, pK, pk k a b, h207]
    rw [h209] at c
    exact (h.2.2 k a b c).cg hK (EqR.wk hH w4 a b) (fun _ _ _ => rfl)
/-- road: F n m the text -/
theorem EqR.road {F : Int → Int} {n m : Int} (h : EqR v ρ) (hH : HT ω v ρ Z) (w4 : ω 4 = 1) (hP : RdT F n m ρ v2 ρ1 4) (hK : RcK ω v ρ v2 ρ1) (h207 : v2 207 = v 207) (h209 : v2 209 = v 209) (hq : RoP F n m v v2) : EqR v2 ρ1 := by
  obtain ⟨p1, ⟨p4, p11, pK⟩, pk, pT⟩ := hP
  refine ⟨p1, ?_, fun k a b c => ?_⟩
  · rw [p4]
    rcases pT with ⟨e, x⟩ | ⟨e, x⟩
    · rcases hq with ⟨-, y, z⟩ | ⟨e2, -⟩
      · exact ⟨_, _, x, y, z⟩
      · exact absurd e e2
    · rcases hq with ⟨e2, -⟩ | ⟨-, y⟩
      · exact absurd e2 e
      · rw [x, y]
        exact h.2.1.cg hK (EqR.w5 hH w4) (fun _ _ _ => rfl)
  · rw [p11, pK, pk k a b, h207]
    rw [h209] at c
    exact (h.2.2 k a b c).cg hK (EqR.wk hH w4 a b) (fun _ _ _ => rfl)
theorem RcK.fr {SV SR : List Nat} (hH : HT ω v ρ Z) (hf : FrW ω SV v v1) (hg : FrW ω SR ρ ρ1) (hV : ∀ c ∈ SV, inW c = false) (hR : 5 ∉ SR ∧ 12 ∉ SR) : RcK ω v ρ v1 ρ1 := fun o L i s ho h => (h.frO hH ho (hf.keep hV)).rho (hg o (by rw [ho]; exact hR.1)) (hg _ (by rw [show ω (ρ o 5) = 12 from hH.rf ho (by decide) rfl]; exact hR.2))
/-- what the reference does leaves the class's regions -/
theorem RcK.ref {N : Int} {sc : Int → Int} {ω1 : Rw} {Z1 : Mz} (hK : RcK ω v ρ v1 ρ1) (hI : LInv N sc ω1 v1 ρ1 Z1) (hO : ∀ r, r < 178 ∨ 209 < r → v2 r = v1 r) (ho : ∀ o, ω o = 5 → ω1 o = 5) : RcK ω v ρ v2 ρ1 := fun o L i s h5 h => by
  have z := hK o L i s h5 h
  exact z.frO hI.ht (ho o h5) (fun r hr => hO r (hI.lo (c := ω1 r) rfl (inW_0 hr)))
theorem TrI.ref {N : Int} {sc : Int → Int} {ω1 : Rw} {Z1 : Mz} {t : Int} (h : TrI v1 ρ1 t) (hI : LInv N sc ω1 v1 ρ1 Z1) (ht : ω1 t = 1) (hO : ∀ r, r < 178 ∨ 209 < r → v2 r = v1 r) : TrI v2 ρ1 t := by
  have w27 : ω1 (ρ1 t 6) = 27 := hI.ht.rf ht (by decide) rfl
  exact ⟨h.1.vv (by rw [hO _ (hI.lo w27 (by decide))]), h.2⟩
theorem TrP.ref {N : Int} {sc : Int → Int} {ω1 : Rw} {Z1 : Mz} {t : Int} (h : TrP ρ v1 ρ1 t) (hI : LInv N sc ω1 v1 ρ1 Z1) (ht : ω1 t = 1) (hO : ∀ r, r < 178 ∨ 209 < r → v2 r = v1 r) : TrP ρ v2 ρ1 t := ⟨h.1.ref hI ht hO, h.2⟩
def CaseOk4 (g : Gp) (X : Cx) (N : Int) (sc : Int → Int) (pc : Nat) : Prop := ∀ (i : Int) (cells slots : Nat) (ω : Rw) (v ρ : Mv) (Z : Mz), 0 ≤ i → i + 6 ≤ N → cells + 20 ≤ 601024 → slots + 150 ≤ 7293034 → LInv4 N sc ω v ρ Z →
  (∀ (ω' : Rw) (v' ρ' : Mv) (Z' : Mz), LInv4 N sc ω' v' ρ' Z' → wp g X (LF []) (cells + 20) (slots + 150) 1410 (lls i) [] v' ρ' Z') → wp g X (LF []) cells slots pc (lls i) [] v ρ Z
end EqRs
