theorem inW_K {c : Nat} (h : inW c = true) : c ∈ KLr := by
  unfold inW at h
  simp only [Bool.or_eq_true, beq_iff_eq] at h
  rcases h with ((((h | h) | h) | h) | h) | h <;> rw [h] <;> decide
section EqRt
variable {ω : Rw} {v v' v1 v2 ρ ρ' ρ1 : Mv} {Z : Mz} {t k r : Int}
theorem TrP.sent (h : TrI v ρ t) (hw : TrW ω ρ t) (h8 : v (ρ t 6) 1 ≤ 8) (hr : ∀ r, (ω r = 22 ∨ ω r = 27 ∨ ω r = 28 ∨ ω r = 60 ∨ ω r = 66) → ρ' r = ρ r) (et : ∀ j, j ≠ 17 → ρ' t j = ρ t j) (e1 : v' (ρ t 6) 1 = v (ρ t 6) 1) : TrP ρ v' ρ' t := by
  obtain ⟨w1, w22, w5, w27, w28, w60, wj, wk⟩ := hw
  have eT := hr _ (Or.inl w22)
  have eP := hr _ (Or.inr (Or.inl w27))
  have eA := hr _ (Or.inr (Or.inr (Or.inl w28)))
  have eK := hr _ (Or.inr (Or.inr (Or.inr (Or.inl w60))))
  have e66 : ∀ r, ω r = 66 → ρ' r = ρ r := fun r h9 => hr r (Or.inr (Or.inr (Or.inr (Or.inr h9))))
  refine TrP.of h ⟨et 4 (by decide), et 5 (by decide), et 6 (by decide), et 11 (by decide)⟩ (by rw [eT]) (by rw [eP]) eK (fun j a b => ⟨j, a, b, by rw [eA]⟩) (fun j a b => ?_) (fun k a b => by rw [e66 _ (wk k a b)])
  have h9 : j < v (ρ t 6) 1 := by rw [← e1]; exact b
  rw [eP, eA, e66 _ (wj j a (by omega))]
  exact h.1 j a h9
variable {N : Int} {sc : Int → Int} {ω1 : Rw} {Z1 : Mz} {F : Int → Int} {n m : Int}
theorem TrG.ref (h : TrG ρ v1 ρ1 t k r) (hI : LInv N sc ω1 v1 ρ1 Z1) (ht : ω1 t = 1) (hO : ∀ r, r < 178 ∨ 209 < r → v2 r = v1 r) : TrG ρ v2 ρ1 t k r := ⟨h.1.ref hI ht hO, h.2⟩
theorem TrR.ref (h : TrR ρ v1 ρ1 t k r) (hI : LInv N sc ω1 v1 ρ1 Z1) (ht : ω1 t = 1) (hO : ∀ r, r < 178 ∨ 209 < r → v2 r = v1 r) : TrR ρ v2 ρ1 t k r := ⟨h.1.ref hI ht hO, h.2⟩
theorem RdT.ref (h : RdT F n m ρ v1 ρ1 t) (hI : LInv N sc ω1 v1 ρ1 Z1) (ht : ω1 t = 1) (hO : ∀ r, r < 178 ∨ 209 < r → v2 r = v1 r) : RdT F n m ρ v2 ρ1 t := by
  obtain ⟨a, b, c, d⟩ := h
  refine ⟨a.ref hI ht hO, b, c, d.imp (fun z => ⟨z.1, ?_⟩) id⟩
  have w5 : ω1 (ρ1 (ρ t 4) 0) = 5 := by
    rw [← b.1]
    exact hI.ht.rf (hI.ht.rf ht (by decide) rfl : ω1 (ρ1 t 4) = 22) (by decide) rfl
  exact z.2.frO hI.ht w5 (fun r hr => hO r (hI.lo (c := ω1 r) rfl (inW_0 hr)))
theorem RoP.cg (e : v1 180 = v 180) (h : RoP F n m v1 v2) : RoP F n m v v2 := h.imp id (fun z => ⟨z.1, z.2.trans e⟩)
end EqRt
