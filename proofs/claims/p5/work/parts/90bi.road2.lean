section RoadT
variable {F : Int → Int} {n m : Int} {ω : Rw} {v v' ρ ρ' : Mv} {Z : Mz} {t k i L o : Int} {s : Rd}
theorem RcI.frO (h : RcI v ρ o L i s) (hH : HT ω v ρ Z) (ho : ω o = 5) (hf : ∀ r, inW (ω r) = true → v' r = v r) : RcI v' ρ o L i s := by
  have w12 : ω (ρ o 5) = 12 := hH.rf ho (by decide) rfl
  have w6 : ω (ρ o 0) = 6 := hH.rf ho (by decide) rfl
  have w10 : ω (ρ o 2) = 10 := hH.rf ho (by decide) rfl
  have w7 : ω (ρ o 3) = 7 := hH.rf ho (by decide) rfl
  have w8 : ω (ρ o 6) = 8 := hH.rf ho (by decide) rfl
  exact h.row (hf _ (by rw [ho]; rfl)) (hf _ (by rw [w6]; rfl)) (hf _ (by rw [w10]; rfl)) (hf _ (by rw [w7]; rfl)) (hf _ (by rw [w8]; rfl)) (fun l a b => hf _ (by rw [show ω (ρ (ρ o 5) l) = 13 from hH.rf w12 (by decide) (rf12 ⟨a, b⟩)]; rfl))
/-- a road below N stands where its regions stand -/
theorem RcI.frB {N : Int} (h : RcI v ρ o L i s) (hH : HT ω v ρ Z) (ho : ω o = 5) (hN : Z.2.2 = N) (hf : ∀ r, r < N → inW (ω r) = true → v' r = v r) (e1 : ρ' o = ρ o) (e2 : ρ' (ρ o 5) = ρ (ρ o 5)) : RcI v' ρ' o L i s := by
  have w12 : ω (ρ o 5) = 12 := hH.rf ho (by decide) rfl
  have w6 : ω (ρ o 0) = 6 := hH.rf ho (by decide) rfl
  have w10 : ω (ρ o 2) = 10 := hH.rf ho (by decide) rfl
  have w7 : ω (ρ o 3) = 7 := hH.rf ho (by decide) rfl
  have w8 : ω (ρ o 6) = 8 := hH.rf ho (by decide) rfl
  have lt : ∀ r c, ω r = c → c ≠ 0 → r < N := fun r c a b => by rw [← hN]; exact hH.lt a b
  have z := h.row (v' := v') (hf _ (lt _ _ ho (by decide)) (by rw [ho]; rfl)) (hf _ (lt _ _ w6 (by decide)) (by rw [w6]; rfl)) (hf _ (lt _ _ w10 (by decide)) (by rw [w10]; rfl)) (hf _ (lt _ _ w7 (by decide)) (by rw [w7]; rfl)) (hf _ (lt _ _ w8 (by decide)) (by rw [w8]; rfl)) (fun l a b => by
    have w13 : ω (ρ (ρ o 5) l) = 13 := hH.rf w12 (by decide) (rf12 ⟨a, b⟩)
    exact hf _ (lt _ _ w13 (by decide)) (by rw [w13]; rfl))
  exact z.rho e1 e2
theorem TrI.new (h : TrI v ρ t) (hw : TrW ω ρ t) (hr : ∀ r, (ω r = 27 ∨ ω r = 28 ∨ ω r = 60 ∨ ω r = 66) → ρ' r = ρ r) (ht : ρ' t 4 = ρ t 4 ∧ ρ' t 5 = ρ t 5 ∧ ρ' t 6 = ρ t 6 ∧ ρ' t 11 = ρ t 11) (e1 : v' (ρ t 6) 1 = 0) : TrI v' ρ' t ∧ (ρ' t 4 = ρ t 4 ∧ ρ' t 11 = ρ t 11 ∧ ρ' (ρ t 11) = ρ (ρ t 11)) ∧ ∀ j, 0 ≤ j → j < 2 → ρ' (ρ (ρ t 11) j) 0 = ρ (ρ (ρ t 11) j) 0 := by
  obtain ⟨w1, w22, w5, w27, w28, w60, wj, wk⟩ := hw
  have eA := hr _ (Or.inr (Or.inl w28))
  have eP := hr _ (Or.inl w27)
  have eK := hr _ (Or.inr (Or.inr (Or.inl w60)))
  refine ⟨⟨?_, ?_⟩, ⟨ht.1, ht.2.2.2, eK⟩, fun j a b => by rw [hr _ (Or.inr (Or.inr (Or.inr (wk j a b))))]⟩
  · rw [ht.2.2.1]
    intro j a b
    rw [e1] at b
    omega
  · unfold TrD
    rw [ht.2.2.1, eP, eA, ht.2.2.2, eK, ht.2.1]
    exact h.2
theorem TrI.old (h : TrI v ρ t) (hw : TrW ω ρ t) (h8 : v (ρ t 6) 1 ≤ 8) (hr : ∀ r, (ω r = 1 ∨ ω r = 22 ∨ ω r = 27 ∨ ω r = 28 ∨ ω r = 60 ∨ ω r = 66) → ρ' r = ρ r) (e1 : v' (ρ t 6) 1 = v (ρ t 6) 1) : TrP ρ v' ρ' t := by
  obtain ⟨w1, w22, w5, w27, w28, w60, wj, wk⟩ := hw
  have et := hr _ (Or.inl w1)
  have eT := hr _ (Or.inr (Or.inl w22))
  have eP := hr _ (Or.inr (Or.inr (Or.inl w27)))
  have eA := hr _ (Or.inr (Or.inr (Or.inr (Or.inl w28))))
  have eK := hr _ (Or.inr (Or.inr (Or.inr (Or.inr (Or.inl w60)))))
  have e66 : ∀ r, ω r = 66 → ρ' r = ρ r := fun r h9 => hr r (Or.inr (Or.inr (Or.inr (Or.inr (Or.inr h9)))))
  refine TrP.of h ⟨by rw [et], by rw [et], by rw [et], by rw [et]⟩ (by rw [eT]) (by rw [eP]) eK (fun j a b => ⟨j, a, b, by rw [eA]⟩) (fun j a b => ?_) (fun k a b => by rw [e66 _ (wk k a b)])
  have h9 : j < v (ρ t 6) 1 := by rw [← e1]; exact b
  rw [eP, eA, e66 _ (wj j a (by omega))]
  exact h.1 j a h9
/-- road: the trips and their roads behind it -/
def RdT (F : Int → Int) (n m : Int) (ρ v' ρ' : Mv) (t : Int) : Prop := TrI v' ρ' t ∧ (ρ' t 4 = ρ t 4 ∧ ρ' t 11 = ρ t 11 ∧ ρ' (ρ t 11) = ρ (ρ t 11)) ∧ (∀ k, 0 ≤ k → k < 2 → ρ' (ρ (ρ t 11) k) 0 = ρ (ρ (ρ t 11) k) 0) ∧ ((rRoad F n m).1 = 0 ∧ RcI v' ρ' (ρ' (ρ t 4) 0) ((rRoad F n m).2.2.H 1) (rRoad F n m).2.1 (rRoad F n m).2.2 ∨ (rRoad F n m).1 ≠ 0 ∧ ρ' (ρ t 4) 0 = ρ (ρ t 4) 0)
end RoadT
