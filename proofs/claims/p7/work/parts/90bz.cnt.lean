section Cnt
variable {v ρ : Mv} {w l c r1 r2 : Int}
theorem EqR.count (h : EqR v ρ) (hE : v (ρ 4 0) 1 = v 178 2)
    (hp1 : (w = 0 ∧ r1 = v (ρ (ρ 4 4) 0) 8 ∨ w = 1 ∧ r1 = v (ρ (ρ 4 4) 0) 9 ∨ w = 2 ∧ r1 = v (ρ (ρ 4 4) 0) 10 ∨ w = 3 ∧ r1 = v (ρ (ρ 4 4) 0) 11 ∨ w = 4 ∧ r1 = v (ρ (ρ 4 4) 0) 12 ∨ w = 5 ∧ r1 = v (ρ (ρ 4 4) 0) 13 ∨ w = 6 ∧ r1 = v (ρ 4 0) 1 ∨ (w < 0 ∨ 6 < w) ∧ r1 = -1))
    (hp2 : (0 ≤ w ∧ w ≤ 5 ∧ r2 = v 180 w ∨ w = 6 ∧ r2 = v 178 2 ∨ (w < 0 ∨ 6 < w) ∧ r2 = -1)) : r1 = r2 := by
  obtain ⟨s, i, hc, hm⟩ := h.2.1
  have k := fun j (a : 0 ≤ j) (b : j < 6) => hm.1 j a (by omega) (by omega) (by omega) (by omega) (by omega)
  have k0 := k 0 (by decide) (by decide)
  have k1 := k 1 (by decide) (by decide)
  have k2 := k 2 (by decide) (by decide)
  have k3 := k 3 (by decide) (by decide)
  have k4 := k 4 (by decide) (by decide)
  have k5 := k 5 (by decide) (by decide)
  have a8 := hc.k8
  have a9 := hc.k9
  have a10 := hc.k10
  have a11 := hc.k11
  have a12 := hc.k12
  have a13 := hc.k13
  rcases hp1 with ⟨e, f⟩ | ⟨e, f⟩ | ⟨e, f⟩ | ⟨e, f⟩ | ⟨e, f⟩ | ⟨e, f⟩ | ⟨e, f⟩ | ⟨e, f⟩
  all_goals first | (subst e; omega) | omega
theorem EqR.land (h : EqR v ρ) (hb : v (ρ (ρ 4 4) 0) 8 ≤ 4 ∧ v (ρ (ρ 4 4) 0) 9 ≤ 3)
    (hp1 : (0 ≤ l ∧ l < v (ρ (ρ 4 4) 0) 9 ∧ (c = -1 ∧ r1 = v (ρ (ρ (ρ (ρ 4 4) 0) 5) l) 4 ∨ 0 ≤ c ∧ c < v (ρ (ρ 4 4) 0) 8 ∧ r1 = v (ρ (ρ (ρ (ρ 4 4) 0) 5) l) c) ∨ ¬ (0 ≤ l ∧ l < v (ρ (ρ 4 4) 0) 9 ∧ (c = -1 ∨ 0 ≤ c ∧ c < v (ρ (ρ 4 4) 0) 8)) ∧ r1 = -1))
    (hp2 : (0 ≤ l ∧ l < v 180 1 ∧ (c = -1 ∧ r2 = v 180 (17 + 5 * l + 4) ∨ 0 ≤ c ∧ c < v 180 0 ∧ r2 = v 180 (17 + 5 * l + c)) ∨ ¬ (0 ≤ l ∧ l < v 180 1 ∧ (c = -1 ∨ 0 ≤ c ∧ c < v 180 0)) ∧ r2 = -1)) : r1 = r2 := by
  obtain ⟨s, i, hc, hm⟩ := h.2.1
  have k0 := hm.1 0 (by decide) (by decide) (by decide) (by decide) (by decide) (by decide)
  have k1 := hm.1 1 (by decide) (by decide) (by decide) (by decide) (by decide) (by decide)
  have a8 := hc.k8
  have a9 := hc.k9
  have row : ∀ j, 0 ≤ l → l < s.H 1 → 0 ≤ j → j < 4 → v (ρ (ρ (ρ (ρ 4 4) 0) 5) l) j = v 180 (17 + 5 * l + j) := fun j p q x y => by
    rw [hc.cr l j p (by omega) x y, if_pos q, hm.1 (17 + 5 * l + j) (by omega) (by omega) (by omega) (by omega) (by omega) (by omega)]
  have grey : 0 ≤ l → l < s.H 1 → v (ρ (ρ (ρ (ρ 4 4) 0) 5) l) 4 = v 180 (17 + 5 * l + 4) := fun p q => by
    rw [hc.gr l p (by omega), hm.2 l p (by omega), row 0 p q (by decide) (by decide), row 1 p q (by decide) (by decide), row 2 p q (by decide) (by decide), row 3 p q (by decide) (by decide)]
    show _ = 12 - (0 + v 180 (17 + 5 * l + ((0 : Nat) : Int)) + v 180 (17 + 5 * l + ((1 : Nat) : Int)) + v 180 (17 + 5 * l + ((2 : Nat) : Int)) + v 180 (17 + 5 * l + ((3 : Nat) : Int)))
    simp
  rcases hp1 with ⟨p, q, ⟨x, y⟩ | ⟨x, x2, y⟩⟩ | ⟨p, q⟩
  · have g := grey p (by omega)
    omega
  · have g := row c p (by omega) x (by omega)
    omega
  · omega
end Cnt
