section
variable {g : Gp} {X : Cx} {F : Fm} {cells slots pc : Nat} {ls st : List V2} {v ρ : Mv} {Z : Mz}
theorem r_ishl4 (hX : okX g X F) (i : Nat) {x y : Int} (hf : (fprg F)[i]? = some (pc, .ishl, 1)) (hx : x = 1) (hy : y = 0 ∨ y = 2 ∨ y = 4 ∨ y = 6) (k : ∀ z : Int, 0 ≤ z ∧ z ≤ 64 → wp g X F cells slots (pc + 1) ls ((0, z) :: st) v ρ Z) : wp g X F cells slots pc ls ((0, y) :: (0, x) :: st) v ρ Z := by
  subst hx
  rcases hy with rfl | rfl | rfl | rfl <;> exact wp_some _ (fun ad H locs la kk => lv_ishl hX.1 hX.2.1 (hX.dec hf) kk) (fun h => scop_c (scop_c h)) (k _ (by decide))
end
theorem mul_b {a b : Int} (ha : 0 ≤ a ∧ a ≤ 3) (hb : 0 ≤ b ∧ b ≤ 12) : 0 ≤ a * b ∧ a * b ≤ 36 := ⟨Int.mul_nonneg ha.1 hb.1, Int.mul_le_mul ha.2 hb.2 hb.1 (by decide)⟩
/-- what the turns' reckoning keeps -/
def RtI (u v : Mv) : Prop := (0 ≤ v 178 42 ∧ v 178 42 ≤ 3) ∧ (∀ k, 0 ≤ k → k < v 178 42 → 0 ≤ v 201 k ∧ v 201 k ≤ 3) ∧ WtN (u 180) (v 189) (u 180 35).toNat
theorem RtI.fr {u v w : Mv} (h : RtI u v) (a : w 178 42 = v 178 42) (b : w 201 = v 201) (c : w 189 = v 189) : RtI u w := by
  unfold RtI; rw [a, b, c]; exact h
