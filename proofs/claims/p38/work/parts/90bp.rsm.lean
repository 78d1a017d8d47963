/-- the road's part of the reference's s, as the road's function has it -/
def RsM (f : Int → Int) (s : Rd) : Prop := (∀ k, 0 ≤ k → k < 35 → k ≠ 14 → k ≠ 21 → k ≠ 26 → k ≠ 31 → f k = s.H k) ∧ ∀ l, 0 ≤ l → l ≤ 2 → f (17 + 5 * l + 4) = 12 - opF f l 4
theorem RsM.cg {f g : Int → Int} {s : Rd} (h : RsM f s) (e : ∀ k, 0 ≤ k → k < 35 → g k = f k) : RsM g s := by
  refine ⟨fun k a b c d p q => (e k a b).trans (h.1 k a b c d p q), fun l a b => ?_⟩
  rw [e _ (by omega) (by omega), h.2 l a b, opF_cg (f := g) (g := f) l (fun k x y => e k (by omega) (by omega))]
