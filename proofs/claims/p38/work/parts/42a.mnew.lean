theorem HInv.cg {f g : Int → Int} (h : HInv f) (hg : ∀ k, 0 ≤ k → k < 35 → g k = f k) : HInv g :=
  ⟨fun k a b => by rw [hg k a b]; exact h.1 k a b, fun l a b => by rw [hg _ (by omega) (by omega), hg _ (by omega) (by omega), hg _ (by omega) (by omega), hg _ (by omega) (by omega)]; exact h.2.1 l a b, fun l a b c => by rw [hg 1 (by omega) (by omega)] at c; rw [hg _ (by omega) (by omega)]; exact h.2.2 l a b c⟩
theorem SInv.new {f : Int → Int} (h : RInv f) (hz : ∀ k, 35 ≤ k → k < 238 → ¬ (42 ≤ k ∧ k < 45) → f k = 0) (hq : ∀ q, 0 ≤ q → q ≤ 2 → f (42 + q) = f (32 + q)) : SInv f := by
  have h35 := hz 35 (by omega) (by omega) (by omega)
  have h57 := hz 57 (by omega) (by omega) (by omega)
  have h0 := h.1
  have h4 := h.2.2.2.2.1
  have h32 := h.2.2.2.2.2.2.2.2.2.2.2
  refine ⟨h, ⟨by omega, fun q a b => ?_, fun q a b => ?_, fun q a b => ?_, fun i a b => ?_, 0, by omega, Or.inl rfl, fun i a b => by omega⟩, ⟨by omega, by omega, fun n hn => by omega⟩⟩
  · rw [hz _ (by omega) (by omega) (by omega)]; omega
  · rw [hz _ (by omega) (by omega) (by omega)]; omega
  · have := h32 q a b
    rw [hq q a b]; omega
  · rw [hz _ (by omega) (by omega) (by omega)]; omega
