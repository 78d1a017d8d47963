theorem ix_ok {G S : Int → Int} {q mo p : Int} (h : q = (G 0 * 9 + G 1) * 9 + G 2) (hg : ∀ k, 0 ≤ G k ∧ G k ≤ 8) (hs : p = 0 ∧ S p = 81 ∨ p = 1 ∧ S p = 9 ∨ p = 2 ∧ S p = 1) (hm : 0 ≤ mo) (h8 : G p + mo ≤ 8) : 0 ≤ q + mo * S p ∧ q + mo * S p < 729 := by
  have g0 := hg 0
  have g1 := hg 1
  have g2 := hg 2
  rcases hs with ⟨rfl, e⟩ | ⟨rfl, e⟩ | ⟨rfl, e⟩ <;> rw [e] <;> omega
