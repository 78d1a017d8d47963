theorem rgL1 {k : Int} : rgO 1 k = none := rfl
theorem rfL1 {k : Int} {d : Nat} (h : rfO 1 k = some d) : k = 0 ∧ d = 2 ∨ k = 1 ∧ d = 4 ∨ k = 2 ∧ d = 15 ∨ k = 3 ∧ d = 21 ∨ k = 4 ∧ d = 22 ∨ k = 5 ∧ d = 66 ∨ k = 6 ∧ d = 27 ∨ k = 7 ∧ d = 29 ∨ k = 8 ∧ d = 29 ∨ k = 9 ∧ d = 39 ∨ k = 10 ∧ d = 45 ∨ k = 11 ∧ d = 60 ∨ k = 12 ∧ d = 61 ∨ k = 13 ∧ d = 62 ∨ k = 14 ∧ d = 63 ∨ k = 15 ∧ d = 64 ∨ k = 16 ∧ d = 65 := by
  have h : (if k = 0 then some 2 else if k = 1 then some 4 else if k = 2 then some 15 else if k = 3 then some 21 else if k = 4 then some 22 else if k = 5 then some 66 else if k = 6 then some 27 else if k = 7 then some 29 else if k = 8 then some 29 else if k = 9 then some 39 else if k = 10 then some 45 else if k = 11 then some 60 else if k = 12 then some 61 else if k = 13 then some 62 else if k = 14 then some 63 else if k = 15 then some 64 else if k = 16 then some 65 else none) = some d := h
  by_cases h0 : k = 0
  · rw [if_pos h0] at h; cases h; exact Or.inl ⟨h0, rfl⟩
  rw [if_neg h0] at h
  by_cases h1 : k = 1
  · rw [if_pos h1] at h; cases h; exact Or.inr (Or.inl ⟨h1, rfl⟩)
  rw [if_neg h1] at h
  by_cases h2 : k = 2
  · rw [if_pos h2] at h; cases h; exact Or.inr (Or.inr (Or.inl ⟨h2, rfl⟩))
  rw [if_neg h2] at h
  by_cases h3 : k = 3
  · rw [if_pos h3] at h; cases h; exact Or.inr (Or.inr (Or.inr (Or.inl ⟨h3, rfl⟩)))
  rw [if_neg h3] at h
  by_cases h4 : k = 4
  · rw [if_pos h4] at h; cases h; exact Or.inr (Or.inr (Or.inr (Or.inr (Or.inl ⟨h4, rfl⟩))))
  rw [if_neg h4] at h
  by_cases h5 : k = 5
  · rw [if_pos h5] at h; cases h; exact Or.inr (Or.inr (Or.inr (Or.inr (Or.inr (Or.inl ⟨h5, rfl⟩)))))
  rw [if_neg h5] at h
  by_cases h6 : k = 6
  · rw [if_pos h6] at h; cases h; exact Or.inr (Or.inr (Or.inr (Or.inr (Or.inr (Or.inr (Or.inl ⟨h6, rfl⟩))))))
  rw [if_neg h6] at h
  by_cases h7 : k = 7
  · rw [if_pos h7] at h; cases h; exact Or.inr (Or.inr (Or.inr (Or.inr (Or.inr (Or.inr (Or.inr (Or.inl ⟨h7, rfl⟩)))))))
  rw [if_neg h7] at h
  by_cases h8 : k = 8
  · rw [if_pos h8] at h; cases h; exact Or.inr (Or.inr (Or.inr (Or.inr (Or.inr (Or.inr (Or.inr (Or.inr (Or.inl ⟨h8, rfl⟩))))))))
  rw [if_neg h8] at h
  by_cases h9 : k = 9
  · rw [if_pos h9] at h; cases h; exact Or.inr (Or.inr (Or.inr (Or.inr (Or.inr (Or.inr (Or.inr (Or.inr (Or.inr (Or.inl ⟨h9, rfl⟩)))))))))
  rw [if_neg h9] at h
  by_cases h10 : k = 10
  · rw [if_pos h10] at h; cases h; exact Or.inr (Or.inr (Or.inr (Or.inr (Or.inr (Or.inr (Or.inr (Or.inr (Or.inr (Or.inr (Or.inl ⟨h10, rfl⟩))))))))))
  rw [if_neg h10] at h
  by_cases h11 : k = 11
  · rw [if_pos h11] at h; cases h; exact Or.inr (Or.inr (Or.inr (Or.inr (Or.inr (Or.inr (Or.inr (Or.inr (Or.inr (Or.inr (Or.inr (Or.inl ⟨h11, rfl⟩)))))))))))
  rw [if_neg h11] at h
  by_cases h12 : k = 12
  · rw [if_pos h12] at h; cases h; exact Or.inr (Or.inr (Or.inr (Or.inr (Or.inr (Or.inr (Or.inr (Or.inr (Or.inr (Or.inr (Or.inr (Or.inr (Or.inl ⟨h12, rfl⟩))))))))))))
  rw [if_neg h12] at h
  by_cases h13 : k = 13
  · rw [if_pos h13] at h; cases h; exact Or.inr (Or.inr (Or.inr (Or.inr (Or.inr (Or.inr (Or.inr (Or.inr (Or.inr (Or.inr (Or.inr (Or.inr (Or.inr (Or.inl ⟨h13, rfl⟩)))))))))))))
  rw [if_neg h13] at h
  by_cases h14 : k = 14
  · rw [if_pos h14] at h; cases h; exact Or.inr (Or.inr (Or.inr (Or.inr (Or.inr (Or.inr (Or.inr (Or.inr (Or.inr (Or.inr (Or.inr (Or.inr (Or.inr (Or.inr (Or.inl ⟨h14, rfl⟩))))))))))))))
  rw [if_neg h14] at h
  by_cases h15 : k = 15
  · rw [if_pos h15] at h; cases h; exact Or.inr (Or.inr (Or.inr (Or.inr (Or.inr (Or.inr (Or.inr (Or.inr (Or.inr (Or.inr (Or.inr (Or.inr (Or.inr (Or.inr (Or.inr (Or.inl ⟨h15, rfl⟩)))))))))))))))
  rw [if_neg h15] at h
  by_cases h16 : k = 16
  · rw [if_pos h16] at h; cases h; exact Or.inr (Or.inr (Or.inr (Or.inr (Or.inr (Or.inr (Or.inr (Or.inr (Or.inr (Or.inr (Or.inr (Or.inr (Or.inr (Or.inr (Or.inr (Or.inr (⟨h16, rfl⟩))))))))))))))))
  rw [if_neg h16] at h
  cases h
theorem rnL1 {k : Int} {d : Nat} (h : rnO 1 k = some d) : k = 17 ∧ d = 19 := by
  have h : (if k = 17 then some 19 else none) = some d := h
  by_cases h0 : k = 17
  · rw [if_pos h0] at h; cases h; exact ⟨h0, rfl⟩
  rw [if_neg h0] at h
  cases h
theorem rgL2 {k a b : Int} (h : rgO 2 k = some (a, b)) : k = 1 ∧ a = 0 ∧ b = 940 ∨ k = 2 ∧ a = 0 ∧ b = 1000 ∨ k = 3 ∧ a = 0 ∧ b = 940 ∨ k = 4 ∧ a = 0 ∧ b = 4 ∨ k = 5 ∧ a = 0 ∧ b = 1000 ∨ k = 6 ∧ a = (-2147483648) ∧ b = 2147483647 ∨ k = 7 ∧ a = (-1) ∧ b = 21 ∨ k = 9 ∧ a = 0 ∧ b = 4 ∨ k = 10 ∧ a = 0 ∧ b = 1000 := by
  have h : (if k = 1 then some ((0 : Int), (940 : Int)) else if k = 2 then some ((0 : Int), (1000 : Int)) else if k = 3 then some ((0 : Int), (940 : Int)) else if k = 4 then some ((0 : Int), (4 : Int)) else if k = 5 then some ((0 : Int), (1000 : Int)) else if k = 6 then some (((-2147483648) : Int), (2147483647 : Int)) else if k = 7 then some (((-1) : Int), (21 : Int)) else if k = 9 then some ((0 : Int), (4 : Int)) else if k = 10 then some ((0 : Int), (1000 : Int)) else none) = some (a, b) := h
  by_cases h0 : k = 1
  · rw [if_pos h0] at h; cases h; exact Or.inl ⟨h0, rfl, rfl⟩
  rw [if_neg h0] at h
  by_cases h1 : k = 2
  · rw [if_pos h1] at h; cases h; exact Or.inr (Or.inl ⟨h1, rfl, rfl⟩)
  rw [if_neg h1] at h
  by_cases h2 : k = 3
  · rw [if_pos h2] at h; cases h; exact Or.inr (Or.inr (Or.inl ⟨h2, rfl, rfl⟩))
  rw [if_neg h2] at h
  by_cases h3 : k = 4
  · rw [if_pos h3] at h; cases h; exact Or.inr (Or.inr (Or.inr (Or.inl ⟨h3, rfl, rfl⟩)))
  rw [if_neg h3] at h
  by_cases h4 : k = 5
  · rw [if_pos h4] at h; cases h; exact Or.inr (Or.inr (Or.inr (Or.inr (Or.inl ⟨h4, rfl, rfl⟩))))
  rw [if_neg h4] at h
  by_cases h5 : k = 6
  · rw [if_pos h5] at h; cases h; exact Or.inr (Or.inr (Or.inr (Or.inr (Or.inr (Or.inl ⟨h5, rfl, rfl⟩)))))
  rw [if_neg h5] at h
  by_cases h6 : k = 7
  · rw [if_pos h6] at h; cases h; exact Or.inr (Or.inr (Or.inr (Or.inr (Or.inr (Or.inr (Or.inl ⟨h6, rfl, rfl⟩))))))
  rw [if_neg h6] at h
  by_cases h7 : k = 9
  · rw [if_pos h7] at h; cases h; exact Or.inr (Or.inr (Or.inr (Or.inr (Or.inr (Or.inr (Or.inr (Or.inl ⟨h7, rfl, rfl⟩)))))))
  rw [if_neg h7] at h
  by_cases h8 : k = 10
  · rw [if_pos h8] at h; cases h; exact Or.inr (Or.inr (Or.inr (Or.inr (Or.inr (Or.inr (Or.inr (Or.inr (⟨h8, rfl, rfl⟩))))))))
  rw [if_neg h8] at h
  cases h
theorem rfL2 {k : Int} {d : Nat} (h : rfO 2 k = some d) : k = 0 ∧ d = 3 := by
  have h : (if k = 0 then some 3 else none) = some d := h
  by_cases h0 : k = 0
  · rw [if_pos h0] at h; cases h; exact ⟨h0, rfl⟩
  rw [if_neg h0] at h
  cases h
theorem rnL2 {k : Int} : rnO 2 k = none := rfl
theorem rgL4 {k a b : Int} (h : rgO 4 k = some (a, b)) : k = 2 ∧ a = 0 ∧ b = 1 ∨ k = 3 ∧ a = 0 ∧ b = 1 := by
  have h : (if k = 2 then some ((0 : Int), (1 : Int)) else if k = 3 then some ((0 : Int), (1 : Int)) else none) = some (a, b) := h
  by_cases h0 : k = 2
  · rw [if_pos h0] at h; cases h; exact Or.inl ⟨h0, rfl, rfl⟩
  rw [if_neg h0] at h
  by_cases h1 : k = 3
  · rw [if_pos h1] at h; cases h; exact Or.inr (⟨h1, rfl, rfl⟩)
  rw [if_neg h1] at h
  cases h
theorem rfL4 {k : Int} {d : Nat} (h : rfO 4 k = some d) : k = 0 ∧ d = 2 ∨ k = 1 ∧ d = 5 := by
  have h : (if k = 0 then some 2 else if k = 1 then some 5 else none) = some d := h
  by_cases h0 : k = 0
  · rw [if_pos h0] at h; cases h; exact Or.inl ⟨h0, rfl⟩
  rw [if_neg h0] at h
  by_cases h1 : k = 1
  · rw [if_pos h1] at h; cases h; exact Or.inr (⟨h1, rfl⟩)
  rw [if_neg h1] at h
  cases h
theorem rnL4 {k : Int} : rnO 4 k = none := rfl
theorem rgL5 {k a b : Int} (h : rgO 5 k = some (a, b)) : k = 8 ∧ a = 0 ∧ b = 4 ∨ k = 9 ∧ a = 0 ∧ b = 3 ∨ k = 10 ∧ a = 0 ∧ b = 3 ∨ k = 11 ∧ a = 1 ∧ b = 9 ∨ k = 12 ∧ a = 1 ∧ b = 12 ∨ k = 13 ∧ a = 0 ∧ b = 1 := by
  have h : (if k = 8 then some ((0 : Int), (4 : Int)) else if k = 9 then some ((0 : Int), (3 : Int)) else if k = 10 then some ((0 : Int), (3 : Int)) else if k = 11 then some ((1 : Int), (9 : Int)) else if k = 12 then some ((1 : Int), (12 : Int)) else if k = 13 then some ((0 : Int), (1 : Int)) else none) = some (a, b) := h
  by_cases h0 : k = 8
  · rw [if_pos h0] at h; cases h; exact Or.inl ⟨h0, rfl, rfl⟩
  rw [if_neg h0] at h
  by_cases h1 : k = 9
  · rw [if_pos h1] at h; cases h; exact Or.inr (Or.inl ⟨h1, rfl, rfl⟩)
  rw [if_neg h1] at h
  by_cases h2 : k = 10
  · rw [if_pos h2] at h; cases h; exact Or.inr (Or.inr (Or.inl ⟨h2, rfl, rfl⟩))
  rw [if_neg h2] at h
  by_cases h3 : k = 11
  · rw [if_pos h3] at h; cases h; exact Or.inr (Or.inr (Or.inr (Or.inl ⟨h3, rfl, rfl⟩)))
  rw [if_neg h3] at h
  by_cases h4 : k = 12
  · rw [if_pos h4] at h; cases h; exact Or.inr (Or.inr (Or.inr (Or.inr (Or.inl ⟨h4, rfl, rfl⟩))))
  rw [if_neg h4] at h
  by_cases h5 : k = 13
  · rw [if_pos h5] at h; cases h; exact Or.inr (Or.inr (Or.inr (Or.inr (Or.inr (⟨h5, rfl, rfl⟩)))))
  rw [if_neg h5] at h
  cases h
theorem rfL5 {k : Int} {d : Nat} (h : rfO 5 k = some d) : k = 0 ∧ d = 6 ∨ k = 1 ∧ d = 9 ∨ k = 2 ∧ d = 10 ∨ k = 3 ∧ d = 7 ∨ k = 4 ∧ d = 11 ∨ k = 5 ∧ d = 12 ∨ k = 6 ∧ d = 8 ∨ k = 7 ∧ d = 14 := by
  have h : (if k = 0 then some 6 else if k = 1 then some 9 else if k = 2 then some 10 else if k = 3 then some 7 else if k = 4 then some 11 else if k = 5 then some 12 else if k = 6 then some 8 else if k = 7 then some 14 else none) = some d := h
  by_cases h0 : k = 0
  · rw [if_pos h0] at h; cases h; exact Or.inl ⟨h0, rfl⟩
  rw [if_neg h0] at h
  by_cases h1 : k = 1
  · rw [if_pos h1] at h; cases h; exact Or.inr (Or.inl ⟨h1, rfl⟩)
  rw [if_neg h1] at h
  by_cases h2 : k = 2
  · rw [if_pos h2] at h; cases h; exact Or.inr (Or.inr (Or.inl ⟨h2, rfl⟩))
  rw [if_neg h2] at h
  by_cases h3 : k = 3
  · rw [if_pos h3] at h; cases h; exact Or.inr (Or.inr (Or.inr (Or.inl ⟨h3, rfl⟩)))
  rw [if_neg h3] at h
  by_cases h4 : k = 4
  · rw [if_pos h4] at h; cases h; exact Or.inr (Or.inr (Or.inr (Or.inr (Or.inl ⟨h4, rfl⟩))))
  rw [if_neg h4] at h
  by_cases h5 : k = 5
  · rw [if_pos h5] at h; cases h; exact Or.inr (Or.inr (Or.inr (Or.inr (Or.inr (Or.inl ⟨h5, rfl⟩)))))
  rw [if_neg h5] at h
  by_cases h6 : k = 6
  · rw [if_pos h6] at h; cases h; exact Or.inr (Or.inr (Or.inr (Or.inr (Or.inr (Or.inr (Or.inl ⟨h6, rfl⟩))))))
  rw [if_neg h6] at h
  by_cases h7 : k = 7
  · rw [if_pos h7] at h; cases h; exact Or.inr (Or.inr (Or.inr (Or.inr (Or.inr (Or.inr (Or.inr (⟨h7, rfl⟩)))))))
  rw [if_neg h7] at h
  cases h
theorem rnL5 {k : Int} : rnO 5 k = none := rfl
theorem rgL15 {k a b : Int} (h : rgO 15 k = some (a, b)) : k = 4 ∧ a = 0 ∧ b = 40 := by
  have h : (if k = 4 then some ((0 : Int), (40 : Int)) else none) = some (a, b) := h
  by_cases h0 : k = 4
  · rw [if_pos h0] at h; cases h; exact ⟨h0, rfl, rfl⟩
  rw [if_neg h0] at h
  cases h
theorem rfL15 {k : Int} {d : Nat} (h : rfO 15 k = some d) : k = 0 ∧ d = 2 ∨ k = 1 ∧ d = 16 ∨ k = 2 ∧ d = 17 ∨ k = 3 ∧ d = 18 := by
  have h : (if k = 0 then some 2 else if k = 1 then some 16 else if k = 2 then some 17 else if k = 3 then some 18 else none) = some d := h
  by_cases h0 : k = 0
  · rw [if_pos h0] at h; cases h; exact Or.inl ⟨h0, rfl⟩
  rw [if_neg h0] at h
  by_cases h1 : k = 1
  · rw [if_pos h1] at h; cases h; exact Or.inr (Or.inl ⟨h1, rfl⟩)
  rw [if_neg h1] at h
  by_cases h2 : k = 2
  · rw [if_pos h2] at h; cases h; exact Or.inr (Or.inr (Or.inl ⟨h2, rfl⟩))
  rw [if_neg h2] at h
  by_cases h3 : k = 3
  · rw [if_pos h3] at h; cases h; exact Or.inr (Or.inr (Or.inr (⟨h3, rfl⟩)))
  rw [if_neg h3] at h
  cases h
theorem rnL15 {k : Int} : rnO 15 k = none := rfl
theorem rgL19 {k a b : Int} (h : rgO 19 k = some (a, b)) : k = 3 ∧ a = 0 ∧ b = 40 ∨ k = 4 ∧ a = 0 ∧ b = 20 := by
  have h : (if k = 3 then some ((0 : Int), (40 : Int)) else if k = 4 then some ((0 : Int), (20 : Int)) else none) = some (a, b) := h
  by_cases h0 : k = 3
  · rw [if_pos h0] at h; cases h; exact Or.inl ⟨h0, rfl, rfl⟩
  rw [if_neg h0] at h
  by_cases h1 : k = 4
  · rw [if_pos h1] at h; cases h; exact Or.inr (⟨h1, rfl, rfl⟩)
  rw [if_neg h1] at h
  cases h
theorem rfL19 {k : Int} {d : Nat} (h : rfO 19 k = some d) : k = 0 ∧ d = 20 ∨ k = 1 ∧ d = 20 ∨ k = 2 ∧ d = 20 := by
  have h : (if k = 0 then some 20 else if k = 1 then some 20 else if k = 2 then some 20 else none) = some d := h
  by_cases h0 : k = 0
  · rw [if_pos h0] at h; cases h; exact Or.inl ⟨h0, rfl⟩
  rw [if_neg h0] at h
  by_cases h1 : k = 1
  · rw [if_pos h1] at h; cases h; exact Or.inr (Or.inl ⟨h1, rfl⟩)
  rw [if_neg h1] at h
  by_cases h2 : k = 2
  · rw [if_pos h2] at h; cases h; exact Or.inr (Or.inr (⟨h2, rfl⟩))
  rw [if_neg h2] at h
  cases h
theorem rnL19 {k : Int} : rnO 19 k = none := rfl
theorem rgL21 {k : Int} : rgO 21 k = none := rfl
theorem rfL21 {k : Int} {d : Nat} (h : rfO 21 k = some d) : k = 0 ∧ d = 2 ∨ k = 1 ∧ d = 19 := by
  have h : (if k = 0 then some 2 else if k = 1 then some 19 else none) = some d := h
  by_cases h0 : k = 0
  · rw [if_pos h0] at h; cases h; exact Or.inl ⟨h0, rfl⟩
  rw [if_neg h0] at h
  by_cases h1 : k = 1
  · rw [if_pos h1] at h; cases h; exact Or.inr (⟨h1, rfl⟩)
  rw [if_neg h1] at h
  cases h
theorem rnL21 {k : Int} : rnO 21 k = none := rfl
theorem rgL22 {k a b : Int} (h : rgO 22 k = some (a, b)) : k = 2 ∧ a = 0 ∧ b = 12 := by
  have h : (if k = 2 then some ((0 : Int), (12 : Int)) else none) = some (a, b) := h
  by_cases h0 : k = 2
  · rw [if_pos h0] at h; cases h; exact ⟨h0, rfl, rfl⟩
  rw [if_neg h0] at h
  cases h
theorem rfL22 {k : Int} {d : Nat} (h : rfO 22 k = some d) : k = 0 ∧ d = 5 ∨ k = 3 ∧ d = 23 ∨ k = 4 ∧ d = 24 ∨ k = 5 ∧ d = 25 ∨ k = 6 ∧ d = 26 := by
  have h : (if k = 0 then some 5 else if k = 3 then some 23 else if k = 4 then some 24 else if k = 5 then some 25 else if k = 6 then some 26 else none) = some d := h
  by_cases h0 : k = 0
  · rw [if_pos h0] at h; cases h; exact Or.inl ⟨h0, rfl⟩
  rw [if_neg h0] at h
  by_cases h1 : k = 3
  · rw [if_pos h1] at h; cases h; exact Or.inr (Or.inl ⟨h1, rfl⟩)
  rw [if_neg h1] at h
  by_cases h2 : k = 4
  · rw [if_pos h2] at h; cases h; exact Or.inr (Or.inr (Or.inl ⟨h2, rfl⟩))
  rw [if_neg h2] at h
  by_cases h3 : k = 5
  · rw [if_pos h3] at h; cases h; exact Or.inr (Or.inr (Or.inr (Or.inl ⟨h3, rfl⟩)))
  rw [if_neg h3] at h
  by_cases h4 : k = 6
  · rw [if_pos h4] at h; cases h; exact Or.inr (Or.inr (Or.inr (Or.inr (⟨h4, rfl⟩))))
  rw [if_neg h4] at h
  cases h
theorem rnL22 {k : Int} : rnO 22 k = none := rfl
theorem rgL27 {k a b : Int} (h : rgO 27 k = some (a, b)) : k = 1 ∧ a = 0 ∧ b = 8 := by
  have h : (if k = 1 then some ((0 : Int), (8 : Int)) else none) = some (a, b) := h
  by_cases h0 : k = 1
  · rw [if_pos h0] at h; cases h; exact ⟨h0, rfl, rfl⟩
  rw [if_neg h0] at h
  cases h
theorem rfL27 {k : Int} {d : Nat} (h : rfO 27 k = some d) : k = 0 ∧ d = 28 := by
  have h : (if k = 0 then some 28 else none) = some d := h
  by_cases h0 : k = 0
  · rw [if_pos h0] at h; cases h; exact ⟨h0, rfl⟩
  rw [if_neg h0] at h
  cases h
theorem rnL27 {k : Int} : rnO 27 k = none := rfl
theorem rgL29 {k a b : Int} (h : rgO 29 k = some (a, b)) : k = 5 ∧ a = 0 ∧ b = 9 ∨ k = 6 ∧ a = 0 ∧ b = 12 := by
  have h : (if k = 5 then some ((0 : Int), (9 : Int)) else if k = 6 then some ((0 : Int), (12 : Int)) else none) = some (a, b) := h
  by_cases h0 : k = 5
  · rw [if_pos h0] at h; cases h; exact Or.inl ⟨h0, rfl, rfl⟩
  rw [if_neg h0] at h
  by_cases h1 : k = 6
  · rw [if_pos h1] at h; cases h; exact Or.inr (⟨h1, rfl, rfl⟩)
  rw [if_neg h1] at h
  cases h
theorem rfL29 {k : Int} {d : Nat} (h : rfO 29 k = some d) : k = 0 ∧ d = 5 ∨ k = 2 ∧ d = 30 ∨ k = 3 ∧ d = 31 ∨ k = 4 ∧ d = 32 ∨ k = 9 ∧ d = 33 ∨ k = 10 ∧ d = 34 ∨ k = 11 ∧ d = 35 ∨ k = 12 ∧ d = 36 ∨ k = 13 ∧ d = 37 ∨ k = 14 ∧ d = 38 := by
  have h : (if k = 0 then some 5 else if k = 2 then some 30 else if k = 3 then some 31 else if k = 4 then some 32 else if k = 9 then some 33 else if k = 10 then some 34 else if k = 11 then some 35 else if k = 12 then some 36 else if k = 13 then some 37 else if k = 14 then some 38 else none) = some d := h
  by_cases h0 : k = 0
  · rw [if_pos h0] at h; cases h; exact Or.inl ⟨h0, rfl⟩
  rw [if_neg h0] at h
  by_cases h1 : k = 2
  · rw [if_pos h1] at h; cases h; exact Or.inr (Or.inl ⟨h1, rfl⟩)
  rw [if_neg h1] at h
  by_cases h2 : k = 3
  · rw [if_pos h2] at h; cases h; exact Or.inr (Or.inr (Or.inl ⟨h2, rfl⟩))
  rw [if_neg h2] at h
  by_cases h3 : k = 4
  · rw [if_pos h3] at h; cases h; exact Or.inr (Or.inr (Or.inr (Or.inl ⟨h3, rfl⟩)))
  rw [if_neg h3] at h
  by_cases h4 : k = 9
  · rw [if_pos h4] at h; cases h; exact Or.inr (Or.inr (Or.inr (Or.inr (Or.inl ⟨h4, rfl⟩))))
  rw [if_neg h4] at h
  by_cases h5 : k = 10
  · rw [if_pos h5] at h; cases h; exact Or.inr (Or.inr (Or.inr (Or.inr (Or.inr (Or.inl ⟨h5, rfl⟩)))))
  rw [if_neg h5] at h
  by_cases h6 : k = 11
  · rw [if_pos h6] at h; cases h; exact Or.inr (Or.inr (Or.inr (Or.inr (Or.inr (Or.inr (Or.inl ⟨h6, rfl⟩))))))
  rw [if_neg h6] at h
  by_cases h7 : k = 12
  · rw [if_pos h7] at h; cases h; exact Or.inr (Or.inr (Or.inr (Or.inr (Or.inr (Or.inr (Or.inr (Or.inl ⟨h7, rfl⟩)))))))
  rw [if_neg h7] at h
  by_cases h8 : k = 13
  · rw [if_pos h8] at h; cases h; exact Or.inr (Or.inr (Or.inr (Or.inr (Or.inr (Or.inr (Or.inr (Or.inr (Or.inl ⟨h8, rfl⟩))))))))
  rw [if_neg h8] at h
  by_cases h9 : k = 14
  · rw [if_pos h9] at h; cases h; exact Or.inr (Or.inr (Or.inr (Or.inr (Or.inr (Or.inr (Or.inr (Or.inr (Or.inr (⟨h9, rfl⟩)))))))))
  rw [if_neg h9] at h
  cases h
theorem rnL29 {k : Int} : rnO 29 k = none := rfl
theorem rgL39 {k : Int} : rgO 39 k = none := rfl
theorem rfL39 {k : Int} {d : Nat} (h : rfO 39 k = some d) : k = 0 ∧ d = 29 ∨ k = 3 ∧ d = 40 ∨ k = 4 ∧ d = 42 ∨ k = 5 ∧ d = 44 := by
  have h : (if k = 0 then some 29 else if k = 3 then some 40 else if k = 4 then some 42 else if k = 5 then some 44 else none) = some d := h
  by_cases h0 : k = 0
  · rw [if_pos h0] at h; cases h; exact Or.inl ⟨h0, rfl⟩
  rw [if_neg h0] at h
  by_cases h1 : k = 3
  · rw [if_pos h1] at h; cases h; exact Or.inr (Or.inl ⟨h1, rfl⟩)
  rw [if_neg h1] at h
  by_cases h2 : k = 4
  · rw [if_pos h2] at h; cases h; exact Or.inr (Or.inr (Or.inl ⟨h2, rfl⟩))
  rw [if_neg h2] at h
  by_cases h3 : k = 5
  · rw [if_pos h3] at h; cases h; exact Or.inr (Or.inr (Or.inr (⟨h3, rfl⟩)))
  rw [if_neg h3] at h
  cases h
theorem rnL39 {k : Int} : rnO 39 k = none := rfl
theorem rgL45 {k a b : Int} (h : rgO 45 k = some (a, b)) : k = 2 ∧ a = (-1) ∧ b = 2 ∨ k = 5 ∧ a = (-1) ∧ b = 3 ∨ k = 6 ∧ a = 0 ∧ b = 12 ∨ k = 9 ∧ a = 0 ∧ b = 3 := by
  have h : (if k = 2 then some (((-1) : Int), (2 : Int)) else if k = 5 then some (((-1) : Int), (3 : Int)) else if k = 6 then some ((0 : Int), (12 : Int)) else if k = 9 then some ((0 : Int), (3 : Int)) else none) = some (a, b) := h
  by_cases h0 : k = 2
  · rw [if_pos h0] at h; cases h; exact Or.inl ⟨h0, rfl, rfl⟩
  rw [if_neg h0] at h
  by_cases h1 : k = 5
  · rw [if_pos h1] at h; cases h; exact Or.inr (Or.inl ⟨h1, rfl, rfl⟩)
  rw [if_neg h1] at h
  by_cases h2 : k = 6
  · rw [if_pos h2] at h; cases h; exact Or.inr (Or.inr (Or.inl ⟨h2, rfl, rfl⟩))
  rw [if_neg h2] at h
  by_cases h3 : k = 9
  · rw [if_pos h3] at h; cases h; exact Or.inr (Or.inr (Or.inr (⟨h3, rfl, rfl⟩)))
  rw [if_neg h3] at h
  cases h
theorem rfL45 {k : Int} {d : Nat} (h : rfO 45 k = some d) : k = 0 ∧ d = 5 ∨ k = 7 ∧ d = 46 ∨ k = 8 ∧ d = 47 ∨ k = 10 ∧ d = 48 ∨ k = 11 ∧ d = 49 ∨ k = 12 ∧ d = 50 ∨ k = 13 ∧ d = 51 ∨ k = 14 ∧ d = 52 ∨ k = 15 ∧ d = 53 ∨ k = 16 ∧ d = 54 ∨ k = 17 ∧ d = 56 ∨ k = 18 ∧ d = 57 ∨ k = 19 ∧ d = 58 := by
  have h : (if k = 0 then some 5 else if k = 7 then some 46 else if k = 8 then some 47 else if k = 10 then some 48 else if k = 11 then some 49 else if k = 12 then some 50 else if k = 13 then some 51 else if k = 14 then some 52 else if k = 15 then some 53 else if k = 16 then some 54 else if k = 17 then some 56 else if k = 18 then some 57 else if k = 19 then some 58 else none) = some d := h
  by_cases h0 : k = 0
  · rw [if_pos h0] at h; cases h; exact Or.inl ⟨h0, rfl⟩
  rw [if_neg h0] at h
  by_cases h1 : k = 7
  · rw [if_pos h1] at h; cases h; exact Or.inr (Or.inl ⟨h1, rfl⟩)
  rw [if_neg h1] at h
  by_cases h2 : k = 8
  · rw [if_pos h2] at h; cases h; exact Or.inr (Or.inr (Or.inl ⟨h2, rfl⟩))
  rw [if_neg h2] at h
  by_cases h3 : k = 10
  · rw [if_pos h3] at h; cases h; exact Or.inr (Or.inr (Or.inr (Or.inl ⟨h3, rfl⟩)))
  rw [if_neg h3] at h
  by_cases h4 : k = 11
  · rw [if_pos h4] at h; cases h; exact Or.inr (Or.inr (Or.inr (Or.inr (Or.inl ⟨h4, rfl⟩))))
  rw [if_neg h4] at h
  by_cases h5 : k = 12
  · rw [if_pos h5] at h; cases h; exact Or.inr (Or.inr (Or.inr (Or.inr (Or.inr (Or.inl ⟨h5, rfl⟩)))))
  rw [if_neg h5] at h
  by_cases h6 : k = 13
  · rw [if_pos h6] at h; cases h; exact Or.inr (Or.inr (Or.inr (Or.inr (Or.inr (Or.inr (Or.inl ⟨h6, rfl⟩))))))
  rw [if_neg h6] at h
  by_cases h7 : k = 14
  · rw [if_pos h7] at h; cases h; exact Or.inr (Or.inr (Or.inr (Or.inr (Or.inr (Or.inr (Or.inr (Or.inl ⟨h7, rfl⟩)))))))
  rw [if_neg h7] at h
  by_cases h8 : k = 15
  · rw [if_pos h8] at h; cases h; exact Or.inr (Or.inr (Or.inr (Or.inr (Or.inr (Or.inr (Or.inr (Or.inr (Or.inl ⟨h8, rfl⟩))))))))
  rw [if_neg h8] at h
  by_cases h9 : k = 16
  · rw [if_pos h9] at h; cases h; exact Or.inr (Or.inr (Or.inr (Or.inr (Or.inr (Or.inr (Or.inr (Or.inr (Or.inr (Or.inl ⟨h9, rfl⟩)))))))))
  rw [if_neg h9] at h
  by_cases h10 : k = 17
  · rw [if_pos h10] at h; cases h; exact Or.inr (Or.inr (Or.inr (Or.inr (Or.inr (Or.inr (Or.inr (Or.inr (Or.inr (Or.inr (Or.inl ⟨h10, rfl⟩))))))))))
  rw [if_neg h10] at h
  by_cases h11 : k = 18
  · rw [if_pos h11] at h; cases h; exact Or.inr (Or.inr (Or.inr (Or.inr (Or.inr (Or.inr (Or.inr (Or.inr (Or.inr (Or.inr (Or.inr (Or.inl ⟨h11, rfl⟩)))))))))))
  rw [if_neg h11] at h
  by_cases h12 : k = 19
  · rw [if_pos h12] at h; cases h; exact Or.inr (Or.inr (Or.inr (Or.inr (Or.inr (Or.inr (Or.inr (Or.inr (Or.inr (Or.inr (Or.inr (Or.inr (⟨h12, rfl⟩))))))))))))
  rw [if_neg h12] at h
  cases h
theorem rnL45 {k : Int} : rnO 45 k = none := rfl
theorem rgL66 {k a b : Int} (h : rgO 66 k = some (a, b)) : k = 2 ∧ a = 0 ∧ b = 12 := by
  have h : (if k = 2 then some ((0 : Int), (12 : Int)) else none) = some (a, b) := h
  by_cases h0 : k = 2
  · rw [if_pos h0] at h; cases h; exact ⟨h0, rfl, rfl⟩
  rw [if_neg h0] at h
  cases h
theorem rfL66 {k : Int} {d : Nat} (h : rfO 66 k = some d) : k = 0 ∧ d = 5 ∨ k = 3 ∧ d = 67 ∨ k = 4 ∧ d = 68 ∨ k = 5 ∧ d = 69 ∨ k = 6 ∧ d = 70 := by
  have h : (if k = 0 then some 5 else if k = 3 then some 67 else if k = 4 then some 68 else if k = 5 then some 69 else if k = 6 then some 70 else none) = some d := h
  by_cases h0 : k = 0
  · rw [if_pos h0] at h; cases h; exact Or.inl ⟨h0, rfl⟩
  rw [if_neg h0] at h
  by_cases h1 : k = 3
  · rw [if_pos h1] at h; cases h; exact Or.inr (Or.inl ⟨h1, rfl⟩)
  rw [if_neg h1] at h
  by_cases h2 : k = 4
  · rw [if_pos h2] at h; cases h; exact Or.inr (Or.inr (Or.inl ⟨h2, rfl⟩))
  rw [if_neg h2] at h
  by_cases h3 : k = 5
  · rw [if_pos h3] at h; cases h; exact Or.inr (Or.inr (Or.inr (Or.inl ⟨h3, rfl⟩)))
  rw [if_neg h3] at h
  by_cases h4 : k = 6
  · rw [if_pos h4] at h; cases h; exact Or.inr (Or.inr (Or.inr (Or.inr (⟨h4, rfl⟩))))
  rw [if_neg h4] at h
  cases h
theorem rnL66 {k : Int} : rnO 66 k = none := rfl
theorem rf_ne0 {c : Nat} {k : Int} {d : Nat} (h : rfO c k = some d) : d ≠ 0 := by
  intro e; subst e
  unfold rfO at h
  split at h
  all_goals (try (dsimp only at h))
  all_goals (repeat' (split at h))
  all_goals (first | cases h | exact absurd h (by decide) | (have z := rfL1 (d := 0) h; omega) | (have z := rfL45 (d := 0) h; omega))
theorem rn_ne0 {c : Nat} {k : Int} {d : Nat} (h : rnO c k = some d) : d ≠ 0 := by
  intro e; subst e
  unfold rnO at h
  split at h
  all_goals (try (dsimp only at h))
  all_goals (repeat' (split at h))
  all_goals (first | cases h | exact absurd h (by decide) | (have z := rfL1 (d := 0) h; omega) | (have z := rfL45 (d := 0) h; omega))
section
variable {ω ω' ω1 ω2 : Rw} {v ρ v' ρ' v1 ρ1 v2 ρ2 : Mv} {Z Z' Z1 Z2 : Mz} {r n m t k x K0 N M : Int} {c co ci d K Ko Ki : Nat}
theorem HT.z0 (h : HT ω v ρ Z) (hr : Z.2.2 ≤ r) : ω r = 0 := Classical.byContradiction fun e => by have := (h.1 r _ rfl e).2.1; omega
theorem HT.z3 (h : HT ω v ρ Z) (hr : r < 4) : ω r = 0 := Classical.byContradiction fun e => by have := (h.1 r _ rfl e).1; omega
/-- the same regions have the same roles and lie as they lay; others have come -/
theorem HT.ext (h : HT ω v ρ Z) (ho : ∀ q, ω q ≠ 0 → ω' q = ω q ∧ v' q = v q ∧ ρ' q = ρ q ∧ Z'.1 q = Z.1 q ∧ Z'.2.1 q = Z.2.1 q) (hz : Z.2.2 ≤ Z'.2.2) (hs : STs v' Z') (hn : ∀ q c, ω' q = c → c ≠ 0 → ω q = 0 → okR ω' v' ρ' Z' q c) : HT ω' v' ρ' Z' := ⟨fun q c hq hc => by
  by_cases e : ω q = 0
  · exact hn q c hq hc e
  · obtain ⟨o1, o2, o3, o4, o5⟩ := ho q e
    rw [o1] at hq
    obtain ⟨a1, a2, a4, a5, a6, a7, a8⟩ := h.1 q c hq hc
    refine ⟨a1, by omega, by rw [o4]; exact a4, by rw [o5]; exact a5, by rw [o2]; exact a6, fun k d hk => ?_, fun k d hk => ?_⟩
    · rw [o3]
      have z := a7 k d hk
      have z0 : ω (ρ q k) ≠ 0 := by rw [z]; exact rf_ne0 hk
      rw [(ho _ z0).1]; exact z
    · rw [o3]
      rcases a8 k d hk with z | z
      · exact Or.inl z
      · have z0 : ω (ρ q k) ≠ 0 := by rw [z]; exact rn_ne0 hk
        exact Or.inr (by rw [(ho _ z0).1]; exact z), hs⟩
theorem STs.cg (h : STs v Z) (h0 : v' 0 = v 0 ∧ Z'.1 0 = Z.1 0 ∧ Z'.2.1 0 = Z.2.1 0) (h1 : v' 1 = v 1 ∧ Z'.1 1 = Z.1 1 ∧ Z'.2.1 1 = Z.2.1 1) : STs v' Z' := by
  unfold STs
  rw [h0.1, h0.2.1, h0.2.2, h1.1, h1.2.1, h1.2.2]; exact h
theorem HT.al (h : HT ω v ρ Z) (hn : Z.2.2 = n) (h4 : 4 ≤ n) (a : Al1 n v ρ Z v' ρ' Z' K N) : HT ω v' ρ' Z' := by
  obtain ⟨a1, a2, a3, a4, a5, a6⟩ := a
  refine h.ext (fun q hq => ?_) (by omega) (h.2.cg ⟨(a6 0 (by omega)).1, (a6 0 (by omega)).2.2.1, (a6 0 (by omega)).2.2.2⟩ ⟨(a6 1 (by omega)).1, (a6 1 (by omega)).2.2.1, (a6 1 (by omega)).2.2.2⟩) (fun q c hq hc e => absurd (hq.symm.trans e) hc)
  have := h.lt rfl hq
  exact ⟨rfl, a6 q (by omega)⟩
/-- an array that may stand as it is -/
theorem HT.alR (h : HT ω v ρ Z) (hn : Z.2.2 = n) (h4 : 4 ≤ n) (c : Nat) (a : Al1 n v ρ Z v' ρ' Z' K N) (hk : kdO c = K) (hl : lnO c = N) (hg : ∀ k a b, rgO c k = some (a, b) → a ≤ 0 ∧ 0 ≤ b) (hf : ∀ k, rfO c k = none) : ∃ ω', (∀ q, q ≠ n → ω' q = ω q) ∧ ω' n = c ∧ HT ω' v' ρ' Z' := by
  refine ⟨setR ω n c, fun q hq => setR_ne hq, setR_s, ?_⟩
  have z0 := h.z0 (r := n) (by omega)
  obtain ⟨a1, a2, a3, a4, a5, a6⟩ := a
  refine h.ext (fun q hq => ?_) (by omega) (h.2.cg ⟨(a6 0 (by omega)).1, (a6 0 (by omega)).2.2.1, (a6 0 (by omega)).2.2.2⟩ ⟨(a6 1 (by omega)).1, (a6 1 (by omega)).2.2.1, (a6 1 (by omega)).2.2.2⟩) (fun q e hq hc ho => ?_)
  · have := h.lt rfl hq
    exact ⟨setR_ne (by omega), a6 q (by omega)⟩
  · by_cases eq : q = n
    · subst eq
      rw [setR_s] at hq; subst hq
      exact ⟨h4, by omega, by rw [a2, hk], by rw [a3, hl], fun k a b hh => by rw [a4]; exact hg k a b hh, (fun k d hh => by rw [hf] at hh; cases hh), fun k d hh => Or.inl (by rw [a5]; decide)⟩
    · rw [setR_ne eq] at hq
      exact absurd (hq.symm.trans ho) hc
theorem HT.al2R (h : HT ω v ρ Z) (hn : Z.2.2 = n) (h4 : 4 ≤ n) (co ci : Nat) (a : Al2 n v ρ Z v' ρ' Z' Ko Ki N M) (hN : 0 ≤ N) (hk : kdO co = Ko) (hl : lnO co = N) (hki : kdO ci = Ki) (hli : lnO ci = M) (hg : ∀ k a b, rgO ci k = some (a, b) → a ≤ 0 ∧ 0 ≤ b) (hf : ∀ k, rfO ci k = none) (hr : ∀ k, rnO ci k = none) (hgo : ∀ k, rgO co k = none) (hfo : ∀ k d, rfO co k = some d → 0 ≤ k ∧ k < N ∧ d = ci) (hro : ∀ k, rnO co k = none) (hc0 : co ≠ 0 ∧ ci ≠ 0) : ∃ ω', (∀ q, q < n → ω' q = ω q) ∧ ω' n = co ∧ (∀ j, 0 ≤ j → j < N → ω' (n + 1 + j) = ci) ∧ HT ω' v' ρ' Z' := by
  obtain ⟨a1, a2, a3, a4, a5, a6⟩ := a
  have wr : ∀ j, 0 ≤ j → j < N → (fun q => if q = n then co else if n < q ∧ q ≤ n + N then ci else ω q : Rw) (n + 1 + j) = ci := fun j j0 jN => by
    show (if _ then _ else _) = _
    rw [if_neg (by omega), if_pos (by omega)]
  refine ⟨fun q => if q = n then co else if n < q ∧ q ≤ n + N then ci else ω q, fun q hq => by show (if _ then _ else _) = _; rw [if_neg (by omega), if_neg (by omega)], if_pos rfl, wr, ?_⟩
  refine h.ext (fun q hq => ?_) (by omega) (h.2.cg ⟨(a6 0 (by omega)).1, (a6 0 (by omega)).2.2.1, (a6 0 (by omega)).2.2.2⟩ ⟨(a6 1 (by omega)).1, (a6 1 (by omega)).2.2.1, (a6 1 (by omega)).2.2.2⟩) (fun q e hq hc ho => ?_)
  · have := h.lt rfl hq
    exact ⟨by show (if _ then _ else _) = _; rw [if_neg (by omega), if_neg (by omega)], a6 q (by omega)⟩
  · have hq9 : (if q = n then co else if n < q ∧ q ≤ n + N then ci else ω q) = e := hq
    by_cases eq : q = n
    · subst eq
      rw [if_pos rfl] at hq9; subst hq9
      refine ⟨h4, by omega, by rw [a2, hk], by rw [a3, hl], (fun k a b hh => by rw [hgo] at hh; cases hh), fun k d hh => ?_, (fun k d hh => by rw [hro] at hh; cases hh)⟩
      obtain ⟨k0, kN, rfl⟩ := hfo k d hh
      rw [(a4 k k0 kN).1]; exact wr k k0 kN
    · rw [if_neg eq] at hq9
      by_cases ei : n < q ∧ q ≤ n + N
      · rw [if_pos ei] at hq9; subst hq9
        obtain ⟨j, hj⟩ : ∃ j : Int, j = q - n - 1 := ⟨_, rfl⟩
        have er : q = n + 1 + j := by omega
        subst er
        obtain ⟨-, r2, r3, r4⟩ := a4 j (by omega) (by omega)
        exact ⟨by omega, by omega, by rw [r2, hki], by rw [r3, hli], fun k a b hh => by rw [r4]; exact hg k a b hh, (fun k d hh => by rw [hf] at hh; cases hh), (fun k d hh => by rw [hr] at hh; cases hh)⟩
      · rw [if_neg ei] at hq9
        exact absurd (hq9.symm.trans ho) hc
theorem HT.uz (h : HT ω v ρ Z) (hw : ω r = 0) (h4 : 4 ≤ r) : HT ω (up v r k x) ρ Z := h.ext (fun q hq => ⟨rfl, up_f (fun e => hq (by rw [e]; exact hw)), rfl, rfl, rfl⟩) (Int.le_refl _) (h.2.cg ⟨up_f (by omega), rfl, rfl⟩ ⟨up_f (by omega), rfl, rfl⟩) (fun q c hq hc e => absurd (hq.symm.trans e) hc)
theorem HT.uzr (h : HT ω v ρ Z) (hw : ω r = 0) : HT ω v (up ρ r k x) Z := h.ext (fun q hq => ⟨rfl, rfl, up_f (fun e => hq (by rw [e]; exact hw)), rfl, rfl⟩) (Int.le_refl _) h.2 (fun q c hq hc e => absurd (hq.symm.trans e) hc)
theorem HT.add (h : HT ω v ρ Z) (hw : ω r = 0) (hk : okR (setR ω r c) v ρ Z r c) : HT (setR ω r c) v ρ Z := h.ext (fun q hq => ⟨setR_ne (fun e => hq (by rw [e]; exact hw)), rfl, rfl, rfl, rfl⟩) (Int.le_refl _) h.2 (fun q e hq hc ho => by
  by_cases eq : q = r
  · subst eq
    rw [setR_s] at hq; subst hq; exact hk
  · rw [setR_ne eq] at hq
    exact absurd (hq.symm.trans ho) hc)
def Old (n t : Int) (ω : Rw) (v ρ : Mv) (Z : Mz) (ω' : Rw) (v' ρ' : Mv) (Z' : Mz) : Prop := ∀ q, q < n → q ≠ t → ω' q = ω q ∧ v' q = v q ∧ ρ' q = ρ q ∧ Z'.1 q = Z.1 q ∧ Z'.2.1 q = Z.2.1 q
theorem Old.rf : Old n t ω v ρ Z ω v ρ Z := fun _ _ _ => ⟨rfl, rfl, rfl, rfl, rfl⟩
theorem Old.al0 (h : Old n t ω v ρ Z ω1 v1 ρ1 Z1) (a : Al1 m v1 ρ1 Z1 v2 ρ2 Z2 K N) (hm : n ≤ m) : Old n t ω v ρ Z ω1 v2 ρ2 Z2 := fun q hq ht => by
  obtain ⟨b1, b2, b3, b4⟩ := a.2.2.2.2.2 q (by omega)
  rw [b1, b2, b3, b4]; exact h q hq ht
theorem Old.al (h : Old n t ω v ρ Z ω1 v1 ρ1 Z1) (ho : ∀ q, q ≠ m → ω2 q = ω1 q) (a : Al1 m v1 ρ1 Z1 v2 ρ2 Z2 K N) (hm : n ≤ m) : Old n t ω v ρ Z ω2 v2 ρ2 Z2 := fun q hq ht => by
  obtain ⟨b1, b2, b3, b4⟩ := a.2.2.2.2.2 q (by omega)
  rw [ho q (by omega), b1, b2, b3, b4]; exact h q hq ht
theorem Old.al2 (h : Old n t ω v ρ Z ω1 v1 ρ1 Z1) (ho : ∀ q, q < m → ω2 q = ω1 q) (a : Al2 m v1 ρ1 Z1 v2 ρ2 Z2 Ko Ki N M) (hm : n ≤ m) : Old n t ω v ρ Z ω2 v2 ρ2 Z2 := fun q hq ht => by
  obtain ⟨b1, b2, b3, b4⟩ := a.2.2.2.2.2 q (by omega)
  rw [ho q (by omega), b1, b2, b3, b4]; exact h q hq ht
theorem Old.put (h : Old n t ω v ρ Z ω1 v1 ρ1 Z1) (hr : r = t ∨ n ≤ r) : Old n t ω v ρ Z ω1 (up v1 r k x) ρ1 Z1 := fun q hq ht => by
  rw [up_f (by omega)]; exact h q hq ht
theorem Old.putr (h : Old n t ω v ρ Z ω1 v1 ρ1 Z1) (hr : r = t ∨ n ≤ r) : Old n t ω v ρ Z ω1 v1 (up ρ1 r k x) Z1 := fun q hq ht => by
  rw [up_f (by omega)]; exact h q hq ht
theorem Old.ct (h : Old n t ω v ρ Z ω1 v1 ρ1 Z1) (h2 : Old m r ω1 v1 ρ1 Z1 ω2 v2 ρ2 Z2) (hm : n ≤ m) (hr : r = t ∨ n ≤ r) : Old n t ω v ρ Z ω2 v2 ρ2 Z2 := fun q hq ht => by
  obtain ⟨b0, b1, b2, b3, b4⟩ := h2 q (by omega) (by omega)
  rw [b0, b1, b2, b3, b4]; exact h q hq ht
theorem Old.set (h : Old n t ω v ρ Z ω1 v1 ρ1 Z1) : Old n t ω v ρ Z (setR ω1 t c) v1 ρ1 Z1 := fun q hq ht => by
  rw [setR_ne ht]; exact h q hq ht
theorem Old.setN (h : Old n t ω v ρ Z ω1 v1 ρ1 Z1) (hr : n ≤ r) : Old n t ω v ρ Z (setR ω1 r c) v1 ρ1 Z1 := fun q hq ht => by
  rw [setR_ne (by omega)]; exact h q hq ht
end
