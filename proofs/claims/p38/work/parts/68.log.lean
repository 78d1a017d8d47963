def LgO (A W : Int → Int) (n : Int) : Prop := ∀ i, 0 ≤ i → i < n → A i ≠ 9 → 0 ≤ W i
theorem LgO.none {A W : Int → Int} : LgO A W 0 := fun i a b => by omega
theorem LgO.step {A W A' W' : Int → Int} {n : Int} (h : LgO A W n) (h1 : A' n ≠ 9 → 0 ≤ W' n) (h2 : ∀ k, k ≠ n → A' k = A k ∧ W' k = W k) : LgO A' W' (n + 1) := fun i a b c => by
  by_cases e : i = n
  · subst e; exact h1 c
  · rw [(h2 i e).1] at c
    rw [(h2 i e).2]; exact h i a (by omega) c
