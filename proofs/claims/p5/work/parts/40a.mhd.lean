/-! the road that is being read -/
abbrev HB (k x : Int) : Prop := (k = 0 → 0 ≤ x ∧ x ≤ 4) ∧ (k = 1 ∨ k = 2 → 0 ≤ x ∧ x ≤ 3) ∧ (k = 3 → 1 ≤ x ∧ x ≤ 9) ∧ (k = 4 → 1 ≤ x ∧ x ≤ 12) ∧ (k = 5 → 0 ≤ x ∧ x ≤ 1) ∧ (6 ≤ k ∧ k < 10 → 0 ≤ x ∧ x ≤ 3) ∧ (10 ≤ k ∧ k < 14 → 0 ≤ x ∧ x ≤ 1) ∧ (14 ≤ k ∧ k < 17 → 0 ≤ x ∧ x ≤ 9) ∧ (17 ≤ k ∧ k < 32 → 0 ≤ x ∧ x ≤ 12) ∧ (32 ≤ k ∧ k < 35 → 0 ≤ x ∧ x ≤ 8)
def HInv (f : Int → Int) : Prop := (∀ k, 0 ≤ k → k < 35 → HB k (f k)) ∧ (∀ l, 0 ≤ l → l ≤ 2 → f (17 + 5 * l + 0) + f (17 + 5 * l + 1) + f (17 + 5 * l + 2) + f (17 + 5 * l + 3) ≤ 12) ∧ (∀ l, 0 ≤ l → l ≤ 2 → l < f 1 → 1 ≤ f (14 + l))
theorem HInv.h0 {f : Int → Int} (h : HInv f) : (0 ≤ f 0 ∧ f 0 ≤ 4) ∧ (0 ≤ f 1 ∧ f 1 ≤ 3) ∧ (0 ≤ f 2 ∧ f 2 ≤ 3) := ⟨(h.1 0 (by decide) (by decide)).1 rfl, (h.1 1 (by decide) (by decide)).2.1 (Or.inl rfl), (h.1 2 (by decide) (by decide)).2.1 (Or.inr rfl)⟩
theorem HInv.start {f : Int → Int} (h3 : f 3 = 9) (h4 : f 4 = 12) (hz : ∀ k, 0 ≤ k → k < 35 → k ≠ 3 → k ≠ 4 → f k = 0) : HInv f := by
  refine ⟨fun k a b => ?_, fun l a b => ?_, fun l a b c => ?_⟩
  · by_cases e3 : k = 3
    · subst e3; rw [h3]; omega
    · by_cases e4 : k = 4
      · subst e4; rw [h4]; omega
      · rw [hz k a b e3 e4]; omega
  · rw [hz _ (by omega) (by omega) (by omega) (by omega), hz _ (by omega) (by omega) (by omega) (by omega), hz _ (by omega) (by omega) (by omega) (by omega), hz _ (by omega) (by omega) (by omega) (by omega)]; omega
  · rw [hz 1 (by omega) (by omega) (by omega) (by omega)] at c; omega
/-- one place but those of the twelfths, of the lands' number and of their chances -/
theorem HInv.put {f g : Int → Int} (h : HInv f) {k : Int} (hg : ∀ j, j ≠ k → g j = f j) (hk : 0 ≤ k ∧ k < 35) (hb : HB k (g k)) (hn : k ≠ 1 ∧ ¬ (14 ≤ k ∧ k < 32)) : HInv g := by
  refine ⟨fun j a b => ?_, fun l a b => ?_, fun l a b c => ?_⟩
  · by_cases e : j = k
    · subst e; exact hb
    · rw [hg j e]; exact h.1 j a b
  · rw [hg _ (by omega), hg _ (by omega), hg _ (by omega), hg _ (by omega)]; exact h.2.1 l a b
  · rw [hg 1 (by omega)] at c; rw [hg _ (by omega)]; exact h.2.2 l a b c
/-- a land's own places, while it is read -/
theorem HInv.land {f g : Int → Int} (h : HInv f) {l : Int} (hl : 0 ≤ l ∧ l ≤ 2) (e1 : g 1 = f 1) (hlt : f 1 ≤ l) (hg : ∀ j, j ≠ 14 + l → ¬ (17 + 5 * l ≤ j ∧ j < 17 + 5 * l + 4) → g j = f j) (hc : 0 ≤ g (14 + l) ∧ g (14 + l) ≤ 9) (hb : ∀ c, 0 ≤ c → c ≤ 3 → 0 ≤ g (17 + 5 * l + c) ∧ g (17 + 5 * l + c) ≤ 12) (hs : g (17 + 5 * l + 0) + g (17 + 5 * l + 1) + g (17 + 5 * l + 2) + g (17 + 5 * l + 3) ≤ 12) : HInv g := by
  refine ⟨fun j a b => ?_, fun m a b => ?_, fun m a b c => ?_⟩
  · by_cases e : j = 14 + l
    · subst e; omega
    · by_cases e2 : 17 + 5 * l ≤ j ∧ j < 17 + 5 * l + 4
      · have z := hb (j - (17 + 5 * l)) (by omega) (by omega)
        rw [show 17 + 5 * l + (j - (17 + 5 * l)) = j by omega] at z
        omega
      · rw [hg j e e2]; exact h.1 j a b
  · by_cases e : m = l
    · subst e; exact hs
    · rw [hg _ (by omega) (by omega), hg _ (by omega) (by omega), hg _ (by omega) (by omega), hg _ (by omega) (by omega)]; exact h.2.1 m a b
  · rw [e1] at c; rw [hg _ (by omega) (by omega)]; exact h.2.2 m a b c
theorem HInv.more {f g : Int → Int} (h : HInv f) (hg : ∀ j, j ≠ 1 → g j = f j) (h1 : g 1 = f 1 + 1) (h3 : f 1 ≤ 2) (hc : 1 ≤ f (14 + f 1)) : HInv g := by
  have z := h.h0
  refine ⟨fun j a b => ?_, fun l a b => ?_, fun l a b c => ?_⟩
  · by_cases e : j = 1
    · subst e; rw [h1]; omega
    · rw [hg j e]; exact h.1 j a b
  · rw [hg _ (by omega), hg _ (by omega), hg _ (by omega), hg _ (by omega)]; exact h.2.1 l a b
  · rw [hg _ (by omega)]
    by_cases e : l = f 1
    · subst e; exact hc
    · exact h.2.2 l a b (by omega)
theorem RInv.read {f g : Int → Int} (h : HInv f) (h14 : 1 ≤ g 14 ∧ g 14 ≤ 9) (ha : ∀ k, k < 35 → k ≠ 14 → k ≠ 21 → k ≠ 26 → k ≠ 31 → g k = f k) (hs : ∀ l, 0 ≤ l → l ≤ 2 → g (17 + 5 * l + 4) = 12 - opF f l 4) : RInv g := by
  have hb : ∀ k, 0 ≤ k → k < 35 → k ≠ 14 → k ≠ 21 → k ≠ 26 → k ≠ 31 → HB k (g k) := fun k a b c d e i => by rw [ha k b c d e i]; exact h.1 k a b
  have ho : ∀ l, opF f l 4 = f (17 + 5 * l + 0) + f (17 + 5 * l + 1) + f (17 + 5 * l + 2) + f (17 + 5 * l + 3) := fun l => by
    show 0 + f (17 + 5 * l + ((0 : Nat) : Int)) + f (17 + 5 * l + ((1 : Nat) : Int)) + f (17 + 5 * l + ((2 : Nat) : Int)) + f (17 + 5 * l + ((3 : Nat) : Int)) = _
    simp
  refine ⟨?_, ?_, ?_, ?_, ?_, ?_, fun c a b => ?_, fun c a b => ?_, fun l a b => ?_, fun l c a b d e => ?_, fun l a b => ?_, fun q a b => ?_⟩
  · exact (hb 0 (by decide) (by decide) (by decide) (by decide) (by decide) (by decide)).1 rfl
  · exact (hb 1 (by decide) (by decide) (by decide) (by decide) (by decide) (by decide)).2.1 (Or.inl rfl)
  · exact (hb 2 (by decide) (by decide) (by decide) (by decide) (by decide) (by decide)).2.1 (Or.inr rfl)
  · exact (hb 3 (by decide) (by decide) (by decide) (by decide) (by decide) (by decide)).2.2.1 rfl
  · exact (hb 4 (by decide) (by decide) (by decide) (by decide) (by decide) (by decide)).2.2.2.1 rfl
  · exact (hb 5 (by decide) (by decide) (by decide) (by decide) (by decide) (by decide)).2.2.2.2.1 rfl
  · exact (hb (6 + c) (by omega) (by omega) (by omega) (by omega) (by omega) (by omega)).2.2.2.2.2.1 (by omega)
  · exact (hb (10 + c) (by omega) (by omega) (by omega) (by omega) (by omega) (by omega)).2.2.2.2.2.2.1 (by omega)
  · by_cases e : l = 0
    · subst e; exact ⟨Int.le_trans (by decide) h14.1, h14.2, fun _ => h14.1⟩
    · have z := (hb (14 + l) (by omega) (by omega) (by omega) (by omega) (by omega) (by omega)).2.2.2.2.2.2.2.1 (by omega)
      refine ⟨z.1, z.2, fun y => ?_⟩
      rw [ha 1 (by omega) (by omega) (by omega) (by omega) (by omega)] at y
      rw [ha (14 + l) (by omega) (by omega) (by omega) (by omega) (by omega)]
      exact h.2.2 l a b (by omega)
  · by_cases e4 : c = 4
    · subst e4
      rw [hs l a b, ho]
      have z0 := h.1 (17 + 5 * l + 0) (by omega) (by omega)
      have z1 := h.1 (17 + 5 * l + 1) (by omega) (by omega)
      have z2 := h.1 (17 + 5 * l + 2) (by omega) (by omega)
      have z3 := h.1 (17 + 5 * l + 3) (by omega) (by omega)
      have := h.2.1 l a b
      have y0 := z0.2.2.2.2.2.2.2.2.1 (by omega)
      have y1 := z1.2.2.2.2.2.2.2.2.1 (by omega)
      have y2 := z2.2.2.2.2.2.2.2.2.1 (by omega)
      have y3 := z3.2.2.2.2.2.2.2.2.1 (by omega)
      clear z0 z1 z2 z3
      omega
    · have z := (hb (17 + 5 * l + c) (by omega) (by omega) (by omega) (by omega) (by omega) (by omega)).2.2.2.2.2.2.2.2.1 (by omega)
      exact z
  · rw [hs l a b, ho, ha _ (by omega) (by omega) (by omega) (by omega) (by omega), ha _ (by omega) (by omega) (by omega) (by omega) (by omega), ha _ (by omega) (by omega) (by omega) (by omega) (by omega), ha _ (by omega) (by omega) (by omega) (by omega) (by omega)]
    omega
  · exact (hb (32 + q) (by omega) (by omega) (by omega) (by omega) (by omega) (by omega)).2.2.2.2.2.2.2.2.2 (by omega)
