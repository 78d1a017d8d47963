def InjI (h : Int → Int) : Prop := ∀ c d, 0 ≤ c → c ≤ 3 → 0 ≤ d → d ≤ 3 → 0 ≤ h c → h c = h d → c = d
def LimI (h l w : Int → Int) : Prop := ∀ c, 0 ≤ c → c ≤ 3 → 0 ≤ h c → l c * w c ≤ 8
/-- so far each has what the colours before c gave him -/
def RchI (R S h : Int → Int) (c : Int) : Prop := ∀ p, 0 ≤ p → p ≤ 2 → 0 ≤ R p - S p ∧ R p - S p ≤ 8 ∧ ((∀ j, 0 ≤ j → j < c → h j ≠ p) → R p = S p)
theorem RchI.step {R R' S h l w m : Int → Int} {c : Int} (hr : RchI R S h c) (hi : InjI h) (hl : LimI h l w) (c0 : 0 ≤ c) (c3 : c ≤ 3) (m0 : 0 ≤ m c) (ml : m c ≤ l c) (w0 : 0 ≤ w c) (h1 : h c = -1 → ∀ k, R' k = R k) (h2 : 0 ≤ h c → R' (h c) = R (h c) + m c * w c ∧ ∀ k, k ≠ h c → R' k = R k) (hh : -1 ≤ h c) : RchI R' S h (c + 1) := by
  intro p p0 p2
  obtain ⟨a, b, d⟩ := hr p p0 p2
  by_cases e : h c = p
  · have hc : 0 ≤ h c := by omega
    have z := (h2 hc).1
    rw [e] at z
    have y := d (fun j j0 jc q => by
      have := hi c j c0 c3 j0 (by omega) hc (by omega)
      omega)
    have x := hl c c0 c3 hc
    have x2 : m c * w c ≤ l c * w c := Int.mul_le_mul_of_nonneg_right ml w0
    have x3 : 0 ≤ m c * w c := Int.mul_nonneg m0 w0
    exact ⟨by omega, by omega, fun q => absurd e (q c c0 (by omega))⟩
  · have z : R' p = R p := by
      by_cases f : h c = -1
      · exact h1 f p
      · exact (h2 (by omega)).2 p (fun q => e q.symm)
    rw [z]
    exact ⟨a, b, fun q => d (fun j j0 jc => q j j0 (by omega))⟩
theorem RchI.start {R S h : Int → Int} (e : ∀ p, 0 ≤ p → p ≤ 2 → R p = S p) : RchI R S h 0 := fun p a b => by
  have := e p a b
  exact ⟨by omega, by omega, fun _ => this⟩
theorem ix_ok2 {R T S : Int → Int} {q mo p : Int} (h : q = ((R 0 - T 0) * 9 + (R 1 - T 1)) * 9 + (R 2 - T 2)) (hg : ∀ k, 0 ≤ k → k ≤ 2 → 0 ≤ R k - T k ∧ R k - T k ≤ 8) (hs : p = 0 ∧ S p = 81 ∨ p = 1 ∧ S p = 9 ∨ p = 2 ∧ S p = 1) (hm : 0 ≤ mo) (h8 : R p - T p + mo ≤ 8) : 0 ≤ q + mo * S p ∧ q + mo * S p < 729 := by
  have g0 := hg 0 (by omega) (by omega)
  have g1 := hg 1 (by omega) (by omega)
  have g2 := hg 2 (by omega) (by omega)
  rcases hs with ⟨rfl, e⟩ | ⟨rfl, e⟩ | ⟨rfl, e⟩ <;> rw [e] <;> omega
theorem c13 {b : Int} (h0 : 0 ≤ b) (h1 : b ≤ 12) : b = 0 ∨ b = 1 ∨ b = 2 ∨ b = 3 ∨ b = 4 ∨ b = 5 ∨ b = 6 ∨ b = 7 ∨ b = 8 ∨ b = 9 ∨ b = 10 ∨ b = 11 ∨ b = 12 := by omega
theorem mx2 {b : Int} (h0 : 0 ≤ b) (h1 : b ≤ 12) : 0 ≤ b * (b + 1) ∧ b * (b + 1) ≤ 156 := by
  rcases c13 h0 h1 with e | e | e | e | e | e | e | e | e | e | e | e | e <;> subst e <;> decide
theorem mx3 {b : Int} (h0 : 0 ≤ b) (h1 : b ≤ 12) : 0 ≤ b * (b + 1) * (b + 2) ∧ b * (b + 1) * (b + 2) ≤ 2184 := by
  rcases c13 h0 h1 with e | e | e | e | e | e | e | e | e | e | e | e | e <;> subst e <;> decide
theorem mx4 {b : Int} (h0 : 0 ≤ b) (h1 : b ≤ 12) : 0 ≤ b * (b + 1) * (b + 2) * (b + 3) ∧ b * (b + 1) * (b + 2) * (b + 3) ≤ 32760 := by
  rcases c13 h0 h1 with e | e | e | e | e | e | e | e | e | e | e | e | e <;> subst e <;> decide
theorem divmul {x y : Int} (h0 : 0 ≤ x) (h1 : 0 < y) : x / y * y ≤ x ∧ 0 ≤ x / y ∧ x / y ≤ x := by
  have a := Int.ediv_mul_le x (b := y) (by omega)
  have b := Int.ediv_nonneg h0 (Int.le_of_lt h1)
  exact ⟨a, b, Int.ediv_le_self y h0⟩
