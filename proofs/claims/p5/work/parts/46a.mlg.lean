def RdL (f s : Int → Int) (k : Int) : Prop := 0 ≤ f (k + 1) ∧ (f k = 0 ∨ f k = 1 → f (k + 1) < s 2 ∧ 0 ≤ f (k + 2) ∧ f (k + 2) < s 0) ∧ (f k = 2 → f (k + 1) ≤ 4) ∧ 0 ≤ f k ∧ f k ≤ 2
theorem RdL.cg {f g s t : Int → Int} {k : Int} (h : RdL f s k) (a : g k = f k) (b : g (k + 1) = f (k + 1)) (c : g (k + 2) = f (k + 2)) (hs : RdEq s t) : RdL g t k := by
  unfold RdL
  rw [a, b, c, hs 2 (by omega), hs 0 (by omega)]; exact h
theorem RdL.mk2 {f s : Int → Int} {k : Int} (a : f k = 2) (b : 0 ≤ f (k + 1)) (c : f (k + 1) ≤ 4) : RdL f s k := ⟨b, fun d => by omega, fun _ => c, by omega, by omega⟩
theorem RdL.mk01 {f s : Int → Int} {k : Int} (a : f k = 0 ∨ f k = 1) (b : 0 ≤ f (k + 1)) (c : f (k + 1) < s 2) (d : 0 ≤ f (k + 2)) (e : f (k + 2) < s 0) : RdL f s k := ⟨b, fun _ => ⟨c, d, e⟩, fun z => by omega, by omega, by omega⟩
theorem RdEq.sy {f g : Int → Int} (h : RdEq f g) : RdEq g f := fun k hk => (h k hk).symm
theorem RdEq.ext {f g : Int → Int} (hr : RdEq f g) (h : ∀ k, 0 ≤ k → k < 22 → g (35 + k) = f (35 + k)) : g = f := by
  funext k
  by_cases e : 35 ≤ k ∧ k < 57
  · have z := h (k - 35) (by omega) (by omega)
    rw [show 35 + (k - 35) = k by omega] at z; exact z
  · exact hr k e
theorem UInv.set {f g U : Int → Int} {m : Int} (hS : SInv g) (hr : RdEq g f) (h : UInv f U (m - 1)) (h1 : 1 ≤ m) (h8 : m ≤ 8) (hw : ∀ i, 0 ≤ i → i < 22 → U (22 * (m - 1) + i) = g (35 + i)) : UInv f U m := ⟨by omega, h8, fun j a b => by
  by_cases e : j < m - 1
  · exact h.2.2 j a e
  · have e2 : j = m - 1 := by omega
    subst e2
    rw [← cmb_eq hr.sy (fun i c d => (hw i c d).symm)]; exact hS.2.1⟩
theorem UInv.less {f U : Int → Int} {m : Int} (h : UInv f U m) (h1 : 1 ≤ m) : UInv f U (m - 1) := ⟨by omega, by have := h.2.1; omega, fun j a b => h.2.2 j a (by omega)⟩
