/-- land l can still be where it is -/
def Fz (f : Int → Int) (l : Int) : Prop := 0 ≤ l ∧ (l = 0 ∨ l < f 1) ∧ ∀ i, 0 ≤ i → i < f 35 → 1 ≤ f (17 + 5 * l + f (45 + i))
theorem SInv.come1 {f g : Int → Int} (h : SInv f) {c : Int} (hc : 0 ≤ c ∧ c ≤ 4) (hlt : f 35 < f 4) (hE : ∃ l, Fz f l ∧ 1 ≤ f (17 + 5 * l + c)) (e35 : g 35 = f 35 + 1) (ec : g (45 + f 35) = c) (ek : ∀ k, k ≠ 35 → k ≠ 45 + f 35 → ¬ (42 ≤ k ∧ k ≤ 44) → g k = f k) (hsc : ∀ q, 0 ≤ q → q ≤ 2 → f (42 + q) ≤ g (42 + q) ∧ g (42 + q) ≤ f (42 + q) + 3 ∧ (f 2 ≤ q → g (42 + q) = f (42 + q))) : SInv g ∧ RdEq f g ∧ ∀ l, Fz f l → 1 ≤ f (17 + 5 * l + c) → Fz g l := by
  have c35 := h.c35
  have c4 := h.c4
  have hr : RdEq f g := fun k hk => ek k (by omega) (by omega) (by omega)
  have key : ∀ l, Fz f l → 1 ≤ f (17 + 5 * l + c) → SInv g ∧ Fz g l := fun l hl hc1 => by
    have z := SInv.come h hr hc e35 hlt ec (fun i h0 h1 h2 => ek _ (by omega) (by omega) (by omega)) (fun k h0 h1 => ek _ (by omega) (by omega) (by omega)) hsc ⟨hl.1, hl.2.1⟩ hl.2.2 hc1
    exact ⟨z.1, hl.1, by rw [hr 1 (by omega)]; exact hl.2.1, z.2⟩
  obtain ⟨l, a, b⟩ := hE
  exact ⟨(key l a b).1, hr, fun l a b => (key l a b).2⟩
theorem UInv.shift {f U W : Int → Int} (h : UInv f U 8) (hw : ∀ k, 0 ≤ k → k < 154 → W k = U (k + 22)) : UInv f W 7 := ⟨by decide, by decide, fun j h0 h1 => by
  have z := h.2.2 (j + 1) (by omega) (by omega)
  rw [cmb_ext (u := fun i => U (22 * (j + 1) + i)) (fun i a b => by show W (22 * j + i) = _; rw [hw _ (by omega) (by omega), show 22 * j + i + 22 = 22 * (j + 1) + i by omega])]
  exact z⟩
theorem UInv.wr {f U W : Int → Int} {m : Int} (h : UInv f U m) (hw : ∀ k, k < 22 * m → W k = U k) : UInv f W m := ⟨h.1, h.2.1, fun j h0 h1 => by
  rw [cmb_ext (u := fun i => U (22 * j + i)) (fun i a b => hw _ (by omega))]
  exact h.2.2 j h0 h1⟩
theorem UInv.add {f U : Int → Int} {m : Int} (h : UInv f U m) (hm : m ≤ 7) (ht : TInv f) (hw : ∀ i, 0 ≤ i → i < 22 → U (22 * m + i) = f (35 + i)) : UInv f U (m + 1) := ⟨by have := h.1; omega, by omega, fun j h0 h1 => by
  by_cases e : j = m
  · subst e
    rw [← cmb_eq (g := f) RdEq.rf (fun i a b => (hw i a b).symm)]
    exact ht
  · exact h.2.2 j h0 (by omega)⟩
theorem UInv.pop {f g U : Int → Int} {m : Int} (h : UInv f U m) (hS : SInv f) (hm : m ≠ 0) (hr : RdEq f g) (hg : ∀ i, 0 ≤ i → i < 22 → g (35 + i) = U (22 * (m - 1) + i)) : SInv g ∧ UInv g U (m - 1) := by
  have h0 := h.1
  have h1 := h.2.1
  have z := h.2.2 (m - 1) (by omega) (by omega)
  rw [← cmb_eq hr hg] at z
  exact ⟨hS.st hr z, UInv.rd ⟨by omega, by omega, fun j a b => h.2.2 j a (by omega)⟩ hr⟩
def SRU (v v' : Mv) : Prop := SInv (v' 180) ∧ RdEq (v 180) (v' 180) ∧ UInv (v' 180) (v' 187) (v' 178 25)
theorem SRU.same {v v' : Mv} (hS : SInv (v 180)) (hU : UInv (v 180) (v 187) (v 178 25)) (a : v' 180 = v 180) (b : v' 187 = v 187) (c : v' 178 25 = v 178 25) : SRU v v' := by
  unfold SRU; rw [a, b, c]; exact ⟨hS, RdEq.rf, hU⟩
/-- the chances of the lands before n that are still possible -/
def csF (f w : Int → Int) : Nat → Int
  | 0 => 0
  | n + 1 => csF f w n + if 0 < w (n : Int) then f (14 + (n : Int)) else 0
theorem csF_s {f w : Int → Int} {i : Int} (h : 0 ≤ i) : csF f w (i + 1).toNat = csF f w i.toNat + if 0 < w i then f (14 + i) else 0 := by
  rw [show (i + 1).toNat = i.toNat + 1 by omega]
  show csF f w i.toNat + (if 0 < w (i.toNat : Int) then f (14 + (i.toNat : Int)) else 0) = _
  rw [show (i.toNat : Int) = i by omega]
theorem csF_b {f w : Int → Int} (hS : SInv f) : ∀ n : Nat, n ≤ 3 → 0 ≤ csF f w n ∧ csF f w n ≤ 9 * n
  | 0, _ => ⟨Int.le_refl 0, by show (0 : Int) ≤ _; omega⟩
  | n + 1, h => by
    have z := csF_b hS (w := w) n (by omega)
    have y := hS.c14 n (by omega) (by omega)
    have e : csF f w (n + 1) = csF f w n + if 0 < w (n : Int) then f (14 + (n : Int)) else 0 := rfl
    rw [e]
    split <;> constructor <;> push_cast <;> omega
theorem csF_p {f w : Int → Int} (hS : SInv f) {l : Int} (h0 : 0 ≤ l) (hf : l = 0 ∨ l < f 1) (hw : 0 < w l) : ∀ n : Nat, n ≤ 3 → l < n → 0 < csF f w n
  | 0, _, h => by omega
  | n + 1, h, h1 => by
    have z := csF_b hS (w := w) n (by omega)
    have y := hS.c14 n (by omega) (by omega)
    have e : csF f w (n + 1) = csF f w n + if 0 < w (n : Int) then f (14 + (n : Int)) else 0 := rfl
    rw [e]
    by_cases c : l = (n : Int)
    · subst c
      rw [if_pos hw]
      have := y.2.2 hf
      omega
    · have := csF_p hS h0 hf hw n (by omega) (by omega)
      split <;> omega
theorem csF_all {f w : Int → Int} (hS : SInv f) (hw : WtN f w (f 35).toNat) : 0 < csF f w (ldsF f).toNat ∧ csF f w (ldsF f).toNat ≤ 27 := by
  have hl := hS.lds
  have c1 := hS.c1
  have c35 := hS.c35
  have b := csF_b hS (w := w) (ldsF f).toNat (by omega)
  refine ⟨?_, by omega⟩
  obtain ⟨l, l0, l1, l2⟩ := hS.2.1.2.2.2.2.2
  have hlt : l < ldsF f := by unfold ldsF; split <;> omega
  refine csF_p hS l0 l1 ?_ _ (by omega) (by omega)
  rw [hw l l0 hlt]
  exact wt_pos hS l1 l0 (by omega) _ (fun i a b => l2 i a (by omega))
/-- the first n twelfths of land l -/
def opF (f : Int → Int) (l : Int) : Nat → Int
  | 0 => 0
  | n + 1 => opF f l n + f (17 + 5 * l + (n : Int))
theorem opF_s {f : Int → Int} {l i : Int} (h : 0 ≤ i) : opF f l (i + 1).toNat = opF f l i.toNat + f (17 + 5 * l + i) := by
  rw [show (i + 1).toNat = i.toNat + 1 by omega]
  show opF f l i.toNat + f (17 + 5 * l + (i.toNat : Int)) = _
  rw [show (i.toNat : Int) = i by omega]
theorem opF_5 {f : Int → Int} (hS : SInv f) {l : Int} (h0 : 0 ≤ l) (h2 : l ≤ 2) : opF f l 5 = 12 := by
  have := hS.sum l h0 h2
  show 0 + f (17 + 5 * l + ((0 : Nat) : Int)) + f (17 + 5 * l + ((1 : Nat) : Int)) + f (17 + 5 * l + ((2 : Nat) : Int)) + f (17 + 5 * l + ((3 : Nat) : Int)) + f (17 + 5 * l + ((4 : Nat) : Int)) = 12
  simpa using this
