/-! what changes on a road; what is kept of it -/
def RdEq (f g : Int → Int) : Prop := ∀ k, ¬ (35 ≤ k ∧ k < 57) → g k = f k
theorem RdEq.rf {f : Int → Int} : RdEq f f := fun _ _ => rfl
theorem RdEq.tr {f g h : Int → Int} (a : RdEq f g) (b : RdEq g h) : RdEq f h := fun k hk => (b k hk).trans (a k hk)
theorem RInv.cg {f g : Int → Int} (h : RInv f) (hg : ∀ k, k < 35 → g k = f k) : RInv g := by
  obtain ⟨a0, a1, a2, a3, a4, a5, a6, a7, a8, a9, a10, a11⟩ := h
  exact ⟨by rw [hg 0 (by omega)]; exact a0, by rw [hg 1 (by omega)]; exact a1, by rw [hg 2 (by omega)]; exact a2, by rw [hg 3 (by omega)]; exact a3, by rw [hg 4 (by omega)]; exact a4, by rw [hg 5 (by omega)]; exact a5, fun c h0 h1 => by rw [hg _ (by omega)]; exact a6 c h0 h1, fun c h0 h1 => by rw [hg _ (by omega)]; exact a7 c h0 h1, fun l h0 h1 => by rw [hg (14 + l) (by omega), hg 1 (by omega)]; exact a8 l h0 h1, fun l c h0 h1 h2 h3 => by rw [hg _ (by omega)]; exact a9 l c h0 h1 h2 h3, fun l h0 h1 => by rw [hg _ (by omega), hg _ (by omega), hg _ (by omega), hg _ (by omega), hg _ (by omega)]; exact a10 l h0 h1, fun q h0 h1 => by rw [hg _ (by omega)]; exact a11 q h0 h1⟩
theorem SInv.st {f g : Int → Int} (h : SInv f) (hr : RdEq f g) (ht : TInv g) : SInv g := ⟨h.1.cg (fun k hk => hr k (by omega)), ht, h.2.2.congr (fun k hk => (hr k (by omega)).symm)⟩
theorem SInv.take {f g : Int → Int} (h : SInv f) {q c : Int} (hq : 0 ≤ q ∧ q ≤ 2) (hc : 0 ≤ c ∧ c < f 0) (hg : ∀ k, k ≠ 36 + q → k ≠ 39 + q → g k = f k) (h1 : g (36 + q) = c + 1) (h2 : 0 ≤ g (39 + q) ∧ g (39 + q) ≤ 1) : SInv g ∧ RdEq f g := by
  have hr : RdEq f g := fun k hk => hg k (by omega) (by omega)
  refine ⟨h.st hr ?_, hr⟩
  have c1 := h.c1
  have c4 := h.c4
  obtain ⟨-, ⟨b0, b1, b2, b3, b4, l, l0, l1, l2⟩, -⟩ := h
  refine ⟨by rw [hg 35 (by omega) (by omega), hg 4 (by omega) (by omega)]; exact b0, fun p h0 h9 => ?_, fun p h0 h9 => ?_, fun p h0 h9 => by rw [hg (42 + p) (by omega) (by omega), hg 35 (by omega) (by omega), hg 2 (by omega) (by omega)]; exact b3 p h0 h9, fun i h0 h9 => by rw [hg _ (by omega) (by omega)]; exact b4 i h0 h9, l, l0, by rw [hg 1 (by omega) (by omega)]; exact l1, fun i h0 h9 => ?_⟩
  · rw [hg 0 (by omega) (by omega)]
    by_cases e : p = q
    · subst e; rw [h1]; omega
    · rw [hg (36 + p) (by omega) (by omega)]; exact b1 p h0 h9
  · by_cases e : p = q
    · subst e; exact h2
    · rw [hg (39 + p) (by omega) (by omega)]; exact b2 p h0 h9
  · rw [hg 35 (by omega) (by omega)] at h9
    have z := l2 i h0 h9
    have hb := b4 i h0 (by omega)
    rw [hg (45 + i) (by omega) (by omega), hg _ (by omega) (by omega)]
    exact z
theorem SInv.come {f g : Int → Int} (h : SInv f) (hr : RdEq f g) {c l : Int} (hc : 0 ≤ c ∧ c ≤ 4) (h35 : g 35 = f 35 + 1) (hlt : f 35 < f 4) (hcar : g (45 + f 35) = c) (hcars : ∀ i, 0 ≤ i → i ≤ 11 → i ≠ f 35 → g (45 + i) = f (45 + i)) (hhas : ∀ k, 36 ≤ k → k ≤ 41 → g k = f k) (hsc : ∀ q, 0 ≤ q → q ≤ 2 → f (42 + q) ≤ g (42 + q) ∧ g (42 + q) ≤ f (42 + q) + 3 ∧ (f 2 ≤ q → g (42 + q) = f (42 + q))) (hl : 0 ≤ l ∧ (l = 0 ∨ l < f 1)) (hf : ∀ i, 0 ≤ i → i < f 35 → 1 ≤ f (17 + 5 * l + f (45 + i))) (hfc : 1 ≤ f (17 + 5 * l + c)) : SInv g ∧ ∀ i, 0 ≤ i → i < g 35 → 1 ≤ g (17 + 5 * l + g (45 + i)) := by
  have c35 := h.c35
  have c4 := h.c4
  have c1 := h.c1
  have hF : ∀ i, 0 ≤ i → i < g 35 → 1 ≤ g (17 + 5 * l + g (45 + i)) := fun i h0 h1 => by
    by_cases e : i = f 35
    · subst e
      rw [hcar, hr _ (by omega)]; exact hfc
    · have z := h.c45 i h0 (by omega)
      rw [hcars i h0 (by omega) e, hr _ (by omega)]
      exact hf i h0 (by omega)
  refine ⟨h.st hr ⟨by rw [h35, hr 4 (by omega)]; omega, fun q h0 h1 => by rw [hhas _ (by omega) (by omega), hr 0 (by omega)]; exact ⟨(h.c36 q h0 h1).1, (h.c36 q h0 h1).2.1⟩, fun q h0 h1 => by rw [hhas _ (by omega) (by omega)]; exact h.c39 q h0 h1, fun q h0 h1 => ?_, fun i h0 h1 => ?_, l, hl.1, by rw [hr 1 (by omega)]; exact hl.2, hF⟩, hF⟩
  · have z := h.c42 q h0 h1
    have y := hsc q h0 h1
    rw [h35, hr 2 (by omega)]
    refine ⟨by omega, by omega, fun k => ?_⟩
    have := y.2.2 k
    have := z.2.2.1 k
    omega
  · by_cases e : i = f 35
    · subst e; rw [hcar]; exact hc
    · rw [hcars i h0 h1 e]; exact h.c45 i h0 h1
/-- the road f with another state -/
def cmb (f t : Int → Int) : Int → Int := fun k => if 35 ≤ k ∧ k < 57 then t (k - 35) else f k
theorem cmb_rd {f t : Int → Int} : RdEq f (cmb f t) := fun k hk => if_neg hk
theorem cmb_eq {f g t : Int → Int} (hr : RdEq f g) (ht : ∀ i, 0 ≤ i → i < 22 → g (35 + i) = t i) : g = cmb f t := by
  funext k
  unfold cmb
  split
  · have := ht (k - 35) (by omega) (by omega)
    rw [show 35 + (k - 35) = k by omega] at this
    exact this
  · exact hr k (by assumption)
theorem cmb_cg {f g t : Int → Int} (hr : RdEq f g) : cmb g t = cmb f t := by
  funext k
  unfold cmb
  split
  · rfl
  · exact hr k (by assumption)
theorem cmb_ext {f t u : Int → Int} (h : ∀ i, 0 ≤ i → i < 22 → t i = u i) : cmb f t = cmb f u := by
  funext k
  unfold cmb
  split
  · exact h _ (by omega) (by omega)
  · rfl
/-- m states are kept in U, each good on the road f -/
def UInv (f U : Int → Int) (m : Int) : Prop := 0 ≤ m ∧ m ≤ 8 ∧ ∀ j, 0 ≤ j → j < m → TInv (cmb f (fun i => U (22 * j + i)))
theorem UInv.rd {f g U : Int → Int} {m : Int} (h : UInv f U m) (hr : RdEq f g) : UInv g U m := ⟨h.1, h.2.1, fun j h0 h1 => by rw [cmb_cg hr]; exact h.2.2 j h0 h1⟩
theorem UInv.none {f U : Int → Int} : UInv f U 0 := ⟨by decide, by decide, fun j h0 h1 => by omega⟩
