theorem HT.cp0 {ω : Rw} {v ρ : Mv} {Z : Mz} {a d n : Int} {c : Nat} (h : HT ω v ρ Z) (hw : ω d = c) (hc : c ≠ 0) (hk : ∀ k, rgO c k = none) : HT ω (cpM v d a n) ρ Z := ⟨fun q e he hn => by
  obtain ⟨a1, a2, a4, a5, a6, a7⟩ := h.1 q e he hn
  refine ⟨a1, a2, a4, a5, fun j y z hj => ?_, a7⟩
  by_cases hq : q = d ∧ 0 ≤ j ∧ j < n
  · obtain ⟨rfl, b1, b2⟩ := hq
    rw [← he, hw, hk j] at hj; cases hj
  · rw [show cpM v d a n q j = v q j from if_neg hq]; exact a6 j y z hj, by
  have h4 := h.g4 hw hc
  obtain ⟨b1, b2, b3, b4, b5, b6, b7, b8⟩ := h.2
  exact ⟨b1, b2, by rw [cpM_ne (by omega)]; exact b3, by rw [cpM_ne (by omega)]; exact b4, by rw [cpM_ne (by omega)]; exact b5, b6, b7, fun k h0 h1 => by rw [cpM_ne (by omega)]; exact b8 k h0 h1⟩⟩
