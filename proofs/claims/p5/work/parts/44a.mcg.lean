theorem dpF_cgB {f g : Int → Int} (h : ∀ k, 0 ≤ k → k < 238 → g k = f k) : ∀ n : Nat, n ≤ 60 → dpF g n = dpF f n
  | 0, _ => rfl
  | n + 1, hn => by
    show dpF g n + _ = dpF f n + _
    rw [dpF_cgB h n (by omega), h (58 + 3 * (n : Int)) (by omega) (by omega)]
theorem SInv.cgB {f g : Int → Int} (hS : SInv f) (hg : ∀ k, 0 ≤ k → k < 238 → g k = f k) : SInv g := by
  have c1 := hS.c1
  have c4 := hS.c4
  have c57 := hS.c57
  obtain ⟨⟨a0, a1, a2, a3, a4, a5, a6, a7, a8, a9, a10, a11⟩, ⟨b0, b1, b2, b3, b4, l, l0, l1, l2⟩, d0, d1, d2⟩ := hS
  refine ⟨⟨by rw [hg 0 (by omega) (by omega)]; exact a0, by rw [hg 1 (by omega) (by omega)]; exact a1, by rw [hg 2 (by omega) (by omega)]; exact a2, by rw [hg 3 (by omega) (by omega)]; exact a3, by rw [hg 4 (by omega) (by omega)]; exact a4, by rw [hg 5 (by omega) (by omega)]; exact a5, fun c h0 h1 => by rw [hg _ (by omega) (by omega)]; exact a6 c h0 h1, fun c h0 h1 => by rw [hg _ (by omega) (by omega)]; exact a7 c h0 h1, fun l h0 h1 => by rw [hg (14 + l) (by omega) (by omega), hg 1 (by omega) (by omega)]; exact a8 l h0 h1, fun l c h0 h1 h2 h3 => by rw [hg _ (by omega) (by omega)]; exact a9 l c h0 h1 h2 h3, fun l h0 h1 => by rw [hg _ (by omega) (by omega), hg _ (by omega) (by omega), hg _ (by omega) (by omega), hg _ (by omega) (by omega), hg _ (by omega) (by omega)]; exact a10 l h0 h1, fun q h0 h1 => by rw [hg _ (by omega) (by omega)]; exact a11 q h0 h1⟩, ⟨by rw [hg 35 (by omega) (by omega), hg 4 (by omega) (by omega)]; exact b0, fun q h0 h1 => by rw [hg (36 + q) (by omega) (by omega), hg 0 (by omega) (by omega)]; exact b1 q h0 h1, fun q h0 h1 => by rw [hg _ (by omega) (by omega)]; exact b2 q h0 h1, fun q h0 h1 => by rw [hg (42 + q) (by omega) (by omega), hg 35 (by omega) (by omega), hg 2 (by omega) (by omega)]; exact b3 q h0 h1, fun i h0 h1 => by rw [hg _ (by omega) (by omega)]; exact b4 i h0 h1, l, l0, by rw [hg 1 (by omega) (by omega)]; exact l1, fun i h0 h1 => ?_⟩, by rw [hg 57 (by omega) (by omega)]; exact d0, by rw [hg 57 (by omega) (by omega)]; exact d1, fun n hn => ?_⟩
  · rw [hg 35 (by omega) (by omega)] at h1
    have z := l2 i h0 h1
    have y := b4 i h0 (by omega)
    rw [hg (45 + i) (by omega) (by omega), hg _ (by omega) (by omega)]
    exact z
  · rw [hg 57 (by omega) (by omega)] at hn
    rw [dpF_cgB hg n (by omega), hg (58 + 3 * (n : Int)) (by omega) (by omega)]
    exact d2 n hn
