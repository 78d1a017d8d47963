section RdCu
variable {F : Int → Int} {n m : Int} {v v' ρ : Mv} {t i L r : Int} {s : Rd} {ω : Rw} {Z : Mz}

theorem RdC.inc0 {x y : Int} (h : RdC F n m v ρ t i L s) (hw : RtW ω ρ t) (hn : v (ρ (ρ t 1) 0) x = s.N (0 + x) ∧ NmB (s.N (0 + x))) (hx : s.H 0 = x) (hy : y = x + 1) : RdC F n m (up v (ρ t 1) 8 y) ρ t i L (Rd.wH s (sv s.H 0 y)) := by
  have hT : TkC F n m (up v (ρ t 1) 8 y) ρ (ρ t 0) s.p := h.tk.oth hw hw.w5 (by decide) (by decide)
  have eT : (up v (ρ t 1) 8 y) (ρ t 0) = v (ρ t 0) := up_f (rne hw.w2 hw.w5 (by decide))
  have eB : (up v (ρ t 1) 8 y) (ρ (ρ t 0) 0) = v (ρ (ρ t 0) 0) := up_f (rne hw.w3 hw.w5 (by decide))
  have et : (up v (ρ t 1) 8 y) t = v t := up_f (rne hw.w4 hw.w5 (by decide))
  have e0 : (up v (ρ t 1) 8 y) (ρ (ρ t 1) 0) = v (ρ (ρ t 1) 0) := up_f (rne hw.w6 hw.w5 (by decide))
  have e2 : (up v (ρ t 1) 8 y) (ρ (ρ t 1) 2) = v (ρ (ρ t 1) 2) := up_f (rne hw.w10 hw.w5 (by decide))
  have e3 : (up v (ρ t 1) 8 y) (ρ (ρ t 1) 3) = v (ρ (ρ t 1) 3) := up_f (rne hw.w7 hw.w5 (by decide))
  have e6 : (up v (ρ t 1) 8 y) (ρ (ρ t 1) 6) = v (ρ (ρ t 1) 6) := up_f (rne hw.w8 hw.w5 (by decide))
  have eR : ∀ l, 0 ≤ l → l < 3 → (up v (ρ t 1) 8 y) (ρ (ρ (ρ t 1) 5) l) = v (ρ (ρ (ρ t 1) 5) l) := fun l a b => up_f (rne (hw.w13 l a b) hw.w5 (by decide))
  obtain ⟨-, ⟨a8, a9, a10, a11, a12, a13, a14, b, c0, c1, c2, d, e, f⟩, h3, h4⟩ := h
  refine ⟨hT, ⟨(up_s _ _ _ _).trans (show y = sv s.H 0 y 0 from sv_s.symm), (up_k (by decide)).trans (a9.trans (show s.H 1 = sv s.H 0 y 1 from (sv_n (by decide)).symm)), (up_k (by decide)).trans (a10.trans (show s.H 2 = sv s.H 0 y 2 from (sv_n (by decide)).symm)), (up_k (by decide)).trans (a11.trans (show s.H 3 = sv s.H 0 y 3 from (sv_n (by decide)).symm)), (up_k (by decide)).trans (a12.trans (show s.H 4 = sv s.H 0 y 4 from (sv_n (by decide)).symm)), (up_k (by decide)).trans (a13.trans (show s.H 5 = sv s.H 0 y 5 from (sv_n (by decide)).symm)), (up_k (by decide)).trans a14, fun c p q => ?_, ?_, ?_, ?_, fun l c p q p2 q2 => ?_, fun l p q => ?_, f⟩, by rw [et]; exact h3, by rw [et]; exact h4⟩
  · rw [e2]; exact (b c p q).trans (show s.H (10 + c) = sv s.H 0 y (10 + c) from (sv_n (by omega)).symm)
  · show ∀ j, 0 ≤ j → j < sv s.H 0 y 0 → _
    rw [sv_s, e0]
    intro j p q
    by_cases z : j = x
    · rw [z]; exact hn
    · exact c0 j p (by omega)
  · show ∀ j, 0 ≤ j → j < sv s.H 0 y 1 → _
    rw [sv_n (by decide), e3]
    exact c1
  · show ∀ j, 0 ≤ j → j < sv s.H 0 y 2 → _
    rw [sv_n (by decide), e6]
    exact c2
  · rw [eR l p q, d l c p q p2 q2]
    show _ = if l < L then sv s.H 0 y (17 + 5 * l + c) else 0
    rw [sv_n (by omega)]
  · rw [eR l p q]; exact e l p q

theorem RdC.inc1 {x y : Int} (h : RdC F n m v ρ t i L s) (hw : RtW ω ρ t) (hn : v (ρ (ρ t 1) 3) x = s.N (4 + x) ∧ NmB (s.N (4 + x))) (hx : s.H 1 = x) (hy : y = x + 1) : RdC F n m (up v (ρ t 1) 9 y) ρ t i L (Rd.wH s (sv s.H 1 y)) := by
  have hT : TkC F n m (up v (ρ t 1) 9 y) ρ (ρ t 0) s.p := h.tk.oth hw hw.w5 (by decide) (by decide)
  have eT : (up v (ρ t 1) 9 y) (ρ t 0) = v (ρ t 0) := up_f (rne hw.w2 hw.w5 (by decide))
  have eB : (up v (ρ t 1) 9 y) (ρ (ρ t 0) 0) = v (ρ (ρ t 0) 0) := up_f (rne hw.w3 hw.w5 (by decide))
  have et : (up v (ρ t 1) 9 y) t = v t := up_f (rne hw.w4 hw.w5 (by decide))
  have e0 : (up v (ρ t 1) 9 y) (ρ (ρ t 1) 0) = v (ρ (ρ t 1) 0) := up_f (rne hw.w6 hw.w5 (by decide))
  have e2 : (up v (ρ t 1) 9 y) (ρ (ρ t 1) 2) = v (ρ (ρ t 1) 2) := up_f (rne hw.w10 hw.w5 (by decide))
  have e3 : (up v (ρ t 1) 9 y) (ρ (ρ t 1) 3) = v (ρ (ρ t 1) 3) := up_f (rne hw.w7 hw.w5 (by decide))
  have e6 : (up v (ρ t 1) 9 y) (ρ (ρ t 1) 6) = v (ρ (ρ t 1) 6) := up_f (rne hw.w8 hw.w5 (by decide))
  have eR : ∀ l, 0 ≤ l → l < 3 → (up v (ρ t 1) 9 y) (ρ (ρ (ρ t 1) 5) l) = v (ρ (ρ (ρ t 1) 5) l) := fun l a b => up_f (rne (hw.w13 l a b) hw.w5 (by decide))
  obtain ⟨-, ⟨a8, a9, a10, a11, a12, a13, a14, b, c0, c1, c2, d, e, f⟩, h3, h4⟩ := h
  refine ⟨hT, ⟨(up_k (by decide)).trans (a8.trans (show s.H 0 = sv s.H 1 y 0 from (sv_n (by decide)).symm)), (up_s _ _ _ _).trans (show y = sv s.H 1 y 1 from sv_s.symm), (up_k (by decide)).trans (a10.trans (show s.H 2 = sv s.H 1 y 2 from (sv_n (by decide)).symm)), (up_k (by decide)).trans (a11.trans (show s.H 3 = sv s.H 1 y 3 from (sv_n (by decide)).symm)), (up_k (by decide)).trans (a12.trans (show s.H 4 = sv s.H 1 y 4 from (sv_n (by decide)).symm)), (up_k (by decide)).trans (a13.trans (show s.H 5 = sv s.H 1 y 5 from (sv_n (by decide)).symm)), (up_k (by decide)).trans a14, fun c p q => ?_, ?_, ?_, ?_, fun l c p q p2 q2 => ?_, fun l p q => ?_, f⟩, by rw [et]; exact h3, by rw [et]; exact h4⟩
  · rw [e2]; exact (b c p q).trans (show s.H (10 + c) = sv s.H 1 y (10 + c) from (sv_n (by omega)).symm)
  · show ∀ j, 0 ≤ j → j < sv s.H 1 y 0 → _
    rw [sv_n (by decide), e0]
    exact c0
  · show ∀ j, 0 ≤ j → j < sv s.H 1 y 1 → _
    rw [sv_s, e3]
    intro j p q
    by_cases z : j = x
    · rw [z]; exact hn
    · exact c1 j p (by omega)
  · show ∀ j, 0 ≤ j → j < sv s.H 1 y 2 → _
    rw [sv_n (by decide), e6]
    exact c2
  · rw [eR l p q, d l c p q p2 q2]
    show _ = if l < L then sv s.H 1 y (17 + 5 * l + c) else 0
    rw [sv_n (by omega)]
  · rw [eR l p q]; exact e l p q

theorem RdC.inc2 {x y : Int} (h : RdC F n m v ρ t i L s) (hw : RtW ω ρ t) (hn : v (ρ (ρ t 1) 6) x = s.N (7 + x) ∧ NmB (s.N (7 + x))) (hx : s.H 2 = x) (hy : y = x + 1) : RdC F n m (up v (ρ t 1) 10 y) ρ t i L (Rd.wH s (sv s.H 2 y)) := by
  have hT : TkC F n m (up v (ρ t 1) 10 y) ρ (ρ t 0) s.p := h.tk.oth hw hw.w5 (by decide) (by decide)
  have eT : (up v (ρ t 1) 10 y) (ρ t 0) = v (ρ t 0) := up_f (rne hw.w2 hw.w5 (by decide))
  have eB : (up v (ρ t 1) 10 y) (ρ (ρ t 0) 0) = v (ρ (ρ t 0) 0) := up_f (rne hw.w3 hw.w5 (by decide))
  have et : (up v (ρ t 1) 10 y) t = v t := up_f (rne hw.w4 hw.w5 (by decide))
  have e0 : (up v (ρ t 1) 10 y) (ρ (ρ t 1) 0) = v (ρ (ρ t 1) 0) := up_f (rne hw.w6 hw.w5 (by decide))
  have e2 : (up v (ρ t 1) 10 y) (ρ (ρ t 1) 2) = v (ρ (ρ t 1) 2) := up_f (rne hw.w10 hw.w5 (by decide))
  have e3 : (up v (ρ t 1) 10 y) (ρ (ρ t 1) 3) = v (ρ (ρ t 1) 3) := up_f (rne hw.w7 hw.w5 (by decide))
  have e6 : (up v (ρ t 1) 10 y) (ρ (ρ t 1) 6) = v (ρ (ρ t 1) 6) := up_f (rne hw.w8 hw.w5 (by decide))
  have eR : ∀ l, 0 ≤ l → l < 3 → (up v (ρ t 1) 10 y) (ρ (ρ (ρ t 1) 5) l) = v (ρ (ρ (ρ t 1) 5) l) := fun l a b => up_f (rne (hw.w13 l a b) hw.w5 (by decide))
  obtain ⟨-, ⟨a8, a9, a10, a11, a12, a13, a14, b, c0, c1, c2, d, e, f⟩, h3, h4⟩ := h
  refine ⟨hT, ⟨(up_k (by decide)).trans (a8.trans (show s.H 0 = sv s.H 2 y 0 from (sv_n (by decide)).symm)), (up_k (by decide)).trans (a9.trans (show s.H 1 = sv s.H 2 y 1 from (sv_n (by decide)).symm)), (up_s _ _ _ _).trans (show y = sv s.H 2 y 2 from sv_s.symm), (up_k (by decide)).trans (a11.trans (show s.H 3 = sv s.H 2 y 3 from (sv_n (by decide)).symm)), (up_k (by decide)).trans (a12.trans (show s.H 4 = sv s.H 2 y 4 from (sv_n (by decide)).symm)), (up_k (by decide)).trans (a13.trans (show s.H 5 = sv s.H 2 y 5 from (sv_n (by decide)).symm)), (up_k (by decide)).trans a14, fun c p q => ?_, ?_, ?_, ?_, fun l c p q p2 q2 => ?_, fun l p q => ?_, f⟩, by rw [et]; exact h3, by rw [et]; exact h4⟩
  · rw [e2]; exact (b c p q).trans (show s.H (10 + c) = sv s.H 2 y (10 + c) from (sv_n (by omega)).symm)
  · show ∀ j, 0 ≤ j → j < sv s.H 2 y 0 → _
    rw [sv_n (by decide), e0]
    exact c0
  · show ∀ j, 0 ≤ j → j < sv s.H 2 y 1 → _
    rw [sv_n (by decide), e3]
    exact c1
  · show ∀ j, 0 ≤ j → j < sv s.H 2 y 2 → _
    rw [sv_s, e6]
    intro j p q
    by_cases z : j = x
    · rw [z]; exact hn
    · exact c2 j p (by omega)
  · rw [eR l p q, d l c p q p2 q2]
    show _ = if l < L then sv s.H 2 y (17 + 5 * l + c) else 0
    rw [sv_n (by omega)]
  · rw [eR l p q]; exact e l p q

theorem RdC.aim {y : Int} (h : RdC F n m v ρ t i L s) (hw : RtW ω ρ t) : RdC F n m (up v (ρ t 1) 11 y) ρ t i L (Rd.wH s (sv s.H 3 y)) := by
  have hT : TkC F n m (up v (ρ t 1) 11 y) ρ (ρ t 0) s.p := h.tk.oth hw hw.w5 (by decide) (by decide)
  have eT : (up v (ρ t 1) 11 y) (ρ t 0) = v (ρ t 0) := up_f (rne hw.w2 hw.w5 (by decide))
  have eB : (up v (ρ t 1) 11 y) (ρ (ρ t 0) 0) = v (ρ (ρ t 0) 0) := up_f (rne hw.w3 hw.w5 (by decide))
  have et : (up v (ρ t 1) 11 y) t = v t := up_f (rne hw.w4 hw.w5 (by decide))
  have e0 : (up v (ρ t 1) 11 y) (ρ (ρ t 1) 0) = v (ρ (ρ t 1) 0) := up_f (rne hw.w6 hw.w5 (by decide))
  have e2 : (up v (ρ t 1) 11 y) (ρ (ρ t 1) 2) = v (ρ (ρ t 1) 2) := up_f (rne hw.w10 hw.w5 (by decide))
  have e3 : (up v (ρ t 1) 11 y) (ρ (ρ t 1) 3) = v (ρ (ρ t 1) 3) := up_f (rne hw.w7 hw.w5 (by decide))
  have e6 : (up v (ρ t 1) 11 y) (ρ (ρ t 1) 6) = v (ρ (ρ t 1) 6) := up_f (rne hw.w8 hw.w5 (by decide))
  have eR : ∀ l, 0 ≤ l → l < 3 → (up v (ρ t 1) 11 y) (ρ (ρ (ρ t 1) 5) l) = v (ρ (ρ (ρ t 1) 5) l) := fun l a b => up_f (rne (hw.w13 l a b) hw.w5 (by decide))
  obtain ⟨-, ⟨a8, a9, a10, a11, a12, a13, a14, b, c0, c1, c2, d, e, f⟩, h3, h4⟩ := h
  refine ⟨hT, ⟨(up_k (by decide)).trans (a8.trans (show s.H 0 = sv s.H 3 y 0 from (sv_n (by decide)).symm)), (up_k (by decide)).trans (a9.trans (show s.H 1 = sv s.H 3 y 1 from (sv_n (by decide)).symm)), (up_k (by decide)).trans (a10.trans (show s.H 2 = sv s.H 3 y 2 from (sv_n (by decide)).symm)), (up_s _ _ _ _).trans (show y = sv s.H 3 y 3 from sv_s.symm), (up_k (by decide)).trans (a12.trans (show s.H 4 = sv s.H 3 y 4 from (sv_n (by decide)).symm)), (up_k (by decide)).trans (a13.trans (show s.H 5 = sv s.H 3 y 5 from (sv_n (by decide)).symm)), (up_k (by decide)).trans a14, fun c p q => ?_, ?_, ?_, ?_, fun l c p q p2 q2 => ?_, fun l p q => ?_, f⟩, by rw [et]; exact h3, by rw [et]; exact h4⟩
  · rw [e2]; exact (b c p q).trans (show s.H (10 + c) = sv s.H 3 y (10 + c) from (sv_n (by omega)).symm)
  · show ∀ j, 0 ≤ j → j < sv s.H 3 y 0 → _
    rw [sv_n (by decide), e0]
    exact c0
  · show ∀ j, 0 ≤ j → j < sv s.H 3 y 1 → _
    rw [sv_n (by decide), e3]
    exact c1
  · show ∀ j, 0 ≤ j → j < sv s.H 3 y 2 → _
    rw [sv_n (by decide), e6]
    exact c2
  · rw [eR l p q, d l c p q p2 q2]
    show _ = if l < L then sv s.H 3 y (17 + 5 * l + c) else 0
    rw [sv_n (by omega)]
  · rw [eR l p q]; exact e l p q

theorem RdC.most {y : Int} (h : RdC F n m v ρ t i L s) (hw : RtW ω ρ t) : RdC F n m (up v (ρ t 1) 12 y) ρ t i L (Rd.wH s (sv s.H 4 y)) := by
  have hT : TkC F n m (up v (ρ t 1) 12 y) ρ (ρ t 0) s.p := h.tk.oth hw hw.w5 (by decide) (by decide)
  have eT : (up v (ρ t 1) 12 y) (ρ t 0) = v (ρ t 0) := up_f (rne hw.w2 hw.w5 (by decide))
  have eB : (up v (ρ t 1) 12 y) (ρ (ρ t 0) 0) = v (ρ (ρ t 0) 0) := up_f (rne hw.w3 hw.w5 (by decide))
  have et : (up v (ρ t 1) 12 y) t = v t := up_f (rne hw.w4 hw.w5 (by decide))
  have e0 : (up v (ρ t 1) 12 y) (ρ (ρ t 1) 0) = v (ρ (ρ t 1) 0) := up_f (rne hw.w6 hw.w5 (by decide))
  have e2 : (up v (ρ t 1) 12 y) (ρ (ρ t 1) 2) = v (ρ (ρ t 1) 2) := up_f (rne hw.w10 hw.w5 (by decide))
  have e3 : (up v (ρ t 1) 12 y) (ρ (ρ t 1) 3) = v (ρ (ρ t 1) 3) := up_f (rne hw.w7 hw.w5 (by decide))
  have e6 : (up v (ρ t 1) 12 y) (ρ (ρ t 1) 6) = v (ρ (ρ t 1) 6) := up_f (rne hw.w8 hw.w5 (by decide))
  have eR : ∀ l, 0 ≤ l → l < 3 → (up v (ρ t 1) 12 y) (ρ (ρ (ρ t 1) 5) l) = v (ρ (ρ (ρ t 1) 5) l) := fun l a b => up_f (rne (hw.w13 l a b) hw.w5 (by decide))
  obtain ⟨-, ⟨a8, a9, a10, a11, a12, a13, a14, b, c0, c1, c2, d, e, f⟩, h3, h4⟩ := h
  refine ⟨hT, ⟨(up_k (by decide)).trans (a8.trans (show s.H 0 = sv s.H 4 y 0 from (sv_n (by decide)).symm)), (up_k (by decide)).trans (a9.trans (show s.H 1 = sv s.H 4 y 1 from (sv_n (by decide)).symm)), (up_k (by decide)).trans (a10.trans (show s.H 2 = sv s.H 4 y 2 from (sv_n (by decide)).symm)), (up_k (by decide)).trans (a11.trans (show s.H 3 = sv s.H 4 y 3 from (sv_n (by decide)).symm)), (up_s _ _ _ _).trans (show y = sv s.H 4 y 4 from sv_s.symm), (up_k (by decide)).trans (a13.trans (show s.H 5 = sv s.H 4 y 5 from (sv_n (by decide)).symm)), (up_k (by decide)).trans a14, fun c p q => ?_, ?_, ?_, ?_, fun l c p q p2 q2 => ?_, fun l p q => ?_, f⟩, by rw [et]; exact h3, by rw [et]; exact h4⟩
  · rw [e2]; exact (b c p q).trans (show s.H (10 + c) = sv s.H 4 y (10 + c) from (sv_n (by omega)).symm)
  · show ∀ j, 0 ≤ j → j < sv s.H 4 y 0 → _
    rw [sv_n (by decide), e0]
    exact c0
  · show ∀ j, 0 ≤ j → j < sv s.H 4 y 1 → _
    rw [sv_n (by decide), e3]
    exact c1
  · show ∀ j, 0 ≤ j → j < sv s.H 4 y 2 → _
    rw [sv_n (by decide), e6]
    exact c2
  · rw [eR l p q, d l c p q p2 q2]
    show _ = if l < L then sv s.H 4 y (17 + 5 * l + c) else 0
    rw [sv_n (by omega)]
  · rw [eR l p q]; exact e l p q

theorem RdC.chg {y : Int} (h : RdC F n m v ρ t i L s) (hw : RtW ω ρ t) : RdC F n m (up v (ρ t 1) 13 y) ρ t i L (Rd.wH s (sv s.H 5 y)) := by
  have hT : TkC F n m (up v (ρ t 1) 13 y) ρ (ρ t 0) s.p := h.tk.oth hw hw.w5 (by decide) (by decide)
  have eT : (up v (ρ t 1) 13 y) (ρ t 0) = v (ρ t 0) := up_f (rne hw.w2 hw.w5 (by decide))
  have eB : (up v (ρ t 1) 13 y) (ρ (ρ t 0) 0) = v (ρ (ρ t 0) 0) := up_f (rne hw.w3 hw.w5 (by decide))
  have et : (up v (ρ t 1) 13 y) t = v t := up_f (rne hw.w4 hw.w5 (by decide))
  have e0 : (up v (ρ t 1) 13 y) (ρ (ρ t 1) 0) = v (ρ (ρ t 1) 0) := up_f (rne hw.w6 hw.w5 (by decide))
  have e2 : (up v (ρ t 1) 13 y) (ρ (ρ t 1) 2) = v (ρ (ρ t 1) 2) := up_f (rne hw.w10 hw.w5 (by decide))
  have e3 : (up v (ρ t 1) 13 y) (ρ (ρ t 1) 3) = v (ρ (ρ t 1) 3) := up_f (rne hw.w7 hw.w5 (by decide))
  have e6 : (up v (ρ t 1) 13 y) (ρ (ρ t 1) 6) = v (ρ (ρ t 1) 6) := up_f (rne hw.w8 hw.w5 (by decide))
  have eR : ∀ l, 0 ≤ l → l < 3 → (up v (ρ t 1) 13 y) (ρ (ρ (ρ t 1) 5) l) = v (ρ (ρ (ρ t 1) 5) l) := fun l a b => up_f (rne (hw.w13 l a b) hw.w5 (by decide))
  obtain ⟨-, ⟨a8, a9, a10, a11, a12, a13, a14, b, c0, c1, c2, d, e, f⟩, h3, h4⟩ := h
  refine ⟨hT, ⟨(up_k (by decide)).trans (a8.trans (show s.H 0 = sv s.H 5 y 0 from (sv_n (by decide)).symm)), (up_k (by decide)).trans (a9.trans (show s.H 1 = sv s.H 5 y 1 from (sv_n (by decide)).symm)), (up_k (by decide)).trans (a10.trans (show s.H 2 = sv s.H 5 y 2 from (sv_n (by decide)).symm)), (up_k (by decide)).trans (a11.trans (show s.H 3 = sv s.H 5 y 3 from (sv_n (by decide)).symm)), (up_k (by decide)).trans (a12.trans (show s.H 4 = sv s.H 5 y 4 from (sv_n (by decide)).symm)), (up_s _ _ _ _).trans (show y = sv s.H 5 y 5 from sv_s.symm), (up_k (by decide)).trans a14, fun c p q => ?_, ?_, ?_, ?_, fun l c p q p2 q2 => ?_, fun l p q => ?_, f⟩, by rw [et]; exact h3, by rw [et]; exact h4⟩
  · rw [e2]; exact (b c p q).trans (show s.H (10 + c) = sv s.H 5 y (10 + c) from (sv_n (by omega)).symm)
  · show ∀ j, 0 ≤ j → j < sv s.H 5 y 0 → _
    rw [sv_n (by decide), e0]
    exact c0
  · show ∀ j, 0 ≤ j → j < sv s.H 5 y 1 → _
    rw [sv_n (by decide), e3]
    exact c1
  · show ∀ j, 0 ≤ j → j < sv s.H 5 y 2 → _
    rw [sv_n (by decide), e6]
    exact c2
  · rw [eR l p q, d l c p q p2 q2]
    show _ = if l < L then sv s.H 5 y (17 + 5 * l + c) else 0
    rw [sv_n (by omega)]
  · rw [eR l p q]; exact e l p q

theorem RdC.lin {y : Int} (h : RdC F n m v ρ t i L s) (hw : RtW ω ρ t) : RdC F n m (up v (ρ t 1) 14 y) ρ t y L s := by
  have hT : TkC F n m (up v (ρ t 1) 14 y) ρ (ρ t 0) s.p := h.tk.oth hw hw.w5 (by decide) (by decide)
  have eT : (up v (ρ t 1) 14 y) (ρ t 0) = v (ρ t 0) := up_f (rne hw.w2 hw.w5 (by decide))
  have eB : (up v (ρ t 1) 14 y) (ρ (ρ t 0) 0) = v (ρ (ρ t 0) 0) := up_f (rne hw.w3 hw.w5 (by decide))
  have et : (up v (ρ t 1) 14 y) t = v t := up_f (rne hw.w4 hw.w5 (by decide))
  have e0 : (up v (ρ t 1) 14 y) (ρ (ρ t 1) 0) = v (ρ (ρ t 1) 0) := up_f (rne hw.w6 hw.w5 (by decide))
  have e2 : (up v (ρ t 1) 14 y) (ρ (ρ t 1) 2) = v (ρ (ρ t 1) 2) := up_f (rne hw.w10 hw.w5 (by decide))
  have e3 : (up v (ρ t 1) 14 y) (ρ (ρ t 1) 3) = v (ρ (ρ t 1) 3) := up_f (rne hw.w7 hw.w5 (by decide))
  have e6 : (up v (ρ t 1) 14 y) (ρ (ρ t 1) 6) = v (ρ (ρ t 1) 6) := up_f (rne hw.w8 hw.w5 (by decide))
  have eR : ∀ l, 0 ≤ l → l < 3 → (up v (ρ t 1) 14 y) (ρ (ρ (ρ t 1) 5) l) = v (ρ (ρ (ρ t 1) 5) l) := fun l a b => up_f (rne (hw.w13 l a b) hw.w5 (by decide))
  obtain ⟨-, ⟨a8, a9, a10, a11, a12, a13, a14, b, c0, c1, c2, d, e, f⟩, h3, h4⟩ := h
  exact ⟨hT, ⟨(up_k (by decide)).trans a8, (up_k (by decide)).trans a9, (up_k (by decide)).trans a10, (up_k (by decide)).trans a11, (up_k (by decide)).trans a12, (up_k (by decide)).trans a13, up_s _ _ _ _, by rw [e2]; exact b, by rw [e0]; exact c0, by rw [e3]; exact c1, by rw [e6]; exact c2, fun l c p q => by rw [eR l p q]; exact d l c p q, fun l p q => by rw [eR l p q]; exact e l p q, f⟩, by rw [et]; exact h3, by rw [et]; exact h4⟩

theorem RdC.told0 (h : RdC F n m v ρ t i L s) (hw : RtW ω ρ t) : RdC F n m (up v t 2 1) ρ t i L (Rd.w0 s 1) := by
  have hT : TkC F n m (up v t 2 1) ρ (ρ t 0) s.p := h.tk.oth hw hw.w4 (by decide) (by decide)
  have eT : (up v t 2 1) (ρ t 0) = v (ρ t 0) := up_f (rne hw.w2 hw.w4 (by decide))
  have eB : (up v t 2 1) (ρ (ρ t 0) 0) = v (ρ (ρ t 0) 0) := up_f (rne hw.w3 hw.w4 (by decide))
  have eo : (up v t 2 1) (ρ t 1) = v (ρ t 1) := up_f (rne hw.w5 hw.w4 (by decide))
  have e0 : (up v t 2 1) (ρ (ρ t 1) 0) = v (ρ (ρ t 1) 0) := up_f (rne hw.w6 hw.w4 (by decide))
  have e2 : (up v t 2 1) (ρ (ρ t 1) 2) = v (ρ (ρ t 1) 2) := up_f (rne hw.w10 hw.w4 (by decide))
  have e3 : (up v t 2 1) (ρ (ρ t 1) 3) = v (ρ (ρ t 1) 3) := up_f (rne hw.w7 hw.w4 (by decide))
  have e6 : (up v t 2 1) (ρ (ρ t 1) 6) = v (ρ (ρ t 1) 6) := up_f (rne hw.w8 hw.w4 (by decide))
  have eR : ∀ l, 0 ≤ l → l < 3 → (up v t 2 1) (ρ (ρ (ρ t 1) 5) l) = v (ρ (ρ (ρ t 1) 5) l) := fun l a b => up_f (rne (hw.w13 l a b) hw.w4 (by decide))
  have hr := h.rc
  have h3 := h.o0
  have h4 := h.o1
  exact ⟨hT, (hr.row eo e0 e2 e3 e6 eR : RcI (up v t 2 1) ρ (ρ t 1) L i s), up_s _ _ _ _, (up_k (by decide)).trans h4⟩

theorem RdC.told1 (h : RdC F n m v ρ t i L s) (hw : RtW ω ρ t) : RdC F n m (up v t 3 1) ρ t i L (Rd.w1 s 1) := by
  have hT : TkC F n m (up v t 3 1) ρ (ρ t 0) s.p := h.tk.oth hw hw.w4 (by decide) (by decide)
  have eT : (up v t 3 1) (ρ t 0) = v (ρ t 0) := up_f (rne hw.w2 hw.w4 (by decide))
  have eB : (up v t 3 1) (ρ (ρ t 0) 0) = v (ρ (ρ t 0) 0) := up_f (rne hw.w3 hw.w4 (by decide))
  have eo : (up v t 3 1) (ρ t 1) = v (ρ t 1) := up_f (rne hw.w5 hw.w4 (by decide))
  have e0 : (up v t 3 1) (ρ (ρ t 1) 0) = v (ρ (ρ t 1) 0) := up_f (rne hw.w6 hw.w4 (by decide))
  have e2 : (up v t 3 1) (ρ (ρ t 1) 2) = v (ρ (ρ t 1) 2) := up_f (rne hw.w10 hw.w4 (by decide))
  have e3 : (up v t 3 1) (ρ (ρ t 1) 3) = v (ρ (ρ t 1) 3) := up_f (rne hw.w7 hw.w4 (by decide))
  have e6 : (up v t 3 1) (ρ (ρ t 1) 6) = v (ρ (ρ t 1) 6) := up_f (rne hw.w8 hw.w4 (by decide))
  have eR : ∀ l, 0 ≤ l → l < 3 → (up v t 3 1) (ρ (ρ (ρ t 1) 5) l) = v (ρ (ρ (ρ t 1) 5) l) := fun l a b => up_f (rne (hw.w13 l a b) hw.w4 (by decide))
  have hr := h.rc
  have h3 := h.o0
  have h4 := h.o1
  exact ⟨hT, (hr.row eo e0 e2 e3 e6 eR : RcI (up v t 3 1) ρ (ρ t 1) L i s), (up_k (by decide)).trans h3, up_s _ _ _ _⟩

theorem RdC.nam0 {k x p0 : Int} (h : RdC F n m v ρ t i L s) (hw : RtW ω ρ t) (hk : k = s.H 0) (hl : k < 4) (hb : (0 ≤ s.H 0 ∧ s.H 0 ≤ 4) ∧ (0 ≤ s.H 1 ∧ s.H 1 ≤ 3) ∧ (0 ≤ s.H 2 ∧ s.H 2 ≤ 3)) (hp : p0 = 0 + k) : RdC F n m (up v (ρ (ρ t 1) 0) k x) ρ t i L (Rd.wN s (sv s.N p0 x)) := by
  have hT : TkC F n m (up v (ρ (ρ t 1) 0) k x) ρ (ρ t 0) s.p := h.tk.oth hw hw.w6 (by decide) (by decide)
  have eT : (up v (ρ (ρ t 1) 0) k x) (ρ t 0) = v (ρ t 0) := up_f (rne hw.w2 hw.w6 (by decide))
  have eB : (up v (ρ (ρ t 1) 0) k x) (ρ (ρ t 0) 0) = v (ρ (ρ t 0) 0) := up_f (rne hw.w3 hw.w6 (by decide))
  have et : (up v (ρ (ρ t 1) 0) k x) t = v t := up_f (rne hw.w4 hw.w6 (by decide))
  have eo : (up v (ρ (ρ t 1) 0) k x) (ρ t 1) = v (ρ t 1) := up_f (rne hw.w5 hw.w6 (by decide))
  have e2 : (up v (ρ (ρ t 1) 0) k x) (ρ (ρ t 1) 2) = v (ρ (ρ t 1) 2) := up_f (rne hw.w10 hw.w6 (by decide))
  have e3 : (up v (ρ (ρ t 1) 0) k x) (ρ (ρ t 1) 3) = v (ρ (ρ t 1) 3) := up_f (rne hw.w7 hw.w6 (by decide))
  have e6 : (up v (ρ (ρ t 1) 0) k x) (ρ (ρ t 1) 6) = v (ρ (ρ t 1) 6) := up_f (rne hw.w8 hw.w6 (by decide))
  have eR : ∀ l, 0 ≤ l → l < 3 → (up v (ρ (ρ t 1) 0) k x) (ρ (ρ (ρ t 1) 5) l) = v (ρ (ρ (ρ t 1) 5) l) := fun l a b => up_f (rne (hw.w13 l a b) hw.w6 (by decide))
  obtain ⟨-, ⟨a8, a9, a10, a11, a12, a13, a14, b, c0, c1, c2, d, e, f⟩, h3, h4⟩ := h
  refine ⟨hT, ⟨by rw [eo]; exact a8, by rw [eo]; exact a9, by rw [eo]; exact a10, by rw [eo]; exact a11, by rw [eo]; exact a12, by rw [eo]; exact a13, by rw [eo]; exact a14, by rw [e2]; exact b, fun j p q => ?_, fun j p q => ?_, fun j p q => ?_, fun l c p q => by rw [eR l p q]; exact d l c p q, fun l p q => by rw [eR l p q]; exact e l p q, f⟩, by rw [et]; exact h3, by rw [et]; exact h4⟩
  · have q2 : j < s.H 0 := q
    have e9 : (up v (ρ (ρ t 1) 0) k x) (ρ (ρ t 1) 0) j = v (ρ (ρ t 1) 0) j := up_k (by omega)
    show (up v (ρ (ρ t 1) 0) k x) (ρ (ρ t 1) 0) j = sv s.N p0 x (0 + j) ∧ NmB (sv s.N p0 x (0 + j))
    rw [e9, sv_n (by omega)]
    exact c0 j p q2
  · have q2 : j < s.H 1 := q
    have e9 : (up v (ρ (ρ t 1) 0) k x) (ρ (ρ t 1) 3) j = v (ρ (ρ t 1) 3) j := congrFun e3 j
    show (up v (ρ (ρ t 1) 0) k x) (ρ (ρ t 1) 3) j = sv s.N p0 x (4 + j) ∧ NmB (sv s.N p0 x (4 + j))
    rw [e9, sv_n (by omega)]
    exact c1 j p q2
  · have q2 : j < s.H 2 := q
    have e9 : (up v (ρ (ρ t 1) 0) k x) (ρ (ρ t 1) 6) j = v (ρ (ρ t 1) 6) j := congrFun e6 j
    show (up v (ρ (ρ t 1) 0) k x) (ρ (ρ t 1) 6) j = sv s.N p0 x (7 + j) ∧ NmB (sv s.N p0 x (7 + j))
    rw [e9, sv_n (by omega)]
    exact c2 j p q2

theorem RdC.nam1 {k x p0 : Int} (h : RdC F n m v ρ t i L s) (hw : RtW ω ρ t) (hk : k = s.H 1) (hl : k < 3) (hb : (0 ≤ s.H 0 ∧ s.H 0 ≤ 4) ∧ (0 ≤ s.H 1 ∧ s.H 1 ≤ 3) ∧ (0 ≤ s.H 2 ∧ s.H 2 ≤ 3)) (hp : p0 = 4 + k) : RdC F n m (up v (ρ (ρ t 1) 3) k x) ρ t i L (Rd.wN s (sv s.N p0 x)) := by
  have hT : TkC F n m (up v (ρ (ρ t 1) 3) k x) ρ (ρ t 0) s.p := h.tk.oth hw hw.w7 (by decide) (by decide)
  have eT : (up v (ρ (ρ t 1) 3) k x) (ρ t 0) = v (ρ t 0) := up_f (rne hw.w2 hw.w7 (by decide))
  have eB : (up v (ρ (ρ t 1) 3) k x) (ρ (ρ t 0) 0) = v (ρ (ρ t 0) 0) := up_f (rne hw.w3 hw.w7 (by decide))
  have et : (up v (ρ (ρ t 1) 3) k x) t = v t := up_f (rne hw.w4 hw.w7 (by decide))
  have eo : (up v (ρ (ρ t 1) 3) k x) (ρ t 1) = v (ρ t 1) := up_f (rne hw.w5 hw.w7 (by decide))
  have e0 : (up v (ρ (ρ t 1) 3) k x) (ρ (ρ t 1) 0) = v (ρ (ρ t 1) 0) := up_f (rne hw.w6 hw.w7 (by decide))
  have e2 : (up v (ρ (ρ t 1) 3) k x) (ρ (ρ t 1) 2) = v (ρ (ρ t 1) 2) := up_f (rne hw.w10 hw.w7 (by decide))
  have e6 : (up v (ρ (ρ t 1) 3) k x) (ρ (ρ t 1) 6) = v (ρ (ρ t 1) 6) := up_f (rne hw.w8 hw.w7 (by decide))
  have eR : ∀ l, 0 ≤ l → l < 3 → (up v (ρ (ρ t 1) 3) k x) (ρ (ρ (ρ t 1) 5) l) = v (ρ (ρ (ρ t 1) 5) l) := fun l a b => up_f (rne (hw.w13 l a b) hw.w7 (by decide))
  obtain ⟨-, ⟨a8, a9, a10, a11, a12, a13, a14, b, c0, c1, c2, d, e, f⟩, h3, h4⟩ := h
  refine ⟨hT, ⟨by rw [eo]; exact a8, by rw [eo]; exact a9, by rw [eo]; exact a10, by rw [eo]; exact a11, by rw [eo]; exact a12, by rw [eo]; exact a13, by rw [eo]; exact a14, by rw [e2]; exact b, fun j p q => ?_, fun j p q => ?_, fun j p q => ?_, fun l c p q => by rw [eR l p q]; exact d l c p q, fun l p q => by rw [eR l p q]; exact e l p q, f⟩, by rw [et]; exact h3, by rw [et]; exact h4⟩
  · have q2 : j < s.H 0 := q
    have e9 : (up v (ρ (ρ t 1) 3) k x) (ρ (ρ t 1) 0) j = v (ρ (ρ t 1) 0) j := congrFun e0 j
    show (up v (ρ (ρ t 1) 3) k x) (ρ (ρ t 1) 0) j = sv s.N p0 x (0 + j) ∧ NmB (sv s.N p0 x (0 + j))
    rw [e9, sv_n (by omega)]
    exact c0 j p q2
  · have q2 : j < s.H 1 := q
    have e9 : (up v (ρ (ρ t 1) 3) k x) (ρ (ρ t 1) 3) j = v (ρ (ρ t 1) 3) j := up_k (by omega)
    show (up v (ρ (ρ t 1) 3) k x) (ρ (ρ t 1) 3) j = sv s.N p0 x (4 + j) ∧ NmB (sv s.N p0 x (4 + j))
    rw [e9, sv_n (by omega)]
    exact c1 j p q2
  · have q2 : j < s.H 2 := q
    have e9 : (up v (ρ (ρ t 1) 3) k x) (ρ (ρ t 1) 6) j = v (ρ (ρ t 1) 6) j := congrFun e6 j
    show (up v (ρ (ρ t 1) 3) k x) (ρ (ρ t 1) 6) j = sv s.N p0 x (7 + j) ∧ NmB (sv s.N p0 x (7 + j))
    rw [e9, sv_n (by omega)]
    exact c2 j p q2

theorem RdC.nam2 {k x p0 : Int} (h : RdC F n m v ρ t i L s) (hw : RtW ω ρ t) (hk : k = s.H 2) (hl : k < 3) (hb : (0 ≤ s.H 0 ∧ s.H 0 ≤ 4) ∧ (0 ≤ s.H 1 ∧ s.H 1 ≤ 3) ∧ (0 ≤ s.H 2 ∧ s.H 2 ≤ 3)) (hp : p0 = 7 + k) : RdC F n m (up v (ρ (ρ t 1) 6) k x) ρ t i L (Rd.wN s (sv s.N p0 x)) := by
  have hT : TkC F n m (up v (ρ (ρ t 1) 6) k x) ρ (ρ t 0) s.p := h.tk.oth hw hw.w8 (by decide) (by decide)
  have eT : (up v (ρ (ρ t 1) 6) k x) (ρ t 0) = v (ρ t 0) := up_f (rne hw.w2 hw.w8 (by decide))
  have eB : (up v (ρ (ρ t 1) 6) k x) (ρ (ρ t 0) 0) = v (ρ (ρ t 0) 0) := up_f (rne hw.w3 hw.w8 (by decide))
  have et : (up v (ρ (ρ t 1) 6) k x) t = v t := up_f (rne hw.w4 hw.w8 (by decide))
  have eo : (up v (ρ (ρ t 1) 6) k x) (ρ t 1) = v (ρ t 1) := up_f (rne hw.w5 hw.w8 (by decide))
  have e0 : (up v (ρ (ρ t 1) 6) k x) (ρ (ρ t 1) 0) = v (ρ (ρ t 1) 0) := up_f (rne hw.w6 hw.w8 (by decide))
  have e2 : (up v (ρ (ρ t 1) 6) k x) (ρ (ρ t 1) 2) = v (ρ (ρ t 1) 2) := up_f (rne hw.w10 hw.w8 (by decide))
  have e3 : (up v (ρ (ρ t 1) 6) k x) (ρ (ρ t 1) 3) = v (ρ (ρ t 1) 3) := up_f (rne hw.w7 hw.w8 (by decide))
  have eR : ∀ l, 0 ≤ l → l < 3 → (up v (ρ (ρ t 1) 6) k x) (ρ (ρ (ρ t 1) 5) l) = v (ρ (ρ (ρ t 1) 5) l) := fun l a b => up_f (rne (hw.w13 l a b) hw.w8 (by decide))
  obtain ⟨-, ⟨a8, a9, a10, a11, a12, a13, a14, b, c0, c1, c2, d, e, f⟩, h3, h4⟩ := h
  refine ⟨hT, ⟨by rw [eo]; exact a8, by rw [eo]; exact a9, by rw [eo]; exact a10, by rw [eo]; exact a11, by rw [eo]; exact a12, by rw [eo]; exact a13, by rw [eo]; exact a14, by rw [e2]; exact b, fun j p q => ?_, fun j p q => ?_, fun j p q => ?_, fun l c p q => by rw [eR l p q]; exact d l c p q, fun l p q => by rw [eR l p q]; exact e l p q, f⟩, by rw [et]; exact h3, by rw [et]; exact h4⟩
  · have q2 : j < s.H 0 := q
    have e9 : (up v (ρ (ρ t 1) 6) k x) (ρ (ρ t 1) 0) j = v (ρ (ρ t 1) 0) j := congrFun e0 j
    show (up v (ρ (ρ t 1) 6) k x) (ρ (ρ t 1) 0) j = sv s.N p0 x (0 + j) ∧ NmB (sv s.N p0 x (0 + j))
    rw [e9, sv_n (by omega)]
    exact c0 j p q2
  · have q2 : j < s.H 1 := q
    have e9 : (up v (ρ (ρ t 1) 6) k x) (ρ (ρ t 1) 3) j = v (ρ (ρ t 1) 3) j := congrFun e3 j
    show (up v (ρ (ρ t 1) 6) k x) (ρ (ρ t 1) 3) j = sv s.N p0 x (4 + j) ∧ NmB (sv s.N p0 x (4 + j))
    rw [e9, sv_n (by omega)]
    exact c1 j p q2
  · have q2 : j < s.H 2 := q
    have e9 : (up v (ρ (ρ t 1) 6) k x) (ρ (ρ t 1) 6) j = v (ρ (ρ t 1) 6) j := up_k (by omega)
    show (up v (ρ (ρ t 1) 6) k x) (ρ (ρ t 1) 6) j = sv s.N p0 x (7 + j) ∧ NmB (sv s.N p0 x (7 + j))
    rw [e9, sv_n (by omega)]
    exact c2 j p q2

theorem RdC.ends {c : Int} (h : RdC F n m v ρ t i L s) (hw : RtW ω ρ t) (hc : 0 ≤ c ∧ c < 4) : RdC F n m (up v (ρ (ρ t 1) 2) c 1) ρ t i L (Rd.wH s (sv s.H (10 + c) 1)) := by
  have hT : TkC F n m (up v (ρ (ρ t 1) 2) c 1) ρ (ρ t 0) s.p := h.tk.oth hw hw.w10 (by decide) (by decide)
  have eT : (up v (ρ (ρ t 1) 2) c 1) (ρ t 0) = v (ρ t 0) := up_f (rne hw.w2 hw.w10 (by decide))
  have eB : (up v (ρ (ρ t 1) 2) c 1) (ρ (ρ t 0) 0) = v (ρ (ρ t 0) 0) := up_f (rne hw.w3 hw.w10 (by decide))
  have et : (up v (ρ (ρ t 1) 2) c 1) t = v t := up_f (rne hw.w4 hw.w10 (by decide))
  have eo : (up v (ρ (ρ t 1) 2) c 1) (ρ t 1) = v (ρ t 1) := up_f (rne hw.w5 hw.w10 (by decide))
  have e0 : (up v (ρ (ρ t 1) 2) c 1) (ρ (ρ t 1) 0) = v (ρ (ρ t 1) 0) := up_f (rne hw.w6 hw.w10 (by decide))
  have e3 : (up v (ρ (ρ t 1) 2) c 1) (ρ (ρ t 1) 3) = v (ρ (ρ t 1) 3) := up_f (rne hw.w7 hw.w10 (by decide))
  have e6 : (up v (ρ (ρ t 1) 2) c 1) (ρ (ρ t 1) 6) = v (ρ (ρ t 1) 6) := up_f (rne hw.w8 hw.w10 (by decide))
  have eR : ∀ l, 0 ≤ l → l < 3 → (up v (ρ (ρ t 1) 2) c 1) (ρ (ρ (ρ t 1) 5) l) = v (ρ (ρ (ρ t 1) 5) l) := fun l a b => up_f (rne (hw.w13 l a b) hw.w10 (by decide))
  obtain ⟨-, ⟨a8, a9, a10, a11, a12, a13, a14, b, c0, c1, c2, d, e, f⟩, h3, h4⟩ := h
  refine ⟨hT, ⟨by rw [eo]; exact a8.trans (show s.H 0 = sv s.H (10 + c) 1 0 from (sv_n (by omega)).symm), by rw [eo]; exact a9.trans (show s.H 1 = sv s.H (10 + c) 1 1 from (sv_n (by omega)).symm), by rw [eo]; exact a10.trans (show s.H 2 = sv s.H (10 + c) 1 2 from (sv_n (by omega)).symm), by rw [eo]; exact a11.trans (show s.H 3 = sv s.H (10 + c) 1 3 from (sv_n (by omega)).symm), by rw [eo]; exact a12.trans (show s.H 4 = sv s.H (10 + c) 1 4 from (sv_n (by omega)).symm), by rw [eo]; exact a13.trans (show s.H 5 = sv s.H (10 + c) 1 5 from (sv_n (by omega)).symm), by rw [eo]; exact a14, fun j p q => ?_, ?_, ?_, ?_, fun l j p q p2 q2 => ?_, fun l p q => by rw [eR l p q]; exact e l p q, f⟩, by rw [et]; exact h3, by rw [et]; exact h4⟩
  · by_cases z : j = c
    · rw [z]; exact (up_s _ _ _ _).trans (show 1 = sv s.H (10 + c) 1 (10 + c) from sv_s.symm)
    · exact (up_k z).trans ((b j p q).trans (show s.H (10 + j) = sv s.H (10 + c) 1 (10 + j) from (sv_n (by omega)).symm))
  · show ∀ j, 0 ≤ j → j < sv s.H (10 + c) 1 0 → _
    rw [sv_n (by omega), e0]
    exact c0
  · show ∀ j, 0 ≤ j → j < sv s.H (10 + c) 1 1 → _
    rw [sv_n (by omega), e3]
    exact c1
  · show ∀ j, 0 ≤ j → j < sv s.H (10 + c) 1 2 → _
    rw [sv_n (by omega), e6]
    exact c2
  · rw [eR l p q, d l j p q p2 q2]
    show _ = if l < L then sv s.H (10 + c) 1 (17 + 5 * l + j) else 0
    rw [sv_n (by omega)]

theorem RdC.share {l c x g : Int} (h : RdC F n m v ρ t i (l + 1) s) (hw : RtW ω ρ t) (hl : 0 ≤ l ∧ l < 3) (hc : 0 ≤ c ∧ c < 4) (hz : v (ρ (ρ (ρ t 1) 5) l) c = 0) (hg : g = v (ρ (ρ (ρ t 1) 5) l) 4 - x) : RdC F n m (up (up v (ρ (ρ (ρ t 1) 5) l) c x) (ρ (ρ (ρ t 1) 5) l) 4 g) ρ t i (l + 1) (Rd.wH s (sv s.H (17 + 5 * l + c) x)) := by
  have w := hw.w13 l hl.1 hl.2
  have hT : TkC F n m (up (up v (ρ (ρ (ρ t 1) 5) l) c x) (ρ (ρ (ρ t 1) 5) l) 4 g) ρ (ρ t 0) s.p := (h.tk.oth hw w (by decide) (by decide)).oth hw w (by decide) (by decide)
  have ne : ∀ q d, ω q = d → d ≠ 13 → (up (up v (ρ (ρ (ρ t 1) 5) l) c x) (ρ (ρ (ρ t 1) 5) l) 4 g) q = v q := fun q d hq hd => (up_f (rne hq w hd)).trans (up_f (rne hq w hd))
  have et := ne _ _ hw.w4 (by decide)
  have eo := ne _ _ hw.w5 (by decide)
  have e0 := ne _ _ hw.w6 (by decide)
  have e2 := ne _ _ hw.w10 (by decide)
  have e3 := ne _ _ hw.w7 (by decide)
  have e6 := ne _ _ hw.w8 (by decide)
  obtain ⟨-, ⟨a8, a9, a10, a11, a12, a13, a14, b, c0, c1, c2, d, e, f⟩, h3, h4⟩ := h
  have eR : ∀ k, 0 ≤ k → k < 3 → k ≠ l → (up (up v (ρ (ρ (ρ t 1) 5) l) c x) (ρ (ρ (ρ t 1) 5) l) 4 g) (ρ (ρ (ρ t 1) 5) k) = v (ρ (ρ (ρ t 1) 5) k) := fun k p q z => (up_f (f k l p q hl.1 hl.2 z)).trans (up_f (f k l p q hl.1 hl.2 z))
  have eS : ∀ j, 0 ≤ j → j < 4 → (up (up v (ρ (ρ (ρ t 1) 5) l) c x) (ρ (ρ (ρ t 1) 5) l) 4 g) (ρ (ρ (ρ t 1) 5) l) j = if j = c then x else v (ρ (ρ (ρ t 1) 5) l) j := fun j p q => by
    rw [up_k (by omega)]
    by_cases z : j = c
    · rw [if_pos z, z]; exact up_s _ _ _ _
    · rw [if_neg z]; exact up_k z
  refine ⟨hT, ⟨by rw [eo]; exact a8.trans (show s.H 0 = sv s.H (17 + 5 * l + c) x 0 from (sv_n (by omega)).symm), by rw [eo]; exact a9.trans (show s.H 1 = sv s.H (17 + 5 * l + c) x 1 from (sv_n (by omega)).symm), by rw [eo]; exact a10.trans (show s.H 2 = sv s.H (17 + 5 * l + c) x 2 from (sv_n (by omega)).symm), by rw [eo]; exact a11.trans (show s.H 3 = sv s.H (17 + 5 * l + c) x 3 from (sv_n (by omega)).symm), by rw [eo]; exact a12.trans (show s.H 4 = sv s.H (17 + 5 * l + c) x 4 from (sv_n (by omega)).symm), by rw [eo]; exact a13.trans (show s.H 5 = sv s.H (17 + 5 * l + c) x 5 from (sv_n (by omega)).symm), by rw [eo]; exact a14, fun j p q => by rw [e2]; exact (b j p q).trans (show s.H (10 + j) = sv s.H (17 + 5 * l + c) x (10 + j) from (sv_n (by omega)).symm), ?_, ?_, ?_, fun k j p q p2 q2 => ?_, fun k p q => ?_, f⟩, by rw [et]; exact h3, by rw [et]; exact h4⟩
  · show ∀ j, 0 ≤ j → j < sv s.H (17 + 5 * l + c) x 0 → _
    rw [sv_n (by omega), e0]
    exact c0
  · show ∀ j, 0 ≤ j → j < sv s.H (17 + 5 * l + c) x 1 → _
    rw [sv_n (by omega), e3]
    exact c1
  · show ∀ j, 0 ≤ j → j < sv s.H (17 + 5 * l + c) x 2 → _
    rw [sv_n (by omega), e6]
    exact c2
  · show _ = if k < l + 1 then sv s.H (17 + 5 * l + c) x (17 + 5 * k + j) else 0
    by_cases z : k = l
    · subst z
      rw [eS j p2 q2, if_pos (show k < k + 1 by omega)]
      by_cases y : j = c
      · rw [if_pos y, y, sv_s]
      · rw [if_neg y, sv_n (by omega), d k j p q p2 q2, if_pos (show k < k + 1 by omega)]
    · rw [eR k p q z, d k j p q p2 q2, sv_n (by omega)]
  · by_cases z : k = l
    · subst z
      rw [eS 0 (by decide) (by decide), eS 1 (by decide) (by decide), eS 2 (by decide) (by decide), eS 3 (by decide) (by decide), up_s, hg]
      have e9 := e k p q
      have hc4 : c = 0 ∨ c = 1 ∨ c = 2 ∨ c = 3 := by omega
      rcases hc4 with y | y | y | y <;> subst y <;> simp only [if_pos, if_neg] <;> simp <;> omega
    · rw [eR k p q z]; exact e k p q

theorem RdC.zer {l : Int} (h : RdC F n m v ρ t i l s) (hl : 0 ≤ l ∧ l < 3) : RdC F n m v ρ t i (l + 1) (Rd.wH s (zr s.H l)) := by
  obtain ⟨h1, ⟨a8, a9, a10, a11, a12, a13, a14, b, c0, c1, c2, d, e, f⟩, h3, h4⟩ := h
  have en : ∀ j, ¬ (17 + 5 * l ≤ j ∧ j < 17 + 5 * l + 4) → zr s.H l j = s.H j := fun j hj => if_neg hj
  refine ⟨h1, ⟨a8.trans (en 0 (by omega)).symm, a9.trans (en 1 (by omega)).symm, a10.trans (en 2 (by omega)).symm, a11.trans (en 3 (by omega)).symm, a12.trans (en 4 (by omega)).symm, a13.trans (en 5 (by omega)).symm, a14, fun j p q => (b j p q).trans (en (10 + j) (by omega)).symm, ?_, ?_, ?_, fun k j p q p2 q2 => ?_, e, f⟩, h3, h4⟩
  · show ∀ j, 0 ≤ j → j < zr s.H l 0 → _
    rw [en _ (by omega)]
    exact c0
  · show ∀ j, 0 ≤ j → j < zr s.H l 1 → _
    rw [en _ (by omega)]
    exact c1
  · show ∀ j, 0 ≤ j → j < zr s.H l 2 → _
    rw [en _ (by omega)]
    exact c2
  · rw [d k j p q p2 q2]
    show _ = if k < l + 1 then zr s.H l (17 + 5 * k + j) else 0
    by_cases z : k = l
    · subst z
      rw [if_neg (by omega), if_pos (by omega)]
      exact (if_pos (by omega)).symm
    · by_cases y : k < l
      · rw [if_pos y, if_pos (by omega), en _ (by omega)]
      · rw [if_neg y, if_neg (by omega)]
end RdCu
