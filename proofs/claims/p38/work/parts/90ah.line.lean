/-! lines of a road, as the reference reads them -/
section Lines
variable {F : Int → Int} {n m : Int} {v v' : Mv} {s : Rd} {r : Int}
theorem PoM.p0 {q : Int × Rd} {b : Rd → Int × Rd} (h : PoM F n m v r (adv F n m q)) (hr : r = 0) : PoM F n m v 0 (thn q b) := by
  rcases h with ⟨a, -⟩ | ⟨a, h1, h2⟩
  · omega
  · have e : q.1 ≠ 0 := fun z => h1 (by unfold adv; rw [thn_0 z])
    unfold adv at h1 h2
    rw [thn_1 e] at h1 h2
    rw [thn_1 e]
    exact Or.inr ⟨rfl, h1, h2⟩
theorem PoM.p1 {q : Int × Rd} (h : PoM F n m v r (adv F n m q)) (hr : r ≠ 0) : q.1 = 0 ∧ RdM F n m v (nx F n m q.2) := by
  rcases h with ⟨a, h1, h2⟩ | ⟨a, -⟩
  · by_cases e : q.1 = 0
    · unfold adv at h1 h2
      rw [thn_0 e] at h2
      exact ⟨e, h2⟩
    · unfold adv at h1
      rw [thn_1 e] at h1
      exact absurd h1 e
  · omega
theorem PoM.bad {c : Int} {q : Int × Rd} (hq : q = (c, s)) (hc : c ≠ 0) (h15 : v 178 15 = c) (h16 : v 178 16 = ta F n m s.p) : PoM F n m v 0 q := by
  rw [hq]
  exact Or.inr ⟨rfl, hc, h15, h16⟩
/-- the state where what it needs stands -/
theorem RdM.cg (h : RdM F n m v s) (hT : TkM F n m v' s.p) (h1 : v' 181 = v 181) (h3 : v' 183 = v 183) (h20 : v' 178 20 = v 178 20) : RdM F n m v' s := by
  obtain ⟨b1, b2, b3, b4, b5⟩ := h
  refine ⟨hT, ?_, ?_, ?_, b5⟩
  · rw [h1]; exact b2
  · rw [h3]; exact b3
  · rw [h20]; exact b4
theorem RdM.fr {R Ks : List Int} (h : RdM F n m v s) (hf : Fr R Ks v v') (h9 : 179 ∉ R ∧ 181 ∉ R ∧ 183 ∉ R) (hk : ∀ k ∈ Ks, ¬ (k = 3 ∨ k = 4 ∨ k = 5 ∨ k = 11 ∨ k = 12 ∨ k = 14 ∨ k = 17)) (h20 : (20 : Int) ∉ Ks) : RdM F n m v' s := h.cg (h.1.fr hf h9.1 hk) (hf.1 181 h9.2.1 (by decide)) (hf.1 183 h9.2.2 (by decide)) (hf.2 20 h20)
/-- one token further -/
theorem RdM.go {R Ks : List Int} (h : RdM F n m v s) (hf : Fr R Ks v v') (h9 : 181 ∉ R ∧ 183 ∉ R) (h20 : (20 : Int) ∉ Ks) (hT : TkM F n m v' (tp F n m s.p)) : RdM F n m v' (nx F n m s) := by
  obtain ⟨b1, b2, b3, b4, b5⟩ := h
  refine ⟨hT, ?_, ?_, ?_, b5⟩
  · rw [hf.1 181 h9.1 (by decide)]; exact b2
  · rw [hf.1 183 h9.2 (by decide)]; exact b3
  · rw [hf.2 20 h20]; exact b4
theorem sv_s {h : Int → Int} {k x : Int} : sv h k x k = x := if_pos rfl
theorem sv_n {h : Int → Int} {k x j : Int} (e : j ≠ k) : sv h k x j = h j := if_neg e
/-- one colour, land, player more -/
theorem RdM.inc {k x a : Int} (h : RdM F n m v s) (hk : k = 0 ∧ a = 0 ∨ k = 1 ∧ a = 4 ∨ k = 2 ∧ a = 7) (hx : s.H k = x) (hw : NmW (s.N (a + x)) (v 183 (10 + a + x))) : RdM F n m (up v 181 k (x + 1)) (Rd.wH s (sv s.H k (x + 1))) := by
  obtain ⟨b1, b2, b3, b4, b5, b6, b7⟩ := h
  have e5 : sv s.H k (x + 1) 5 = s.H 5 := sv_n (by omega)
  refine ⟨b1.arr (by decide) (by decide), fun j p q => ?_, ?_, ?_, b5, b6, ?_⟩
  · by_cases e : j = k
    · subst e
      exact (up_s _ _ _ _).trans sv_s.symm
    · exact (up_k e).trans ((b2 j p q).trans (sv_n e).symm)
  · show NmI s.N ((up v 181 k (x + 1)) 183) (sv s.H k (x + 1) 0) (sv s.H k (x + 1) 1) (sv s.H k (x + 1) 2)
    rw [up_f (by decide)]
    have key : ∀ (i c d : Int), (i = 0 ∧ c = 0 ∧ d = 10 ∨ i = 1 ∧ c = 4 ∧ d = 14 ∨ i = 2 ∧ c = 7 ∧ d = 17) → (∀ j, 0 ≤ j → j < s.H i → NmW (s.N (c + j)) (v 183 (d + j))) → ∀ j, 0 ≤ j → j < sv s.H k (x + 1) i → NmW (s.N (c + j)) (v 183 (d + j)) := fun i c d hi z j p q => by
      by_cases e : i = k
      · subst e
        rw [sv_s] at q
        by_cases e2 : j = x
        · subst e2
          rw [show c = a by omega, show d = 10 + a by omega]
          exact hw
        · exact z j p (by omega)
      · rw [sv_n e] at q
        exact z j p q
    exact ⟨key 0 0 10 (by omega) b3.1, key 1 4 14 (by omega) b3.2.1, key 2 7 17 (by omega) b3.2.2⟩
  · show (up v 181 k (x + 1)) 178 20 = s.o0 + 2 * s.o1 + 4 * sv s.H k (x + 1) 5
    rw [up_r (by decide), e5]
    exact b4
  · show 0 ≤ sv s.H k (x + 1) 5 ∧ sv s.H k (x + 1) 5 ≤ 1
    rw [e5]
    exact b7
/-- a place of h that neither counts nor is the change -/
theorem RdM.put {k x : Int} (h : RdM F n m v s) (hk : k ≠ 0 ∧ k ≠ 1 ∧ k ≠ 2 ∧ k ≠ 5) : RdM F n m (up v 181 k x) (Rd.wH s (sv s.H k x)) := by
  obtain ⟨b1, b2, b3, b4, b5, b6, b7⟩ := h
  have e5 : sv s.H k x 5 = s.H 5 := sv_n (by omega)
  refine ⟨b1.arr (by decide) (by decide), fun j p q => ?_, ?_, ?_, b5, b6, ?_⟩
  · by_cases e : j = k
    · subst e
      exact (up_s _ _ _ _).trans sv_s.symm
    · exact (up_k e).trans ((b2 j p q).trans (sv_n e).symm)
  · show NmI s.N ((up v 181 k x) 183) (sv s.H k x 0) (sv s.H k x 1) (sv s.H k x 2)
    rw [up_f (by decide), sv_n (by omega), sv_n (by omega), sv_n (by omega)]
    exact b3
  · show (up v 181 k x) 178 20 = s.o0 + 2 * s.o1 + 4 * sv s.H k x 5
    rw [up_r (by decide), e5]
    exact b4
  · show 0 ≤ sv s.H k x 5 ∧ sv s.H k x 5 ≤ 1
    rw [e5]
    exact b7
theorem rNewAt_H {k : Int} : (rNewAt F n m s k).2.H = s.H := by
  unfold rNewAt
  split
  · rfl
  · split <;> rfl
theorem rNewAt_N {k : Int} (h : (rNewAt F n m s k).1 = 0) : (rNewAt F n m s k).2.N k = tn F n s.p := by
  unfold rNewAt at h ⊢
  by_cases c : nm F n m s.p = false
  · rw [if_pos c] at h; exact absurd h (show ¬ (1 : Int) = 0 by decide)
  · rw [if_neg c] at h ⊢
    by_cases d : tol s.N s.H (tn F n s.p) = true
    · rw [if_pos d] at h; exact absurd h (show ¬ (3 : Int) = 0 by decide)
    · rw [if_neg d]; exact sv_s
theorem rNumAt_N {k lo hi : Int} : (rNumAt F n m s k lo hi).2.N = s.N := by
  unfold rNumAt
  split
  · rfl
  · split <;> rfl
theorem rNumAt_H {k lo hi j : Int} (e : j ≠ k) : (rNumAt F n m s k lo hi).2.H j = s.H j := by
  unfold rNumAt
  split
  · rfl
  · split
    · rfl
    · exact sv_n e
theorem rNewAt_p {k : Int} : (rNewAt F n m s k).2.p = s.p := by
  unfold rNewAt
  split
  · rfl
  · split <;> rfl
theorem rNumAt_p {k lo hi : Int} : (rNumAt F n m s k lo hi).2.p = s.p := by
  unfold rNumAt
  split
  · rfl
  · split <;> rfl
/-- a name and a number behind it, and one more: colours and players -/
theorem RdM.line {k a c lo hi x y w0 : Int} {q1 q2 : Int × Rd} (e1 : q1 = rNew F n m s (a + x)) (e2 : q2 = rNum F n m q1.2 c lo hi) (hx : s.H k = x) (hk : k = 0 ∧ a = 0 ∨ k = 1 ∧ a = 4 ∨ k = 2 ∧ a = 7) (hc : c ≠ k) (h1 : q1.1 = 0) (hR : RdM F n m v (nx F n m q2.2)) (hw : NmW (tn F n (nx F n m s).p) (v 183 w0)) (hw0 : w0 = 10 + a + x) (hy : y = x + 1) : RdM F n m (up v 181 k y) (nx F n m (Rd.wH q2.2 (sv q2.2.H k (x + 1)))) := by
  have hH : q2.2.H k = x := by
    rw [e2]
    unfold rNum
    rw [rNumAt_H (by omega)]
    show q1.2.H k = x
    rw [e1]
    unfold rNew
    rw [rNewAt_H]
    exact hx
  have hN : q2.2.N (a + x) = tn F n (nx F n m s).p := by
    rw [e2]
    unfold rNum
    rw [rNumAt_N]
    show q1.2.N (a + x) = _
    rw [e1] at h1 ⊢
    exact rNewAt_N h1
  subst hw0
  subst hy
  have z := hR.inc (k := k) (x := x) (a := a) hk hH (by show NmW (q2.2.N (a + x)) _; rw [hN]; exact hw)
  exact z
theorem rLine_0 (h : ky F n m s.p = 0) : rLine F n m s = rColour F n m s := if_pos h
theorem rLine_1 (h : ky F n m s.p = 1) : rLine F n m s = rEnds F n m s := (if_neg (by omega)).trans (if_pos h)
theorem rLine_2 (h : ky F n m s.p = 2) : rLine F n m s = rLand F n m s := (if_neg (by omega)).trans ((if_neg (by omega)).trans (if_pos h))
theorem rLine_3 (h : ky F n m s.p = 3) : rLine F n m s = rPlayer F n m s := (if_neg (by omega)).trans ((if_neg (by omega)).trans ((if_neg (by omega)).trans (if_pos h)))
theorem rLine_4 (h : ky F n m s.p = 4) : rLine F n m s = rGoal F n m s := (if_neg (by omega)).trans ((if_neg (by omega)).trans ((if_neg (by omega)).trans ((if_neg (by omega)).trans (if_pos h))))
theorem rLine_5 (h : ky F n m s.p = 5) : rLine F n m s = rCars F n m s := (if_neg (by omega)).trans ((if_neg (by omega)).trans ((if_neg (by omega)).trans ((if_neg (by omega)).trans ((if_neg (by omega)).trans (if_pos h)))))
theorem rLine_6 (h : ky F n m s.p = 6) : rLine F n m s = rChange F n m s := (if_neg (by omega)).trans ((if_neg (by omega)).trans ((if_neg (by omega)).trans ((if_neg (by omega)).trans ((if_neg (by omega)).trans ((if_neg (by omega)).trans (if_pos h))))))
theorem rLine_7 (h : ¬ (0 ≤ ky F n m s.p ∧ ky F n m s.p ≤ 6)) : rLine F n m s = (1, s) := (if_neg (by omega)).trans ((if_neg (by omega)).trans ((if_neg (by omega)).trans ((if_neg (by omega)).trans ((if_neg (by omega)).trans ((if_neg (by omega)).trans (if_neg (by omega)))))))
theorem ky_r : -1 ≤ ky F n m s.p ∧ (ky F n m s.p ≠ -1 → tk F n m s.p = 1) := by
  unfold ky
  by_cases c : tk F n m s.p = 1
  · rw [if_pos c]
    refine ⟨?_, fun _ => c⟩
    by_cases d : kix (tn F n s.p) = -1
    · omega
    · have := (kixL_ge K32 0 (by decide) d).1
      unfold kix
      omega
  · rw [if_neg c]
    exact ⟨by decide, fun z => absurd rfl z⟩
end Lines
