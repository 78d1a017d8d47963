section Onces
variable {F : Int → Int} {n m : Int} {v v' : Mv} {s : Rd} {r : Int}
theorem RdM.ob (h : RdM F n m v s) : (0 ≤ v 178 20 ∧ v 178 20 ≤ 7) ∧ bt (v 178 20) 0 = s.o0 ∧ bt (v 178 20) 1 = s.o1 ∧ bt (v 178 20) 2 = s.H 5 := by
  obtain ⟨b1, b2, b3, b4, b5, b6, b7⟩ := h
  unfold bt
  rw [if_pos rfl, if_neg (by decide), if_pos rfl, if_neg (by decide), if_neg (by decide), b4]
  omega
theorem RdM.once0 (h : RdM F n m v s) (h0 : s.o0 = 0) (hT : TkM F n m v' (tp F n m s.p)) (h20 : v' 178 20 = v 178 20 + pw 0) (h1 : v' 181 = v 181) (h3 : v' 183 = v 183) : RdM F n m v' (nx F n m (Rd.w0 s 1)) := by
  obtain ⟨b1, b2, b3, b4, b5, b6, b7⟩ := h
  refine ⟨hT, by rw [h1]; exact b2, by rw [h3]; exact b3, ?_, (show (0 : Int) ≤ 1 ∧ (1 : Int) ≤ 1 by decide), b6, b7⟩
  show v' 178 20 = 1 + 2 * s.o1 + 4 * s.H 5
  rw [h20, b4, h0, show pw 0 = 1 from rfl]
  omega
theorem RdM.once1 (h : RdM F n m v s) (h0 : s.o1 = 0) (hT : TkM F n m v' (tp F n m s.p)) (h20 : v' 178 20 = v 178 20 + pw 1) (h1 : v' 181 = v 181) (h3 : v' 183 = v 183) : RdM F n m v' (nx F n m (Rd.w1 s 1)) := by
  obtain ⟨b1, b2, b3, b4, b5, b6, b7⟩ := h
  refine ⟨hT, by rw [h1]; exact b2, by rw [h3]; exact b3, ?_, b5, (show (0 : Int) ≤ 1 ∧ (1 : Int) ≤ 1 by decide), b7⟩
  show v' 178 20 = s.o0 + 2 * 1 + 4 * s.H 5
  rw [h20, b4, h0, show pw 1 = 2 from rfl]
  omega
theorem RdM.once2 (h : RdM F n m v s) (h0 : s.H 5 = 0) (hT : TkM F n m v' (tp F n m s.p)) (h20 : v' 178 20 = v 178 20 + pw 2) (h1 : v' 181 = (up v 181 5 1) 181) (h3 : v' 183 = v 183) : RdM F n m v' (nx F n m (Rd.wH s (sv s.H 5 1))) := by
  obtain ⟨b1, b2, b3, b4, b5, b6, b7⟩ := h
  refine ⟨hT, fun j p q => ?_, ?_, ?_, b5, b6, ?_⟩
  · show v' 181 j = sv s.H 5 1 j
    rw [h1]
    by_cases e : j = 5
    · subst e; exact (up_s _ _ _ _).trans sv_s.symm
    · exact (up_k e).trans ((b2 j p q).trans (sv_n e).symm)
  · show NmI s.N (v' 183) (sv s.H 5 1 0) (sv s.H 5 1 1) (sv s.H 5 1 2)
    rw [h3, sv_n (by decide), sv_n (by decide), sv_n (by decide)]
    exact b3
  · show v' 178 20 = s.o0 + 2 * s.o1 + 4 * sv s.H 5 1 5
    rw [h20, b4, h0, sv_s, show pw 2 = 4 from rfl]
    omega
  · show 0 ≤ sv s.H 5 1 5 ∧ sv s.H 5 1 5 ≤ 1
    rw [sv_s]
    decide
theorem rNumAt_o0 {k lo hi : Int} : rNumAt F n m (nx F n m (Rd.w0 s 1)) k lo hi = ((rNum F n m s k lo hi).1, (Rd.w0 ((rNum F n m s k lo hi).2) 1)) := by
  show rNumAt F n m (nx F n m (Rd.w0 s 1)) k lo hi = ((rNumAt F n m (nx F n m s) k lo hi).1, (Rd.w0 ((rNumAt F n m (nx F n m s) k lo hi).2) 1))
  unfold rNumAt
  show (if tk F n m (tp F n m s.p) ≠ 2 then _ else if tv F n (tp F n m s.p) < lo ∨ hi < tv F n (tp F n m s.p) then _ else _) = ((if tk F n m (tp F n m s.p) ≠ 2 then _ else if tv F n (tp F n m s.p) < lo ∨ hi < tv F n (tp F n m s.p) then _ else _ : Int × Rd).1, (Rd.w0 ((if tk F n m (tp F n m s.p) ≠ 2 then _ else if tv F n (tp F n m s.p) < lo ∨ hi < tv F n (tp F n m s.p) then _ else _ : Int × Rd).2) 1))
  by_cases a : tk F n m (tp F n m s.p) ≠ 2
  · rw [if_pos a, if_pos a]; rfl
  · rw [if_neg a, if_neg a]
    by_cases b : tv F n (tp F n m s.p) < lo ∨ hi < tv F n (tp F n m s.p)
    · rw [if_pos b, if_pos b]; rfl
    · rw [if_neg b, if_neg b]; rfl
theorem rNumAt_o1 {k lo hi : Int} : rNumAt F n m (nx F n m (Rd.w1 s 1)) k lo hi = ((rNum F n m s k lo hi).1, (Rd.w1 ((rNum F n m s k lo hi).2) 1)) := by
  show rNumAt F n m (nx F n m (Rd.w1 s 1)) k lo hi = ((rNumAt F n m (nx F n m s) k lo hi).1, (Rd.w1 ((rNumAt F n m (nx F n m s) k lo hi).2) 1))
  unfold rNumAt
  show (if tk F n m (tp F n m s.p) ≠ 2 then _ else if tv F n (tp F n m s.p) < lo ∨ hi < tv F n (tp F n m s.p) then _ else _) = ((if tk F n m (tp F n m s.p) ≠ 2 then _ else if tv F n (tp F n m s.p) < lo ∨ hi < tv F n (tp F n m s.p) then _ else _ : Int × Rd).1, (Rd.w1 ((if tk F n m (tp F n m s.p) ≠ 2 then _ else if tv F n (tp F n m s.p) < lo ∨ hi < tv F n (tp F n m s.p) then _ else _ : Int × Rd).2) 1))
  by_cases a : tk F n m (tp F n m s.p) ≠ 2
  · rw [if_pos a, if_pos a]; rfl
  · rw [if_neg a, if_neg a]
    by_cases b : tv F n (tp F n m s.p) < lo ∨ hi < tv F n (tp F n m s.p)
    · rw [if_pos b, if_pos b]; rfl
    · rw [if_neg b, if_neg b]; rfl
/-- goal and cars -/
theorem once_b {q q' : Int × Rd} {b : Rd → Int × Rd} (h : PoM F n m v r (adv F n m q')) (hr : r = 0) (h1 : q'.1 = q.1) (h2 : q'.2.p = q.2.p) (e : rLine F n m s = thn q b) : PoL F n m v 0 (rLine F n m s) := by
  have z := h.p0 (b := b) hr
  rw [e]
  rcases z with ⟨a, -⟩ | ⟨-, a, b2, c⟩
  · omega
  · have e1 : q'.1 ≠ 0 := fun y => by
      rcases h with ⟨z, -⟩ | ⟨z, z2, -⟩
      · omega
      · exact z2 (by unfold adv; rw [thn_0 y])
    rw [thn_1 e1] at a b2 c
    have e2 : q.1 ≠ 0 := by rw [← h1]; exact e1
    rw [thn_1 e2]
    refine PoM.L (Or.inr ⟨rfl, e2, ?_, ?_⟩)
    · rw [b2, h1]
    · rw [c, h2]
/-- a line of a name and a number -/
theorem two_b1 {q1 : Int × Rd} {b : Rd → Int × Rd} (e : rLine F n m s = thn q1 b) (h : PoM F n m v r (adv F n m q1)) (hr : r = 0) : PoL F n m v 0 (rLine F n m s) := by
  rw [e]; exact (h.p0 hr).L
theorem two_b2 {q1 q2 : Int × Rd} {b b2 : Rd → Int × Rd} (e : rLine F n m s = thn q1 b) (h1 : q1.1 = 0) (eb : b q1.2 = thn q2 b2) (h : PoM F n m v r (adv F n m q2)) (hr : r = 0) : PoL F n m v 0 (rLine F n m s) := by
  rw [e, thn_0 h1, eb]; exact (h.p0 hr).L
theorem two_ok {q1 q2 : Int × Rd} {b b2 : Rd → Int × Rd} {s3 : Rd} (e : rLine F n m s = thn q1 b) (h1 : q1.1 = 0) (eb : b q1.2 = thn q2 b2) (h2 : q2.1 = 0) (e3 : b2 q2.2 = (0, s3)) (hR : RdM F n m v s3) : PoL F n m v 1 (rLine F n m s) := by
  rw [e, thn_0 h1, eb, thn_0 h2, e3]
  exact Or.inl ⟨rfl, rfl, hR⟩
theorem rEndsAt_1 (h : nm F n m s.p = false) : rEndsAt F n m s = (1, s) := if_pos h
theorem rEndsAt_3 (h : nm F n m s.p = true) (h2 : rCol F n s = -1 ∨ s.H (10 + rCol F n s) = 1) : rEndsAt F n m s = (3, s) := by
  unfold rEndsAt
  rw [h, if_pos h2]
  rfl
theorem rEndsAt_0 (h : nm F n m s.p = true) (h2 : ¬ (rCol F n s = -1 ∨ s.H (10 + rCol F n s) = 1)) : rEndsAt F n m s = (0, nx F n m (Rd.wH s (sv s.H (10 + rCol F n s) 1))) := by
  unfold rEndsAt
  rw [h, if_neg h2]
  rfl
theorem ends_b (hk : ky F n m s.p = 1) (h : LkP F n m (nx F n m s) v r) (hr : r = 0) : PoL F n m v 0 (rLine F n m s) := by
  have e : rLine F n m s = rEndsAt F n m (nx F n m s) := rLine_1 hk
  rcases h with ⟨a, -⟩ | ⟨-, ⟨b, c⟩ | ⟨b, c, d⟩, p⟩
  · omega
  · exact (PoM.bad (s := nx F n m s) (e.trans (rEndsAt_1 b)) (show (1 : Int) ≠ 0 by decide) c p).L
  · exact (PoM.bad (s := nx F n m s) (e.trans (rEndsAt_3 b (Or.inl c))) (show (3 : Int) ≠ 0 by decide) d p).L
theorem ends_3 (hk : ky F n m s.p = 1) (hn : nm F n m (nx F n m s).p = true) (h1 : (nx F n m s).H (10 + rCol F n (nx F n m s)) = 1) (h15 : v 178 15 = 3) (h16 : v 178 16 = ta F n m (nx F n m s).p) : PoL F n m v 0 (rLine F n m s) :=
  (PoM.bad (s := nx F n m s) ((rLine_1 hk).trans (rEndsAt_3 hn (Or.inr h1))) (show (3 : Int) ≠ 0 by decide) h15 h16).L
theorem ends_0 (hk : ky F n m s.p = 1) (hn : nm F n m (nx F n m s).p = true) (hc : rCol F n (nx F n m s) ≠ -1) (h1 : (nx F n m s).H (10 + rCol F n (nx F n m s)) ≠ 1) (hR : RdM F n m v (nx F n m (Rd.wH (nx F n m s) (sv (nx F n m s).H (10 + rCol F n (nx F n m s)) 1)))) : PoL F n m v 1 (rLine F n m s) := by
  rw [(rLine_1 hk).trans (rEndsAt_0 hn (fun z => z.elim hc h1))]
  exact Or.inl ⟨rfl, rfl, hR⟩
end Onces
