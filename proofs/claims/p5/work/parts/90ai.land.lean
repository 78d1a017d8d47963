section Lands
variable {F : Int → Int} {n m : Int} {v v' : Mv} {s : Rd} {r : Int}
theorem RdM.zer {l : Int} (h : RdM F n m v s) (hl : 0 ≤ l) (hf : Fr [181] [] v v') (ho : ∀ j, ¬ (17 + 5 * l ≤ j ∧ j < 17 + 5 * l + 4) → v' 181 j = v 181 j) (hz : ∀ c, 0 ≤ c → c < 4 → v' 181 (17 + 5 * l + c) = 0) : RdM F n m v' (Rd.wH s (zr s.H l)) := by
  have hT : TkM F n m v' s.p := h.1.fr hf (by decide) (fun k hk => absurd hk (List.not_mem_nil))
  obtain ⟨b1, b2, b3, b4, b5, b6, b7⟩ := h
  have en : ∀ j, ¬ (17 + 5 * l ≤ j ∧ j < 17 + 5 * l + 4) → zr s.H l j = s.H j := fun j hj => if_neg hj
  refine ⟨hT, fun j p q => ?_, ?_, ?_, b5, b6, ?_⟩
  · show v' 181 j = zr s.H l j
    by_cases e : 17 + 5 * l ≤ j ∧ j < 17 + 5 * l + 4
    · have z := hz (j - (17 + 5 * l)) (by omega) (by omega)
      rw [show 17 + 5 * l + (j - (17 + 5 * l)) = j by omega] at z
      rw [z]
      exact (if_pos e).symm
    · rw [ho j e, en j e]; exact b2 j p q
  · show NmI s.N (v' 183) (zr s.H l 0) (zr s.H l 1) (zr s.H l 2)
    rw [hf.1 183 (by decide) (by decide), en 0 (by omega), en 1 (by omega), en 2 (by omega)]
    exact b3
  · show v' 178 20 = s.o0 + 2 * s.o1 + 4 * zr s.H l 5
    rw [hf.2 20 (List.not_mem_nil), en 5 (by omega)]
    exact b4
  · show 0 ≤ zr s.H l 5 ∧ zr s.H l 5 ≤ 1
    rw [en 5 (by omega)]
    exact b7
/-- how many colours a land has told -/
def po1 (x : Int) : Int := if 0 < x then 1 else 0
def psc (h : Int → Int) (l : Int) : Int := po1 (h (17 + 5 * l + 0)) + po1 (h (17 + 5 * l + 1)) + po1 (h (17 + 5 * l + 2)) + po1 (h (17 + 5 * l + 3))
theorem po1_b (x : Int) : 0 ≤ po1 x ∧ po1 x ≤ 1 ∧ (0 < x → po1 x = 1) ∧ (¬ 0 < x → po1 x = 0) := by
  unfold po1
  split <;> omega
theorem psc_z {h : Int → Int} {l c : Int} (h0 : 0 ≤ c) (h3 : c ≤ 3) (hz : ¬ 0 < h (17 + 5 * l + c)) : psc h l ≤ 3 := by
  have a0 := po1_b (h (17 + 5 * l + 0))
  have a1 := po1_b (h (17 + 5 * l + 1))
  have a2 := po1_b (h (17 + 5 * l + 2))
  have a3 := po1_b (h (17 + 5 * l + 3))
  unfold psc
  have hc : c = 0 ∨ c = 1 ∨ c = 2 ∨ c = 3 := by omega
  rcases hc with e | e | e | e <;> rw [e] at hz <;> omega
theorem psc_s {h g : Int → Int} {l c : Int} (h0 : 0 ≤ c) (h3 : c ≤ 3) (hz : ¬ 0 < h (17 + 5 * l + c)) (hp : 0 < g (17 + 5 * l + c)) (ho : ∀ j, j ≠ 17 + 5 * l + c → g j = h j) : psc g l = psc h l + 1 := by
  have a0 := po1_b (h (17 + 5 * l + 0))
  have a1 := po1_b (h (17 + 5 * l + 1))
  have a2 := po1_b (h (17 + 5 * l + 2))
  have a3 := po1_b (h (17 + 5 * l + 3))
  have b0 := po1_b (g (17 + 5 * l + 0))
  have b1 := po1_b (g (17 + 5 * l + 1))
  have b2 := po1_b (g (17 + 5 * l + 2))
  have b3 := po1_b (g (17 + 5 * l + 3))
  unfold psc
  have hc : c = 0 ∨ c = 1 ∨ c = 2 ∨ c = 3 := by omega
  rcases hc with e | e | e | e <;> subst e
  · rw [ho (17 + 5 * l + 1) (by omega), ho (17 + 5 * l + 2) (by omega), ho (17 + 5 * l + 3) (by omega)]; omega
  · rw [ho (17 + 5 * l + 0) (by omega), ho (17 + 5 * l + 2) (by omega), ho (17 + 5 * l + 3) (by omega)]; omega
  · rw [ho (17 + 5 * l + 0) (by omega), ho (17 + 5 * l + 1) (by omega), ho (17 + 5 * l + 3) (by omega)]; omega
  · rw [ho (17 + 5 * l + 0) (by omega), ho (17 + 5 * l + 1) (by omega), ho (17 + 5 * l + 2) (by omega)]; omega
/-- while the shares of land l are read: lf is left -/
def LdI (F : Int → Int) (n m : Int) (s : Rd) (l : Int) (v : Mv) (lf : Int) : Prop := ∃ (k : Nat) (sg : Rd), RdM F n m v sg ∧ rLand F n m s = rShares F n m l k lf sg ∧ psc (v 181) l + k = 4 ∧ NmW (sg.N (4 + l)) (v 183 (14 + l)) ∧ sg.H 1 = l
theorem LdI.start {l : Int} {v41 : Mv} {q1 q2 : Int × Rd} (e1 : q1 = rNew F n m s (4 + l)) (e2 : q2 = rNum F n m q1.2 (14 + l) 1 9) (hl : s.H 1 = l) (hl0 : 0 ≤ l ∧ l < 3) (h1 : q1.1 = 0) (h2 : q2.1 = 0) (hR : RdM F n m v41 (nx F n m q2.2)) (hw : NmW (tn F n (nx F n m s).p) (v41 183 (14 + l))) (hf : Fr [181] [] v41 v) (ho : ∀ j, ¬ (17 + 5 * l ≤ j ∧ j < 17 + 5 * l + 4) → v 181 j = v41 181 j) (hz : ∀ c, 0 ≤ c → c < 4 → v 181 (17 + 5 * l + c) = 0) : LdI F n m s l v 12 := by
  have hN : q2.2.N (4 + l) = tn F n (nx F n m s).p := by
    rw [e2]
    unfold rNum
    rw [rNumAt_N]
    show q1.2.N (4 + l) = _
    rw [e1] at h1 ⊢
    exact rNewAt_N h1
  have hH : q2.2.H 1 = l := by
    rw [e2]
    unfold rNum
    rw [rNumAt_H (by omega)]
    show q1.2.H 1 = l
    rw [e1]
    unfold rNew
    rw [rNewAt_H]
    exact hl
  refine ⟨4, nx F n m (Rd.wH q2.2 (zr q2.2.H l)), ?_, ?_, ?_, ?_, ?_⟩
  · exact (hR.zer (l := l) hl0.1 hf ho hz)
  · unfold rLand
    rw [if_neg (by omega), hl, ← e1, thn_0 h1, ← e2, thn_0 h2]
  · have z : ∀ c, 0 ≤ c → c < 4 → po1 (v 181 (17 + 5 * l + c)) = 0 := fun c a b => by rw [hz c a b]; rfl
    unfold psc
    rw [z 0 (by decide) (by decide), z 1 (by decide) (by decide), z 2 (by decide) (by decide), z 3 (by decide) (by decide)]
    rfl
  · show NmW (q2.2.N (4 + l)) _
    rw [hN, hf.1 183 (by decide) (by decide)]
    exact hw
  · show zr q2.2.H l 1 = l
    exact (if_neg (by omega)).trans hH
theorem nm_t {p : Int} (h : nm F n m p = true) : tk F n m p = 1 := (of_decide_eq_true h).1
theorem mk_t {p c : Int} (h : mk F n m p c = true) : tk F n m p = 3 ∧ tv F n p = c := of_decide_eq_true h
theorem mk_nm {p c : Int} (h : mk F n m p c = true) : nm F n m p = false := by
  have h1 := mk_t h
  exact decide_eq_false fun z => by omega
theorem sh_end {l g : Int} {k : Nat} (h : mk F n m s.p 59 = true) : rShares F n m l k g s = (0, (Rd.wH s (sv s.H 1 (l + 1)))) := by
  cases k with
  | zero =>
    show (if nm F n m s.p = true then _ else _) = _
    rw [mk_nm h]
    rfl
  | succ k => exact if_pos h
theorem Ld.good {k : Nat} {sg : Rd} {l lf y : Int} (hR : RdM F n m v sg) (heq : rLand F n m s = rShares F n m l k lf sg) (hw : NmW (sg.N (4 + l)) (v 183 (14 + l))) (h1 : sg.H 1 = l) (hm : mk F n m sg.p 59 = true) (hy : y = l + 1) : PoL F n m (up v 181 1 y) 1 (rLand F n m s) := by
  rw [heq, sh_end hm]
  subst hy
  exact Or.inl ⟨rfl, rfl, hR.inc (k := 1) (a := 4) (Or.inr (Or.inl ⟨rfl, rfl⟩)) h1 hw⟩
theorem cl_1 {q : Int × Rd} (h : q.1 ≠ 0) : cl F n m q = q := thn_1 h
theorem Ld.bad3 {k : Nat} {sg : Rd} {l lf c : Int} {q : Int × Rd} (hq : q = rShares F n m l k lf sg) (e : rShares F n m l k lf sg = (c, sg)) (hc : c ≠ 0) (h15 : v 178 15 = c) (h16 : v 178 16 = ta F n m sg.p) : PoL F n m v 0 q := by
  rw [hq, e]
  exact (PoM.bad rfl hc h15 h16).L
theorem Ld.look {k : Nat} {sg : Rd} {l lf : Int} (heq : rLand F n m s = rShares F n m l k lf sg) (hm : mk F n m sg.p 59 = false) (h : LkP F n m sg v r) (hr : r = 0) : PoL F n m v 0 (rLand F n m s) := by
  rcases h with ⟨a, -⟩ | ⟨-, ⟨b, c⟩ | ⟨b, c, d⟩, e⟩
  · omega
  · cases k with
    | zero =>
      have e2 : rLand F n m s = (0, (Rd.wH sg (sv sg.H 1 (l + 1)))) := by
        rw [heq]
        show (if nm F n m sg.p = true then _ else _) = _
        rw [b]
        rfl
      have e3 : cl F n m (rLand F n m s) = (1, (Rd.wH sg (sv sg.H 1 (l + 1)))) := by
        rw [e2]
        unfold cl
        rw [thn_0 rfl]
        show (if mk F n m sg.p 59 = true then _ else _) = _
        rw [hm]
        rfl
      refine Or.inr ⟨rfl, ?_⟩
      rw [e3]
      exact ⟨show (1 : Int) ≠ 0 by decide, c, e⟩
    | succ k =>
      refine Ld.bad3 heq ?_ (show (1 : Int) ≠ 0 by decide) c e
      show (if mk F n m sg.p 59 = true then _ else if nm F n m sg.p = false then _ else _) = _
      rw [hm, b]
      rfl
  · refine Ld.bad3 heq ?_ (show (3 : Int) ≠ 0 by decide) d e
    cases k with
    | zero =>
      show (if nm F n m sg.p = true then _ else _) = _
      rw [b]
      rfl
    | succ k =>
      show (if mk F n m sg.p 59 = true then _ else if nm F n m sg.p = false then _ else if rCol F n sg = -1 ∨ 0 < sg.H (17 + 5 * l + rCol F n sg) then _ else _) = _
      rw [hm, b, if_pos (Or.inl c)]
      rfl
theorem Ld.again {k : Nat} {sg : Rd} {l lf : Int} (heq : rLand F n m s = rShares F n m l k lf sg) (hm : mk F n m sg.p 59 = false) (hn : nm F n m sg.p = true) (hc : 0 < sg.H (17 + 5 * l + rCol F n sg)) (h15 : v 178 15 = 3) (h16 : v 178 16 = ta F n m sg.p) : PoL F n m v 0 (rLand F n m s) := by
  refine Ld.bad3 heq ?_ (show (3 : Int) ≠ 0 by decide) h15 h16
  cases k with
  | zero =>
    show (if nm F n m sg.p = true then _ else _) = _
    rw [hn]
    rfl
  | succ k =>
    show (if mk F n m sg.p 59 = true then _ else if nm F n m sg.p = false then _ else if rCol F n sg = -1 ∨ 0 < sg.H (17 + 5 * l + rCol F n sg) then _ else _) = _
    rw [hm, hn, if_pos (Or.inr hc)]
    rfl
theorem sh_step {k : Nat} {sg : Rd} {l lf : Int} (hm : mk F n m sg.p 59 = false) (hn : nm F n m sg.p = true) (hc : rCol F n sg ≠ -1) (hz : ¬ 0 < sg.H (17 + 5 * l + rCol F n sg)) : rShares F n m l (k + 1) lf sg = thn (rNum F n m sg (17 + 5 * l + rCol F n sg) 1 lf) fun s2 => rShares F n m l k (lf - s2.H (17 + 5 * l + rCol F n sg)) (nx F n m s2) := by
  show (if mk F n m sg.p 59 = true then _ else if nm F n m sg.p = false then _ else if rCol F n sg = -1 ∨ 0 < sg.H (17 + 5 * l + rCol F n sg) then _ else _) = _
  rw [hm, hn, if_neg (fun z : rCol F n sg = -1 ∨ 0 < sg.H (17 + 5 * l + rCol F n sg) => z.elim hc hz)]
  rfl
theorem Ld.num {k : Nat} {sg : Rd} {l lf c : Int} (heq : rLand F n m s = rShares F n m l k lf sg) (hk : 1 ≤ k) (hm : mk F n m sg.p 59 = false) (hn : nm F n m sg.p = true) (hcc : c = rCol F n sg) (hc : rCol F n sg ≠ -1) (hz : ¬ 0 < sg.H (17 + 5 * l + c)) (h : PoM F n m v r (adv F n m (rNumAt F n m (nx F n m sg) (17 + 5 * l + c) 1 lf))) (hr : r = 0) : PoL F n m v 0 (rLand F n m s) := by
  subst hcc
  obtain ⟨k, rfl⟩ : ∃ j, k = j + 1 := ⟨k - 1, by omega⟩
  rw [heq, sh_step hm hn hc hz]
  exact (h.p0 hr).L
theorem Ld.next {k : Nat} {sg : Rd} {l lf c : Int} {v1 : Mv} (heq : rLand F n m s = rShares F n m l k lf sg) (hps : psc (v1 181) l + k = 4) (hl : 0 ≤ l ∧ l ≤ 2) (h03 : 0 ≤ c ∧ c ≤ 3) (hm : mk F n m sg.p 59 = false) (hn : nm F n m sg.p = true) (hcc : c = rCol F n sg) (hc : rCol F n sg ≠ -1) (hR1 : RdM F n m v1 sg) (hz : ¬ 0 < v1 181 (17 + 5 * l + c)) (h : PoM F n m v r (adv F n m (rNumAt F n m (nx F n m sg) (17 + 5 * l + c) 1 lf))) (hr : r ≠ 0)
    (hp : 0 < v 181 (17 + 5 * l + c)) (ho : ∀ j, j ≠ 17 + 5 * l + c → v 181 j = v1 181 j) (h183 : v 183 = v1 183) (hw : NmW (sg.N (4 + l)) (v1 183 (14 + l))) (h1 : sg.H 1 = l) : LdI F n m s l v (lf - v 181 (17 + 5 * l + c)) := by
  have hk := psc_z h03.1 h03.2 hz
  obtain ⟨k, rfl⟩ : ∃ j, k = j + 1 := ⟨k - 1, by omega⟩
  obtain ⟨h2, h3⟩ := h.p1 hr
  have hH : v1 181 (17 + 5 * l + c) = sg.H (17 + 5 * l + c) := hR1.2.1 _ (by omega) (by omega)
  have hV : v 181 (17 + 5 * l + c) = (rNumAt F n m (nx F n m sg) (17 + 5 * l + c) 1 lf).2.H (17 + 5 * l + c) := h3.2.1 _ (by omega) (by omega)
  refine ⟨k, nx F n m (rNumAt F n m (nx F n m sg) (17 + 5 * l + c) 1 lf).2, h3, ?_, ?_, ?_, ?_⟩
  · rw [heq, sh_step hm hn hc (by rw [← hcc, ← hH]; exact hz), ← hcc]
    show thn (rNumAt F n m (nx F n m sg) (17 + 5 * l + c) 1 lf) _ = _
    rw [thn_0 h2, hV]
  · have := psc_s h03.1 h03.2 hz hp ho
    omega
  · show NmW ((rNumAt F n m (nx F n m sg) (17 + 5 * l + c) 1 lf).2.N (4 + l)) _
    rw [rNumAt_N, h183]
    exact hw
  · show (rNumAt F n m (nx F n m sg) (17 + 5 * l + c) 1 lf).2.H 1 = l
    rw [rNumAt_H (by omega)]
    exact h1
end Lands
theorem rLand_e {F : Int → Int} {n m l : Int} {s : Rd} (hl : s.H 1 = l) (h : l < 3) : rLand F n m s = thn (rNew F n m s (4 + l)) fun s1 => thn (rNum F n m s1 (14 + l) 1 9) fun s2 => rShares F n m l 4 12 (nx F n m (Rd.wH s2 (zr s2.H l))) := by
  unfold rLand
  rw [if_neg (by omega), hl]
theorem PoM.land2 {F : Int → Int} {n m l r : Int} {v : Mv} {s : Rd} {q1 q2 : Int × Rd} (e1 : q1 = rNew F n m s (4 + l)) (e2 : q2 = rNum F n m q1.2 (14 + l) 1 9) (hl : s.H 1 = l) (h : l < 3) (h1 : q1.1 = 0) (hP : PoM F n m v r (adv F n m q2)) (hr : r = 0) : PoL F n m v 0 (rLand F n m s) := by
  rw [rLand_e hl h, ← e1, thn_0 h1, ← e2]
  exact (hP.p0 hr).L
theorem Ld.sum {h g : Int → Int} {l c lf : Int} (hc : 0 ≤ c ∧ c ≤ 3) (hs : h (17 + 5 * l + 0) + h (17 + 5 * l + 1) + h (17 + 5 * l + 2) + h (17 + 5 * l + 3) + lf = 12 ∧ 0 ≤ lf ∧ lf ≤ 12) (ho : ∀ j, j ≠ 17 + 5 * l + c → g j = h j) (hz : h (17 + 5 * l + c) = 0) (hn : 1 ≤ g (17 + 5 * l + c) ∧ g (17 + 5 * l + c) ≤ lf) : g (17 + 5 * l + 0) + g (17 + 5 * l + 1) + g (17 + 5 * l + 2) + g (17 + 5 * l + 3) + (lf - g (17 + 5 * l + c)) = 12 ∧ 0 ≤ lf - g (17 + 5 * l + c) ∧ lf - g (17 + 5 * l + c) ≤ 12 := by
  have hc4 : c = 0 ∨ c = 1 ∨ c = 2 ∨ c = 3 := by omega
  rcases hc4 with e | e | e | e <;> subst e
  · rw [ho (17 + 5 * l + 1) (by omega), ho (17 + 5 * l + 2) (by omega), ho (17 + 5 * l + 3) (by omega)]; omega
  · rw [ho (17 + 5 * l + 0) (by omega), ho (17 + 5 * l + 2) (by omega), ho (17 + 5 * l + 3) (by omega)]; omega
  · rw [ho (17 + 5 * l + 0) (by omega), ho (17 + 5 * l + 1) (by omega), ho (17 + 5 * l + 3) (by omega)]; omega
  · rw [ho (17 + 5 * l + 0) (by omega), ho (17 + 5 * l + 1) (by omega), ho (17 + 5 * l + 2) (by omega)]; omega
