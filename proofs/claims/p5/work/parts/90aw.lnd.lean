section RdCl
variable {F : Int → Int} {n m : Int} {v v' ρ : Mv} {t i L r l : Int} {s : Rd} {ω : Rw} {Z : Mz}
theorem NuP.q0 {k lo hi : Int} (h : NuP F n m v ρ t i L lo hi r s) (hr : r = 0) : (rNum F n m s k lo hi).1 ≠ 0 ∧ v (ρ t 0) 9 = (rNum F n m s k lo hi).1 ∧ v (ρ t 0) 10 = ta F n m (rNum F n m s k lo hi).2.p := by
  rcases h with ⟨a, -⟩ | ⟨-, ⟨a, c⟩ | ⟨a, c, d⟩, e⟩
  · omega
  · have e1 : rNum F n m s k lo hi = (1, nx F n m s) := rNumAt_1 a
    rw [e1]
    exact ⟨show (1 : Int) ≠ 0 by decide, c, e⟩
  · have e1 : rNum F n m s k lo hi = (2, nx F n m s) := rNumAt_2 a c
    rw [e1]
    exact ⟨show (2 : Int) ≠ 0 by decide, d, e⟩
theorem rShare_1 {g : Int} (h : nm F n m s.p = false) : rShare F n m l g s = (1, s) := if_pos h
theorem rShare_3 {g c : Int} (h : nm F n m s.p = true) (hc : c = rCol F n s) (h2 : c = -1 ∨ 0 < s.H (17 + 5 * l + c)) : rShare F n m l g s = (3, s) := by
  subst hc
  unfold rShare
  rw [h, if_pos h2]
  rfl
theorem rShare_0 {g c : Int} (h : nm F n m s.p = true) (hc : c = rCol F n s) (h2 : ¬ (c = -1 ∨ 0 < s.H (17 + 5 * l + c))) : rShare F n m l g s = rNum F n m s (17 + 5 * l + c) 1 g := by
  subst hc
  unfold rShare
  rw [h, if_neg h2]
  rfl
theorem ShP.bad {g c : Int} (h : rShare F n m l g s = (c, s)) (hc : c ≠ 0) (h9 : v (ρ t 0) 9 = c) (h10 : v (ρ t 0) 10 = ta F n m s.p) : ShP F n m v ρ t i l g 0 s := by
  unfold ShP
  rw [h]
  exact Or.inr ⟨rfl, hc, h9, h10⟩
/-- the end of a land -/
def rEndL (F : Int → Int) (n m l : Int) (s : Rd) : Int × Rd := if nm F n m s.p = true then (3, s) else (0, Rd.wH s (sv s.H 1 (l + 1)))
def LcE (F : Int → Int) (n m : Int) (v ρ : Mv) (t i l : Int) (s : Rd) : Prop := ∃ sg : Rd, RdC F n m v ρ t i (l + 1) sg ∧ rLand F n m s = rEndL F n m l sg ∧ sg.H 1 = l ∧ v (ρ (ρ t 1) 3) l = sg.N (4 + l) ∧ NmB (sg.N (4 + l))
theorem LcI.done {sg : Rd} {k : Nat} (hR : RdC F n m v ρ t i (l + 1) sg) (heq : rLand F n m s = rShares F n m l k (v (ρ (ρ (ρ t 1) 5) l) 4) sg) (h1 : sg.H 1 = l) (hn : v (ρ (ρ t 1) 3) l = sg.N (4 + l)) (hb : NmB (sg.N (4 + l))) (hk : k = 0 ∨ mk F n m sg.p 59 = true) : LcE F n m v ρ t i l s := by
  refine ⟨sg, hR, ?_, h1, hn, hb⟩
  rw [heq]
  rcases hk with hk | hk
  · subst hk; rfl
  · rw [sh_end hk]
    unfold rEndL
    rw [mk_nm hk]
    rfl
theorem LcI.bad {sg : Rd} {k : Nat} (heq : rLand F n m s = rShares F n m l k (v (ρ (ρ (ρ t 1) 5) l) 4) sg) (hk : k ≠ 0) (hm : mk F n m sg.p 59 = false) (h : ShP F n m v' ρ t i l (v (ρ (ρ (ρ t 1) 5) l) 4) r sg) (hr : r = 0) : PoC F n m v' ρ t i 0 (rLand F n m s) := by
  obtain ⟨k, rfl⟩ : ∃ j, k = j + 1 := ⟨k - 1, by omega⟩
  rcases h with ⟨a, -⟩ | ⟨-, a, b, c⟩
  · omega
  · rw [heq, rShares_s hm, thn_1 a]
    exact Or.inr ⟨rfl, a, b, c⟩
theorem LcI.next {sg : Rd} {k k2 : Nat} (heq : rLand F n m s = rShares F n m l k (v (ρ (ρ (ρ t 1) 5) l) 4) sg) (hk : k = k2 + 1) (hm : mk F n m sg.p 59 = false) (h : ShP F n m v' ρ t i l (v (ρ (ρ (ρ t 1) 5) l) 4) r sg) (hr : r ≠ 0) (h1 : sg.H 1 = l) (hrow : v' (ρ (ρ t 1) 3) = v (ρ (ρ t 1) 3)) (hn : v (ρ (ρ t 1) 3) l = sg.N (4 + l)) (hb : NmB (sg.N (4 + l))) : LcI F n m v' ρ t i l s k2 := by
  subst hk
  rcases h with ⟨-, a, b, c, d, e⟩ | ⟨a, -⟩
  · refine ⟨nx F n m (rShare F n m l (v (ρ (ρ (ρ t 1) 5) l) 4) sg).2, b, ?_, d.trans h1, ?_, ?_⟩
    · rw [heq, rShares_s hm, thn_0 a, c]
    · rw [hrow, hn]
      show sg.N (4 + l) = (rShare F n m l (v (ρ (ρ (ρ t 1) 5) l) 4) sg).2.N (4 + l)
      rw [e]
    · show NmB ((rShare F n m l (v (ρ (ρ (ρ t 1) 5) l) 4) sg).2.N (4 + l))
      rw [e]
      exact hb
  · exact absurd a hr
theorem LcI.start {S2 : Rd} (hR : RdC F n m v ρ t i l (nx F n m S2)) (hl : 0 ≤ l ∧ l < 3) (heq : rLand F n m s = rShares F n m l 4 12 (nx F n m (Rd.wH S2 (zr S2.H l)))) (h1 : S2.H 1 = l) (hn : v (ρ (ρ t 1) 3) l = S2.N (4 + l)) (hb : NmB (S2.N (4 + l))) : LcI F n m v ρ t i l s 4 := by
  have z := hR.zer hl
  have zc : ∀ c, 0 ≤ c → c < 4 → v (ρ (ρ (ρ t 1) 5) l) c = 0 := fun c a b => by
    rw [z.rc.cr l c hl.1 hl.2 a b, if_pos (by omega)]
    exact if_pos (by omega)
  have zg := z.rc.gr l hl.1 hl.2
  rw [zc 0 (by decide) (by decide), zc 1 (by decide) (by decide), zc 2 (by decide) (by decide), zc 3 (by decide) (by decide)] at zg
  have zg2 : v (ρ (ρ (ρ t 1) 5) l) 4 = 12 := zg
  refine ⟨nx F n m (Rd.wH S2 (zr S2.H l)), z, ?_, ?_, hn, hb⟩
  · rw [zg2]; exact heq
  · show zr S2.H l 1 = l
    exact (if_neg (by omega)).trans h1
end RdCl
