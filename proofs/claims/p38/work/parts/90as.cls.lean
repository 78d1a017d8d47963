/-! what the class's small readers say -/
section RdCp
variable {F : Int → Int} {n m : Int} {v v' ρ : Mv} {t i L r : Int} {s : Rd} {ω : Rw} {Z : Mz}
theorem FdP.fc {N w : Int → Int} {y a many r : Int} (h : FdP w y 0 many r) (hm : 0 ≤ many) (hn : ∀ j, 0 ≤ j → j < many → w j = N (a + j)) : r = fnd N y a many.toNat 0 := by
  have hn2 : ∀ j, 0 ≤ j → j < many → w (0 + j) = N (a + j) := fun j p q => by rw [Int.zero_add]; exact hn j p q
  rcases h with ⟨h1, h2⟩ | ⟨h1, h2, h3, h4⟩
  · rw [h1, fnd_none _ 0 (fun j p q z => h2 j p (by omega) ((hn2 j p (by omega)).trans z))]
  · exact (fnd_hit _ 0 h1 (by omega) ((hn2 r h1 h2).symm.trans h3) (fun j p q z => h4 j p q ((hn2 j p (by omega)).trans z))).symm
theorem nmC {p : Int} (hT : TkC F n m v ρ t p) (h : r = 1 ∧ (v t 4 = 1 ∧ v t 7 = -1) ∨ r = 0 ∧ ¬ (v t 4 = 1 ∧ v t 7 = -1)) : r = 1 ∧ nm F n m p = true ∨ r = 0 ∧ nm F n m p = false := by
  obtain ⟨-, -, -, -, -, -, h4, -, -, -, h7⟩ := hT
  unfold ky at h7
  rcases h with ⟨a, b, c⟩ | ⟨a, b⟩
  · refine Or.inl ⟨a, decide_eq_true ⟨by omega, ?_⟩⟩
    rw [if_pos (by omega)] at h7
    omega
  · refine Or.inr ⟨a, decide_eq_false fun z => b ⟨by omega, ?_⟩⟩
    rw [if_pos z.1] at h7
    omega
theorem mkC {p c : Int} (hT : TkC F n m v ρ t p) (h : r = 1 ∧ (v t 4 = 3 ∧ v t 6 = c) ∨ r = 0 ∧ ¬ (v t 4 = 3 ∧ v t 6 = c)) : r = 1 ∧ mk F n m p c = true ∨ r = 0 ∧ mk F n m p c = false := by
  obtain ⟨-, -, -, -, -, -, h4, -, h6, -, -⟩ := hT
  rcases h with ⟨a, b, c⟩ | ⟨a, b⟩
  · exact Or.inl ⟨a, decide_eq_true ⟨by omega, by have := h6 (by omega); omega⟩⟩
  · exact Or.inr ⟨a, decide_eq_false fun z => b ⟨by omega, by have := h6 (by omega); omega⟩⟩
theorem TkC.k4 {p : Int} (h : TkC F n m v ρ t p) : v t 4 = tk F n m p := h.2.2.2.2.2.2.1
theorem TkC.k5 {p : Int} (h : TkC F n m v ρ t p) : v t 5 = ta F n m p := h.2.2.2.2.2.2.2.1
theorem TkC.k7 {p : Int} (h : TkC F n m v ρ t p) : v t 7 = ky F n m p := h.2.2.2.2.2.2.2.2.2.2
theorem TkC.nam {p : Int} (h : TkC F n m v ρ t p) (hn : nm F n m p = true) : v t 8 = tn F n p ∧ NmB (tn F n p) ∧ tk F n m p = 1 := by
  have h1 : tk F n m p = 1 := (of_decide_eq_true hn).1
  exact ⟨h.2.2.2.2.2.2.2.2.2.1 (h.k4.trans h1), tn_b h.2.1 h1, h1⟩
theorem TkC.num {p : Int} (h : TkC F n m v ρ t p) (hn : tk F n m p = 2) : v t 6 = tv F n p := h.2.2.2.2.2.2.2.2.1 (Or.inl (h.k4.trans hn))
/-- readNewName -/
def NnP (F : Int → Int) (n m : Int) (v ρ : Mv) (t i L r : Int) (s : Rd) : Prop := r = 1 ∧ nm F n m (nx F n m s).p = true ∧ tol s.N s.H (tn F n (nx F n m s).p) = false ∧ RdC F n m v ρ t i L (nx F n m s) ∨ r = 0 ∧ (nm F n m (nx F n m s).p = false ∧ v (ρ t 0) 9 = 1 ∨ nm F n m (nx F n m s).p = true ∧ tol s.N s.H (tn F n (nx F n m s).p) = true ∧ v (ρ t 0) 9 = 3) ∧ v (ρ t 0) 10 = ta F n m (nx F n m s).p
/-- readNumber -/
def NuP (F : Int → Int) (n m : Int) (v ρ : Mv) (t i L lo hi r : Int) (s : Rd) : Prop := r = 1 ∧ (tk F n m (nx F n m s).p = 2 ∧ lo ≤ tv F n (nx F n m s).p ∧ tv F n (nx F n m s).p ≤ hi) ∧ RdC F n m v ρ t i L (nx F n m s) ∨ r = 0 ∧ (tk F n m (nx F n m s).p ≠ 2 ∧ v (ρ t 0) 9 = 1 ∨ tk F n m (nx F n m s).p = 2 ∧ ¬ (lo ≤ tv F n (nx F n m s).p ∧ tv F n (nx F n m s).p ≤ hi) ∧ v (ρ t 0) 9 = 2) ∧ v (ρ t 0) 10 = ta F n m (nx F n m s).p
theorem PoC.bad {c : Int} {q : Int × Rd} {s2 : Rd} (hq : q = (c, s2)) (hc : c ≠ 0) (h9 : v (ρ t 0) 9 = c) (h10 : v (ρ t 0) 10 = ta F n m s2.p) : PoC F n m v ρ t i 0 q := by
  rw [hq]
  exact Or.inr ⟨rfl, hc, h9, h10⟩
theorem PoC.ok {q : Int × Rd} {s2 : Rd} (hq : q = (0, s2)) (hL : s2.H 1 = L) (h : RdC F n m v ρ t i L s2) : PoC F n m v ρ t i 1 q := by
  rw [hq]
  refine Or.inl ⟨rfl, rfl, ?_⟩
  show RdC F n m v ρ t i (s2.H 1) s2
  rw [hL]
  exact h
theorem NnP.p0 {k : Int} {b : Rd → Int × Rd} (h : NnP F n m v ρ t i L r s) (hr : r = 0) : PoC F n m v ρ t i 0 (thn (rNew F n m s k) b) := by
  rcases h with ⟨a, -⟩ | ⟨-, ⟨a, c⟩ | ⟨a, c, d⟩, e⟩
  · omega
  · have e1 : rNew F n m s k = (1, nx F n m s) := rNewAt_1 a
    exact PoC.bad ((thn_1 (by rw [e1]; show (1 : Int) ≠ 0; decide)).trans e1) (by decide) c e
  · have e1 : rNew F n m s k = (3, nx F n m s) := rNewAt_3 a c
    exact PoC.bad ((thn_1 (by rw [e1]; show (3 : Int) ≠ 0; decide)).trans e1) (by decide) d e
theorem NnP.p1 (h : NnP F n m v ρ t i L r s) (hr : r ≠ 0) : (∀ k, rNew F n m s k = (0, Rd.wN (nx F n m s) (sv s.N k (tn F n (nx F n m s).p)))) ∧ RdC F n m v ρ t i L (nx F n m s) ∧ v (ρ t 0) 8 = tn F n (nx F n m s).p ∧ NmB (tn F n (nx F n m s).p) := by
  rcases h with ⟨-, a, c, d⟩ | ⟨a, -⟩
  · have z := d.tk.nam a
    exact ⟨fun k => rNewAt_0 a c, d, z.1, z.2.1⟩
  · exact absurd a hr
theorem NuP.p0 {k lo hi : Int} {b : Rd → Int × Rd} (h : NuP F n m v ρ t i L lo hi r s) (hr : r = 0) : PoC F n m v ρ t i 0 (thn (rNum F n m s k lo hi) b) := by
  rcases h with ⟨a, -⟩ | ⟨-, ⟨a, c⟩ | ⟨a, c, d⟩, e⟩
  · omega
  · have e1 : rNum F n m s k lo hi = (1, nx F n m s) := rNumAt_1 a
    exact PoC.bad ((thn_1 (by rw [e1]; show (1 : Int) ≠ 0; decide)).trans e1) (by decide) c e
  · have e1 : rNum F n m s k lo hi = (2, nx F n m s) := rNumAt_2 a c
    exact PoC.bad ((thn_1 (by rw [e1]; show (2 : Int) ≠ 0; decide)).trans e1) (by decide) d e
theorem NuP.p1 {lo hi : Int} (h : NuP F n m v ρ t i L lo hi r s) (hr : r ≠ 0) : (∀ k, rNum F n m s k lo hi = (0, Rd.wH (nx F n m s) (sv s.H k (tv F n (nx F n m s).p)))) ∧ RdC F n m v ρ t i L (nx F n m s) ∧ v (ρ t 0) 6 = tv F n (nx F n m s).p ∧ lo ≤ v (ρ t 0) 6 ∧ v (ρ t 0) 6 ≤ hi := by
  rcases h with ⟨-, a, d⟩ | ⟨a, -⟩
  · have z := d.tk.num a.1
    exact ⟨fun k => rNumAt_0 a, d, z, by rw [z]; exact a.2.1, by rw [z]; exact a.2.2⟩
  · exact absurd a hr
/-- one step of a land's shares -/
def rShare (F : Int → Int) (n m l g : Int) (s : Rd) : Int × Rd := if nm F n m s.p = false then (1, s) else if rCol F n s = -1 ∨ 0 < s.H (17 + 5 * l + rCol F n s) then (3, s) else rNum F n m s (17 + 5 * l + rCol F n s) 1 g
theorem rShares_s {l g : Int} {k : Nat} (hm : mk F n m s.p 59 = false) : rShares F n m l (k + 1) g s = thn (rShare F n m l g s) fun s2 => rShares F n m l k (g - s2.H (17 + 5 * l + rCol F n s)) (nx F n m s2) := by
  show (if mk F n m s.p 59 = true then _ else if nm F n m s.p = false then _ else if rCol F n s = -1 ∨ 0 < s.H (17 + 5 * l + rCol F n s) then _ else _) = _
  unfold rShare
  rw [hm]
  by_cases a : nm F n m s.p = false
  · rw [if_pos a, if_pos a, thn_1 (show (1 : Int) ≠ 0 by decide)]; rfl
  · rw [if_neg a, if_neg a]
    by_cases b : rCol F n s = -1 ∨ 0 < s.H (17 + 5 * l + rCol F n s)
    · rw [if_pos b, if_pos b, thn_1 (show (3 : Int) ≠ 0 by decide)]; rfl
    · rw [if_neg b, if_neg b]; rfl
/-- readShare: a the land's row -/
def ShP (F : Int → Int) (n m : Int) (v ρ : Mv) (t i l g r : Int) (s : Rd) : Prop := r = 1 ∧ (rShare F n m l g s).1 = 0 ∧ RdC F n m v ρ t i (l + 1) (nx F n m (rShare F n m l g s).2) ∧ v (ρ (ρ (ρ t 1) 5) l) 4 = g - (rShare F n m l g s).2.H (17 + 5 * l + rCol F n s) ∧ (rShare F n m l g s).2.H 1 = s.H 1 ∧ (rShare F n m l g s).2.N = s.N ∨ r = 0 ∧ (rShare F n m l g s).1 ≠ 0 ∧ v (ρ t 0) 9 = (rShare F n m l g s).1 ∧ v (ρ t 0) 10 = ta F n m (rShare F n m l g s).2.p
/-- while the shares are read -/
def LcI (F : Int → Int) (n m : Int) (v ρ : Mv) (t i l : Int) (s : Rd) (k : Nat) : Prop := ∃ sg : Rd, RdC F n m v ρ t i (l + 1) sg ∧ rLand F n m s = rShares F n m l k (v (ρ (ρ (ρ t 1) 5) l) 4) sg ∧ sg.H 1 = l ∧ v (ρ (ρ t 1) 3) l = sg.N (4 + l) ∧ NmB (sg.N (4 + l))
/-- while all lines are read -/
def RoC (F : Int → Int) (n m : Int) (v ρ : Mv) (t i : Int) : Prop := ∃ (k : Nat) (sg : Rd), RdC F n m v ρ t i (sg.H 1) sg ∧ rRoad F n m = rAll F n m k i sg ∧ n - sg.p < k ∧ 0 ≤ i ∧ 2 * i ≤ sg.p
end RdCp
