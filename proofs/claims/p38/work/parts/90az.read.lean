section RdCr
variable {F : Int → Int} {n m : Int} {v v' ρ ρ' : Mv} {t i L r l : Int} {s : Rd} {ω : Rw} {Z : Mz}
theorem thn_e {a : Int × Rd} {b : Rd → Int × Rd} (h : (thn a b).1 = 0) : a.1 = 0 ∧ thn a b = b a.2 := by
  by_cases c : a.1 = 0
  · exact ⟨c, thn_0 c⟩
  · rw [thn_1 c] at h
    exact absurd h c
theorem tp_m {p q : Int} (h : q ≤ p) (h1 : p ≤ n) : q ≤ tp F n m p ∧ tp F n m p ≤ n := by
  have := tp_bd (f := F) (n := n) (m := m) h1
  omega
/-- a name, a number, and what follows: how far it is -/
theorem two_mono {k1 k2 lo hi : Int} {b : Rd → Int × Rd} (hp : s.p ≤ n) (h : (thn (rNew F n m s k1) fun s1 => thn (rNum F n m s1 k2 lo hi) b).1 = 0) (hb : ∀ s2 : Rd, s2.p ≤ n → (b s2).1 = 0 → s2.p ≤ (b s2).2.p) : tp F n m s.p ≤ (thn (rNew F n m s k1) fun s1 => thn (rNum F n m s1 k2 lo hi) b).2.p := by
  obtain ⟨-, e1⟩ := thn_e h
  rw [e1] at h ⊢
  obtain ⟨-, e2⟩ := thn_e h
  rw [e2] at h ⊢
  have p1 : (rNew F n m s k1).2.p = tp F n m s.p := rNewAt_p
  have p2 : (rNum F n m (rNew F n m s k1).2 k2 lo hi).2.p = tp F n m (rNew F n m s k1).2.p := rNumAt_p
  have a1 := tp_m (F := F) (m := m) (Int.le_refl _) hp
  have a2 := tp_m (F := F) (m := m) (Int.le_refl _) a1.2
  rw [p1] at p2
  have a3 := hb _ (by rw [p2]; exact a2.2) h
  rw [p2] at a3
  omega
theorem num_mono {k2 lo hi : Int} {b : Rd → Int × Rd} (hp : s.p ≤ n) (h : (thn (rNum F n m s k2 lo hi) b).1 = 0) (hb : ∀ s2 : Rd, s2.p ≤ n → (b s2).1 = 0 → s2.p ≤ (b s2).2.p) : tp F n m s.p ≤ (thn (rNum F n m s k2 lo hi) b).2.p := by
  obtain ⟨-, e2⟩ := thn_e h
  rw [e2] at h ⊢
  have p2 : (rNum F n m s k2 lo hi).2.p = tp F n m s.p := rNumAt_p
  have a1 := tp_m (F := F) (m := m) (Int.le_refl _) hp
  have a3 := hb _ (by rw [p2]; exact a1.2) h
  rw [p2] at a3
  exact a3
theorem nx_m (hp : s.p ≤ n) : s.p ≤ (nx F n m s).p := (tp_m (F := F) (m := m) (Int.le_refl _) hp).1
theorem sh_mono {l : Int} : ∀ (k : Nat) (g : Int) (s : Rd), s.p ≤ n → (rShares F n m l k g s).1 = 0 → s.p ≤ (rShares F n m l k g s).2.p
  | 0, g, s, hp, h => by
    have h : (if nm F n m s.p = true then ((3 : Int), s) else (0, Rd.wH s (sv s.H 1 (l + 1)))).1 = 0 := h
    show s.p ≤ (if nm F n m s.p = true then ((3 : Int), s) else (0, Rd.wH s (sv s.H 1 (l + 1)))).2.p
    by_cases c : nm F n m s.p = true
    · rw [if_pos c] at h; exact absurd h (show ¬ (3 : Int) = 0 by decide)
    · rw [if_neg c]; exact Int.le_refl _
  | k + 1, g, s, hp, h => by
    by_cases c : mk F n m s.p 59 = true
    · rw [sh_end c]; exact Int.le_refl _
    · have c2 : mk F n m s.p 59 = false := by
        cases hh : mk F n m s.p 59
        · rfl
        · exact absurd hh c
      rw [rShares_s c2] at h ⊢
      obtain ⟨h1, e2⟩ := thn_e h
      rw [e2] at h ⊢
      have hps : (rShare F n m l g s).2.p = tp F n m s.p := by
        unfold rShare at h1 ⊢
        by_cases d : nm F n m s.p = false
        · rw [if_pos d] at h1; exact absurd h1 (show ¬ (1 : Int) = 0 by decide)
        · rw [if_neg d] at h1 ⊢
          by_cases e : rCol F n s = -1 ∨ 0 < s.H (17 + 5 * l + rCol F n s)
          · rw [if_pos e] at h1; exact absurd h1 (show ¬ (3 : Int) = 0 by decide)
          · rw [if_neg e]; exact rNumAt_p
      have a1 := tp_m (F := F) (m := m) (Int.le_refl _) hp
      have a2 := nx_m (F := F) (m := m) (s := (rShare F n m l g s).2) (by rw [hps]; exact a1.2)
      have a4 := tp_m (F := F) (m := m) (Int.le_refl _) (show (rShare F n m l g s).2.p ≤ n by rw [hps]; exact a1.2)
      have a3 := sh_mono k _ (nx F n m (rShare F n m l g s).2) a4.2 h
      rw [hps] at a2
      omega
theorem rLine_mono (hp : s.p ≤ n) (h : (rLine F n m s).1 = 0) : tp F n m s.p ≤ (rLine F n m s).2.p := by
  have a1 := tp_m (F := F) (m := m) (Int.le_refl _) hp
  have kr := ky_r (F := F) (n := n) (m := m) (s := s)
  by_cases c0 : ky F n m s.p = 0
  · rw [rLine_0 c0] at h ⊢
    unfold rColour at h ⊢
    by_cases d : 4 ≤ s.H 0
    · rw [if_pos d] at h; exact absurd h (show ¬ (4 : Int) = 0 by decide)
    · rw [if_neg d] at h ⊢
      exact two_mono hp h (fun s2 q _ => nx_m (F := F) (m := m) q)
  by_cases c1 : ky F n m s.p = 1
  · rw [rLine_1 c1] at h ⊢
    have h : (rEndsAt F n m (nx F n m s)).1 = 0 := h
    show tp F n m s.p ≤ (rEndsAt F n m (nx F n m s)).2.p
    unfold rEndsAt at h ⊢
    by_cases d : nm F n m (nx F n m s).p = false
    · rw [if_pos d] at h; exact absurd h (show ¬ (1 : Int) = 0 by decide)
    · rw [if_neg d] at h ⊢
      by_cases e : rCol F n (nx F n m s) = -1 ∨ (nx F n m s).H (10 + rCol F n (nx F n m s)) = 1
      · rw [if_pos e] at h; exact absurd h (show ¬ (3 : Int) = 0 by decide)
      · rw [if_neg e]
        exact (tp_m (F := F) (m := m) (Int.le_refl _) a1.2).1
  by_cases c2 : ky F n m s.p = 2
  · rw [rLine_2 c2] at h ⊢
    unfold rLand at h ⊢
    by_cases d : 3 ≤ s.H 1
    · rw [if_pos d] at h; exact absurd h (show ¬ (4 : Int) = 0 by decide)
    · rw [if_neg d] at h ⊢
      refine two_mono hp h (fun s2 q z => ?_)
      have b1 := tp_m (F := F) (m := m) (Int.le_refl _) q
      have b2 := sh_mono (F := F) (n := n) (m := m) 4 12 (nx F n m (Rd.wH s2 (zr s2.H (s.H 1)))) b1.2 z
      exact Int.le_trans b1.1 b2
  by_cases c3 : ky F n m s.p = 3
  · rw [rLine_3 c3] at h ⊢
    unfold rPlayer at h ⊢
    by_cases d : 3 ≤ s.H 2
    · rw [if_pos d] at h; exact absurd h (show ¬ (4 : Int) = 0 by decide)
    · rw [if_neg d] at h ⊢
      exact two_mono hp h (fun s2 q _ => nx_m (F := F) (m := m) q)
  by_cases c4 : ky F n m s.p = 4
  · rw [rLine_4 c4] at h ⊢
    unfold rGoal at h ⊢
    by_cases d : s.o0 ≠ 0
    · rw [if_pos d] at h; exact absurd h (show ¬ (3 : Int) = 0 by decide)
    · rw [if_neg d] at h ⊢
      exact num_mono hp h (fun s2 q _ => nx_m (F := F) (m := m) q)
  by_cases c5 : ky F n m s.p = 5
  · rw [rLine_5 c5] at h ⊢
    unfold rCars at h ⊢
    by_cases d : s.o1 ≠ 0
    · rw [if_pos d] at h; exact absurd h (show ¬ (3 : Int) = 0 by decide)
    · rw [if_neg d] at h ⊢
      exact num_mono hp h (fun s2 q _ => nx_m (F := F) (m := m) q)
  by_cases c6 : ky F n m s.p = 6
  · rw [rLine_6 c6] at h ⊢
    unfold rChange at h ⊢
    by_cases d : s.H 5 ≠ 0
    · rw [if_pos d] at h; exact absurd h (show ¬ (3 : Int) = 0 by decide)
    · rw [if_neg d]
      exact Int.le_refl _
  · rw [rLine_7 (by omega)] at h
    exact absurd h (show ¬ (1 : Int) = 0 by decide)
theorem RcI.rho {o : Int} (h : RcI v ρ o L i s) (e1 : ρ' o = ρ o) (e2 : ρ' (ρ o 5) = ρ (ρ o 5)) : RcI v ρ' o L i s := by
  unfold RcI at h ⊢
  rw [e1, e2]
  exact h
theorem RoC.bad {k : Nat} {sg : Rd} (heq : rRoad F n m = rAll F n m k i sg) (hp : n - sg.p < k) (hpn : sg.p ≤ n) (h0 : tk F n m sg.p ≠ 0) (h1 : (cl F n m (rLine F n m sg)).1 ≠ 0) : rRoad F n m = ((cl F n m (rLine F n m sg)).1, ta F n m (cl F n m (rLine F n m sg)).2.p, (cl F n m (rLine F n m sg)).2) := by
  obtain ⟨k, rfl⟩ : ∃ j, k = j + 1 := ⟨k - 1, by omega⟩
  rw [heq]
  show (if tk F n m sg.p = 0 then _ else if (rStep F n m sg).1 = 0 then _ else _) = _
  rw [if_neg h0, if_neg (show (rStep F n m sg).1 ≠ 0 from h1)]
  rfl
/-- a road that was refused, in the class -/
def RbC (F : Int → Int) (n m : Int) (v ρ : Mv) (t : Int) : Prop := (rRoad F n m).1 ≠ 0 ∧ v (ρ t 0) 9 = (rRoad F n m).1 ∧ v (ρ t 0) 10 = (rRoad F n m).2.1
theorem RbC.line {k : Nat} {sg : Rd} (heq : rRoad F n m = rAll F n m k i sg) (hp : n - sg.p < k) (hpn : sg.p ≤ n) (h0 : tk F n m sg.p ≠ 0) (h : PoC F n m v ρ t i r (rLine F n m sg)) (hr : r = 0) : RbC F n m v ρ t := by
  rcases h with ⟨a, -⟩ | ⟨-, a, b, c⟩
  · omega
  · have e := RoC.bad heq hp hpn h0 (by rw [cl_1 a]; exact a)
    rw [cl_1 a] at e
    unfold RbC
    rw [e]
    exact ⟨a, b, c⟩
theorem RbC.cls {k : Nat} {sg : Rd} (heq : rRoad F n m = rAll F n m k i sg) (hp : n - sg.p < k) (hpn : sg.p ≤ n) (h0 : tk F n m sg.p ≠ 0) (h1 : (rLine F n m sg).1 = 0) (hm : mk F n m (rLine F n m sg).2.p 59 = false) (h9 : v (ρ t 0) 9 = 1) (h10 : v (ρ t 0) 10 = ta F n m (rLine F n m sg).2.p) : RbC F n m v ρ t := by
  have hc := cl_f h1 hm
  have e := RoC.bad heq hp hpn h0 (by rw [hc]; show (1 : Int) ≠ 0; decide)
  rw [hc] at e
  unfold RbC
  rw [e]
  exact ⟨show (1 : Int) ≠ 0 by decide, h9, h10⟩
theorem RoC.next {k : Nat} {sg : Rd} (heq : rRoad F n m = rAll F n m k i sg) (hp : n - sg.p < k) (hpn : sg.p ≤ n) (h0 : tk F n m sg.p ≠ 0) (h1 : (rLine F n m sg).1 = 0) (hm : mk F n m (rLine F n m sg).2.p 59 = true) (hR : RdC F n m v ρ t (i + 1) ((rLine F n m sg).2.H 1) (nx F n m (rLine F n m sg).2)) (hqn : (rLine F n m sg).2.p ≤ n) (hi : 0 ≤ i) (h2 : 2 * i ≤ sg.p) : RoC F n m v ρ t (i + 1) := by
  obtain ⟨k, rfl⟩ : ∃ j, k = j + 1 := ⟨k - 1, by omega⟩
  have e : rStep F n m sg = (0, nx F n m (rLine F n m sg).2) := cl_t h1 hm
  have a1 := tp_lt (f := F) (n := n) (m := m) hpn (Or.inl (rLine_w h1))
  have a2 := rLine_mono hpn h1
  have a3 := tp_lt (f := F) (n := n) (m := m) hqn (Or.inr (Or.inr (mk_t hm).1))
  have e3 : (nx F n m (rLine F n m sg).2).p = tp F n m (rLine F n m sg).2.p := rfl
  refine ⟨k, nx F n m (rLine F n m sg).2, hR, ?_, by rw [e3]; omega, by omega, by rw [e3]; omega⟩
  rw [heq]
  show (if tk F n m sg.p = 0 then _ else if (rStep F n m sg).1 = 0 then _ else _) = _
  rw [if_neg h0, e]
  rfl
/-- what read leaves: r the road, or none -/
def RrC (F : Int → Int) (n m : Int) (v ρ : Mv) (t r : Int) : Prop := 0 ≤ r ∧ (rRoad F n m).1 = 0 ∧ RcI v ρ r ((rRoad F n m).2.2.H 1) (rRoad F n m).2.1 (rRoad F n m).2.2 ∨ r < 0 ∧ RbC F n m v ρ t
end RdCr
