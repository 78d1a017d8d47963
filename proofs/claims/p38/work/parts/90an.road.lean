section RoadM
variable {F : Int → Int} {n m : Int} {v v' : Mv} {s : Rd} {r : Int}
theorem RdM.start (hT : TkM F n m v 0) (h3 : v 181 3 = 9) (h4 : v 181 4 = 12) (hz : ∀ k, 0 ≤ k → k < 35 → k ≠ 3 → k ≠ 4 → v 181 k = 0) (h20 : v 178 20 = 0) : RdM F n m v rd0 := by
  refine ⟨hT, fun k a b => ?_, ⟨fun j a b => ?_, fun j a b => ?_, fun j a b => ?_⟩, h20, by decide, by decide, by decide⟩
  · show v 181 k = if k = 3 then 9 else if k = 4 then 12 else 0
    by_cases e3 : k = 3
    · rw [if_pos e3, e3]; exact h3
    · rw [if_neg e3]
      by_cases e4 : k = 4
      · rw [if_pos e4, e4]; exact h4
      · rw [if_neg e4]; exact hz k a b e3 e4
  · exact absurd b (show ¬ j < 0 by omega)
  · exact absurd b (show ¬ j < 0 by omega)
  · exact absurd b (show ¬ j < 0 by omega)
theorem RdM.fldx {k x : Int} (h : RdM F n m v s) (hk : k ≠ 3 ∧ k ≠ 4 ∧ k ≠ 5 ∧ k ≠ 11 ∧ k ≠ 12 ∧ k ≠ 14 ∧ k ≠ 17) (h2 : (20 : Int) ≠ k) : RdM F n m (up v 178 k x) s := h.cg (h.1.fld hk) (up_f (by decide)) (up_f (by decide)) (up_k h2)
theorem opF_cg {f g : Int → Int} (l : Int) (h : ∀ k, 17 + 5 * l ≤ k → k < 17 + 5 * l + 4 → f k = g k) : opF f l 4 = opF g l 4 := by
  show 0 + f (17 + 5 * l + ((0 : Nat) : Int)) + f (17 + 5 * l + ((1 : Nat) : Int)) + f (17 + 5 * l + ((2 : Nat) : Int)) + f (17 + 5 * l + ((3 : Nat) : Int)) = 0 + g (17 + 5 * l + ((0 : Nat) : Int)) + g (17 + 5 * l + ((1 : Nat) : Int)) + g (17 + 5 * l + ((2 : Nat) : Int)) + g (17 + 5 * l + ((3 : Nat) : Int))
  rw [h _ (by omega) (by omega), h _ (by omega) (by omega), h _ (by omega) (by omega), h _ (by omega) (by omega)]
theorem rLine_w (h : (rLine F n m s).1 = 0) : tk F n m s.p = 1 := by
  by_cases e : ky F n m s.p = -1
  · rw [rLine_7 (by omega)] at h
    exact absurd h (show ¬ (1 : Int) = 0 by decide)
  · exact ky_r.2 e
theorem cl_t {q : Int × Rd} (h : q.1 = 0) (hm : mk F n m q.2.p 59 = true) : cl F n m q = (0, nx F n m q.2) := by
  unfold cl
  rw [thn_0 h, if_pos hm]
theorem cl_f {q : Int × Rd} (h : q.1 = 0) (hm : mk F n m q.2.p 59 = false) : cl F n m q = (1, q.2) := by
  unfold cl
  rw [thn_0 h, hm]
  rfl
/-- while the lines are read: i were -/
def RoI (F : Int → Int) (n m : Int) (v : Mv) : Prop := ∃ (k : Nat) (sg : Rd), RdM F n m v sg ∧ rRoad F n m = rAll F n m k (v 178 19) sg ∧ n - sg.p < k
theorem RoI.start (h : RdM F n m v rd0) (h19 : v 178 19 = 0) (hn : n ≤ 940) : RoI F n m v := ⟨941, rd0, h, by rw [h19]; rfl, by show n - 0 < ((941 : Nat) : Int); omega⟩
theorem ta_bd {p : Int} (h0 : 0 ≤ p) (h1 : p ≤ n) (hm : 0 ≤ m) (hm2 : m ≤ 940) (hn : n ≤ 940) : 0 ≤ ta F n m p ∧ ta F n m p ≤ 940 := by
  have := tq_bd (f := F) h1
  unfold ta
  split <;> omega
theorem ta_lt {p p' : Int} (h1 : p ≤ n) (hk : tk F n m p = 1) (h2 : tp F n m p ≤ p') (h3 : p' ≤ n) : ta F n m p < ta F n m p' := by
  have hi := tk_in (f := F) (n := n) (m := m) (p := p) (by omega)
  have hb := tq_bd (f := F) h1
  have hb2 := tq_bd (f := F) h3
  unfold tk at hk
  unfold tp at h2
  unfold ta
  by_cases d : m < n ∧ m ≤ tq F n p
  · rw [if_pos d] at hk; omega
  · rw [if_neg d, if_neg hi] at hk h2
    rw [if_neg d]
    by_cases e : bG (F (tq F n p) % 256) = true
    · rw [if_pos e] at h2
      have h4 : te F n p = fs bG F n (tq F n p + 1) := fs_step (by omega) e
      have h5 := fs_bd (P := bG) (f := F) (n := n) (p := tq F n p + 1) (by omega)
      split <;> omega
    · rw [if_neg e] at hk
      by_cases z : bM (F (tq F n p) % 256) = true
      · rw [if_pos z] at hk; omega
      · rw [if_neg z] at hk; omega
/-- a line was refused -/
theorem RoI.bad {k : Nat} {sg : Rd} {i : Int} {c : Int} (heq : rRoad F n m = rAll F n m k i sg) (hp : n - sg.p < k) (hpn : sg.p ≤ n) (h0 : tk F n m sg.p ≠ 0) (h1 : (cl F n m (rLine F n m sg)).1 ≠ 0) (h16 : c = ta F n m (cl F n m (rLine F n m sg)).2.p) : -1 - c = rAns F n m ∧ (rRoad F n m).1 = (cl F n m (rLine F n m sg)).1 := by
  obtain ⟨k, rfl⟩ : ∃ j, k = j + 1 := ⟨k - 1, by omega⟩
  have e : rRoad F n m = ((rStep F n m sg).1, ta F n m (rStep F n m sg).2.p, (rStep F n m sg).2) := by
    rw [heq]
    show (if tk F n m sg.p = 0 then _ else if (rStep F n m sg).1 = 0 then _ else _) = _
    rw [if_neg h0, if_neg (show (rStep F n m sg).1 ≠ 0 from h1)]
  unfold rAns
  rw [e, if_neg (show (rStep F n m sg).1 ≠ 0 from h1), h16]
  exact ⟨rfl, rfl⟩
/-- a line was read -/
theorem RoI.next {k : Nat} {sg : Rd} {i : Int} (heq : rRoad F n m = rAll F n m k i sg) (hp : n - sg.p < k) (hpn : sg.p ≤ n) (h0 : tk F n m sg.p ≠ 0) (h1 : (rLine F n m sg).1 = 0) (hm : mk F n m (rLine F n m sg).2.p 59 = true) (hR : RdM F n m v (nx F n m (rLine F n m sg).2)) (h19 : v 178 19 = i + 1) (hlt : tp F n m sg.p ≤ tp F n m (rLine F n m sg).2.p) : RoI F n m v := by
  obtain ⟨k, rfl⟩ : ∃ j, k = j + 1 := ⟨k - 1, by omega⟩
  have hc := cl_t h1 hm
  have e : rStep F n m sg = (0, nx F n m (rLine F n m sg).2) := hc
  refine ⟨k, nx F n m (rLine F n m sg).2, hR, ?_, ?_⟩
  · rw [heq]
    show (if tk F n m sg.p = 0 then _ else if (rStep F n m sg).1 = 0 then _ else _) = _
    rw [if_neg h0, e, h19]
    rfl
  · have := tp_lt (f := F) (n := n) (m := m) hpn (Or.inl (rLine_w h1))
    show n - tp F n m (rLine F n m sg).2.p < k
    omega
theorem RoI.done {k : Nat} {sg : Rd} {i : Int} (heq : rRoad F n m = rAll F n m k i sg) (hp : n - sg.p < k) (hpn : sg.p ≤ n) (h0 : tk F n m sg.p = 0) : rRoad F n m = (0, i, sg) ∧ rAns F n m = i := by
  obtain ⟨k, rfl⟩ : ∃ j, k = j + 1 := ⟨k - 1, by omega⟩
  have e : rRoad F n m = (0, i, sg) := by
    rw [heq]
    show (if tk F n m sg.p = 0 then _ else _) = _
    rw [if_pos h0]
  refine ⟨e, ?_⟩
  unfold rAns
  rw [e]
  rfl
/-- the road that stands behind road: what s has of h -/
def RoP (F : Int → Int) (n m : Int) (v v' : Mv) : Prop := (rRoad F n m).1 = 0 ∧ (∀ k, 0 ≤ k → k < 35 → k ≠ 14 → k ≠ 21 → k ≠ 26 → k ≠ 31 → v' 180 k = (rRoad F n m).2.2.H k) ∧ (∀ l, 0 ≤ l → l ≤ 2 → v' 180 (17 + 5 * l + 4) = 12 - opF (v' 180) l 4) ∨ (rRoad F n m).1 ≠ 0 ∧ v' 180 = v 180
end RoadM
/-- the names of a road, in the reference's rows -/
def NmS (w : Int → Int) (s : Rd) : Prop := (∀ j, 0 ≤ j → j < s.H 0 → NmW (s.N (0 + j)) (w j)) ∧ (∀ j, 0 ≤ j → j < s.H 1 → NmW (s.N (4 + j)) (w (4 + j))) ∧ ∀ j, 0 ≤ j → j < s.H 2 → NmW (s.N (7 + j)) (w (7 + j))
def HdB (s : Rd) : Prop := s.H 0 ≤ 4 ∧ s.H 1 ≤ 3 ∧ s.H 2 ≤ 3
def RoN (F : Int → Int) (n m : Int) (v v' : Mv) : Prop := (rRoad F n m).1 = 0 ∧ HdB (rRoad F n m).2.2 ∧ NmS (v' 183) (rRoad F n m).2.2 ∨ (rRoad F n m).1 ≠ 0 ∧ ∀ j, j < 10 → v' 183 j = v 183 j
theorem NmS.of {w u : Int → Int} {s : Rd} (h : NmI s.N u (s.H 0) (s.H 1) (s.H 2)) (hb : s.H 0 ≤ 4 ∧ s.H 1 ≤ 3 ∧ s.H 2 ≤ 3) (e : ∀ j, 0 ≤ j → j < 10 → w j = u (10 + j)) : NmS w s := by
  refine ⟨fun j a b => ?_, fun j a b => ?_, fun j a b => ?_⟩
  · rw [e j a (by omega)]; exact h.1 j a b
  · rw [e (4 + j) (by omega) (by omega), show 10 + (4 + j) = 14 + j by omega]; exact h.2.1 j a b
  · rw [e (7 + j) (by omega) (by omega), show 10 + (7 + j) = 17 + j by omega]; exact h.2.2 j a b
