/-! keyOf, what it answers -/
def K32 : List Int := [116801202, 178323, 394692, 549512370, 244780, 99923, 109099237, 21015731, 21678547, 3650739, 247993, 498, 1476, 14836, 12747923, 24046, 8243, 693713060, 20037189, 20579924, 14849171, 492210354]
def K256 : List Int := [109330211763570, 1701733491, 1818324580, 123610794124658, 1735352684, 1667330675, 109299962373989, 499850634611, 500186639987, 427071202675, 1735550329, 28530, 6385252, 7237492, 465557349491, 7827310, 6840691, 128047779833188, 495589487205, 495873782388, 474147546227, 121450625394034]
def kixL : List Int → Int → Int → Int
  | [], _, _ => -1
  | x :: l, a, i => if x = a then i else kixL l a (i + 1)
/-- a name's place among the 22 words; -1: none of them -/
def kix (a : Int) : Int := kixL K32 a 0
theorem cmpI_0 (a b : Int) : cmpI a b = 0 ↔ a = b := by
  unfold cmpI
  split <;> (try split) <;> omega
theorem cmpI_r (a b : Int) : inR (cmpI a b) := by
  unfold cmpI inR
  split <;> (try split) <;> omega
/-! the bytes that count: the same for class and reference -/
def cb (n : Int) (f : Int → Int) : Int → Int := fun j => if 0 ≤ j ∧ j < n then f j % 256 else 0
theorem cb_sam (n : Int) (f : Int → Int) : Sam n f (cb n f) := fun j h0 h1 => by
  show f j % 256 = (if 0 ≤ j ∧ j < n then f j % 256 else 0) % 256
  rw [if_pos ⟨h0, h1⟩]
  omega
theorem cb_eq {n : Int} {f g : Int → Int} (h : Sam n f g) : cb n f = cb n g := by
  funext j
  show (if 0 ≤ j ∧ j < n then f j % 256 else 0) = (if 0 ≤ j ∧ j < n then g j % 256 else 0)
  by_cases c : 0 ≤ j ∧ j < n
  · rw [if_pos c, if_pos c, h j c.1 c.2]
  · rw [if_neg c, if_neg c]
section
variable {f g : Int → Int} {n m p : Int}
theorem tn_cg (h : Sam n f g) (h0 : 0 ≤ p) (h1 : p ≤ n) : tn f n p = tn g n p := by
  unfold tn
  rw [te_cg h h0 h1, tq_cg h h0]
  exact n32_cg _ (run_cg h h0 h1)
theorem tw_cg (h : Sam n f g) (h0 : 0 ≤ p) (h1 : p ≤ n) : tw f n p = tw g n p := by
  unfold tw
  rw [te_cg h h0 h1, tq_cg h h0]
  exact n256_cg _ (run_cg h h0 h1)
theorem tk_in (h : tk f n m p = 2 ∨ tk f n m p = 3 ∨ tk f n m p = 1) : ¬ n ≤ tq f n p := fun c => by
  unfold tk at h
  by_cases d : m < n ∧ m ≤ tq f n p
  · rw [if_pos d] at h; omega
  · rw [if_neg d, if_pos c] at h; omega
theorem tv_cg (h : Sam n f g) (h0 : 0 ≤ p) (h1 : p ≤ n) (c : ¬ n ≤ tq g n p) : tv f n p = tv g n p := by
  unfold tv
  rw [te_cg h h0 h1, tq_cg h h0, at_cg h h0 h1 c, n10_cg _ (run_cg h h0 h1)]
/-- behind a token that is no end and no fault, the place has moved -/
theorem tp_lt (h1 : p ≤ n) (h : tk f n m p = 1 ∨ tk f n m p = 2 ∨ tk f n m p = 3) : p < tp f n m p := by
  have h2 := tq_bd (f := f) h1
  have h3 := tk_in (f := f) (n := n) (m := m) (p := p) (by omega)
  unfold tk at h
  unfold tp
  by_cases d : m < n ∧ m ≤ tq f n p
  · rw [if_pos d] at h; omega
  · rw [if_neg d, if_neg h3] at h ⊢
    by_cases e : bG (f (tq f n p) % 256) = true
    · rw [if_pos e]
      have h4 : te f n p = fs bG f n (tq f n p + 1) := fs_step (by omega) e
      have h5 := fs_bd (P := bG) (f := f) (n := n) (p := tq f n p + 1) (by omega)
      omega
    · rw [if_neg e]; omega
end
/-! THE ROAD's text: what both parsers do, as a function. f the bytes, n how many, m how many may be read -/
def Rd : Type := Int × (Int → Int) × (Int → Int) × Int × Int
abbrev Rd.p (s : Rd) : Int := s.1
abbrev Rd.H (s : Rd) : Int → Int := s.2.1
abbrev Rd.N (s : Rd) : Int → Int := s.2.2.1
abbrev Rd.o0 (s : Rd) : Int := s.2.2.2.1
abbrev Rd.o1 (s : Rd) : Int := s.2.2.2.2
abbrev Rd.wp_ (s : Rd) (x : Int) : Rd := (x, s.H, s.N, s.o0, s.o1)
abbrev Rd.wH (s : Rd) (x : Int → Int) : Rd := (s.p, x, s.N, s.o0, s.o1)
abbrev Rd.wN (s : Rd) (x : Int → Int) : Rd := (s.p, s.H, x, s.o0, s.o1)
abbrev Rd.w0 (s : Rd) (x : Int) : Rd := (s.p, s.H, s.N, x, s.o1)
abbrev Rd.w1 (s : Rd) (x : Int) : Rd := (s.p, s.H, s.N, s.o0, x)
def sv (h : Int → Int) (k x : Int) : Int → Int := fun j => if j = k then x else h j
/-- the place of x among k names from a on; -1: none -/
def fnd (N : Int → Int) (x a : Int) : Nat → Int → Int
  | 0, _ => -1
  | k + 1, i => if N (a + i) = x then i else fnd N x a k (i + 1)
section Road
variable (f : Int → Int) (n m : Int)
def nm (p : Int) : Bool := decide (tk f n m p = 1 ∧ kix (tn f n p) = -1)
def mk (p c : Int) : Bool := decide (tk f n m p = 3 ∧ tv f n p = c)
def nx (s : Rd) : Rd := (Rd.wp_ s (tp f n m s.p))
/-- told already -/
def tol (N H : Int → Int) (x : Int) : Bool := decide (fnd N x 0 (H 0).toNat 0 ≠ -1 ∨ fnd N x 7 (H 2).toNat 0 ≠ -1 ∨ fnd N x 4 (H 1).toNat 0 ≠ -1)
/-- a new name at the token that stands: stored at place k -/
def rNewAt (s : Rd) (k : Int) : Int × Rd :=
  if nm f n m s.p = false then (1, s) else if tol s.N s.H (tn f n s.p) = true then (3, s) else (0, (Rd.wN s (sv s.N k (tn f n s.p))))
/-- a number at the token that stands: stored at h's place k -/
def rNumAt (s : Rd) (k lo hi : Int) : Int × Rd :=
  if tk f n m s.p ≠ 2 then (1, s) else if tv f n s.p < lo ∨ hi < tv f n s.p then (2, s) else (0, (Rd.wH s (sv s.H k (tv f n s.p))))
def rNew (s : Rd) (k : Int) : Int × Rd := rNewAt f n m (nx f n m s) k
def rNum (s : Rd) (k lo hi : Int) : Int × Rd := rNumAt f n m (nx f n m s) k lo hi
/-- one behind the other -/
def thn (a : Int × Rd) (b : Rd → Int × Rd) : Int × Rd := if a.1 = 0 then b a.2 else a
def rColour (s : Rd) : Int × Rd :=
  if 4 ≤ s.H 0 then (4, s)
  else thn (rNew f n m s (s.H 0)) fun s1 => thn (rNum f n m s1 (6 + s.H 0) 1 3) fun s2 => (0, nx f n m (Rd.wH s2 (sv s2.H 0 (s.H 0 + 1))))
/-- the colour of the name that stands; -1: none -/
def rCol (s : Rd) : Int := fnd s.N (tn f n s.p) 0 (s.H 0).toNat 0
def rEndsAt (s : Rd) : Int × Rd :=
  if nm f n m s.p = false then (1, s)
  else if rCol f n s = -1 ∨ s.H (10 + rCol f n s) = 1 then (3, s)
  else (0, nx f n m (Rd.wH s (sv s.H (10 + rCol f n s) 1)))
def rEnds (s : Rd) : Int × Rd := rEndsAt f n m (nx f n m s)
/-- the shares of a land: l the land, g what is grey yet -/
def rShares (l : Int) : Nat → Int → Rd → Int × Rd
  | 0, _, s => if nm f n m s.p = true then (3, s) else (0, (Rd.wH s (sv s.H 1 (l + 1))))
  | k + 1, g, s =>
    if mk f n m s.p 59 = true then (0, (Rd.wH s (sv s.H 1 (l + 1))))
    else if nm f n m s.p = false then (1, s)
    else if rCol f n s = -1 ∨ 0 < s.H (17 + 5 * l + rCol f n s) then (3, s)
    else thn (rNum f n m s (17 + 5 * l + rCol f n s) 1 g) fun s2 => rShares l k (g - s2.H (17 + 5 * l + rCol f n s)) (nx f n m s2)
/-- nothing is told of land l -/
def zr (H : Int → Int) (l : Int) : Int → Int := fun j => if 17 + 5 * l ≤ j ∧ j < 17 + 5 * l + 4 then 0 else H j
def rLand (s : Rd) : Int × Rd :=
  if 3 ≤ s.H 1 then (4, s)
  else thn (rNew f n m s (4 + s.H 1)) fun s1 => thn (rNum f n m s1 (14 + s.H 1) 1 9) fun s2 => rShares f n m (s.H 1) 4 12 (nx f n m (Rd.wH s2 (zr s2.H (s.H 1))))
def rPlayer (s : Rd) : Int × Rd :=
  if 3 ≤ s.H 2 then (4, s)
  else thn (rNew f n m s (7 + s.H 2)) fun s1 => thn (rNum f n m s1 (32 + s.H 2) 0 8) fun s2 => (0, nx f n m (Rd.wH s2 (sv s2.H 2 (s.H 2 + 1))))
def rGoal (s : Rd) : Int × Rd :=
  if s.o0 ≠ 0 then (3, s) else thn (rNum f n m s 3 1 9) fun s2 => (0, nx f n m (Rd.w0 s2 1))
def rCars (s : Rd) : Int × Rd :=
  if s.o1 ≠ 0 then (3, s) else thn (rNum f n m s 4 1 12) fun s2 => (0, nx f n m (Rd.w1 s2 1))
def rChange (s : Rd) : Int × Rd :=
  if s.H 5 ≠ 0 then (3, s) else (0, nx f n m (Rd.wH s (sv s.H 5 1)))
/-- the key of the token: 0 .. 21, -1 none -/
def ky (p : Int) : Int := if tk f n m p = 1 then kix (tn f n p) else -1
def rLine (s : Rd) : Int × Rd :=
  if ky f n m s.p = 0 then rColour f n m s else if ky f n m s.p = 1 then rEnds f n m s else if ky f n m s.p = 2 then rLand f n m s
  else if ky f n m s.p = 3 then rPlayer f n m s else if ky f n m s.p = 4 then rGoal f n m s else if ky f n m s.p = 5 then rCars f n m s
  else if ky f n m s.p = 6 then rChange f n m s else (1, s)
/-- the sign that closes a line -/
def cl (q : Int × Rd) : Int × Rd := thn q fun s1 => if mk f n m s1.p 59 = true then (0, nx f n m s1) else (1, s1)
/-- a line and the sign that closes it -/
def rStep (s : Rd) : Int × Rd := cl f n m (rLine f n m s)
/-- all lines: (0, how many) or (fault, its place) -/
def rAll : Nat → Int → Rd → Int × Int × Rd
  | 0, i, s => (0, i, s)
  | k + 1, i, s =>
    if tk f n m s.p = 0 then (0, i, s)
    else if (rStep f n m s).1 = 0 then rAll k (i + 1) (rStep f n m s).2
    else ((rStep f n m s).1, ta f n m (rStep f n m s).2.p, (rStep f n m s).2)
def rd0 : Rd := (0, fun j => if j = 3 then 9 else if j = 4 then 12 else 0, fun _ => 0, 0, 0)
/-- what road says: (0, how many lines, the road) or (fault, its place, ..) -/
def rRoad : Int × Int × Rd := rAll f n m 941 0 rd0
/-- what road answers -/
def rAns : Int := if (rRoad f n m).1 = 0 then (rRoad f n m).2.1 else -1 - (rRoad f n m).2.1
end Road
/-! the token that stands: in the class's tape t, in the reference; p the place from which it was looked for. F the bytes, n how many, m how many may be read -/
def TkC (F : Int → Int) (n m : Int) (v ρ : Mv) (t p : Int) : Prop :=
  0 ≤ p ∧ p ≤ n ∧ v t 1 = n ∧ v t 2 = m ∧ (Sam n (v (ρ t 0)) F ∧ v t 9 = 0) ∧ v t 3 = tp F n m p ∧ v t 4 = tk F n m p ∧ v t 5 = ta F n m p ∧ (v t 4 = 2 ∨ v t 4 = 3 → v t 6 = tv F n p) ∧ (v t 4 = 1 → v t 8 = tn F n p) ∧ v t 7 = ky F n m p
def TkM (F : Int → Int) (n m : Int) (v : Mv) (p : Int) : Prop :=
  0 ≤ p ∧ p ≤ n ∧ v 178 3 = n ∧ v 178 5 = m ∧ (Sam n (v 179) F ∧ v 178 15 = 0) ∧ v 178 4 = tp F n m p ∧ v 178 11 = tk F n m p ∧ v 178 12 = ta F n m p ∧ (v 178 11 = 2 ∨ v 178 11 = 3 → v 178 14 = tv F n p) ∧ (v 178 11 = 1 → v 178 17 = tw F n p)
/-- what advance says, over the bytes that count -/
theorem tkC_of {F : Int → Int} {n m : Int} {v v' ρ : Mv} {t : Int} (hn : v t 1 = n) (hm : v t 2 = m) (hs0 : Sam n (v (ρ t 0)) F ∧ v t 9 = 0) (hb : v' (ρ t 0) = v (ρ t 0)) (h0 : 0 ≤ v t 3) (h1 : v t 3 ≤ n)
    (a : v' t 3 = tp (v (ρ t 0)) (v t 1) (v t 2) (v t 3)) (b : v' t 4 = tk (v (ρ t 0)) (v t 1) (v t 2) (v t 3)) (c : v' t 5 = ta (v (ρ t 0)) (v t 1) (v t 2) (v t 3))
    (d : v' t 4 = 2 ∨ v' t 4 = 3 → v' t 6 = tv (v (ρ t 0)) (v t 1) (v t 3)) (e : v' t 4 = 1 → v' t 8 = tn (v (ρ t 0)) (v t 1) (v t 3)) (k : v' t 7 = (if v' t 4 = 1 then kix (v' t 8) else -1))
    (j : ∀ j, j = 1 ∨ j = 2 ∨ j = 9 ∨ j = 10 → v' t j = v t j) : TkC F n m v' ρ t (v t 3) := by
  have hs := hs0.1
  rw [hn, hm] at a b c
  rw [hn] at d e
  have b2 : v' t 4 = tk F n m (v t 3) := b.trans (tk_cg hs h0 h1)
  refine ⟨h0, h1, (j 1 (by omega)).trans hn, (j 2 (by omega)).trans hm, ⟨by rw [hb]; exact hs, (j 9 (by omega)).trans hs0.2⟩, a.trans (tp_cg hs h0 h1), b2, c.trans (ta_cg hs h0), fun z => ?_, fun z => (e z).trans (tn_cg hs h0 h1), ?_⟩
  · refine (d z).trans (tv_cg hs h0 h1 (tk_in (m := m) ?_))
    rw [← b2]
    omega
  · rw [k]
    unfold ky
    rw [← b2]
    by_cases q : v' t 4 = 1
    · rw [if_pos q, if_pos q, (e q).trans (tn_cg hs h0 h1)]
    · rw [if_neg q, if_neg q]
/-- what go says -/
theorem tkM_of {F : Int → Int} {n m : Int} {v v' : Mv} (hn : v 178 3 = n) (hm : v 178 5 = m) (hs0 : Sam n (v 179) F ∧ v 178 15 = 0) (hb : v' 179 = v 179) (h0 : 0 ≤ v 178 4) (h1 : v 178 4 ≤ n) (en : v' 178 3 = v 178 3) (em : v' 178 5 = v 178 5) (e15 : v' 178 15 = v 178 15)
    (a : v' 178 4 = tp (v 179) (v 178 3) (v 178 5) (v 178 4)) (b : v' 178 11 = tk (v 179) (v 178 3) (v 178 5) (v 178 4)) (c : v' 178 12 = ta (v 179) (v 178 3) (v 178 5) (v 178 4))
    (d : v' 178 11 = 2 ∨ v' 178 11 = 3 → v' 178 14 = tv (v 179) (v 178 3) (v 178 4)) (e : v' 178 11 = 1 → v' 178 17 = tw (v 179) (v 178 3) (v 178 4)) : TkM F n m v' (v 178 4) := by
  have hs := hs0.1
  rw [hn, hm] at a b c
  rw [hn] at d e
  have b2 : v' 178 11 = tk F n m (v 178 4) := b.trans (tk_cg hs h0 h1)
  refine ⟨h0, h1, en.trans hn, em.trans hm, ⟨by rw [hb]; exact hs, e15.trans hs0.2⟩, a.trans (tp_cg hs h0 h1), b2, c.trans (ta_cg hs h0), fun z => ?_, fun z => (e z).trans (tw_cg hs h0 h1)⟩
  refine (d z).trans (tv_cg hs h0 h1 (tk_in (m := m) ?_))
  rw [← b2]
  omega
def NmW (a w : Int) : Prop := NmR a w ∧ 0 ≤ w ∧ w < 9223372036854775807
/-- what find says -/
def FdP (w : Int → Int) (y fr many r : Int) : Prop := (r = -1 ∧ (∀ j, 0 ≤ j → j < many → w (fr + j) ≠ y) ∨ 0 ≤ r ∧ r < many ∧ w (fr + r) = y ∧ (∀ j, 0 ≤ j → j < r → w (fr + j) ≠ y))
/-! the 22 words, as name and as word -/
theorem K_cv : K256 = K32.map (cv 8) := by decide +kernel
theorem K_vc : K32 = K256.map (vc 8) := by decide +kernel
theorem kixL_none {a : Int} : ∀ (l : List Int) (i : Int), 0 ≤ i → (kixL l a i = -1 ↔ a ∉ l)
  | [], _, _ => ⟨fun _ h => absurd h (List.not_mem_nil), fun _ => rfl⟩
  | x :: l, i, h => by
    show (if x = a then i else kixL l a (i + 1)) = -1 ↔ a ∉ x :: l
    by_cases c : x = a
    · rw [if_pos c]
      exact ⟨fun q => by omega, fun q => absurd (by rw [c]; exact List.mem_cons_self) q⟩
    · rw [if_neg c, kixL_none l (i + 1) (by omega)]
      exact ⟨fun q r => by
        rcases List.mem_cons.mp r with z | z
        · exact c z.symm
        · exact q z, fun q r => q (List.mem_cons_of_mem _ r)⟩
theorem NmR.mem {a w : Int} (h : NmR a w) : a ∈ K32 ↔ w ∈ K256 := ⟨fun q => by
  rw [K_cv, h.1]
  exact List.mem_map_of_mem q, fun q => by
  rw [K_vc, h.2]
  exact List.mem_map_of_mem q⟩
/-- a name that is none of the 22, as the reference finds it -/
theorem kix_none {a w : Int} (h : NmR a w) : kix a = -1 ↔ ∀ i : Nat, i < 22 → K256[i]? ≠ some w := by
  unfold kix
  rw [kixL_none K32 0 (by decide), h.mem]
  constructor
  · intro q i hi z
    exact q (List.mem_of_getElem? z)
  · intro q z
    obtain ⟨i, hi⟩ := List.mem_iff_getElem?.mp z
    have : i < 22 := (List.getElem?_eq_some_iff.mp hi).1
    exact q i this hi
theorem kix_self : ∀ i : Nat, i < 22 → kix ((K32[i]?).getD 0) = i ∧ NmR ((K32[i]?).getD 0) ((K256[i]?).getD 0) := by
  have h : ∀ i : Nat, i < 22 → kix ((K32[i]?).getD 0) = i ∧ ((K256[i]?).getD 0 = cv 8 ((K32[i]?).getD 0) ∧ (K32[i]?).getD 0 = vc 8 ((K256[i]?).getD 0)) := by decide +kernel
  exact h
theorem kixL_ge {a : Int} : ∀ (l : List Int) (i : Int), 0 ≤ i → kixL l a i ≠ -1 → i ≤ kixL l a i ∧ l[(kixL l a i - i).toNat]? = some a
  | [], _, _, h => absurd rfl h
  | x :: l, i, h, q => by
    have q : (if x = a then i else kixL l a (i + 1)) ≠ -1 := q
    show i ≤ (if x = a then i else kixL l a (i + 1)) ∧ (x :: l)[((if x = a then i else kixL l a (i + 1)) - i).toNat]? = some a
    by_cases c : x = a
    · rw [if_pos c, show (i - i).toNat = 0 by omega, c]
      exact ⟨by omega, rfl⟩
    · rw [if_neg c] at q ⊢
      have ih := kixL_ge l (i + 1) (by omega) q
      refine ⟨by omega, ?_⟩
      rw [show (kixL l a (i + 1) - i).toNat = (kixL l a (i + 1) - (i + 1)).toNat + 1 by omega, List.getElem?_cons_succ]
      exact ih.2
/-- the i-th of the 22, as the reference finds it -/
theorem kix_is {a w : Int} (h : NmR a w) (i : Nat) (hi : i < 22) : kix a = i ↔ w = (K256[i]?).getD 0 := by
  have hs := kix_self i hi
  constructor
  · intro q
    have g := kixL_ge (a := a) K32 0 (by decide) (by unfold kix at q; omega)
    unfold kix at q
    rw [q, show ((i : Int) - 0).toNat = i by omega] at g
    have e : (K32[i]?).getD 0 = a := by rw [g.2]; rfl
    exact (h.eq hs.2).mp e.symm
  · intro q
    have e : a = (K32[i]?).getD 0 := (h.eq hs.2).mpr q
    rw [e]
    exact hs.1
