theorem u_tn {n : Nat} (h : n < 2 ^ 64) : (UInt64.ofNat n).toNat = n := Nat.mod_eq_of_lt h
theorem g_or {k p a b : Nat} (hp : 2 ^ k = p) (ha : a < p) (h : b * p + a < 2 ^ 64) : lN (b * p) ||| lN a = lN (b * p + a) := by
  subst hp
  have h1 : b * 2 ^ k ||| a = b * 2 ^ k + a := by rw [← Nat.shiftLeft_eq, Nat.shiftLeft_add_eq_or_of_lt ha]
  have h3 : UInt64.ofNat (b * 2 ^ k) ||| UInt64.ofNat a = UInt64.ofNat (b * 2 ^ k + a) := UInt64.toNat_inj.mp (by rw [UInt64.toNat_or, u_tn (by omega), u_tn (by omega), u_tn h, h1])
  have h2 := congrArg UInt64.toInt64 h3
  exact h2
theorem g_shl {a k p : Nat} {y : Int64} (hy : y.toBitVec.smod 64 = BitVec.ofNat 64 k) (hk : k < 64) (hp : 2 ^ k = p) (ha : a < 2 ^ 64) : lN a <<< y = lN (a * p) := by
  subst hp
  apply Int64.toBitVec_inj.mp
  rw [Int64.toBitVec_shiftLeft, hy]
  apply BitVec.eq_of_toNat_eq
  have hb : (lN a).toBitVec.toNat = a := Nat.mod_eq_of_lt ha
  have hk' : (BitVec.ofNat 64 k).toNat = k := Nat.mod_eq_of_lt (by omega)
  have h : ((lN a).toBitVec <<< BitVec.ofNat 64 k).toNat = (a * 2 ^ k) % 2 ^ 64 := by simp only [BitVec.shiftLeft_eq', BitVec.toNat_shiftLeft, hb, hk', Nat.shiftLeft_eq]
  exact h
/-! THE TEXT, as class and reference both read it: tokens as functions of the bytes f, how many there are (n), how many may be read (m), and the place p from which a token is looked for -/
def bB (c : Int) : Bool := decide (c = 32 ∨ c = 10)
def bG (c : Int) : Bool := decide (97 ≤ c ∧ c ≤ 122 ∨ 48 ≤ c ∧ c ≤ 57)
def bL (c : Int) : Bool := decide (97 ≤ c ∧ c ≤ 122)
def bM (c : Int) : Bool := decide (c = 59 ∨ 60 ≤ c ∧ c ≤ 62 ∨ c = 40 ∨ c = 41)
/-- the first place from p on that P doesn't take -/
def ffs (P : Int → Bool) (f : Int → Int) (n : Int) : Nat → Int → Int
  | 0, p => p
  | k + 1, p => if p < n ∧ P (f p % 256) = true then ffs P f n k (p + 1) else p
def fs (P : Int → Bool) (f : Int → Int) (n p : Int) : Int := ffs P f n (n - p).toNat p
theorem fs_step {P : Int → Bool} {f : Int → Int} {n p : Int} (h : p < n) (hP : P (f p % 256) = true) : fs P f n p = fs P f n (p + 1) := by
  unfold fs
  rw [show (n - p).toNat = (n - (p + 1)).toNat + 1 by omega]
  show (if p < n ∧ P (f p % 256) = true then ffs P f n (n - (p + 1)).toNat (p + 1) else p) = _
  rw [if_pos ⟨h, hP⟩]
theorem fs_stop {P : Int → Bool} {f : Int → Int} {n p : Int} (h : ¬ (p < n ∧ P (f p % 256) = true)) : fs P f n p = p := by
  unfold fs
  cases (n - p).toNat with
  | zero => rfl
  | succ k =>
    show (if p < n ∧ P (f p % 256) = true then ffs P f n k (p + 1) else p) = _
    rw [if_neg h]
theorem ffs_bd {P : Int → Bool} {f : Int → Int} {n : Int} : ∀ (k : Nat) (p : Int), p ≤ n → p ≤ ffs P f n k p ∧ ffs P f n k p ≤ n
  | 0, p, h => ⟨Int.le_refl _, h⟩
  | k + 1, p, h => by
    show p ≤ (if p < n ∧ P (f p % 256) = true then ffs P f n k (p + 1) else p) ∧ (if p < n ∧ P (f p % 256) = true then ffs P f n k (p + 1) else p) ≤ n
    by_cases c : p < n ∧ P (f p % 256) = true
    · rw [if_pos c]
      have := ffs_bd (P := P) (f := f) (n := n) k (p + 1) (by omega)
      omega
    · rw [if_neg c]
      omega
theorem fs_bd {P : Int → Bool} {f : Int → Int} {n p : Int} (h : p ≤ n) : p ≤ fs P f n p ∧ fs P f n p ≤ n := ffs_bd _ p h
theorem ffs_cg {P : Int → Bool} {f g : Int → Int} {n : Int} (hfg : ∀ j, 0 ≤ j → j < n → f j % 256 = g j % 256) : ∀ (k : Nat) (p : Int), 0 ≤ p → ffs P f n k p = ffs P g n k p
  | 0, p, _ => rfl
  | k + 1, p, h => by
    show (if p < n ∧ P (f p % 256) = true then ffs P f n k (p + 1) else p) = (if p < n ∧ P (g p % 256) = true then ffs P g n k (p + 1) else p)
    by_cases c : p < n
    · rw [hfg p h c, ffs_cg hfg k (p + 1) (by omega)]
    · rw [if_neg (fun q => c q.1), if_neg (fun q => c q.1)]
theorem fs_cg {P : Int → Bool} {f g : Int → Int} {n p : Int} (hfg : ∀ j, 0 ≤ j → j < n → f j % 256 = g j % 256) (h : 0 ≤ p) : fs P f n p = fs P g n p := ffs_cg hfg _ p h
/-- at the place where it stops -/
theorem ffs_end {P : Int → Bool} {f : Int → Int} {n : Int} : ∀ (k : Nat) (p : Int), (n - p).toNat ≤ k → ¬ (ffs P f n k p < n ∧ P (f (ffs P f n k p) % 256) = true)
  | 0, p, h => fun q => by
    have : p < n := q.1
    omega
  | k + 1, p, h => by
    show ¬ ((if p < n ∧ P (f p % 256) = true then ffs P f n k (p + 1) else p) < n ∧ P (f (if p < n ∧ P (f p % 256) = true then ffs P f n k (p + 1) else p) % 256) = true)
    by_cases c : p < n ∧ P (f p % 256) = true
    · rw [if_pos c]
      exact ffs_end k (p + 1) (by omega)
    · rw [if_neg c]
      exact c
theorem fs_end {P : Int → Bool} {f : Int → Int} {n p : Int} : ¬ (fs P f n p < n ∧ P (f (fs P f n p) % 256) = true) := ffs_end _ p (Nat.le_refl _)
/-- letters in a run, its name, its word, its number -/
def cntL (f : Int → Int) (q : Int) : Nat → Int
  | 0 => 0
  | k + 1 => cntL f q k + (if bL (f (q + k) % 256) = true then 1 else 0)
def n32 (f : Int → Int) (q : Int) : Nat → Int
  | 0 => 0
  | k + 1 => n32 f q k * 32 + (f (q + k) % 256 - 96)
def n256 (f : Int → Int) (q : Int) : Nat → Int
  | 0 => 0
  | k + 1 => n256 f q k * 256 + f (q + k) % 256
def n10 (f : Int → Int) (q : Int) : Nat → Int
  | 0 => 0
  | k + 1 => n10 f q k * 10 + (f (q + k) % 256 - 48)
theorem cntL_bd (f : Int → Int) (q : Int) : ∀ k : Nat, 0 ≤ cntL f q k ∧ cntL f q k ≤ k
  | 0 => ⟨Int.le_refl _, Int.le_refl _⟩
  | k + 1 => by
    have := cntL_bd f q k
    show 0 ≤ cntL f q k + (if bL (f (q + k) % 256) = true then 1 else 0) ∧ cntL f q k + (if bL (f (q + k) % 256) = true then 1 else 0) ≤ ((k + 1 : Nat) : Int)
    by_cases c : bL (f (q + k) % 256) = true
    · rw [if_pos c]; omega
    · rw [if_neg c]; omega
theorem cntL_s {f : Int → Int} {q p : Int} (h : q ≤ p) : cntL f q (p + 1 - q).toNat = cntL f q (p - q).toNat + (if bL (f p % 256) = true then 1 else 0) := by
  rw [show (p + 1 - q).toNat = (p - q).toNat + 1 by omega]
  show cntL f q (p - q).toNat + (if bL (f (q + ((p - q).toNat : Nat)) % 256) = true then 1 else 0) = _
  rw [show q + (((p - q).toNat : Nat) : Int) = p by omega]
theorem n32_s {f : Int → Int} {q p : Int} (h : q ≤ p) : n32 f q (p + 1 - q).toNat = n32 f q (p - q).toNat * 32 + (f p % 256 - 96) := by
  rw [show (p + 1 - q).toNat = (p - q).toNat + 1 by omega]
  show n32 f q (p - q).toNat * 32 + (f (q + ((p - q).toNat : Nat)) % 256 - 96) = _
  rw [show q + (((p - q).toNat : Nat) : Int) = p by omega]
theorem n256_s {f : Int → Int} {q p : Int} (h : q ≤ p) : n256 f q (p + 1 - q).toNat = n256 f q (p - q).toNat * 256 + f p % 256 := by
  rw [show (p + 1 - q).toNat = (p - q).toNat + 1 by omega]
  show n256 f q (p - q).toNat * 256 + f (q + ((p - q).toNat : Nat)) % 256 = _
  rw [show q + (((p - q).toNat : Nat) : Int) = p by omega]
theorem n10_s {f : Int → Int} {q p : Int} (h : q ≤ p) : n10 f q (p + 1 - q).toNat = n10 f q (p - q).toNat * 10 + (f p % 256 - 48) := by
  rw [show (p + 1 - q).toNat = (p - q).toNat + 1 by omega]
  show n10 f q (p - q).toNat * 10 + (f (q + ((p - q).toNat : Nat)) % 256 - 48) = _
  rw [show q + (((p - q).toNat : Nat) : Int) = p by omega]
/-- what a run from q on is: 1 a word, 2 a number, 4 none -/
def rk (f : Int → Int) (n q : Int) : Int := if cntL f q (fs bG f n q - q).toNat = fs bG f n q - q ∧ fs bG f n q - q ≤ 7 then 1 else if cntL f q (fs bG f n q - q).toNat = 0 ∧ fs bG f n q - q ≤ 2 then 2 else 4
theorem run_end {f : Int → Int} {n q a le dg : Int} (h1 : q ≤ a) (hl : le = cntL f q (a - q).toNat) (hs : le + dg = a - q) (hf : fs bG f n a = fs bG f n q) (hx : ¬ (a < n ∧ bG (f a % 256) = true)) : fs bG f n q = a ∧ rk f n q = (if dg = 0 ∧ le ≤ 7 then 1 else if le = 0 ∧ dg ≤ 2 then 2 else 4) := by
  have e : fs bG f n q = a := by rw [← hf]; exact fs_stop hx
  refine ⟨e, ?_⟩
  unfold rk
  rw [e, ← hl]
  by_cases c1 : le = a - q ∧ a - q ≤ 7
  · rw [if_pos c1, if_pos (by omega)]
  · rw [if_neg c1, if_neg (show ¬ (dg = 0 ∧ le ≤ 7) by omega)]
    by_cases c2 : le = 0 ∧ a - q ≤ 2
    · rw [if_pos c2, if_pos (by omega)]
    · rw [if_neg c2, if_neg (by omega)]
/-- the token from p on: where it begins, where its run ends -/
def tq (f : Int → Int) (n p : Int) : Int := fs bB f n p
def te (f : Int → Int) (n p : Int) : Int := fs bG f n (tq f n p)
/-- its letters, how many -/
def tl (f : Int → Int) (n p : Int) : Int := cntL f (tq f n p) (te f n p - tq f n p).toNat
/-- what it is: 0 the end, 1 a word, 2 a number, 3 a sign, 4 none -/
def tk (f : Int → Int) (n m p : Int) : Int :=
  if m < n ∧ m ≤ tq f n p then 4 else if n ≤ tq f n p then 0 else if bG (f (tq f n p) % 256) = true then rk f n (tq f n p)
  else if bM (f (tq f n p) % 256) = true then 3 else 4
/-- its place -/
def ta (f : Int → Int) (n m p : Int) : Int := if m < n ∧ m ≤ tq f n p then m else tq f n p
/-- from where the next one is looked for -/
def tp (f : Int → Int) (n m p : Int) : Int :=
  if m < n ∧ m ≤ tq f n p then tq f n p else if n ≤ tq f n p then tq f n p else if bG (f (tq f n p) % 256) = true then te f n p else tq f n p + 1
/-- its number or sign; its name (class), its word (reference) -/
def tv (f : Int → Int) (n p : Int) : Int := if bG (f (tq f n p) % 256) = true then n10 f (tq f n p) (te f n p - tq f n p).toNat else f (tq f n p) % 256
def tn (f : Int → Int) (n p : Int) : Int := n32 f (tq f n p) (te f n p - tq f n p).toNat
def tw (f : Int → Int) (n p : Int) : Int := n256 f (tq f n p) (te f n p - tq f n p).toNat
section
variable {f g : Int → Int} {n m p : Int}
theorem cntL_cg {q : Int} : ∀ k : Nat, (∀ j : Int, q ≤ j → j < q + k → f j % 256 = g j % 256) → cntL f q k = cntL g q k
  | 0, _ => rfl
  | k + 1, h => by
    show cntL f q k + _ = cntL g q k + _
    rw [cntL_cg k (fun j a b => h j a (by omega)), h (q + k) (by omega) (by omega)]
theorem n32_cg {q : Int} : ∀ k : Nat, (∀ j : Int, q ≤ j → j < q + k → f j % 256 = g j % 256) → n32 f q k = n32 g q k
  | 0, _ => rfl
  | k + 1, h => by
    show n32 f q k * 32 + _ = n32 g q k * 32 + _
    rw [n32_cg k (fun j a b => h j a (by omega)), h (q + k) (by omega) (by omega)]
theorem n256_cg {q : Int} : ∀ k : Nat, (∀ j : Int, q ≤ j → j < q + k → f j % 256 = g j % 256) → n256 f q k = n256 g q k
  | 0, _ => rfl
  | k + 1, h => by
    show n256 f q k * 256 + _ = n256 g q k * 256 + _
    rw [n256_cg k (fun j a b => h j a (by omega)), h (q + k) (by omega) (by omega)]
theorem n10_cg {q : Int} : ∀ k : Nat, (∀ j : Int, q ≤ j → j < q + k → f j % 256 = g j % 256) → n10 f q k = n10 g q k
  | 0, _ => rfl
  | k + 1, h => by
    show n10 f q k * 10 + _ = n10 g q k * 10 + _
    rw [n10_cg k (fun j a b => h j a (by omega)), h (q + k) (by omega) (by omega)]
/-- the same bytes, the same tokens -/
def Sam (n : Int) (f g : Int → Int) : Prop := ∀ j, 0 ≤ j → j < n → f j % 256 = g j % 256
theorem tq_cg (h : Sam n f g) (h0 : 0 ≤ p) : tq f n p = tq g n p := fs_cg h h0
theorem tq_bd (h1 : p ≤ n) : p ≤ tq f n p ∧ tq f n p ≤ n := fs_bd h1
theorem te_bd (h1 : p ≤ n) : tq f n p ≤ te f n p ∧ te f n p ≤ n := fs_bd (tq_bd h1).2
theorem te_cg (h : Sam n f g) (h0 : 0 ≤ p) (h1 : p ≤ n) : te f n p = te g n p := by
  unfold te
  rw [tq_cg h h0]
  have := tq_bd (f := g) h1
  exact fs_cg h (by omega)
theorem run_cg (h : Sam n f g) (h0 : 0 ≤ p) (h1 : p ≤ n) : ∀ j : Int, tq g n p ≤ j → j < tq g n p + ((te g n p - tq g n p).toNat : Nat) → f j % 256 = g j % 256 := fun j a b => by
  have h2 := tq_bd (f := g) h1
  have h3 := te_bd (f := g) h1
  exact h j (by omega) (by omega)
theorem at_cg (h : Sam n f g) (h0 : 0 ≤ p) (h1 : p ≤ n) (h2 : ¬ n ≤ tq g n p) : f (tq g n p) % 256 = g (tq g n p) % 256 := by
  have := tq_bd (f := g) h1
  exact h _ (by omega) (by omega)
theorem rk_cg (h : Sam n f g) (h0 : 0 ≤ p) (h1 : p ≤ n) : rk f n (tq g n p) = rk g n (tq g n p) := by
  have e : fs bG f n (tq g n p) = fs bG g n (tq g n p) := by
    have := tq_bd (f := g) h1
    exact fs_cg h (by omega)
  unfold rk
  rw [e, cntL_cg (fs bG g n (tq g n p) - tq g n p).toNat (run_cg h h0 h1)]
theorem tk_cg (h : Sam n f g) (h0 : 0 ≤ p) (h1 : p ≤ n) : tk f n m p = tk g n m p := by
  unfold tk
  rw [tq_cg h h0, rk_cg h h0 h1]
  by_cases c : n ≤ tq g n p
  · rw [if_pos c, if_pos c]
  · rw [at_cg h h0 h1 c]
theorem ta_cg (h : Sam n f g) (h0 : 0 ≤ p) : ta f n m p = ta g n m p := by
  unfold ta
  rw [tq_cg h h0]
theorem tp_cg (h : Sam n f g) (h0 : 0 ≤ p) (h1 : p ≤ n) : tp f n m p = tp g n m p := by
  unfold tp
  rw [te_cg h h0 h1, tq_cg h h0]
  by_cases c : n ≤ tq g n p
  · rw [if_pos c, if_pos c]
  · rw [at_cg h h0 h1 c]
theorem tp_bd (h1 : p ≤ n) : p ≤ tp f n m p ∧ tp f n m p ≤ n := by
  have h2 := tq_bd (f := f) h1
  have h3 := te_bd (f := f) h1
  unfold tp
  by_cases c : m < n ∧ m ≤ tq f n p
  · rw [if_pos c]; omega
  · rw [if_neg c]
    by_cases d : n ≤ tq f n p
    · rw [if_pos d]; omega
    · rw [if_neg d]
      by_cases e : bG (f (tq f n p) % 256) = true
      · rw [if_pos e]; omega
      · rw [if_neg e]; omega
end
/-! rows that the text wants -/
theorem ol_shl8 {x : Int} (h : 0 ≤ x ∧ x < 36028797018963968) : Int64.ofInt x <<< ((Int32.ofInt 8).toInt64 &&& 63) = Int64.ofInt (x * 256) := by
  rw [ol_lN h.1, g_shl (k := 8) (p := 256) (by decide) (by decide) (by decide) (by omega), lN_ol]
  congr 1
  omega
theorem ol_or8 {x c : Int} (h : 0 ≤ x ∧ x < 36028797018963968) (hc : 0 ≤ c ∧ c < 256) : Int64.ofInt (x * 256) ||| Int64.ofInt c = Int64.ofInt (x * 256 + c) := by
  have e1 : Int64.ofInt (x * 256) = lN (x.toNat * 256) := by
    rw [lN_ol]
    congr 1
    omega
  rw [e1, ol_lN hc.1, g_or (k := 8) (by decide) (by omega) (by omega), lN_ol]
  congr 1
  omega
section RowsX
variable {g : Gp} {X : Cx} {F : Fm} {cells slots pc : Nat} {ls st : List V2} {v ρ : Mv} {Z : Mz}
theorem r_lshl8 (hX : okX g X F) (i : Nat) {x : Int} (hf : (fprg F)[i]? = some (pc, .lshl, 1)) (h : 0 ≤ x ∧ x < 36028797018963968) (k : wp g X F cells slots (pc + 1) ls ((1, x * 256) :: st) v ρ Z) : wp g X F cells slots pc ls ((0, 8) :: (1, x) :: st) v ρ Z :=
  wp_pure (fun ad H locs la hv kk => lv_lshl hX.1 hX.2.1 (hX.dec hf) (ol_shl8 h) kk) (fun h1 h2 => scop_l (scop_c (scop_c h1))) k
theorem r_lor8 (hX : okX g X F) (i : Nat) {x c : Int} (hf : (fprg F)[i]? = some (pc, .lor, 1)) (h : 0 ≤ x ∧ x < 36028797018963968) (hc : 0 ≤ c ∧ c < 256) (k : wp g X F cells slots (pc + 1) ls ((1, x * 256 + c) :: st) v ρ Z) : wp g X F cells slots pc ls ((1, c) :: (1, x * 256) :: st) v ρ Z :=
  wp_pure (fun ad H locs la hv kk => lv_lor hX.1 hX.2.1 (hX.dec hf) (by rw [List.map_cons, tr_l, ← ol_or8 h hc] at kk; exact kk)) (fun h1 h2 => scop_l (scop_c (scop_c h1))) k
/-- a number, forgotten but where it lies in its range -/
theorem r_inrm (x : Int) (k : ∀ z : Int, inR z → (inR x → z = x) → wp g X F cells slots pc ls ((0, z) :: st) v ρ Z) : wp g X F cells slots pc ls ((0, x) :: st) v ρ Z := fun ad H locs la hR h1 h2 hq hv => by
  have h := k (Int32.ofInt x).toInt (inR_t _) (fun h9 => oi h9) ad H locs la hR (scop_i (scop_c h1)) h2 hq hv
  rw [List.map_cons, tr_t] at h
  exact h
end RowsX
theorem bB_iff {c : Int} : bB c = true ↔ (c = 32 ∨ c = 10) := by unfold bB; exact decide_eq_true_iff
theorem bG_iff {c : Int} : bG c = true ↔ (97 ≤ c ∧ c ≤ 122 ∨ 48 ≤ c ∧ c ≤ 57) := by unfold bG; exact decide_eq_true_iff
theorem bL_iff {c : Int} : bL c = true ↔ (97 ≤ c ∧ c ≤ 122) := by unfold bL; exact decide_eq_true_iff
theorem bM_iff {c : Int} : bM c = true ↔ (c = 59 ∨ 60 ≤ c ∧ c ≤ 62 ∨ c = 40 ∨ c = 41) := by unfold bM; exact decide_eq_true_iff
/-- a fact set aside: omega doesn't look into it -/
def Hd (p : Prop) : Prop := p
theorem Hd.i {p : Prop} (h : p) : Hd p := h
theorem Hd.o {p : Prop} (h : Hd p) : p := h
/-! a name (class: base 32) and its word (reference: base 256) -/
def cv : Nat → Int → Int
  | 0, _ => 0
  | k + 1, x => if x ≤ 0 then 0 else cv k (x / 32) * 256 + (x % 32 + 96)
def vc : Nat → Int → Int
  | 0, _ => 0
  | k + 1, x => if x ≤ 0 then 0 else vc k (x / 256) * 32 + (x % 256 - 96)
def NmR (a w : Int) : Prop := w = cv 8 a ∧ a = vc 8 w
theorem NmR.eq {a w b z : Int} (h : NmR a w) (k : NmR b z) : a = b ↔ w = z := ⟨fun e => by rw [h.1, k.1, e], fun e => by rw [h.2, k.2, e]⟩
section
variable {f : Int → Int} {q : Int}
theorem n32_pos : ∀ k : Nat, (∀ j : Int, q ≤ j → j < q + k → 97 ≤ f j % 256 ∧ f j % 256 ≤ 122) → 0 ≤ n32 f q k ∧ (0 < k → 0 < n32 f q k)
  | 0, _ => ⟨Int.le_refl _, fun h => absurd h (Nat.lt_irrefl 0)⟩
  | k + 1, h => by
    have h1 := n32_pos k (fun j a b => h j a (by omega))
    have h2 := h (q + k) (by omega) (by omega)
    show 0 ≤ n32 f q k * 32 + (f (q + k) % 256 - 96) ∧ (0 < k + 1 → 0 < n32 f q k * 32 + (f (q + k) % 256 - 96))
    omega
theorem n256_pos : ∀ k : Nat, (∀ j : Int, q ≤ j → j < q + k → 97 ≤ f j % 256 ∧ f j % 256 ≤ 122) → 0 ≤ n256 f q k ∧ (0 < k → 0 < n256 f q k)
  | 0, _ => ⟨Int.le_refl _, fun h => absurd h (Nat.lt_irrefl 0)⟩
  | k + 1, h => by
    have h1 := n256_pos k (fun j a b => h j a (by omega))
    have h2 := h (q + k) (by omega) (by omega)
    show 0 ≤ n256 f q k * 256 + f (q + k) % 256 ∧ (0 < k + 1 → 0 < n256 f q k * 256 + f (q + k) % 256)
    omega
theorem cv_n : ∀ (k j : Nat), k ≤ j → (∀ i : Int, q ≤ i → i < q + k → 97 ≤ f i % 256 ∧ f i % 256 ≤ 122) → cv j (n32 f q k) = n256 f q k
  | 0, 0, _, _ => rfl
  | 0, j + 1, _, _ => if_pos (Int.le_refl 0)
  | k + 1, 0, h, _ => absurd h (by omega)
  | k + 1, j + 1, h, ha => by
    have h1 := n32_pos k (fun i a b => ha i a (by omega))
    have h2 := ha (q + k) (by omega) (by omega)
    have ih := cv_n k j (by omega) (fun i a b => ha i a (by omega))
    show (if n32 f q k * 32 + (f (q + k) % 256 - 96) ≤ 0 then 0 else cv j ((n32 f q k * 32 + (f (q + k) % 256 - 96)) / 32) * 256 + ((n32 f q k * 32 + (f (q + k) % 256 - 96)) % 32 + 96)) = n256 f q k * 256 + f (q + k) % 256
    rw [if_neg (by omega), show (n32 f q k * 32 + (f (q + k) % 256 - 96)) / 32 = n32 f q k by omega, ih]
    omega
theorem vc_n : ∀ (k j : Nat), k ≤ j → (∀ i : Int, q ≤ i → i < q + k → 97 ≤ f i % 256 ∧ f i % 256 ≤ 122) → vc j (n256 f q k) = n32 f q k
  | 0, 0, _, _ => rfl
  | 0, j + 1, _, _ => if_pos (Int.le_refl 0)
  | k + 1, 0, h, _ => absurd h (by omega)
  | k + 1, j + 1, h, ha => by
    have h1 := n256_pos k (fun i a b => ha i a (by omega))
    have h2 := ha (q + k) (by omega) (by omega)
    have ih := vc_n k j (by omega) (fun i a b => ha i a (by omega))
    show (if n256 f q k * 256 + f (q + k) % 256 ≤ 0 then 0 else vc j ((n256 f q k * 256 + f (q + k) % 256) / 256) * 32 + ((n256 f q k * 256 + f (q + k) % 256) % 256 - 96)) = n32 f q k * 32 + (f (q + k) % 256 - 96)
    rw [if_neg (by omega), show (n256 f q k * 256 + f (q + k) % 256) / 256 = n256 f q k by omega, ih]
    omega
theorem cntL_all : ∀ k : Nat, cntL f q k = k → ∀ j : Int, q ≤ j → j < q + k → 97 ≤ f j % 256 ∧ f j % 256 ≤ 122
  | 0, _, j, a, b => absurd a (by omega)
  | k + 1, h, j, a, b => by
    have hb := cntL_bd f q k
    have h : cntL f q k + (if bL (f (q + k) % 256) = true then 1 else 0) = ((k + 1 : Nat) : Int) := h
    by_cases c : bL (f (q + k) % 256) = true
    · rw [if_pos c] at h
      by_cases e : j = q + k
      · subst e
        exact of_decide_eq_true c
      · exact cntL_all k (by omega) j a (by omega)
    · rw [if_neg c] at h
      omega
end
/-- a word's name and word are related -/
theorem tk_word {f : Int → Int} {n m p : Int} (h1 : p ≤ n) (h : tk f n m p = 1) : NmR (tn f n p) (tw f n p) ∧ te f n p - tq f n p ≤ 7 ∧ tl f n p = te f n p - tq f n p := by
  have hb := te_bd (f := f) h1
  have key : tl f n p = te f n p - tq f n p ∧ te f n p - tq f n p ≤ 7 := by
    unfold tk at h
    by_cases c : m < n ∧ m ≤ tq f n p
    · rw [if_pos c] at h; exact absurd h (by decide)
    · rw [if_neg c] at h
      by_cases d : n ≤ tq f n p
      · rw [if_pos d] at h; exact absurd h (by decide)
      · rw [if_neg d] at h
        by_cases e : bG (f (tq f n p) % 256) = true
        · rw [if_pos e] at h
          have h : (if tl f n p = te f n p - tq f n p ∧ te f n p - tq f n p ≤ 7 then 1 else if tl f n p = 0 ∧ te f n p - tq f n p ≤ 2 then 2 else 4 : Int) = 1 := h
          by_cases e2 : tl f n p = te f n p - tq f n p ∧ te f n p - tq f n p ≤ 7
          · exact e2
          · rw [if_neg e2] at h
            by_cases e3 : tl f n p = 0 ∧ te f n p - tq f n p ≤ 2
            · rw [if_pos e3] at h; exact absurd h (by decide)
            · rw [if_neg e3] at h; exact absurd h (by decide)
        · rw [if_neg e] at h
          by_cases e2 : bM (f (tq f n p) % 256) = true
          · rw [if_pos e2] at h; exact absurd h (by decide)
          · rw [if_neg e2] at h; exact absurd h (by decide)
  have hl : cntL f (tq f n p) (te f n p - tq f n p).toNat = ((te f n p - tq f n p).toNat : Int) := by
    have := key.1
    unfold tl at this
    omega
  have ha := cntL_all _ hl
  exact ⟨⟨(cv_n _ 8 (by omega) ha).symm, (vc_n _ 8 (by omega) ha).symm⟩, key.2, key.1⟩
section
variable {f : Int → Int} {n m p : Int}
theorem tk_lim (h : m < n ∧ m ≤ tq f n p) : tk f n m p = 4 ∧ ta f n m p = m ∧ tp f n m p = tq f n p := ⟨if_pos h, if_pos h, if_pos h⟩
theorem tk_end (h : ¬ (m < n ∧ m ≤ tq f n p)) (h2 : n ≤ tq f n p) : tk f n m p = 0 ∧ ta f n m p = tq f n p ∧ tp f n m p = tq f n p := ⟨(if_neg h).trans (if_pos h2), if_neg h, (if_neg h).trans (if_pos h2)⟩
theorem tk_run (h : ¬ (m < n ∧ m ≤ tq f n p)) (h2 : ¬ n ≤ tq f n p) (h3 : bG (f (tq f n p) % 256) = true) : tk f n m p = rk f n (tq f n p) ∧ ta f n m p = tq f n p ∧ tp f n m p = te f n p ∧ tv f n p = n10 f (tq f n p) (te f n p - tq f n p).toNat := ⟨(if_neg h).trans ((if_neg h2).trans (if_pos h3)), if_neg h, (if_neg h).trans ((if_neg h2).trans (if_pos h3)), if_pos h3⟩
theorem tk_sg (h : ¬ (m < n ∧ m ≤ tq f n p)) (h2 : ¬ n ≤ tq f n p) (h3 : ¬ bG (f (tq f n p) % 256) = true) : tk f n m p = (if bM (f (tq f n p) % 256) = true then 3 else 4) ∧ ta f n m p = tq f n p ∧ tp f n m p = tq f n p + 1 ∧ tv f n p = f (tq f n p) % 256 := ⟨(if_neg h).trans ((if_neg h2).trans (if_neg h3)), if_neg h, (if_neg h).trans ((if_neg h2).trans (if_neg h3)), if_neg h3⟩
end
theorem rk_3 {f : Int → Int} {n q : Int} : rk f n q ≠ 3 := by
  unfold rk
  by_cases c : cntL f q (fs bG f n q - q).toNat = fs bG f n q - q ∧ fs bG f n q - q ≤ 7
  · rw [if_pos c]; decide
  · rw [if_neg c]
    by_cases d : cntL f q (fs bG f n q - q).toNat = 0 ∧ fs bG f n q - q ≤ 2
    · rw [if_pos d]; decide
    · rw [if_neg d]; decide
theorem rk_1 {f : Int → Int} {n q : Int} (h : rk f n q = 1) : cntL f q (fs bG f n q - q).toNat = fs bG f n q - q ∧ fs bG f n q - q ≤ 7 := by
  unfold rk at h
  by_cases c : cntL f q (fs bG f n q - q).toNat = fs bG f n q - q ∧ fs bG f n q - q ≤ 7
  · exact c
  · rw [if_neg c] at h
    by_cases d : cntL f q (fs bG f n q - q).toNat = 0 ∧ fs bG f n q - q ≤ 2
    · rw [if_pos d] at h; exact absurd h (by decide)
    · rw [if_neg d] at h; exact absurd h (by decide)
theorem n32_lt {f : Int → Int} {q : Int} : ∀ k : Nat, (∀ j : Int, q ≤ j → j < q + k → 97 ≤ f j % 256 ∧ f j % 256 ≤ 122) → n32 f q k < ((32 ^ k : Nat) : Int)
  | 0, _ => by show (0 : Int) < ((32 ^ 0 : Nat) : Int); decide
  | k + 1, h => by
    have h1 := n32_lt k (fun j a b => h j a (by omega))
    have h2 := h (q + k) (by omega) (by omega)
    show n32 f q k * 32 + (f (q + k) % 256 - 96) < ((32 ^ (k + 1) : Nat) : Int)
    rw [Nat.pow_succ]
    omega
theorem n256_lt {f : Int → Int} {q : Int} : ∀ k : Nat, (∀ j : Int, q ≤ j → j < q + k → 97 ≤ f j % 256 ∧ f j % 256 ≤ 122) → n256 f q k < ((256 ^ k : Nat) : Int)
  | 0, _ => by show (0 : Int) < ((256 ^ 0 : Nat) : Int); decide
  | k + 1, h => by
    have h1 := n256_lt k (fun j a b => h j a (by omega))
    have h2 := h (q + k) (by omega) (by omega)
    show n256 f q k * 256 + f (q + k) % 256 < ((256 ^ (k + 1) : Nat) : Int)
    rw [Nat.pow_succ]
    omega
theorem rk_name {f : Int → Int} {n q : Int} (hq : q ≤ n) (h : rk f n q = 1) : 0 ≤ n32 f q (fs bG f n q - q).toNat ∧ n32 f q (fs bG f n q - q).toNat < 34359738368 := by
  have h1 := rk_1 h
  have h2 := fs_bd (P := bG) (f := f) hq
  have ha := cntL_all (f := f) (q := q) (fs bG f n q - q).toNat (by omega)
  have h3 := n32_lt _ ha
  have h4 : 32 ^ (fs bG f n q - q).toNat ≤ 32 ^ 7 := Nat.pow_le_pow_right (by decide) (by omega)
  exact ⟨(n32_pos _ ha).1, by omega⟩
theorem cntL_1 {f : Int → Int} {q : Int} : ∀ k : Nat, (bL (f q % 256) = true → 1 ≤ cntL f q (k + 1)) ∧ (¬ bL (f q % 256) = true → cntL f q (k + 1) ≤ k)
  | 0 => by
    show (_ → 1 ≤ cntL f q 0 + (if bL (f (q + (0 : Nat)) % 256) = true then 1 else 0)) ∧ (_ → cntL f q 0 + (if bL (f (q + (0 : Nat)) % 256) = true then 1 else 0) ≤ ((0 : Nat) : Int))
    rw [show q + ((0 : Nat) : Int) = q by omega]
    exact ⟨fun h => by rw [if_pos h]; show (1 : Int) ≤ 0 + 1; decide, fun h => by rw [if_neg h]; show (0 : Int) + 0 ≤ 0; decide⟩
  | k + 1 => by
    have ih := cntL_1 (f := f) (q := q) k
    show (_ → 1 ≤ cntL f q (k + 1) + (if bL (f (q + ((k + 1 : Nat) : Int)) % 256) = true then 1 else 0)) ∧ (_ → cntL f q (k + 1) + (if bL (f (q + ((k + 1 : Nat) : Int)) % 256) = true then 1 else 0) ≤ ((k + 1 : Nat) : Int))
    have h2 : (0 : Int) ≤ (if bL (f (q + ((k + 1 : Nat) : Int)) % 256) = true then 1 else 0) ∧ (if bL (f (q + ((k + 1 : Nat) : Int)) % 256) = true then 1 else 0) ≤ (1 : Int) := by
      by_cases c : bL (f (q + ((k + 1 : Nat) : Int)) % 256) = true
      · rw [if_pos c]; decide
      · rw [if_neg c]; decide
    exact ⟨fun h => by have := ih.1 h; omega, fun h => by have := ih.2 h; omega⟩
/-- what a run is, as the reference finds it: r says whether its first sign is a letter -/
theorem rk_ref {f : Int → Int} {n q a r : Int} (hf : fs bG f n q = a) (h : q < a) (hr : r = 1 ∧ (97 ≤ f q % 256 ∧ f q % 256 ≤ 122) ∨ r = 0 ∧ ¬ (97 ≤ f q % 256 ∧ f q % 256 ≤ 122)) :
    rk f n q = 1 ∧ r = 1 ∧ cntL f q (a - q).toNat = a - q ∧ a - q ≤ 7 ∨ rk f n q = 2 ∧ r = 0 ∧ cntL f q (a - q).toNat = 0 ∧ a - q ≤ 2 ∨ rk f n q = 4 ∧ ¬ (r = 1 ∧ cntL f q (a - q).toNat = a - q ∧ a - q ≤ 7) ∧ ¬ (r = 0 ∧ cntL f q (a - q).toNat = 0 ∧ a - q ≤ 2) := by
  have h1 := cntL_1 (f := f) (q := q) ((a - q).toNat - 1)
  rw [show (a - q).toNat - 1 + 1 = (a - q).toNat by omega] at h1
  have hr : r = 1 ∧ 1 ≤ cntL f q (a - q).toNat ∨ r = 0 ∧ cntL f q (a - q).toNat ≤ (((a - q).toNat - 1 : Nat) : Int) := by
    rcases hr with ⟨a1, a2⟩ | ⟨a1, a2⟩
    · exact Or.inl ⟨a1, h1.1 (decide_eq_true a2)⟩
    · exact Or.inr ⟨a1, h1.2 (fun z => a2 (of_decide_eq_true z))⟩
  unfold rk
  rw [hf]
  by_cases c : cntL f q (a - q).toNat = a - q ∧ a - q ≤ 7
  · rw [if_pos c]; omega
  · rw [if_neg c]
    by_cases d : cntL f q (a - q).toNat = 0 ∧ a - q ≤ 2
    · rw [if_pos d]; omega
    · rw [if_neg d]; omega
theorem n256_b {f : Int → Int} {q : Int} : ∀ k : Nat, 0 ≤ n256 f q k ∧ n256 f q k < ((256 ^ k : Nat) : Int)
  | 0 => by show (0 : Int) ≤ 0 ∧ (0 : Int) < ((256 ^ 0 : Nat) : Int); decide
  | k + 1 => by
    have h1 := n256_b (f := f) (q := q) k
    show 0 ≤ n256 f q k * 256 + f (q + k) % 256 ∧ n256 f q k * 256 + f (q + k) % 256 < ((256 ^ (k + 1) : Nat) : Int)
    rw [Nat.pow_succ]
    omega
theorem n256_6 {f : Int → Int} {q : Int} {k : Nat} (h : k ≤ 6) : 0 ≤ n256 f q k ∧ n256 f q k < 281474976710656 := by
  have h1 := n256_b (f := f) (q := q) k
  have h4 : 256 ^ k ≤ 256 ^ 6 := Nat.pow_le_pow_right (by decide) h
  omega
