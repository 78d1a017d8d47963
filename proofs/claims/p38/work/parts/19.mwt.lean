/-! weights, powers, remainders -/
theorem wtF_s {f : Int → Int} {l i : Int} (h : 0 ≤ i) : wtF f l (i + 1).toNat = wtF f l i.toNat * f (17 + 5 * l + f (45 + i)) := by
  rw [show (i + 1).toNat = i.toNat + 1 by omega]
  show wtF f l i.toNat * f (17 + 5 * l + f (45 + (i.toNat : Int))) = _
  rw [Int.toNat_of_nonneg h]
def ldsF (f : Int → Int) : Int := if f 1 = 0 then 1 else f 1
theorem SInv.lds {f : Int → Int} (h : SInv f) : 1 ≤ ldsF f ∧ ldsF f ≤ 3 ∧ ∀ l, 0 ≤ l → l < ldsF f → l = 0 ∨ l < f 1 := by
  have := h.c1
  unfold ldsF
  split <;> refine ⟨by omega, by omega, fun l h0 h1 => by omega⟩
theorem wt_bnd {f : Int → Int} (h : SInv f) {l : Int} (h0 : 0 ≤ l) (h2 : l ≤ 2) : ∀ n : Nat, (n : Int) ≤ 12 → 0 ≤ wtF f l n ∧ wtF f l n ≤ 9 * 12 ^ n
  | 0, _ => by have := h.c14 l h0 h2; show 0 ≤ f (14 + l) ∧ f (14 + l) ≤ 9 * 12 ^ 0; omega
  | n + 1, hn => by
    have ih := wt_bnd h h0 h2 n (by omega)
    have hc := h.c45 n (by omega) (by omega)
    have hf := h.c17 l (f (45 + (n : Int))) h0 h2 hc.1 hc.2
    show 0 ≤ wtF f l n * f (17 + 5 * l + f (45 + (n : Int))) ∧ wtF f l n * f (17 + 5 * l + f (45 + (n : Int))) ≤ 9 * 12 ^ (n + 1)
    refine ⟨Int.mul_nonneg ih.1 hf.1, ?_⟩
    calc wtF f l n * f (17 + 5 * l + f (45 + (n : Int))) ≤ wtF f l n * 12 := Int.mul_le_mul_of_nonneg_left hf.2 ih.1
      _ ≤ (9 * 12 ^ n) * 12 := Int.mul_le_mul_of_nonneg_right ih.2 (by decide)
      _ = 9 * 12 ^ (n + 1) := by rw [Int.pow_succ, Int.mul_assoc]
theorem wt_pos {f : Int → Int} (h : SInv f) {l : Int} (h1 : l = 0 ∨ l < f 1) (h0 : 0 ≤ l) (h2 : l ≤ 2) : ∀ n : Nat, (∀ i, 0 ≤ i → i < (n : Int) → 1 ≤ f (17 + 5 * l + f (45 + i))) → 0 < wtF f l n
  | 0, _ => by have := (h.c14 l h0 h2).2.2 h1; show 0 < f (14 + l); omega
  | n + 1, hi => by
    have ih := wt_pos h h1 h0 h2 n (fun i a b => hi i a (by omega))
    have := hi n (by omega) (by omega)
    show 0 < wtF f l n * f (17 + 5 * l + f (45 + (n : Int)))
    exact Int.mul_pos ih (by omega)
/-- the sum of the first weights -/
def swF (w : Int → Int) : Nat → Int
  | 0 => 0
  | n + 1 => swF w n + w n
theorem swF_s {w : Int → Int} {i : Int} (h : 0 ≤ i) : swF w (i + 1).toNat = swF w i.toNat + w i := by
  rw [show (i + 1).toNat = i.toNat + 1 by omega]
  show swF w i.toNat + w (i.toNat : Int) = _
  rw [Int.toNat_of_nonneg h]
/-- the weights of n cars -/
def WtN (f w : Int → Int) (n : Nat) : Prop := ∀ l, 0 ≤ l → l < ldsF f → w l = wtF f l n
theorem sw_bnd {f w : Int → Int} (h : SInv f) {n : Nat} (hn : (n : Int) ≤ 12) (hw : WtN f w n) : ∀ k : Nat, (k : Int) ≤ ldsF f → 0 ≤ swF w k ∧ swF w k ≤ k * (9 * 12 ^ n)
  | 0, _ => by show (0 : Int) ≤ 0 ∧ (0 : Int) ≤ _; simp
  | k + 1, hk => by
    have ih := sw_bnd h hn hw k (by omega)
    have hl := h.lds
    have e := hw k (by omega) (by omega)
    have b := wt_bnd h (l := k) (by omega) (by omega) n hn
    show 0 ≤ swF w k + w k ∧ swF w k + w k ≤ ((k + 1 : Nat) : Int) * (9 * 12 ^ n)
    rw [e]
    refine ⟨by omega, ?_⟩
    have : ((k + 1 : Nat) : Int) * (9 * 12 ^ n) = (k : Int) * (9 * 12 ^ n) + 9 * 12 ^ n := by
      rw [show ((k + 1 : Nat) : Int) = (k : Int) + 1 from rfl, Int.add_mul, Int.one_mul]
    omega
theorem sw_pos {f w : Int → Int} (h : SInv f) {n : Nat} (hn : (n : Int) ≤ 12) (hw : WtN f w n) {l : Int} (h0 : 0 ≤ l) (h1 : l < ldsF f) (hp : 0 < wtF f l n) : 0 < swF w (ldsF f).toNat := by
  have key : ∀ k : Nat, (k : Int) ≤ ldsF f → l < k → 0 < swF w k := fun k => by
    induction k with
    | zero => intro _ h; omega
    | succ k ih =>
      intro hk hlt
      have b := (sw_bnd h hn hw k (by omega)).1
      have hl := h.lds
      show 0 < swF w k + w k
      by_cases e : l = k
      · have := hw k (by omega) (by omega)
        rw [e] at hp
        omega
      · have e2 := hw k (by omega) (by omega)
        have b2 := (wt_bnd h (l := k) (by omega) (by omega) n hn).1
        have := ih (by omega) (by omega)
        omega
  have hl := h.lds
  exact key _ (by omega) (by omega)
theorem p12 : ∀ n : Nat, n ≤ 12 → (1 : Int) ≤ 12 ^ n ∧ (12 : Int) ^ n ≤ 8916100448256 := by decide
/-- all weights, of what came or of none -/
def WtA (f w : Int → Int) : Prop := WtN f w (f 35).toNat ∨ WtN f w 0
theorem WtA.sum {f w : Int → Int} (h : SInv f) (hw : WtA f w) : 0 < swF w (ldsF f).toNat ∧ ∃ n : Nat, (n : Int) ≤ f 35 ∧ swF w (ldsF f).toNat ≤ 27 * 12 ^ n := by
  have hc := h.c35
  have hl := h.lds
  have fin : ∀ n : Nat, (n : Int) ≤ f 35 → WtN f w n → 0 < swF w (ldsF f).toNat ∧ ∃ n : Nat, (n : Int) ≤ f 35 ∧ swF w (ldsF f).toNat ≤ 27 * 12 ^ n := fun n hn hw => by
    obtain ⟨l, l0, l1, lf⟩ := h.2.1.2.2.2.2.2
    have hlt : l < ldsF f := by unfold ldsF; have := h.c1; split <;> omega
    refine ⟨sw_pos h (by omega) hw l0 hlt (wt_pos h l1 l0 (by omega) n (fun i a b => lf i a (by omega))), n, hn, ?_⟩
    have b := (sw_bnd h (by omega) hw (ldsF f).toNat (by omega)).2
    have hp := (p12 n (by omega)).1
    have : (((ldsF f).toNat : Nat) : Int) * (9 * 12 ^ n) ≤ 3 * (9 * 12 ^ n) := Int.mul_le_mul_of_nonneg_right (by omega) (by omega)
    omega
  rcases hw with hw | hw
  · exact fin _ (by omega) hw
  · exact fin 0 (by omega) hw
/-- a long's remainder -/
theorem ol_tmod {x y : Int} (hx : inL x) (hy : inL y) (h0 : y ≠ 0) : (Int64.ofInt x - Int64.ofInt x / Int64.ofInt y * Int64.ofInt y).toInt = x.tmod y := by
  have e1 := ol hx
  have e2 := ol hy
  have hm : (x.tmod y).natAbs < y.natAbs := by
    rw [Int.natAbs_tmod]
    exact Nat.mod_lt _ (by omega)
  rw [Int64.toInt_sub, Int64.toInt_mul, Int64.toInt_div, e1, e2]
  have key : x - x.tdiv y * y = x.tmod y := by
    have := Int.tmod_add_tdiv_mul x y
    omega
  have h64 : ((2 ^ 64 : Nat) : Int) = 18446744073709551616 := by decide
  rw [Int.bmod_mul_bmod, Int.sub_bmod_bmod, key]
  apply Int.bmod_eq_of_le <;> simp <;> omega
section
variable {g : Gp} {X : Cx} {F : Fm} {cells slots pc : Nat} {ls st : List V2} {v ρ : Mv} {Z : Mz}
theorem r_lremT (hX : okX g X F) (i : Nat) {x y : Int} (hf : (fprg F)[i]? = some (pc, .lrem, 1)) (hx : inL x) (hy : inL y) (hy0 : y ≠ 0) (k : inL (x.tmod y) → wp g X F cells slots (pc + 1) ls ((1, x.tmod y) :: st) v ρ Z) : wp g X F cells slots pc ls ((1, y) :: (1, x) :: st) v ρ Z :=
  wp_someL _ (fun ad H locs la kk => lv_lrem hX.1 hX.2.1 (hX.dec hf) (ol_ne0 hy hy0) kk) (fun h => scop_c (scop_c h)) (by rw [ol_tmod hx hy hy0]; exact k (by rw [← ol_tmod hx hy hy0]; exact inL_t _))
end
theorem wt_inv {f : Int → Int} (h : SInv f) {l : Int} (h0 : 0 ≤ l) (h2 : l ≤ 2) : ∀ n : Nat, (n : Int) ≤ 12 → 0 < wtF f l n → ∀ i, 0 ≤ i → i < (n : Int) → 1 ≤ f (17 + 5 * l + f (45 + i))
  | 0, _, _ => fun i a b => by omega
  | n + 1, hn, hp => fun i a b => by
    have b0 := (wt_bnd h h0 h2 n (by omega)).1
    have hc := h.c45 n (by omega) (by omega)
    have hf := h.c17 l (f (45 + (n : Int))) h0 h2 hc.1 hc.2
    have hp : 0 < wtF f l n * f (17 + 5 * l + f (45 + (n : Int))) := hp
    have p1 : 0 < wtF f l n := by
      rcases Int.lt_or_eq_of_le b0 with q | q
      · exact q
      · rw [← q, Int.zero_mul] at hp; omega
    have p2 : 0 < f (17 + 5 * l + f (45 + (n : Int))) := by
      rcases Int.lt_or_eq_of_le hf.1 with q | q
      · exact q
      · rw [← q, Int.mul_zero] at hp; omega
    by_cases e : i = n
    · subst e; omega
    · exact wt_inv h h0 h2 n (by omega) p1 i a (by omega)
theorem wt_in {f w : Int → Int} (h : SInv f) {n : Nat} (hn : (n : Int) ≤ 12) (hw : WtN f w n) {l : Int} (h0 : 0 ≤ l) (h1 : l < ldsF f) : 0 ≤ w l ∧ w l ≤ 80244904034304 := by
  have hl := h.lds
  rw [hw l h0 h1]
  have b := wt_bnd h h0 (by omega) n hn
  have := (p12 n (by omega)).2
  omega
def ChI (f : Int → Int) : Prop := ∀ i, 0 ≤ i → i ≤ 2 → -1 ≤ f i ∧ f i ≤ 3
def CsI (f : Int → Int) : Prop := ∀ i, 0 ≤ i → i ≤ 2 → 0 ≤ f i ∧ f i ≤ 2
/-- all weights W, with lf cars to come: their product is a positive long -/
def TotOK (W lf : Int) : Prop := 0 < W ∧ ∃ n : Nat, (n : Int) + lf ≤ 12 ∧ W ≤ 27 * 12 ^ n
theorem TotOK.tot {W lf : Int} (h : TotOK W lf) (h0 : 0 ≤ lf) : 0 < W * 12 ^ lf.toNat ∧ W * 12 ^ lf.toNat ≤ 240734712102912 := by
  obtain ⟨hp, n, hn, hw⟩ := h
  have b := p12 lf.toNat (by omega)
  refine ⟨Int.mul_pos hp (by omega), ?_⟩
  calc W * 12 ^ lf.toNat ≤ (27 * 12 ^ n) * 12 ^ lf.toNat := Int.mul_le_mul_of_nonneg_right hw (by omega)
    _ = 27 * 12 ^ (n + lf.toNat) := by rw [Int.mul_assoc, ← Int.pow_add]
    _ ≤ 27 * 8916100448256 := Int.mul_le_mul_of_nonneg_left (p12 (n + lf.toNat) (by omega)).2 (by decide)
    _ = 240734712102912 := by decide
theorem WtN.sum {f w : Int → Int} (h : SInv f) {n : Nat} (hn : (n : Int) ≤ f 35) (hw : WtN f w n) : 0 < swF w (ldsF f).toNat ∧ swF w (ldsF f).toNat ≤ 27 * 12 ^ n := by
  have hc := h.c35
  have hl := h.lds
  obtain ⟨l, l0, l1, lf⟩ := h.2.1.2.2.2.2.2
  have hlt : l < ldsF f := by unfold ldsF; have := h.c1; split <;> omega
  refine ⟨sw_pos h (by omega) hw l0 hlt (wt_pos h l1 l0 (by omega) n (fun i a b => lf i a (by omega))), ?_⟩
  have b := (sw_bnd h (by omega) hw (ldsF f).toNat (by omega)).2
  have hp := (p12 n (by omega)).1
  have : (((ldsF f).toNat : Nat) : Int) * (9 * 12 ^ n) ≤ 3 * (9 * 12 ^ n) := Int.mul_le_mul_of_nonneg_right (by omega) (by omega)
  omega
theorem WtN.rng {f w : Int → Int} (h : SInv f) {n : Nat} (hn : (n : Int) ≤ f 35) (hw : WtN f w n) : 0 < swF w (ldsF f).toNat ∧ swF w (ldsF f).toNat ≤ 240734712102912 := by
  have hc := h.c35
  have s := hw.sum h hn
  have := (p12 n (by omega)).2
  omega
theorem TotOK.now {f w : Int → Int} (h : SInv f) (hw : WtN f w (f 35).toNat) : TotOK (swF w (ldsF f).toNat) (f 4 - f 35) := by
  have hc := h.c35
  have h4 := h.c4
  have s := hw.sum h (by omega)
  exact ⟨s.1, (f 35).toNat, by omega, s.2⟩
theorem TotOK.first {f w : Int → Int} (h : SInv f) (hw : WtN f w 0) : TotOK (swF w (ldsF f).toNat) (f 4) := by
  have hc := h.c35
  have h4 := h.c4
  have s := hw.sum h (by omega)
  exact ⟨s.1, 0, by omega, s.2⟩
theorem nowP {v v1 v2 : Mv} (hS : SInv (v 180)) (f1 : v1 180 = v 180) (hw : WtN (v 180) (v1 189) (v 180 35).toNat) (f2 : v2 180 = v1 180) (f3 : v2 189 = v1 189) (ha : AsN v1 v2) : ScI (v2 185) ∧ OwI (v2 186) ∧ (∀ q, 0 ≤ q → q ≤ 2 → v2 180 2 ≤ q → v2 185 q ≤ 8) ∧ TotOK (swF (v2 189) (ldsF (v2 180)).toNat) (v2 180 4 - v2 180 35) := by
  have hS1 : SInv (v1 180) := by rw [f1]; exact hS
  refine ⟨ha.sc hS1, ha.2.1, fun q h0 h1 h2 => ?_, ?_⟩
  · rw [ha.1 q h0 h1]
    rw [f2] at h2
    exact (hS1.c42 q h0 h1).2.2.1 h2
  · rw [f3, f2, f1]
    exact TotOK.now hS hw
theorem ChI.st {v : Mv} (h : ChI (v 195)) {k x : Int} (h1 : -1 ≤ x) (h2 : x ≤ 3) : ChI (up v 195 k x 195) := fun i h0 h3 => by
  unfold up; split
  · exact ⟨h1, h2⟩
  · exact h i h0 h3
theorem CsI.st {v : Mv} (h : CsI (v 194)) {k x : Int} (h1 : 0 ≤ x) (h2 : x ≤ 2) : CsI (up v 194 k x 194) := fun i h0 h3 => by
  unfold up; split
  · exact ⟨h1, h2⟩
  · exact h i h0 h3
theorem OwI.st {v : Mv} (h : OwI (v 186)) {k x : Int} (hk : k ≤ 3) (h1 : -1 ≤ x) (h2 : x ≤ 2) : OwI (up v 186 k x 186) := fun i h0 h3 => by
  unfold up; split
  · rename_i e
    exact ⟨h1, h2, fun q => by omega⟩
  · exact h i h0 h3
theorem ScI.st {v : Mv} (h : ScI (v 185)) {k x : Int} (h1 : 0 ≤ x) (h2 : x ≤ 400) : ScI (up v 185 k x 185) := fun i h0 h3 => by
  unfold up; split
  · exact ⟨h1, h2⟩
  · exact h i h0 h3
theorem dpF_congr {f g : Int → Int} (h : ∀ k, 58 ≤ k → f k = g k) : ∀ n : Nat, dpF f n = dpF g n
  | 0 => rfl
  | n + 1 => by
    show dpF f n + _ = dpF g n + _
    rw [dpF_congr h n, h (58 + 3 * (n : Int)) (by omega)]
theorem CInv.congr {f g : Int → Int} (h : ∀ k, 57 ≤ k → f k = g k) (hc : CInv f) : CInv g := by
  refine ⟨by rw [← h 57 (by omega)]; exact hc.1, by rw [← h 57 (by omega)]; exact hc.2.1, fun n hn => ?_⟩
  have e := dpF_congr (fun k hk => h k (by omega)) n
  have := hc.2.2 n (by rw [h 57 (by omega)]; exact hn)
  rw [e, h (58 + 3 * (n : Int)) (by omega)] at this
  exact this
/-- another goal -/
theorem SInv.goal {f g : Int → Int} (h : SInv f) (hg : ∀ k, k ≠ 3 → g k = f k) (h3 : 1 ≤ g 3 ∧ g 3 ≤ 9) : SInv g := by
  obtain ⟨⟨a0, a1, a2, a3, a4, a5, a6, a7, a8, a9, a10, a11⟩, ⟨b0, b1, b2, b3, b4, l, l0, l1, l2⟩, c⟩ := h
  refine ⟨⟨by rw [hg 0 (by omega)]; exact a0, by rw [hg 1 (by omega)]; exact a1, by rw [hg 2 (by omega)]; exact a2, h3, by rw [hg 4 (by omega)]; exact a4, by rw [hg 5 (by omega)]; exact a5, fun c h0 h1 => by rw [hg _ (by omega)]; exact a6 c h0 h1, fun c h0 h1 => by rw [hg _ (by omega)]; exact a7 c h0 h1, fun l h0 h1 => by rw [hg (14 + l) (by omega), hg 1 (by omega)]; exact a8 l h0 h1, fun l c h0 h1 h2 h3 => by rw [hg _ (by omega)]; exact a9 l c h0 h1 h2 h3, fun l h0 h1 => by rw [hg _ (by omega), hg _ (by omega), hg _ (by omega), hg _ (by omega), hg _ (by omega)]; exact a10 l h0 h1, fun q h0 h1 => by rw [hg _ (by omega)]; exact a11 q h0 h1⟩,
    ⟨by rw [hg 35 (by omega), hg 4 (by omega)]; exact b0, fun q h0 h1 => by rw [hg (36 + q) (by omega), hg 0 (by omega)]; exact b1 q h0 h1, fun q h0 h1 => by rw [hg _ (by omega)]; exact b2 q h0 h1, fun q h0 h1 => by rw [hg (42 + q) (by omega), hg 35 (by omega), hg 2 (by omega)]; exact b3 q h0 h1, fun i h0 h1 => by rw [hg _ (by omega)]; exact b4 i h0 h1, l, l0, by rw [hg 1 (by omega)]; exact l1, fun i h0 h1 => ?_⟩, c.congr (fun k hk => (hg k (by omega)).symm)⟩
  rw [hg 35 (by omega)] at h1
  have z := l2 i h0 h1
  have hb := b4 i h0 (by omega)
  rw [hg (45 + i) (by omega), hg _ (by omega)]
  exact z
