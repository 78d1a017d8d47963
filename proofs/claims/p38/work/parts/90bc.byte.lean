/-! bytes of a number, as both tapes take them -/
def shI (x y : Int) : Int := (Int32.ofInt x >>> (Int32.ofInt y &&& 31)).toInt
def byI (x : Int) : Int := ((Int32.ofInt x).toInt8.toInt32).toInt
theorem byI_b (x : Int) : -128 ≤ byI x ∧ byI x ≤ 127 := by
  unfold byI
  rw [Int8.toInt_toInt32]
  have h1 := Int8.le_toInt (Int32.ofInt x).toInt8
  have h2 := Int8.toInt_lt (Int32.ofInt x).toInt8
  have e1 : (-2 : Int) ^ 7 = -128 := by decide
  have e2 : (2 : Int) ^ 7 = 128 := by decide
  constructor
  · simpa using h1
  · have : (Int32.ofInt x).toInt8.toInt < 128 := by simpa using h2
    omega
section RowsZ
variable {g : Gp} {X : Cx} {F : Fm} {cells slots pc : Nat} {ls st : List V2} {v ρ : Mv} {Z : Mz}
theorem r_ishrE (hX : okX g X F) (i : Nat) {x y : Int} (hf : (fprg F)[i]? = some (pc, .ishr, 1)) (k : wp g X F cells slots (pc + 1) ls ((0, shI x y) :: st) v ρ Z) : wp g X F cells slots pc ls ((0, y) :: (0, x) :: st) v ρ Z :=
  wp_some _ (fun ad H locs la kk => lv_ishr hX.1 hX.2.1 (hX.dec hf) kk) (fun h => scop_c (scop_c h)) k
theorem r_i2bE (hX : okX g X F) (i : Nat) {x : Int} (hf : (fprg F)[i]? = some (pc, .i2b, 1)) (k : wp g X F cells slots (pc + 1) ls ((0, byI x) :: st) v ρ Z) : wp g X F cells slots pc ls ((0, x) :: st) v ρ Z :=
  wp_some _ (fun ad H locs la kk => lv_i2b hX.1 hX.2.1 (hX.dec hf) rfl kk) (fun h => scop_c h) k
theorem r_icmp_same (hX : okX g X F) (i : Nat) {x y : Int} {tgt : Nat} {off : Int} (hf : (fprg F)[i]? = some (pc, .if_icmp .eq off, 3)) (ht : (pc : Int) + off = (tgt : Int)) (he : x = y) (k : wp g X F cells slots tgt ls st v ρ Z) : wp g X F cells slots pc ls ((0, y) :: (0, x) :: st) v ρ Z := by
  subst he
  exact fun ad H locs la hR h1 h2 hq hv => lv_icmp_eq hX.1 hX.2.1 (hX.dec hf) ht (fun h => k ad H locs la hR (scop_c (scop_c h1)) h2 hq hv) (fun h => absurd rfl h)
end RowsZ
/-- k bytes of x at L -/
def apn (f : Int → Int) (L x : Int) : Nat → Int → Int
  | 0 => f
  | k + 1 => fun j => if j = L + k then byI (shI x (24 - 8 * k)) else apn f L x k j
def ap (f : Int → Int) (L x : Int) : Int → Int := apn f L x 4
def ap5 (f : Int → Int) (L a b c d e : Int) : Int → Int := ap (ap (ap (ap (ap f L a) (L + 4) b) (L + 8) c) (L + 12) d) (L + 16) e
theorem apn_s {f h : Int → Int} {L x i j0 : Int} {k : Nat} (hh : h = apn f L x k) (hj : j0 = L + k) (hi : i = 24 - 8 * k) : (fun j => if j = j0 then byI (shI x i) else h j) = apn f L x (k + 1) := by
  subst hh; subst hj; subst hi
  rfl
theorem up_row {v : Mv} {r k x : Int} : (up v r k x) r = fun j => if j = k then x else v r j := by
  funext j
  by_cases e : j = k
  · rw [if_pos e, e]; exact up_s _ _ _ _
  · rw [if_neg e]; exact up_k e
theorem Sam.bn {n : Int} {f g : Int → Int} {L x : Int} (h : Sam n f g) : ∀ k : Nat, ∀ j, 0 ≤ j → j < n ∨ L ≤ j ∧ j < L + k → apn f L x k j % 256 = apn g L x k j % 256
  | 0, j, h0, h1 => h j h0 (by omega)
  | k + 1, j, h0, h1 => by
    show (if j = L + k then byI (shI x (24 - 8 * k)) else _) % 256 = (if j = L + k then byI (shI x (24 - 8 * k)) else _) % 256
    by_cases e : j = L + k
    · rw [if_pos e, if_pos e]
    · rw [if_neg e, if_neg e]
      exact Sam.bn h k j h0 (by omega)
theorem Sam.b4 {n : Int} {f g : Int → Int} {x : Int} (h : Sam n f g) : Sam (n + 4) (ap f n x) (ap g n x) := fun j h0 h1 => Sam.bn h 4 j h0 (by omega)
theorem Sam.b20 {n : Int} {f g : Int → Int} {a b c d e : Int} (h : Sam n f g) : Sam (n + 20) (ap5 f n a b c d e) (ap5 g n a b c d e) := by
  have h1 := h.b4 (x := a)
  have h2 := h1.b4 (x := b)
  have h3 := h2.b4 (x := c)
  have h4 := h3.b4 (x := d)
  have h5 := h4.b4 (x := e)
  rw [show n + 4 + 4 = n + 8 by omega] at h2 h3 h4 h5
  rw [show n + 8 + 4 = n + 12 by omega] at h3 h4 h5
  rw [show n + 12 + 4 = n + 16 by omega] at h4 h5
  rw [show n + 16 + 4 = n + 20 by omega] at h5
  exact h5
theorem Sam.le {n k : Int} {f g : Int → Int} (h : Sam n f g) (hk : k ≤ n) : Sam k f g := fun j h0 h1 => h j h0 (by omega)
