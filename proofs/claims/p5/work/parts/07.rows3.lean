section RowsC
variable {g : Gp} {X : Cx} {F : Fm} {cells slots pc : Nat} {ls st : List V2} {v ρ : Mv} {Z : Mz}
theorem tr_t (ad : Int → Nat) (e : Int32) : tr ad (0, e.toInt) = .int e := by rw [tr_i, Int32.ofInt_toInt]
theorem tr_tl (ad : Int → Nat) (e : Int64) : tr ad (1, e.toInt) = .long e := by rw [tr_l, Int64.ofInt_toInt]
/-- a step that pushes some int -/
theorem wp_some {pc' : Nat} {st' : List V2} (e : Int32) (hs : ∀ (ad : Int → Nat) (H : Heap) (locs : List Loc) (la : Array Slot), W (xp X) (gL g) (xe X) (xR X) (xs X) (xm X) (xa X) (xb X) (xt X) (xc X) H locs cells slots (xq X) (F0 (xm X) pc' la (.int e :: st'.map (tr ad))) → W (xp X) (gL g) (xe X) (xR X) (xs X) (xm X) (xa X) (xb X) (xt X) (xc X) H locs cells slots (xq X) (F0 (xm X) pc la (st.map (tr ad))))
    (hc : scop Z st → scop Z st') (k : wp g X F cells slots pc' ls ((0, e.toInt) :: st') v ρ Z) : wp g X F cells slots pc ls st v ρ Z := fun ad H locs la hR h1 h2 hq hv => hs ad H locs la (by have h := k ad H locs la hR (scop_i (hc h1)) h2 hq hv; rw [List.map_cons, tr_t] at h; exact h)
theorem wp_someL {pc' : Nat} {st' : List V2} (e : Int64) (hs : ∀ (ad : Int → Nat) (H : Heap) (locs : List Loc) (la : Array Slot), W (xp X) (gL g) (xe X) (xR X) (xs X) (xm X) (xa X) (xb X) (xt X) (xc X) H locs cells slots (xq X) (F0 (xm X) pc' la (.long e :: st'.map (tr ad))) → W (xp X) (gL g) (xe X) (xR X) (xs X) (xm X) (xa X) (xb X) (xt X) (xc X) H locs cells slots (xq X) (F0 (xm X) pc la (st.map (tr ad))))
    (hc : scop Z st → scop Z st') (k : wp g X F cells slots pc' ls ((1, e.toInt) :: st') v ρ Z) : wp g X F cells slots pc ls st v ρ Z := fun ad H locs la hR h1 h2 hq hv => hs ad H locs la (by have h := k ad H locs la hR (scop_l (hc h1)) h2 hq hv; rw [List.map_cons, tr_tl] at h; exact h)
theorem r_iand_any (hX : okX g X F) (i : Nat) {x y : Int} (hf : (fprg F)[i]? = some (pc, .iand, 1)) (k : ∀ z : Int, inR z → wp g X F cells slots (pc + 1) ls ((0, z) :: st) v ρ Z) : wp g X F cells slots pc ls ((0, y) :: (0, x) :: st) v ρ Z :=
  wp_some _ (fun ad H locs la kk => lv_iand hX.1 hX.2.1 (hX.dec hf) kk) (fun h => scop_c (scop_c h)) (k _ (inR_t _))
theorem r_ior_any (hX : okX g X F) (i : Nat) {x y : Int} (hf : (fprg F)[i]? = some (pc, .ior, 1)) (k : ∀ z : Int, inR z → wp g X F cells slots (pc + 1) ls ((0, z) :: st) v ρ Z) : wp g X F cells slots pc ls ((0, y) :: (0, x) :: st) v ρ Z :=
  wp_some _ (fun ad H locs la kk => lv_ior hX.1 hX.2.1 (hX.dec hf) kk) (fun h => scop_c (scop_c h)) (k _ (inR_t _))
theorem r_ixor_any (hX : okX g X F) (i : Nat) {x y : Int} (hf : (fprg F)[i]? = some (pc, .ixor, 1)) (k : ∀ z : Int, inR z → wp g X F cells slots (pc + 1) ls ((0, z) :: st) v ρ Z) : wp g X F cells slots pc ls ((0, y) :: (0, x) :: st) v ρ Z :=
  wp_some _ (fun ad H locs la kk => lv_ixor hX.1 hX.2.1 (hX.dec hf) kk) (fun h => scop_c (scop_c h)) (k _ (inR_t _))
theorem r_ishl_any (hX : okX g X F) (i : Nat) {x y : Int} (hf : (fprg F)[i]? = some (pc, .ishl, 1)) (k : ∀ z : Int, inR z → wp g X F cells slots (pc + 1) ls ((0, z) :: st) v ρ Z) : wp g X F cells slots pc ls ((0, y) :: (0, x) :: st) v ρ Z :=
  wp_some _ (fun ad H locs la kk => lv_ishl hX.1 hX.2.1 (hX.dec hf) kk) (fun h => scop_c (scop_c h)) (k _ (inR_t _))
theorem r_ishr_any (hX : okX g X F) (i : Nat) {x y : Int} (hf : (fprg F)[i]? = some (pc, .ishr, 1)) (k : ∀ z : Int, inR z → wp g X F cells slots (pc + 1) ls ((0, z) :: st) v ρ Z) : wp g X F cells slots pc ls ((0, y) :: (0, x) :: st) v ρ Z :=
  wp_some _ (fun ad H locs la kk => lv_ishr hX.1 hX.2.1 (hX.dec hf) kk) (fun h => scop_c (scop_c h)) (k _ (inR_t _))
theorem r_iushr_any (hX : okX g X F) (i : Nat) {x y : Int} (hf : (fprg F)[i]? = some (pc, .iushr, 1)) (k : ∀ z : Int, inR z → wp g X F cells slots (pc + 1) ls ((0, z) :: st) v ρ Z) : wp g X F cells slots pc ls ((0, y) :: (0, x) :: st) v ρ Z :=
  wp_some _ (fun ad H locs la kk => lv_iushr hX.1 hX.2.1 (hX.dec hf) rfl kk) (fun h => scop_c (scop_c h)) (k _ (inR_t _))
theorem nI_oi (n : Nat) : nI n = Int32.ofInt (n : Int) := rfl
theorem lN_ol (n : Nat) : lN n = Int64.ofInt (n : Int) := rfl
theorem oi_nI {x : Int} (h : 0 ≤ x) : Int32.ofInt x = nI x.toNat := by rw [nI_oi, Int.toNat_of_nonneg h]
theorem ol_lN {x : Int} (h : 0 ≤ x) : Int64.ofInt x = lN x.toNat := by rw [lN_ol, Int.toNat_of_nonneg h]
theorem oi_bv (x : Int) : (Int32.ofInt x).toBitVec = BitVec.ofInt 32 x := rfl
theorem ushr_rng {x s : Int32} (k : Nat) (hs : ((s.toUInt32 &&& Int32.toUInt32 31).toBitVec % 32).toNat = k) (hk : 1 ≤ k) : 0 ≤ ((x.toUInt32 >>> (s.toUInt32 &&& Int32.toUInt32 31)).toInt32).toInt ∧ ((x.toUInt32 >>> (s.toUInt32 &&& Int32.toUInt32 31)).toInt32).toInt < 2 ^ (32 - k) := by
  have h := pk_ushr x s k hs
  generalize (x.toUInt32 >>> (s.toUInt32 &&& Int32.toUInt32 31)).toInt32 = e at h ⊢
  have hx := x.toBitVec.isLt
  have hk2 : k < 32 := by
    rw [← hs, BitVec.toNat_umod]
    exact Nat.mod_lt _ (by decide)
  have hp : 2 ^ 32 = 2 ^ (32 - k) * 2 ^ k := by rw [← Nat.pow_add]; congr 1; omega
  have h2 : e.toBitVec.toNat < 2 ^ (32 - k) := by
    rw [h]
    exact Nat.div_lt_of_lt_mul (by rw [Nat.mul_comm, ← hp]; exact hx)
  have h3 : (2 : Nat) ^ (32 - k) ≤ 2 ^ 31 := Nat.pow_le_pow_right (by decide) (by omega)
  have h4 : e.toInt = (e.toBitVec.toNat : Int) := by
    rw [← Int32.toInt_toBitVec, BitVec.toInt_eq_toNat_of_lt (by omega)]
  rw [h4]
  exact ⟨by omega, by exact_mod_cast h2⟩
theorem r_iushr8 (hX : okX g X F) (i : Nat) {x : Int} (hf : (fprg F)[i]? = some (pc, .iushr, 1)) (k : ∀ z : Int, 0 ≤ z → z < 16777216 → wp g X F cells slots (pc + 1) ls ((0, z) :: st) v ρ Z) : wp g X F cells slots pc ls ((0, 8) :: (0, x) :: st) v ρ Z :=
  wp_some _ (fun ad H locs la kk => lv_iushr hX.1 hX.2.1 (hX.dec hf) rfl kk) (fun h => scop_c (scop_c h)) (k _ (ushr_rng 8 (by decide) (by decide)).1 (ushr_rng 8 (by decide) (by decide)).2)
theorem oi_and (x : Int) (k : Nat) (hk : k ≤ 30) : Int32.ofInt x &&& Int32.ofInt ((2 ^ k - 1 : Nat) : Int) = Int32.ofInt (x % 2 ^ k) := by
  have hlt : 2 ^ k ≤ 2 ^ 30 := Nat.pow_le_pow_right (by decide) hk
  have hpos : 0 < 2 ^ k := Nat.pow_pos (by decide)
  rw [pk_and (Int32.ofInt x) (m := Int32.ofInt ((2 ^ k - 1 : Nat) : Int)) k (by rw [← nI_oi, pk_tn (by omega)])]
  rw [nI_oi]
  congr 1
  rw [oi_bv, BitVec.toNat_ofInt]
  have h1 : (0 : Int) ≤ x % ((2 ^ 32 : Nat) : Int) := Int.emod_nonneg _ (by decide)
  rw [Int.natCast_emod, Int.toNat_of_nonneg h1]
  have hd : ((2 ^ k : Nat) : Int) ∣ ((2 ^ 32 : Nat) : Int) := Int.natCast_dvd_natCast.mpr (Nat.pow_dvd_pow 2 (by omega))
  rw [Int.emod_emod_of_dvd _ hd]
  norm_cast
theorem r_iandm (hX : okX g X F) (i : Nat) {x y m : Int} (k : Nat) (hf : (fprg F)[i]? = some (pc, .iand, 1)) (hk : k ≤ 30) (hy : y = ((2 ^ k - 1 : Nat) : Int)) (hm : m = 2 ^ k) (kk : wp g X F cells slots (pc + 1) ls ((0, x % m) :: st) v ρ Z) : wp g X F cells slots pc ls ((0, y) :: (0, x) :: st) v ρ Z := by
  subst hy; subst hm
  exact wp_pure (fun ad H locs la hv kk => lv_iand hX.1 hX.2.1 (hX.dec hf) (by rw [List.map_cons, tr_i, ← oi_and x k hk] at kk; exact kk)) (fun h1 h2 => scop_i (scop_c (scop_c h1))) kk
theorem oi_div {x y : Int} (hx : inR x) (hx0 : 0 ≤ x) (hy : inR y) (hy0 : 0 < y) : Int32.ofInt x / Int32.ofInt y = Int32.ofInt (x / y) := by
  rw [oi_nI hx0, oi_nI (by omega : 0 ≤ y), pk_div (by have := hx.2; omega) (by omega) (by have := hy.2; omega), nI_oi, Int.natCast_ediv, Int.toNat_of_nonneg hx0, Int.toNat_of_nonneg (by omega)]
theorem oi_rem {x y : Int} (hx : inR x) (hx0 : 0 ≤ x) (hy : inR y) (hy0 : 0 < y) : Int32.ofInt x - Int32.ofInt x / Int32.ofInt y * Int32.ofInt y = Int32.ofInt (x % y) := by
  rw [oi_nI hx0, oi_nI (by omega : 0 ≤ y), pk_rem (by have := hx.2; omega) (by omega) (by have := hy.2; omega), nI_oi, Int.natCast_emod, Int.toNat_of_nonneg hx0, Int.toNat_of_nonneg (by omega)]
theorem ol_div {x y : Int} (hx : inL x) (hx0 : 0 ≤ x) (hy : inL y) (hy0 : 0 < y) : Int64.ofInt x / Int64.ofInt y = Int64.ofInt (x / y) := by
  rw [ol_lN hx0, ol_lN (by omega : 0 ≤ y), pk_lDiv (by have := hx.2; omega) (by omega) (by have := hy.2; omega), lN_ol, Int.natCast_ediv, Int.toNat_of_nonneg hx0, Int.toNat_of_nonneg (by omega)]
theorem ol_rem {x y : Int} (hx : inL x) (hx0 : 0 ≤ x) (hy : inL y) (hy0 : 0 < y) : Int64.ofInt x - Int64.ofInt x / Int64.ofInt y * Int64.ofInt y = Int64.ofInt (x % y) := by
  rw [ol_lN hx0, ol_lN (by omega : 0 ≤ y), pk_lRem (by have := hx.2; omega) (by omega) (by have := hy.2; omega), lN_ol, Int.natCast_emod, Int.toNat_of_nonneg hx0, Int.toNat_of_nonneg (by omega)]
theorem oi_ne0 {y : Int} (hy : inR y) (h : y ≠ 0) : ¬ Int32.ofInt y = 0 := fun q => h ((oi_eq hy inR0).mp q)
theorem ol_ne0 {y : Int} (hy : inL y) (h : y ≠ 0) : ¬ Int64.ofInt y = 0 := fun q => h ((ol_eq hy ⟨by decide, by decide⟩).mp q)
theorem r_idiv (hX : okX g X F) (i : Nat) {x y : Int} (hf : (fprg F)[i]? = some (pc, .idiv, 1)) (hx : inR x) (hx0 : 0 ≤ x) (hy : inR y) (hy0 : 0 < y) (k : wp g X F cells slots (pc + 1) ls ((0, x / y) :: st) v ρ Z) : wp g X F cells slots pc ls ((0, y) :: (0, x) :: st) v ρ Z :=
  wp_pure (fun ad H locs la hv kk => lv_idiv hX.1 hX.2.1 (hX.dec hf) (oi_ne0 hy (by omega)) (by rw [List.map_cons, tr_i, ← oi_div hx hx0 hy hy0] at kk; exact kk)) (fun h1 h2 => scop_i (scop_c (scop_c h1))) k
theorem r_idiv_any (hX : okX g X F) (i : Nat) {x y : Int} (hf : (fprg F)[i]? = some (pc, .idiv, 1)) (hy : inR y) (hy0 : y ≠ 0) (k : ∀ z : Int, inR z → wp g X F cells slots (pc + 1) ls ((0, z) :: st) v ρ Z) : wp g X F cells slots pc ls ((0, y) :: (0, x) :: st) v ρ Z :=
  wp_some _ (fun ad H locs la kk => lv_idiv hX.1 hX.2.1 (hX.dec hf) (oi_ne0 hy hy0) kk) (fun h => scop_c (scop_c h)) (k _ (inR_t _))
theorem r_irem (hX : okX g X F) (i : Nat) {x y : Int} (hf : (fprg F)[i]? = some (pc, .irem, 1)) (hx : inR x) (hx0 : 0 ≤ x) (hy : inR y) (hy0 : 0 < y) (k : wp g X F cells slots (pc + 1) ls ((0, x % y) :: st) v ρ Z) : wp g X F cells slots pc ls ((0, y) :: (0, x) :: st) v ρ Z :=
  wp_pure (fun ad H locs la hv kk => lv_irem hX.1 hX.2.1 (hX.dec hf) (oi_ne0 hy (by omega)) (by rw [List.map_cons, tr_i, ← oi_rem hx hx0 hy hy0] at kk; exact kk)) (fun h1 h2 => scop_i (scop_c (scop_c h1))) k
theorem r_irem_any (hX : okX g X F) (i : Nat) {x y : Int} (hf : (fprg F)[i]? = some (pc, .irem, 1)) (hy : inR y) (hy0 : y ≠ 0) (k : ∀ z : Int, inR z → wp g X F cells slots (pc + 1) ls ((0, z) :: st) v ρ Z) : wp g X F cells slots pc ls ((0, y) :: (0, x) :: st) v ρ Z :=
  wp_some _ (fun ad H locs la kk => lv_irem hX.1 hX.2.1 (hX.dec hf) (oi_ne0 hy hy0) kk) (fun h => scop_c (scop_c h)) (k _ (inR_t _))
theorem r_ldiv (hX : okX g X F) (i : Nat) {x y : Int} (hf : (fprg F)[i]? = some (pc, .ldiv, 1)) (hx : inL x) (hx0 : 0 ≤ x) (hy : inL y) (hy0 : 0 < y) (k : wp g X F cells slots (pc + 1) ls ((1, x / y) :: st) v ρ Z) : wp g X F cells slots pc ls ((1, y) :: (1, x) :: st) v ρ Z :=
  wp_pure (fun ad H locs la hv kk => lv_ldiv hX.1 hX.2.1 (hX.dec hf) (ol_ne0 hy (by omega)) (by rw [List.map_cons, tr_l, ← ol_div hx hx0 hy hy0] at kk; exact kk)) (fun h1 h2 => scop_l (scop_c (scop_c h1))) k
theorem r_ldiv_any (hX : okX g X F) (i : Nat) {x y : Int} (hf : (fprg F)[i]? = some (pc, .ldiv, 1)) (hy : inL y) (hy0 : y ≠ 0) (k : ∀ z : Int, inL z → wp g X F cells slots (pc + 1) ls ((1, z) :: st) v ρ Z) : wp g X F cells slots pc ls ((1, y) :: (1, x) :: st) v ρ Z :=
  wp_someL _ (fun ad H locs la kk => lv_ldiv hX.1 hX.2.1 (hX.dec hf) (ol_ne0 hy hy0) kk) (fun h => scop_c (scop_c h)) (k _ (inL_t _))
theorem r_lrem (hX : okX g X F) (i : Nat) {x y : Int} (hf : (fprg F)[i]? = some (pc, .lrem, 1)) (hx : inL x) (hx0 : 0 ≤ x) (hy : inL y) (hy0 : 0 < y) (k : wp g X F cells slots (pc + 1) ls ((1, x % y) :: st) v ρ Z) : wp g X F cells slots pc ls ((1, y) :: (1, x) :: st) v ρ Z :=
  wp_pure (fun ad H locs la hv kk => lv_lrem hX.1 hX.2.1 (hX.dec hf) (ol_ne0 hy (by omega)) (by rw [List.map_cons, tr_l, ← ol_rem hx hx0 hy hy0] at kk; exact kk)) (fun h1 h2 => scop_l (scop_c (scop_c h1))) k
theorem r_lrem_any (hX : okX g X F) (i : Nat) {x y : Int} (hf : (fprg F)[i]? = some (pc, .lrem, 1)) (hy : inL y) (hy0 : y ≠ 0) (k : ∀ z : Int, inL z → wp g X F cells slots (pc + 1) ls ((1, z) :: st) v ρ Z) : wp g X F cells slots pc ls ((1, y) :: (1, x) :: st) v ρ Z :=
  wp_someL _ (fun ad H locs la kk => lv_lrem hX.1 hX.2.1 (hX.dec hf) (ol_ne0 hy hy0) kk) (fun h => scop_c (scop_c h)) (k _ (inL_t _))
theorem oi_l {x : Int} (hx : inR x) : (Int32.ofInt x).toInt64 = Int64.ofInt x := by
  apply Int64.toInt_inj.mp
  rw [Int32.toInt_toInt64, oi hx, ol ⟨by have := hx.1; omega, by have := hx.2; omega⟩]
theorem r_i2l (hX : okX g X F) (i : Nat) {x : Int} (hf : (fprg F)[i]? = some (pc, .i2l, 1)) (hx : inR x) (k : wp g X F cells slots (pc + 1) ls ((1, x) :: st) v ρ Z) : wp g X F cells slots pc ls ((0, x) :: st) v ρ Z :=
  wp_pure (fun ad H locs la hv kk => lv_i2l hX.1 hX.2.1 (hX.dec hf) (oi_l hx) kk) (fun h1 h2 => scop_l (scop_c h1)) k
theorem r_i2l_any (hX : okX g X F) (i : Nat) {x : Int} (hf : (fprg F)[i]? = some (pc, .i2l, 1)) (k : ∀ z : Int, inR z → wp g X F cells slots (pc + 1) ls ((1, z) :: st) v ρ Z) : wp g X F cells slots pc ls ((0, x) :: st) v ρ Z :=
  wp_someL _ (fun ad H locs la kk => lv_i2l hX.1 hX.2.1 (hX.dec hf) rfl kk) (fun h => scop_c h) (k _ (by rw [Int32.toInt_toInt64]; exact inR_t _))
theorem r_i2b_any (hX : okX g X F) (i : Nat) {x : Int} (hf : (fprg F)[i]? = some (pc, .i2b, 1)) (k : ∀ z : Int, -128 ≤ z → z < 128 → wp g X F cells slots (pc + 1) ls ((0, z) :: st) v ρ Z) : wp g X F cells slots pc ls ((0, x) :: st) v ρ Z :=
  wp_some _ (fun ad H locs la kk => lv_i2b hX.1 hX.2.1 (hX.dec hf) rfl kk) (fun h => scop_c h) (k _ (by rw [Int8.toInt_toInt32]; have := Int8.le_toInt (Int32.ofInt x).toInt8; simpa using this) (by rw [Int8.toInt_toInt32]; have := Int8.toInt_lt (Int32.ofInt x).toInt8; simpa using this))
theorem r_lneg (hX : okX g X F) (i : Nat) {x : Int} (hf : (fprg F)[i]? = some (pc, .lneg, 1)) (k : wp g X F cells slots (pc + 1) ls ((1, -x) :: st) v ρ Z) : wp g X F cells slots pc ls ((1, x) :: st) v ρ Z :=
  wp_pure (fun ad H locs la hv kk => lv_lneg hX.1 hX.2.1 (hX.dec hf) (by rw [List.map_cons, tr_l, Int64.ofInt_neg] at kk; exact kk)) (fun h1 h2 => scop_l (scop_c h1)) k
theorem r_lor_any (hX : okX g X F) (i : Nat) {x y : Int} (hf : (fprg F)[i]? = some (pc, .lor, 1)) (k : ∀ z : Int, inL z → wp g X F cells slots (pc + 1) ls ((1, z) :: st) v ρ Z) : wp g X F cells slots pc ls ((1, y) :: (1, x) :: st) v ρ Z :=
  wp_someL _ (fun ad H locs la kk => lv_lor hX.1 hX.2.1 (hX.dec hf) kk) (fun h => scop_c (scop_c h)) (k _ (inL_t _))
theorem r_lshl_any (hX : okX g X F) (i : Nat) {x y : Int} (hf : (fprg F)[i]? = some (pc, .lshl, 1)) (k : ∀ z : Int, inL z → wp g X F cells slots (pc + 1) ls ((1, z) :: st) v ρ Z) : wp g X F cells slots pc ls ((0, y) :: (1, x) :: st) v ρ Z :=
  wp_someL _ (fun ad H locs la kk => lv_lshl hX.1 hX.2.1 (hX.dec hf) rfl kk) (fun h => scop_c (scop_c h)) (k _ (inL_t _))
/-- a long is some number of its range -/
theorem r_lany (x : Int) (k : ∀ z : Int, inL z → wp g X F cells slots pc ls ((1, z) :: st) v ρ Z) : wp g X F cells slots pc ls ((1, x) :: st) v ρ Z := fun ad H locs la hR h1 h2 hq hv => by
  have h := k (Int64.ofInt x).toInt (inL_t _) ad H locs la hR (scop_l (scop_c h1)) h2 hq hv
  rw [List.map_cons, tr_tl] at h
  exact h
theorem r_iany (x : Int) (k : ∀ z : Int, inR z → wp g X F cells slots pc ls ((0, z) :: st) v ρ Z) : wp g X F cells slots pc ls ((0, x) :: st) v ρ Z := fun ad H locs la hR h1 h2 hq hv => by
  have h := k (Int32.ofInt x).toInt (inR_t _) ad H locs la hR (scop_i (scop_c h1)) h2 hq hv
  rw [List.map_cons, tr_t] at h
  exact h
def cmpI (x y : Int) : Int := if y < x then 1 else if x < y then -1 else 0
theorem cmpI_gt {x y : Int} : 0 < cmpI x y ↔ y < x := by unfold cmpI; split <;> (try split) <;> omega
theorem cmpI_lt {x y : Int} : cmpI x y < 0 ↔ x < y := by unfold cmpI; split <;> (try split) <;> omega
theorem cmpI_eq {x y : Int} : cmpI x y = 0 ↔ x = y := by unfold cmpI; split <;> (try split) <;> omega
theorem cmpI_in (x y : Int) : inR (cmpI x y) := by unfold cmpI; split <;> (try split) <;> exact ⟨by omega, by omega⟩
theorem lg_rng (a b : Int64) : -1 ≤ (lg_cmp a b).toInt ∧ (lg_cmp a b).toInt ≤ 1 := by
  unfold lg_cmp
  split
  · exact ⟨by decide, by decide⟩
  · split <;> exact ⟨by decide, by decide⟩
theorem r_lcmp_any (hX : okX g X F) (i : Nat) {x y : Int} (hf : (fprg F)[i]? = some (pc, .lcmp, 1)) (k : ∀ z : Int, -1 ≤ z → z ≤ 1 → wp g X F cells slots (pc + 1) ls ((0, z) :: st) v ρ Z) : wp g X F cells slots pc ls ((1, y) :: (1, x) :: st) v ρ Z :=
  wp_some _ (fun ad H locs la kk => W.lcmp hX.1 hX.2.1 (hX.dec hf) kk) (fun h => scop_c (scop_c h)) (k _ (lg_rng _ _).1 (lg_rng _ _).2)
theorem lg_ol {x y : Int} (hx : inL x) (hy : inL y) : lg_cmp (Int64.ofInt x) (Int64.ofInt y) = Int32.ofInt (cmpI x y) := by
  have h1 := ol_lt hy hx
  have h2 := ol_lt hx hy
  unfold lg_cmp cmpI
  by_cases c1 : y < x
  · simp [c1, h1.mpr c1]
  · by_cases c2 : x < y
    · have e1 : ¬ Int64.ofInt y < Int64.ofInt x := fun q => c1 (h1.mp q)
      have e2 : ¬ Int64.ofInt x = Int64.ofInt y := fun q => by have := (ol_eq hx hy).mp q; omega
      simp [c1, c2, e1, e2]
    · have e : x = y := by omega
      subst e
      simp
theorem r_lcmp (hX : okX g X F) (i : Nat) {x y : Int} (hf : (fprg F)[i]? = some (pc, .lcmp, 1)) (hx : inL x) (hy : inL y) (k : wp g X F cells slots (pc + 1) ls ((0, cmpI x y) :: st) v ρ Z) : wp g X F cells slots pc ls ((1, y) :: (1, x) :: st) v ρ Z :=
  wp_pure (fun ad H locs la hv kk => W.lcmp hX.1 hX.2.1 (hX.dec hf) (by rw [List.map_cons, tr_i, ← lg_ol hx hy] at kk; exact kk)) (fun h1 h2 => scop_i (scop_c (scop_c h1))) k
end RowsC
