/-- the letters since the last blank ahead of i -/
def kyt (i : Int) : Int := ((keyB.take i.toNat).foldl (fun (a : Int) (c : Int32) => if c = 32 then 0 else a * 32 + (c.toInt - 96)) 0)
theorem kyt_all : ∀ n : Nat, n < 121 → (kyb n = 32 → kyt (n + 1) = 0 ∧ K32[(kyn n).toNat]? = some (kyt n)) ∧ (kyb n ≠ 32 → kyt (n + 1) = kyt n * 32 + (kyb n - 96)) ∧ 0 ≤ kyt n ∧ kyt n < 34359738368 := by decide +kernel
theorem kyt_at {i : Int} (h0 : 0 ≤ i) (h1 : i < 121) : (kyb i = 32 → kyt (i + 1) = 0 ∧ K32[(kyn i).toNat]? = some (kyt i)) ∧ (kyb i ≠ 32 → kyt (i + 1) = kyt i * 32 + (kyb i - 96)) ∧ 0 ≤ kyt i ∧ kyt i < 34359738368 := by
  have h := kyt_all i.toNat (by omega)
  rw [Int.toNat_of_nonneg h0] at h
  exact h
theorem kyt_0 : kyt 0 = 0 := by decide +kernel
theorem kyn_121 : kyn 121 = 22 := by decide +kernel
theorem kix_step {a x i : Int} {k : Nat} (h : K32[k]? = some x) (hne : x ≠ a) : kixL (K32.drop k) a i = kixL (K32.drop (k + 1)) a (i + 1) := by
  obtain ⟨hk, hx⟩ := List.getElem?_eq_some_iff.mp h
  rw [List.drop_eq_getElem_cons hk, hx]
  exact if_neg hne
theorem kix_hit {a i : Int} {k : Nat} (h : K32[k]? = some a) : kixL (K32.drop k) a i = i := by
  obtain ⟨hk, hx⟩ := List.getElem?_eq_some_iff.mp h
  rw [List.drop_eq_getElem_cons hk, hx]
  exact if_pos rfl
set_option maxHeartbeats 4000000 in
set_option maxRecDepth 100000 in
theorem c_X8_keyOfF (g : Gp) (ω : Rw) (v ρ : Mv) (Z : Mz) (hH : HT ω v ρ Z) (x : Int) (hx : inL x) : Ok g 5 0 0 F_X8_keyOf [(1, x)] v ρ Z (fun o9 v' ρ' Z' => ρ = ρ' ∧ Z = Z' ∧ v = v' ∧ ∃ r : Int, o9 = some (0, r) ∧ (-1 ≤ r ∧ r ≤ 21) ∧ r = kix x) := by
  have hz : Z.1 1 ≠ 99 := by rw [hH.2.2.2.2.2.2.1]; decide
  refine Ok.of mo_X8_keyOf (Nat.le_of_ble_eq_true rfl) ?_
  intro X hX hRm hxn hQ
  show wp g X F_X8_keyOf 0 0 0 [(1, x), (3, 0), (3, 0), (3, 0), (3, 0), (3, 0), (3, 0)] [] v ρ Z
  refine r_iconst (pc := 0) hX 0 rfl ?_
  refine r_istore_n (ls' := [(1, x), (3, 0), (0, 0), (3, 0), (3, 0), (3, 0), (3, 0)]) (pc := 1) hX 1 rfl (by decide) rfl ?_
  refine r_lconst (pc := 2) hX 2 rfl ?_
  refine r_lstore_n (ls' := [(1, x), (3, 0), (0, 0), (1, 0), (3, 0), (3, 0), (3, 0)]) (pc := 3) hX 3 rfl (by decide) rfl ?_
  refine r_iconst (pc := 4) hX 4 rfl ?_
  refine r_istore (ls' := [(1, x), (3, 0), (0, 0), (1, 0), (3, 0), (0, 0), (3, 0)]) (pc := 5) hX 5 rfl (by decide) rfl ?_
  have L7 : ∀ (n7 : Nat) (to i : Int), to = kyt i → kixL (K32.drop (kyn i).toNat) x (kyn i) = kix x → 0 ≤ i → i ≤ 121 → (121 - i).toNat < n7 → wp g X F_X8_keyOf 0 0 7 [(1, x), (3, 0), (0, kyn i), (1, to), (3, 0), (0, i), (3, 0)] [] v ρ Z := by
    intro n7
    induction n7 with
    | zero => intro to i hto hkx h0 h1 hm; exact absurd hm (Nat.not_lt_zero _)
    | succ n7 ih =>
      intro to i hto hkx h0 h1 hm
      refine r_iload (pc := 7) hX 6 rfl rfl ?_
      refine r_ldcK (pc := 9) hX 7 rfl rfl ?_
      refine r_callK (as := []) (st := [(0, i)]) (pc := 11) hX 8 rfl mo_J0_length_8abf5 mk_X8_72 rfl im_J0_length_8abf5 se_J0_length_8abf5 (c_length g v ρ Z) rfl (by rw [hRm]; exact ⟨by decide, by decide⟩) (by rw [hRm]; exact ⟨by decide, by decide⟩) (Nat.le_of_ble_eq_true rfl) (fun o5 v5 ρ5 Z5 hq5 _ => ?_)
      obtain ⟨rfl, rfl, rfl, rfl⟩ := hq5
      show wp g X F_X8_keyOf 0 0 14 [(1, x), (3, 0), (0, kyn i), (1, to), (3, 0), (0, i), (3, 0)] [(0, 121), (0, i)] v ρ Z
      refine r_icmp_ge (pc := 14) hX 9 (tgt := 70) rfl (by decide) (⟨by omega, by omega⟩) (⟨by omega, by omega⟩) (fun h14 => ?_) (fun h14 => ?_)
      · refine r_iconst (pc := 70) hX 40 rfl ?_
        exact r_iret (pc := 71) hX 41 hQ rfl rfl (Nat.le_refl 0) (Nat.le_refl 0) ⟨rfl, rfl, rfl, -1, rfl, by omega, by
          rw [← hkx, show i = 121 by omega, kyn_121]
          rfl⟩
      · have hk := ky_at h0 (by omega)
        have hk9 := kyt_at h0 (by omega)
        refine r_ldcK (pc := 17) hX 10 rfl rfl ?_
        refine r_iload (pc := 19) hX 11 rfl rfl ?_
        refine r_callK (as := [(0, i)]) (st := []) (pc := 21) hX 12 rfl mo_J0_charAt_5068e mk_X8_77 rfl im_J0_charAt_5068e se_J0_charAt_5068e (c_charAt g v ρ Z hz i h0 (by omega)) rfl (by rw [hRm]; exact ⟨by decide, by decide⟩) (by rw [hRm]; exact ⟨by decide, by decide⟩) (Nat.le_of_ble_eq_true rfl) (fun o5 v5 ρ5 Z5 hq5 _ => ?_)
        obtain ⟨rfl, rfl, rfl, rfl⟩ := hq5
        show wp g X F_X8_keyOf 0 0 24 [(1, x), (3, 0), (0, kyn i), (1, to), (3, 0), (0, i), (3, 0)] [(0, kyb i)] v ρ Z
        refine r_istore (ls' := [(1, x), (3, 0), (0, kyn i), (1, to), (3, 0), (0, i), (0, kyb i)]) (pc := 24) hX 13 rfl (by decide) rfl ?_
        refine r_iload (pc := 26) hX 14 rfl rfl ?_
        refine r_bipush (pc := 28) hX 15 rfl (by decide) ?_
        have L64 : ∀ to' : Int, to' = kyt (i + 1) → kixL (K32.drop (kyn (i + 1)).toNat) x (kyn (i + 1)) = kix x → wp g X F_X8_keyOf 0 0 64 [(1, x), (3, 0), (0, kyn (i + 1)), (1, to'), (3, 0), (0, i), (0, kyb i)] [] v ρ Z := by
          intro to' hto' hkx'
          refine r_iinc (ls' := [(1, x), (3, 0), (0, kyn (i + 1)), (1, to'), (3, 0), (0, i + 1), (0, kyb i)]) (pc := 64) hX 38 rfl rfl (by decide) rfl ?_
          refine r_goto (pc := 67) hX 39 (tgt := 7) rfl (by decide) ?_
          refine r_wk (ls' := [(1, x), (3, 0), (0, kyn (i + 1)), (1, to'), (3, 0), (0, i + 1), (3, 0)]) ⟨Or.inr rfl, Or.inr rfl, Or.inr rfl, Or.inr rfl, Or.inr rfl, Or.inr rfl, Or.inl rfl, trivial⟩ ?_
          exact ih to' (i + 1) hto' hkx' (by omega) (by omega) (by omega)
        refine r_icmp_eq (pc := 30) hX 16 (tgt := 51) rfl (by decide) (⟨by omega, by omega⟩) (⟨by omega, by omega⟩) (fun h30 => ?_) (fun h30 => ?_)
        · have hk2 := hk.2.1 h30
          refine r_lload_n (pc := 51) hX 29 rfl rfl ?_
          refine r_lload_n (pc := 52) hX 30 rfl rfl ?_
          refine r_lcmp (pc := 53) hX 31 rfl ⟨by omega, by omega⟩ hx ?_
          have hcm := cmpI_0 to x
          refine r_if_ne (pc := 54) hX 32 (tgt := 59) rfl (by decide) (cmpI_r to x) (fun h54 => ?_) (fun h54 => ?_)
          · refine r_iinc (ls' := [(1, x), (3, 0), (0, kyn i + 1), (1, to), (3, 0), (0, i), (0, kyb i)]) (pc := 59) hX 35 rfl rfl (by decide) rfl ?_
            rw [← hk2.1]
            refine r_lconst (pc := 62) hX 36 rfl ?_
            refine r_lstore_n (ls' := [(1, x), (3, 0), (0, kyn (i + 1)), (1, 0), (3, 0), (0, i), (0, kyb i)]) (pc := 63) hX 37 rfl (by decide) rfl ?_
            exact L64 0 (hk9.1 h30).1.symm (by
              rw [hk2.1, ← hkx, show (kyn i + 1).toNat = (kyn i).toNat + 1 by omega]
              exact (kix_step (hk9.1 h30).2 (fun e => h54 (hcm.mpr (by rw [hto]; exact e)))).symm)
          · refine r_iload_n (pc := 57) hX 33 rfl rfl ?_
            exact r_iret (pc := 58) hX 34 hQ rfl rfl (Nat.le_refl 0) (Nat.le_refl 0) ⟨rfl, rfl, rfl, kyn i, rfl, by omega, by
              have e9 : to = x := hcm.mp (Classical.byContradiction fun e => h54 e)
              rw [← hkx]
              exact (kix_hit (by rw [(hk9.1 h30).2, ← hto, e9])).symm⟩
        · have hk2 := hk.2.2.1 h30
          refine r_lload_n (pc := 33) hX 17 rfl rfl ?_
          refine r_ldc2 (y := 32) (pc := 34) hX 18 rfl kl_X8_68 (by decide) ?_
          refine r_lmul (pc := 37) hX 19 rfl ?_
          refine r_iload (pc := 38) hX 20 rfl rfl ?_
          refine r_bipush (pc := 40) hX 21 rfl (by decide) ?_
          refine r_isub (pc := 42) hX 22 rfl ?_
          refine r_iconst (pc := 43) hX 23 rfl ?_
          refine r_iadd (pc := 44) hX 24 rfl ?_
          refine r_i2l (pc := 45) hX 25 rfl ⟨by omega, by omega⟩ ?_
          refine r_ladd (pc := 46) hX 26 rfl ?_
          refine r_lstore_n (ls' := [(1, x), (3, 0), (0, kyn i), (1, to * 32 + (kyb i - 97 + 1)), (3, 0), (0, i), (0, kyb i)]) (pc := 47) hX 27 rfl (by decide) rfl ?_
          refine r_goto (pc := 48) hX 28 (tgt := 64) rfl (by decide) ?_
          rw [← hk2]
          exact L64 _ (by rw [hk9.2.1 h30, hto]; omega) (by rw [hk2]; exact hkx)
  have h := L7 122 0 0 kyt_0.symm (by rw [ky_0]; rfl) (by decide) (by decide) (by decide)
  rw [ky_0] at h
  exact h
