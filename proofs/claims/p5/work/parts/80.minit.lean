set_option maxHeartbeats 4000000 in
set_option maxRecDepth 100000 in
theorem c_greysX (g : Gp) (v ρ : Mv) (Z : Mz) (hG : GM ρ Z)  (hV : HInv (v 180)) : Ok g 1 0 0 F_m_greys [(2, 178)] v ρ Z (fun o v' ρ' Z' => ρ = ρ' ∧ Z = Z' ∧ Fr [180] [] v v' ∧ o = none ∧ (RInv (v' 180)) ∧ (∀ k, 32 ≤ k → v' 180 k = v 180 k)) := by
  refine Ok.of mo_m_greys (Nat.le_of_ble_eq_true rfl) ?_
  intro X hX hRm hxn hQ
  show wp g X F_m_greys 0 0 0 [(2, 178), (3, 0), (3, 0)] [] v ρ Z
  have hz1 := hV.h0
  have h14 := (hV.1 14 (by decide) (by decide)).2.2.2.2.2.2.2.1 (by decide)
  have hc14 : v 180 1 ≠ 0 → 1 ≤ v 180 14 := fun h => hV.2.2 0 (by omega) (by omega) (by omega)
  refine t_getR (pc := 0) hX 0 rfl rfl rfl fl_X12_33 rfl hG.1 (a_s hG).1 ?_
  refine r_iconst (pc := 4) hX 2 rfl ?_
  refine e_iald (y := (v 180 1)) (pc := 5) hX 3 rfl (a_s hG).2.1 (a_s hG).2.2 (by omega) (by omega) (rfl) ?_
  have L17 : ∀ (v17 : Mv) , (Fr [180] [] v v17) → (∀ k, k ≠ 14 → v17 180 k = v 180 k) → (1 ≤ v17 180 14 ∧ v17 180 14 ≤ 9) → wp g X F_m_greys 0 0 17 [(2, 178), (3, 0), (3, 0)] [] v17 ρ Z := by
    intro v17 hfr17 ja j14
    refine r_iconst (pc := 17) hX 10 rfl ?_
    refine r_istore_n (ls' := [(2, 178), (0, 0), (3, 0)]) (pc := 18) hX 11 rfl (by decide) rfl ?_
    have L19 : ∀ (n19 : Nat) (l : Int) (v19 : Mv) , (Fr [180] [] v v19) → (0 ≤ l ∧ l ≤ 3) → (∀ k, k ≠ 14 → k ≠ 21 → k ≠ 26 → k ≠ 31 → v19 180 k = v 180 k) → (1 ≤ v19 180 14 ∧ v19 180 14 ≤ 9) → (∀ j, 0 ≤ j → j < l → v19 180 (17 + 5 * j + 4) = 12 - opF (v 180) j 4) → (3 - l).toNat < n19 → wp g X F_m_greys 0 0 19 [(2, 178), (0, l), (3, 0)] [] v19 ρ Z := by
      intro n19
      induction n19 with
      | zero => intro l v19 hfr19 il ia i14 ic hme19; exact absurd hme19 (Nat.not_lt_zero _)
      | succ n19 ih19 =>
        intro l v19 hfr19 il ia i14 ic hme19
        refine r_iload_n (pc := 19) hX 12 rfl rfl ?_
        refine r_iconst (pc := 20) hX 13 rfl ?_
        first | refine r_icmp_ge (pc := 21) hX 14 (tgt := 87) rfl (by decide) (⟨by omega, by omega⟩) (⟨by omega, by omega⟩) (fun h21 => ?_) (fun h21 => ?_) | refine r_icmp_ge_any (pc := 21) hX 14 (tgt := 87) rfl (by decide) ?_ ?_
        · exact r_vret (pc := 87) hX 58 hQ rfl rfl (Nat.le_refl 0) (Nat.le_refl 0) ⟨rfl, rfl, hfr19, rfl, (RInv.read hV i14 (fun k _ b c d e => ia k b c d e) (fun l a b => ic l a (by omega))), (fun k h => ia k (by omega) (by omega) (by omega) (by omega))⟩
        · refine t_getR (pc := 24) hX 15 rfl rfl rfl fl_X12_33 rfl hG.1 (a_s hG).1 ?_
          refine r_bipush (pc := 28) hX 17 rfl (by decide) ?_
          refine r_iconst (pc := 30) hX 18 rfl ?_
          refine r_iload_n (pc := 31) hX 19 rfl rfl ?_
          refine r_imul (pc := 32) hX 20 rfl ?_
          refine r_iadd (pc := 33) hX 21 rfl ?_
          refine r_iconst (pc := 34) hX 22 rfl ?_
          refine r_iadd (pc := 35) hX 23 rfl ?_
          refine r_bipush (pc := 36) hX 24 rfl (by decide) ?_
          refine e_iast (pc := 38) hX 25 rfl (a_s hG).2.1 (a_s hG).2.2 (by decide) (by omega) (by omega) ?_
          refine r_iconst (pc := 39) hX 26 rfl ?_
          refine r_istore_n (ls' := [(2, 178), (0, l), (0, 0)]) (pc := 40) hX 27 rfl (by decide) rfl ?_
          have L41 : ∀ (n41 : Nat) (c : Int) (v41 : Mv) , (Fr [180] [] v v41) → (0 ≤ c ∧ c ≤ 4) → (∀ k, k ≠ 14 → k ≠ 21 → k ≠ 26 → k ≠ 31 → v41 180 k = v 180 k) → (1 ≤ v41 180 14 ∧ v41 180 14 ≤ 9) → (∀ j, 0 ≤ j → j < l → v41 180 (17 + 5 * j + 4) = 12 - opF (v 180) j 4) → (v41 180 (17 + 5 * l + 4) = 12 - opF (v 180) l c.toNat) → (4 - c).toNat < n41 → wp g X F_m_greys 0 0 41 [(2, 178), (0, l), (0, c)] [] v41 ρ Z := by
            intro n41
            induction n41 with
            | zero => intro c v41 hfr41 icc ia i14 ic id_ hme41; exact absurd hme41 (Nat.not_lt_zero _)
            | succ n41 ih41 =>
              intro c v41 hfr41 icc ia i14 ic id_ hme41
              refine r_iload_n (pc := 41) hX 28 rfl rfl ?_
              refine r_iconst (pc := 42) hX 29 rfl ?_
              first | refine r_icmp_ge (pc := 43) hX 30 (tgt := 81) rfl (by decide) (⟨by omega, by omega⟩) (⟨by omega, by omega⟩) (fun h43 => ?_) (fun h43 => ?_) | refine r_icmp_ge_any (pc := 43) hX 30 (tgt := 81) rfl (by decide) ?_ ?_
              · refine r_iinc (ls' := [(2, 178), (0, (l + 1)), (0, c)]) (pc := 81) hX 56 rfl rfl (by decide) rfl ?_
                refine r_goto (pc := 84) hX 57 (tgt := 19) rfl (by decide) ?_
                refine r_wk (ls' := [(2, 178), (0, (l + 1)), (3, 0)]) ⟨Or.inr rfl, Or.inr rfl, Or.inl rfl, trivial⟩ ?_
                exact (ih19 (l + 1) v41 (hfr41) (by omega) (ia) (i14) (fun j a b => by
          by_cases e : j = l
          · subst e; rw [id_, show c = 4 by omega]; rfl
          · exact ic j a (by omega)) (by omega))
              · refine t_getR (pc := 46) hX 31 rfl rfl rfl fl_X12_33 rfl hG.1 (a_s hG).1 ?_
                refine r_bipush (pc := 50) hX 33 rfl (by decide) ?_
                refine r_iconst (pc := 52) hX 34 rfl ?_
                refine r_iload_n (pc := 53) hX 35 rfl rfl ?_
                refine r_imul (pc := 54) hX 36 rfl ?_
                refine r_iadd (pc := 55) hX 37 rfl ?_
                refine r_iconst (pc := 56) hX 38 rfl ?_
                refine r_iadd (pc := 57) hX 39 rfl ?_
                refine r_dup2i (pc := 58) hX 40 rfl (show (0 : Nat) ≠ 1 by decide) (show (2 : Nat) ≠ 1 by decide) ?_
                refine e_iald (y := (v41 180 ((17 + (5 * l)) + 4))) (pc := 59) hX 41 rfl (a_s hG).2.1 (a_s hG).2.2 (by omega) (by omega) (rfl) ?_
                refine t_getR (pc := 60) hX 42 rfl rfl rfl fl_X12_33 rfl hG.1 (a_s hG).1 ?_
                refine r_bipush (pc := 64) hX 44 rfl (by decide) ?_
                refine r_iconst (pc := 66) hX 45 rfl ?_
                refine r_iload_n (pc := 67) hX 46 rfl rfl ?_
                refine r_imul (pc := 68) hX 47 rfl ?_
                refine r_iadd (pc := 69) hX 48 rfl ?_
                refine r_iload_n (pc := 70) hX 49 rfl rfl ?_
                refine r_iadd (pc := 71) hX 50 rfl ?_
                refine e_iald (y := (v41 180 ((17 + (5 * l)) + c))) (pc := 72) hX 51 rfl (a_s hG).2.1 (a_s hG).2.2 (by omega) (by omega) (rfl) ?_
                refine r_isub (pc := 73) hX 52 rfl ?_
                refine e_iast (pc := 74) hX 53 rfl (a_s hG).2.1 (a_s hG).2.2 (by decide) (by omega) (by omega) ?_
                refine r_iinc (ls' := [(2, 178), (0, l), (0, (c + 1))]) (pc := 75) hX 54 rfl rfl (by decide) rfl ?_
                refine r_goto (pc := 78) hX 55 (tgt := 41) rfl (by decide) ?_
                exact (ih41 (c + 1) (up v41 180 ((17 + (5 * l)) + 4) ((v41 180 ((17 + (5 * l)) + 4)) - (v41 180 ((17 + (5 * l)) + c)))) ((hfr41).arr (r := 180) (by decide) (by decide)) (by omega) (fun k a b c d => by rw [up_k (by omega)]; exact ia k a b c d) (by rw [up_k (by omega)]; exact i14) (fun j a b => by rw [up_k (by omega)]; exact ic j a b) (by rw [up_s, opF_s (by omega), id_, ia (17 + 5 * l + c) (by omega) (by omega) (by omega) (by omega)]; omega) (by omega))
          exact (L41 _ 0 (up v19 180 ((17 + (5 * l)) + 4) 12) ((hfr19).arr (r := 180) (by decide) (by decide)) (by omega) (fun k a b c d => by rw [up_k (by omega)]; exact ia k a b c d) (by rw [up_k (by omega)]; exact i14) (fun j a b => by rw [up_k (by omega)]; exact ic j a b) (by rw [up_s]; rfl) (Nat.lt_succ_self _))
    exact (L19 _ 0 v17 (hfr17) (by omega) (fun k a _ _ _ => ja k a) (j14) (fun j a b => by omega) (Nat.lt_succ_self _))
  first | refine r_if_ne (pc := 6) hX 4 (tgt := 17) rfl (by decide) (⟨by omega, by omega⟩) (fun h6 => ?_) (fun h6 => ?_) | refine r_if_ne_any (pc := 6) hX 4 (tgt := 17) rfl (by decide) ?_ ?_
  · exact (L17  v (Fr.rf) (fun k h => by first | rfl | exact up_k h) (by first | (rw [up_s]; omega) | (have := hc14 (by omega); omega)) )
  · refine t_getR (pc := 9) hX 5 rfl rfl rfl fl_X12_33 rfl hG.1 (a_s hG).1 ?_
    refine r_bipush (pc := 13) hX 7 rfl (by decide) ?_
    refine r_iconst (pc := 15) hX 8 rfl ?_
    refine e_iast (pc := 16) hX 9 rfl (a_s hG).2.1 (a_s hG).2.2 (by decide) (by omega) (by omega) ?_
    exact (L17  (up v 180 14 1) ((Fr.rf).arr (r := 180) (by decide) (by decide)) (fun k h => by first | rfl | exact up_k h) (by first | (rw [up_s]; omega) | (have := hc14 (by omega); omega)) )
set_option maxHeartbeats 4000000 in
set_option maxRecDepth 100000 in
theorem c_init_tail (g : Gp) (X : Cx) {Q : Option V2 → Mv → Mv → Mz → Prop} (v ρ : Mv) (Z : Mz) (hX : okX g X F_m_init) (hRm : xR X = rmd 3 31 146297) (hQ : hQt g X Q 31 146297) (hG : GM ρ Z) (h0 : ∀ k, v 180 k = 0) (hK : ∀ v' : Mv, Fr [180, 181, 184] [] v v' → SInv (v' 180) → Q none v' ρ Z) : wp g X F_m_init 31 146297 255 [(2, 178), (3, 0)] [] v ρ Z := by
  refine t_getR (pc := 255) hX 129 rfl rfl rfl fl_X12_47 rfl hG.1 (a_reserved hG).1 ?_
  refine r_iconst (pc := 259) hX 131 rfl ?_
  refine r_ldc2 (y := 109330211763570) (pc := 260) hX 132 rfl kl_X12_130 (by decide) ?_
  refine e_last (pc := 263) hX 133 rfl (a_reserved hG).2.1 (a_reserved hG).2.2 (by decide) (by omega) (by omega) ?_
  refine t_getR (pc := 264) hX 134 rfl rfl rfl fl_X12_47 rfl hG.1 (a_reserved hG).1 ?_
  refine r_iconst (pc := 268) hX 136 rfl ?_
  refine r_ldc2 (y := 1701733491) (pc := 269) hX 137 rfl kl_X12_132 (by decide) ?_
  refine e_last (pc := 272) hX 138 rfl (a_reserved hG).2.1 (a_reserved hG).2.2 (by decide) (by omega) (by omega) ?_
  refine t_getR (pc := 273) hX 139 rfl rfl rfl fl_X12_47 rfl hG.1 (a_reserved hG).1 ?_
  refine r_iconst (pc := 277) hX 141 rfl ?_
  refine r_ldc2 (y := 1818324580) (pc := 278) hX 142 rfl kl_X12_134 (by decide) ?_
  refine e_last (pc := 281) hX 143 rfl (a_reserved hG).2.1 (a_reserved hG).2.2 (by decide) (by omega) (by omega) ?_
  refine t_getR (pc := 282) hX 144 rfl rfl rfl fl_X12_47 rfl hG.1 (a_reserved hG).1 ?_
  refine r_iconst (pc := 286) hX 146 rfl ?_
  refine r_ldc2 (y := 123610794124658) (pc := 287) hX 147 rfl kl_X12_136 (by decide) ?_
  refine e_last (pc := 290) hX 148 rfl (a_reserved hG).2.1 (a_reserved hG).2.2 (by decide) (by omega) (by omega) ?_
  refine t_getR (pc := 291) hX 149 rfl rfl rfl fl_X12_47 rfl hG.1 (a_reserved hG).1 ?_
  refine r_iconst (pc := 295) hX 151 rfl ?_
  refine r_ldc2 (y := 1735352684) (pc := 296) hX 152 rfl kl_X12_138 (by decide) ?_
  refine e_last (pc := 299) hX 153 rfl (a_reserved hG).2.1 (a_reserved hG).2.2 (by decide) (by omega) (by omega) ?_
  refine t_getR (pc := 300) hX 154 rfl rfl rfl fl_X12_47 rfl hG.1 (a_reserved hG).1 ?_
  refine r_iconst (pc := 304) hX 156 rfl ?_
  refine r_ldc2 (y := 1667330675) (pc := 305) hX 157 rfl kl_X12_140 (by decide) ?_
  refine e_last (pc := 308) hX 158 rfl (a_reserved hG).2.1 (a_reserved hG).2.2 (by decide) (by omega) (by omega) ?_
  refine t_getR (pc := 309) hX 159 rfl rfl rfl fl_X12_47 rfl hG.1 (a_reserved hG).1 ?_
  refine r_bipush (pc := 313) hX 161 rfl (by decide) ?_
  refine r_ldc2 (y := 109299962373989) (pc := 315) hX 162 rfl kl_X12_142 (by decide) ?_
  refine e_last (pc := 318) hX 163 rfl (a_reserved hG).2.1 (a_reserved hG).2.2 (by decide) (by omega) (by omega) ?_
  refine t_getR (pc := 319) hX 164 rfl rfl rfl fl_X12_47 rfl hG.1 (a_reserved hG).1 ?_
  refine r_bipush (pc := 323) hX 166 rfl (by decide) ?_
  refine r_ldc2 (y := 499850634611) (pc := 325) hX 167 rfl kl_X12_144 (by decide) ?_
  refine e_last (pc := 328) hX 168 rfl (a_reserved hG).2.1 (a_reserved hG).2.2 (by decide) (by omega) (by omega) ?_
  refine t_getR (pc := 329) hX 169 rfl rfl rfl fl_X12_47 rfl hG.1 (a_reserved hG).1 ?_
  refine r_bipush (pc := 333) hX 171 rfl (by decide) ?_
  refine r_ldc2 (y := 500186639987) (pc := 335) hX 172 rfl kl_X12_146 (by decide) ?_
  refine e_last (pc := 338) hX 173 rfl (a_reserved hG).2.1 (a_reserved hG).2.2 (by decide) (by omega) (by omega) ?_
  refine t_getR (pc := 339) hX 174 rfl rfl rfl fl_X12_47 rfl hG.1 (a_reserved hG).1 ?_
  refine r_bipush (pc := 343) hX 176 rfl (by decide) ?_
  refine r_ldc2 (y := 427071202675) (pc := 345) hX 177 rfl kl_X12_148 (by decide) ?_
  refine e_last (pc := 348) hX 178 rfl (a_reserved hG).2.1 (a_reserved hG).2.2 (by decide) (by omega) (by omega) ?_
  refine t_getR (pc := 349) hX 179 rfl rfl rfl fl_X12_47 rfl hG.1 (a_reserved hG).1 ?_
  refine r_bipush (pc := 353) hX 181 rfl (by decide) ?_
  refine r_ldc2 (y := 1735550329) (pc := 355) hX 182 rfl kl_X12_150 (by decide) ?_
  refine e_last (pc := 358) hX 183 rfl (a_reserved hG).2.1 (a_reserved hG).2.2 (by decide) (by omega) (by omega) ?_
  refine t_getR (pc := 359) hX 184 rfl rfl rfl fl_X12_47 rfl hG.1 (a_reserved hG).1 ?_
  refine r_bipush (pc := 363) hX 186 rfl (by decide) ?_
  refine r_ldc2 (y := 28530) (pc := 365) hX 187 rfl kl_X12_152 (by decide) ?_
  refine e_last (pc := 368) hX 188 rfl (a_reserved hG).2.1 (a_reserved hG).2.2 (by decide) (by omega) (by omega) ?_
  refine t_getR (pc := 369) hX 189 rfl rfl rfl fl_X12_47 rfl hG.1 (a_reserved hG).1 ?_
  refine r_bipush (pc := 373) hX 191 rfl (by decide) ?_
  refine r_ldc2 (y := 6385252) (pc := 375) hX 192 rfl kl_X12_154 (by decide) ?_
  refine e_last (pc := 378) hX 193 rfl (a_reserved hG).2.1 (a_reserved hG).2.2 (by decide) (by omega) (by omega) ?_
  refine t_getR (pc := 379) hX 194 rfl rfl rfl fl_X12_47 rfl hG.1 (a_reserved hG).1 ?_
  refine r_bipush (pc := 383) hX 196 rfl (by decide) ?_
  refine r_ldc2 (y := 7237492) (pc := 385) hX 197 rfl kl_X12_156 (by decide) ?_
  refine e_last (pc := 388) hX 198 rfl (a_reserved hG).2.1 (a_reserved hG).2.2 (by decide) (by omega) (by omega) ?_
  refine t_getR (pc := 389) hX 199 rfl rfl rfl fl_X12_47 rfl hG.1 (a_reserved hG).1 ?_
  refine r_bipush (pc := 393) hX 201 rfl (by decide) ?_
  refine r_ldc2 (y := 465557349491) (pc := 395) hX 202 rfl kl_X12_158 (by decide) ?_
  refine e_last (pc := 398) hX 203 rfl (a_reserved hG).2.1 (a_reserved hG).2.2 (by decide) (by omega) (by omega) ?_
  refine t_getR (pc := 399) hX 204 rfl rfl rfl fl_X12_47 rfl hG.1 (a_reserved hG).1 ?_
  refine r_bipush (pc := 403) hX 206 rfl (by decide) ?_
  refine r_ldc2 (y := 7827310) (pc := 405) hX 207 rfl kl_X12_160 (by decide) ?_
  refine e_last (pc := 408) hX 208 rfl (a_reserved hG).2.1 (a_reserved hG).2.2 (by decide) (by omega) (by omega) ?_
  refine t_getR (pc := 409) hX 209 rfl rfl rfl fl_X12_47 rfl hG.1 (a_reserved hG).1 ?_
  refine r_bipush (pc := 413) hX 211 rfl (by decide) ?_
  refine r_ldc2 (y := 6840691) (pc := 415) hX 212 rfl kl_X12_162 (by decide) ?_
  refine e_last (pc := 418) hX 213 rfl (a_reserved hG).2.1 (a_reserved hG).2.2 (by decide) (by omega) (by omega) ?_
  refine t_getR (pc := 419) hX 214 rfl rfl rfl fl_X12_47 rfl hG.1 (a_reserved hG).1 ?_
  refine r_bipush (pc := 423) hX 216 rfl (by decide) ?_
  refine r_ldc2 (y := 128047779833188) (pc := 425) hX 217 rfl kl_X12_164 (by decide) ?_
  refine e_last (pc := 428) hX 218 rfl (a_reserved hG).2.1 (a_reserved hG).2.2 (by decide) (by omega) (by omega) ?_
  refine t_getR (pc := 429) hX 219 rfl rfl rfl fl_X12_47 rfl hG.1 (a_reserved hG).1 ?_
  refine r_bipush (pc := 433) hX 221 rfl (by decide) ?_
  refine r_ldc2 (y := 495589487205) (pc := 435) hX 222 rfl kl_X12_166 (by decide) ?_
  refine e_last (pc := 438) hX 223 rfl (a_reserved hG).2.1 (a_reserved hG).2.2 (by decide) (by omega) (by omega) ?_
  refine t_getR (pc := 439) hX 224 rfl rfl rfl fl_X12_47 rfl hG.1 (a_reserved hG).1 ?_
  refine r_bipush (pc := 443) hX 226 rfl (by decide) ?_
  refine r_ldc2 (y := 495873782388) (pc := 445) hX 227 rfl kl_X12_168 (by decide) ?_
  refine e_last (pc := 448) hX 228 rfl (a_reserved hG).2.1 (a_reserved hG).2.2 (by decide) (by omega) (by omega) ?_
  refine t_getR (pc := 449) hX 229 rfl rfl rfl fl_X12_47 rfl hG.1 (a_reserved hG).1 ?_
  refine r_bipush (pc := 453) hX 231 rfl (by decide) ?_
  refine r_ldc2 (y := 474147546227) (pc := 455) hX 232 rfl kl_X12_170 (by decide) ?_
  refine e_last (pc := 458) hX 233 rfl (a_reserved hG).2.1 (a_reserved hG).2.2 (by decide) (by omega) (by omega) ?_
  refine t_getR (pc := 459) hX 234 rfl rfl rfl fl_X12_47 rfl hG.1 (a_reserved hG).1 ?_
  refine r_bipush (pc := 463) hX 236 rfl (by decide) ?_
  refine r_ldc2 (y := 121450625394034) (pc := 465) hX 237 rfl kl_X12_172 (by decide) ?_
  refine e_last (pc := 468) hX 238 rfl (a_reserved hG).2.1 (a_reserved hG).2.2 (by decide) (by omega) (by omega) ?_
  have L469 : ∀ (v469 : Mv) , (Fr [180, 181, 184] [] v v469) → (∀ k, v469 180 k = 0) → wp g X F_m_init 31 146297 469 [(2, 178), (3, 0)] [] v469 ρ Z := by
    intro v469 hfr469 j0
    refine r_aload_n (pc := 469) hX 239 rfl rfl ?_
    refine r_callV (as := []) (st := []) (K := 12) (pc := 470) hX 240 rfl mo_m_clears ml_X12_174 im_m_clears se_m_clears (c_clears g v469 ρ Z hG  ) rfl rfl rfl hG.1 (by rw [hRm]; exact ⟨by decide, by decide⟩) (by rw [hRm]; exact ⟨by decide, by decide⟩) (Nat.le_of_ble_eq_true rfl) (fun o470 v470 ρ470 Z470 hq470 _ => ?_)
    obtain ⟨rfl, rfl, hfr470, rfl, hq470⟩ := hq470
    show wp g X F_m_init 31 146297 473 [(2, 178), (3, 0)] [] v470 ρ Z
    refine r_iconst (pc := 473) hX 241 rfl ?_
    refine r_istore_n (ls' := [(2, 178), (0, 0)]) (pc := 474) hX 242 rfl (by decide) rfl ?_
    have L475 : ∀ (n475 : Nat) (i : Int) (v475 : Mv) , (Fr [180, 181, 184] [] v v475) → (0 ≤ i ∧ i ≤ 35) → (HInv (v475 181)) → (∀ k, 32 ≤ k → k < 35 → v475 181 k = 0) → (∀ k, 0 ≤ k → k < i → v475 180 k = v475 181 k) → (∀ k, i ≤ k → v475 180 k = 0) → (35 - i).toNat < n475 → wp g X F_m_init 31 146297 475 [(2, 178), (0, i)] [] v475 ρ Z := by
      intro n475
      induction n475 with
      | zero => intro i v475 hfr475 ii ihv ih2 ia iz hme475; exact absurd hme475 (Nat.not_lt_zero _)
      | succ n475 ih475 =>
        intro i v475 hfr475 ii ihv ih2 ia iz hme475
        refine r_iload_n (pc := 475) hX 243 rfl rfl ?_
        refine r_bipush (pc := 476) hX 244 rfl (by decide) ?_
        first | refine r_icmp_ge (pc := 478) hX 245 (tgt := 499) rfl (by decide) (⟨by omega, by omega⟩) (⟨by omega, by omega⟩) (fun h478 => ?_) (fun h478 => ?_) | refine r_icmp_ge_any (pc := 478) hX 245 (tgt := 499) rfl (by decide) ?_ ?_
        · refine r_aload_n (pc := 499) hX 256 rfl rfl ?_
          refine r_callV (as := []) (st := []) (K := 12) (pc := 500) hX 257 rfl mo_m_greys ml_X12_177 im_m_greys se_m_greys (c_greysX g v475 ρ Z hG  (ihv.cg (fun k a b => ia k a (by omega)))) rfl rfl rfl hG.1 (by rw [hRm]; exact ⟨by decide, by decide⟩) (by rw [hRm]; exact ⟨by decide, by decide⟩) (Nat.le_of_ble_eq_true rfl) (fun o500 v500 ρ500 Z500 hq500 _ => ?_)
          obtain ⟨rfl, rfl, hfr500, rfl, hq500⟩ := hq500
          show wp g X F_m_init 31 146297 503 [(2, 178), (0, i)] [] v500 ρ Z
          exact r_vret (pc := 503) hX 258 hQ rfl rfl (Nat.le_of_ble_eq_true rfl) (Nat.le_of_ble_eq_true rfl) (hK _ ((hfr475).tr hfr500 (by decide) (by decide)) ((SInv.new hq500.1 (fun k a b _ => by rw [hq500.2 k (by omega)]; exact iz k (by omega)) (fun q a b => by rw [hq500.2 (42 + q) (by omega), hq500.2 (32 + q) (by omega), iz (42 + q) (by omega), ia (32 + q) (by omega) (by omega)]; exact (ih2 (32 + q) (by omega) (by omega)).symm))))
        · refine t_getR (pc := 481) hX 246 rfl rfl rfl fl_X12_33 rfl hG.1 (a_s hG).1 ?_
          refine r_iload_n (pc := 485) hX 248 rfl rfl ?_
          refine t_getR (pc := 486) hX 249 rfl rfl rfl fl_X12_37 rfl hG.1 (a_h hG).1 ?_
          refine r_iload_n (pc := 490) hX 251 rfl rfl ?_
          refine e_iald (y := (v475 181 i)) (pc := 491) hX 252 rfl (a_h hG).2.1 (a_h hG).2.2 (by omega) (by omega) (rfl) ?_
          refine e_iast (pc := 492) hX 253 rfl (a_s hG).2.1 (a_s hG).2.2 (by decide) (by omega) (by omega) ?_
          refine r_iinc (ls' := [(2, 178), (0, (i + 1))]) (pc := 493) hX 254 rfl rfl (by decide) rfl ?_
          refine r_goto (pc := 496) hX 255 (tgt := 475) rfl (by decide) ?_
          exact (ih475 (i + 1) (up v475 180 i (v475 181 i)) ((hfr475).arr (r := 180) (by decide) (by decide)) (by omega) (by rw [up_f (by decide)]; exact ihv) (fun k a b => by rw [up_f (by decide)]; exact ih2 k a b) (fun k a b => by
          rw [up_f (show (181 : Int) ≠ 180 by decide)]
          by_cases e : k = i
          · subst e; rw [up_s]
          · rw [up_k e]; exact ia k a (by omega)) (fun k a => by rw [up_k (by omega)]; exact iz k (by omega)) (by omega))
    exact (L475 _ 0 v470 ((hfr469).tr hfr470 (by decide) (by decide)) (by omega) (HInv.start hq470.1 hq470.2.1 hq470.2.2) (fun k a b => hq470.2.2 k (by omega) (by omega) (by omega) (by omega)) (fun k a b => by omega) (fun k _ => by rw [hfr470.1 180 (by decide) (by decide)]; exact j0 k) (Nat.lt_succ_self _))
  exact (L469  (up (up (up (up (up (up (up (up (up (up (up (up (up (up (up (up (up (up (up (up (up (up v 184 0 109330211763570) 184 1 1701733491) 184 2 1818324580) 184 3 123610794124658) 184 4 1735352684) 184 5 1667330675) 184 6 109299962373989) 184 7 499850634611) 184 8 500186639987) 184 9 427071202675) 184 10 1735550329) 184 11 28530) 184 12 6385252) 184 13 7237492) 184 14 465557349491) 184 15 7827310) 184 16 6840691) 184 17 128047779833188) 184 18 495589487205) 184 19 495873782388) 184 20 474147546227) 184 21 121450625394034) (((((((((((((((((((((((Fr.rf).arr (r := 184) (by decide) (by decide)).arr (r := 184) (by decide) (by decide)).arr (r := 184) (by decide) (by decide)).arr (r := 184) (by decide) (by decide)).arr (r := 184) (by decide) (by decide)).arr (r := 184) (by decide) (by decide)).arr (r := 184) (by decide) (by decide)).arr (r := 184) (by decide) (by decide)).arr (r := 184) (by decide) (by decide)).arr (r := 184) (by decide) (by decide)).arr (r := 184) (by decide) (by decide)).arr (r := 184) (by decide) (by decide)).arr (r := 184) (by decide) (by decide)).arr (r := 184) (by decide) (by decide)).arr (r := 184) (by decide) (by decide)).arr (r := 184) (by decide) (by decide)).arr (r := 184) (by decide) (by decide)).arr (r := 184) (by decide) (by decide)).arr (r := 184) (by decide) (by decide)).arr (r := 184) (by decide) (by decide)).arr (r := 184) (by decide) (by decide)).arr (r := 184) (by decide) (by decide)) (fun k => by
    (repeat rw [up_f (by decide)])
    exact h0 k) )
/-- k arrays of the reference are made -/
def MI (k : Nat) (v ρ : Mv) (Z : Mz) (v1 ρ1 : Mv) (Z1 : Mz) : Prop := Z1.2.2 = 179 + (k : Int) ∧ Z1.1 178 = 12 ∧ (∀ j q, j < k → mdT[j]? = some q → ρ1 178 q.1 = q.2.1 ∧ Z1.1 q.2.1 = q.2.2.1 ∧ Z1.2.1 q.2.1 = q.2.2.2) ∧ (∀ r j, 179 ≤ r → r < 179 + (k : Int) → v1 r j = 0) ∧ (∀ j, j ≠ 45 → v1 178 j = 0) ∧ (v1 178 45 = 0 ∨ v1 178 45 = -1) ∧ (25 < k → v1 178 45 = -1) ∧ ∀ r, r < 178 → v1 r = v r ∧ ρ1 r = ρ r ∧ Z1.1 r = Z.1 r ∧ Z1.2.1 r = Z.2.1 r
theorem md_rg : ∀ j : Nat, j < 31 → (mdT[j]?).map (fun q => q.2.1) = some (179 + (j : Int)) := by decide
theorem md_rg' {j : Nat} {q : Nat × Int × Nat × Int} (h : mdT[j]? = some q) : j < 31 ∧ q.2.1 = 179 + (j : Int) := by
  have hj : j < 31 := by
    rcases Nat.lt_or_ge j 31 with h1 | h1
    · exact h1
    · rw [List.getElem?_eq_none (show mdT.length ≤ j from h1)] at h; cases h
  have z := md_rg j hj
  rw [h] at z
  exact ⟨hj, Option.some.inj z⟩
theorem MI.al {k : Nat} {v ρ : Mv} {Z : Mz} {v1 ρ1 : Mv} {Z1 : Mz} {v2 ρ2 : Mv} {Z2 : Mz} {f K N : Nat} (h : MI k v ρ Z v1 ρ1 Z1) (hal : Al1 (179 + (k : Int)) v1 ρ1 Z1 v2 ρ2 Z2 K (N : Int)) (hq : mdT[k]? = some (f, 179 + (k : Int), K, (N : Int))) (hd : ∀ j, j < k → ∀ q, mdT[j]? = some q → q.1 ≠ f) (h25 : k ≠ 25 ∨ v1 178 45 = -1) : MI (k + 1) v ρ Z v2 (up ρ2 178 f (179 + (k : Int))) Z2 := by
  obtain ⟨h1, h2, h3, h4, h5, h6, h7, h8⟩ := h
  obtain ⟨a1, a2, a3, a4, a5, a6⟩ := hal
  have a178 := a6 178 (by omega)
  refine ⟨by omega, a178.2.2.1.trans h2, fun j q hj hjq => ?_, fun r j r0 r1 => ?_, fun j hj => by rw [a178.1]; exact h5 j hj, by rw [a178.1]; exact h6, fun hk => by rw [a178.1]; rcases h25 with e | e; exact h7 (by omega); exact e, fun r hr => ?_⟩
  · by_cases e : j = k
    · subst e
      rw [hq] at hjq; cases hjq
      exact ⟨up_s _ _ _ _, a2, a3⟩
    · have hjk : j < k := by omega
      have hr := (md_rg' hjq).2
      have b := h3 j q hjk hjq
      have c := a6 q.2.1 (by omega)
      refine ⟨?_, c.2.2.1.trans b.2.1, c.2.2.2.trans b.2.2⟩
      rw [up_k (fun z => hd j hjk q hjq (by exact_mod_cast z)), a178.2.1]; exact b.1
  · by_cases e : r = 179 + (k : Int)
    · subst e; exact a4 j
    · rw [(a6 r e).1]; exact h4 r j r0 (by omega)
  · have c := a6 r (by omega)
    have d := h8 r hr
    exact ⟨c.1.trans d.1, (up_f (by omega)).trans (c.2.1.trans d.2.1), c.2.2.1.trans d.2.2.1, c.2.2.2.trans d.2.2.2⟩
theorem MI.tk {v ρ : Mv} {Z : Mz} {v1 ρ1 : Mv} {Z1 : Mz} {k : Nat} (h : MI k v ρ Z v1 ρ1 Z1) : MI k v ρ Z (up v1 178 45 (-1)) ρ1 Z1 := by
  obtain ⟨h1, h2, h3, h4, h5, h6, h7, h8⟩ := h
  exact ⟨h1, h2, h3, fun r j a b => by rw [up_f (by omega)]; exact h4 r j a b, fun j hj => by rw [up_k hj]; exact h5 j hj, Or.inr (up_s _ _ _ _), fun _ => up_s _ _ _ _, fun r hr => ⟨(up_f (by omega)).trans (h8 r hr).1, (h8 r hr).2⟩⟩
theorem MI.gm {v ρ : Mv} {Z : Mz} {v1 ρ1 : Mv} {Z1 : Mz} (h : MI 31 v ρ Z v1 ρ1 Z1) : GM ρ1 Z1 := ⟨h.2.1, fun q hq => by
  obtain ⟨j, hj⟩ := List.getElem?_of_mem hq
  exact h.2.2.1 j q (md_rg' hj).1 hj⟩
def MdQ (v ρ : Mv) (Z : Mz) : Option V2 → Mv → Mv → Mz → Prop := fun o v' ρ' Z' => o = none ∧ Z'.2.2 = 210 ∧ GM ρ' Z' ∧ SInv (v' 180) ∧ v' 178 45 = -1 ∧ (∀ k, k ≠ 45 → v' 178 k = 0) ∧ (∀ r k, 179 ≤ r → r < 210 → r ≠ 180 → r ≠ 181 → r ≠ 184 → v' r k = 0) ∧ ∀ r, r < 178 → v' r = v r ∧ ρ' r = ρ r ∧ Z'.1 r = Z.1 r ∧ Z'.2.1 r = Z.2.1 r
theorem c_init_h31 (g : Gp) (X : Cx) {v ρ : Mv} {Z : Mz} (hX : okX g X F_m_init) (hRm : xR X = rmd 3 31 146297) (hQ : hQt g X (MdQ v ρ Z) 31 146297) (v1 ρ1 : Mv) (Z1 : Mz) (hI : MI 31 v ρ Z v1 ρ1 Z1) : wp g X F_m_init 31 146297 255 [(2, 178), (3, 0)] [] v1 ρ1 Z1 :=
  c_init_tail g X v1 ρ1 Z1 hX hRm hQ hI.gm (fun k => hI.2.2.2.1 180 k (by decide) (by decide)) (fun v' hf hS => ⟨rfl, hI.1, hI.gm, hS, (hf.2 45 (by decide)).trans (hI.2.2.2.2.2.2.1 (by decide)), fun k hk => (hf.2 k (by simp)).trans (hI.2.2.2.2.1 k hk), fun r k a b c d e => by rw [hf.1 r (by simp; omega) (by omega)]; exact hI.2.2.2.1 r k a b, fun r hr => ⟨(hf.1 r (by simp; omega) (by omega)).trans (hI.2.2.2.2.2.2.2 r hr).1, (hI.2.2.2.2.2.2.2 r hr).2⟩⟩)
set_option maxHeartbeats 4000000 in
set_option maxRecDepth 100000 in
theorem c_init_h30 (g : Gp) (X : Cx) {v ρ : Mv} {Z : Mz} (hX : okX g X F_m_init) (hRm : xR X = rmd 3 31 146297) (hQ : hQt g X (MdQ v ρ Z) 31 146297) (v1 ρ1 : Mv) (Z1 : Mz) (hI : MI 30 v ρ Z v1 ρ1 Z1) : wp g X F_m_init 30 146295 248 [(2, 178), (3, 0)] [] v1 ρ1 Z1 := by
  refine r_aload_n (pc := 248) hX 125 rfl rfl ?_
  refine r_iconst (pc := 249) hX 126 rfl ?_
  refine r_newaX (pc := 250) hX 127 16 2 (n := 209) (by have := hI.1; omega) rfl rfl (by decide) (by decide) ac_boolean (by decide) (by decide) (by rw [hRm]; exact Nat.le_of_ble_eq_true rfl) (by rw [hRm]; exact Nat.le_of_ble_eq_true rfl) (fun v2 ρ2 Z2 hal => ?_)
  refine r_putRF (K := 12) (k := 59) (pc := 252) hX 128 rfl rfl (by decide) fw_X12_127 rfl rfl rfl rfl (((hal.2.2.2.2.2 178 (by decide)).2.2.1).trans hI.2.1) (by decide) ?_
  exact c_init_h31 g X hX hRm hQ _ _ _ (hI.al (k := 30) (f := 59) (K := 16) (N := 2) hal rfl (by decide) (Or.inl (by decide)))
set_option maxHeartbeats 4000000 in
set_option maxRecDepth 100000 in
theorem c_init_h29 (g : Gp) (X : Cx) {v ρ : Mv} {Z : Mz} (hX : okX g X F_m_init) (hRm : xR X = rmd 3 31 146297) (hQ : hQt g X (MdQ v ρ Z) 31 146297) (v1 ρ1 : Mv) (Z1 : Mz) (hI : MI 29 v ρ Z v1 ρ1 Z1) : wp g X F_m_init 29 146275 240 [(2, 178), (3, 0)] [] v1 ρ1 Z1 := by
  refine r_aload_n (pc := 240) hX 121 rfl rfl ?_
  refine r_bipush (pc := 241) hX 122 rfl (by decide) ?_
  refine r_newaX (pc := 243) hX 123 14 20 (n := 208) (by have := hI.1; omega) rfl rfl (by decide) (by decide) ac_long (by decide) (by decide) (by rw [hRm]; exact Nat.le_of_ble_eq_true rfl) (by rw [hRm]; exact Nat.le_of_ble_eq_true rfl) (fun v2 ρ2 Z2 hal => ?_)
  refine r_putRF (K := 12) (k := 58) (pc := 245) hX 124 rfl rfl (by decide) fw_X12_124 rfl rfl rfl rfl (((hal.2.2.2.2.2 178 (by decide)).2.2.1).trans hI.2.1) (by decide) ?_
  exact c_init_h30 g X hX hRm hQ _ _ _ (hI.al (k := 29) (f := 58) (K := 14) (N := 20) hal rfl (by decide) (Or.inl (by decide)))
set_option maxHeartbeats 4000000 in
set_option maxRecDepth 100000 in
theorem c_init_h28 (g : Gp) (X : Cx) {v ρ : Mv} {Z : Mz} (hX : okX g X F_m_init) (hRm : xR X = rmd 3 31 146297) (hQ : hQt g X (MdQ v ρ Z) 31 146297) (v1 ρ1 : Mv) (Z1 : Mz) (hI : MI 28 v ρ Z v1 ρ1 Z1) : wp g X F_m_init 28 145799 231 [(2, 178), (3, 0)] [] v1 ρ1 Z1 := by
  refine r_aload_n (pc := 231) hX 117 rfl rfl ?_
  refine r_sipush (pc := 232) hX 118 rfl (by decide) ?_
  refine r_newaX (pc := 235) hX 119 13 476 (n := 207) (by have := hI.1; omega) rfl rfl (by decide) (by decide) ac_int (by decide) (by decide) (by rw [hRm]; exact Nat.le_of_ble_eq_true rfl) (by rw [hRm]; exact Nat.le_of_ble_eq_true rfl) (fun v2 ρ2 Z2 hal => ?_)
  refine r_putRF (K := 12) (k := 57) (pc := 237) hX 120 rfl rfl (by decide) fw_X12_121 rfl rfl rfl rfl (((hal.2.2.2.2.2 178 (by decide)).2.2.1).trans hI.2.1) (by decide) ?_
  exact c_init_h29 g X hX hRm hQ _ _ _ (hI.al (k := 28) (f := 57) (K := 13) (N := 476) hal rfl (by decide) (Or.inl (by decide)))
set_option maxHeartbeats 4000000 in
set_option maxRecDepth 100000 in
theorem c_init_h27 (g : Gp) (X : Cx) {v ρ : Mv} {Z : Mz} (hX : okX g X F_m_init) (hRm : xR X = rmd 3 31 146297) (hQ : hQt g X (MdQ v ρ Z) 31 146297) (v1 ρ1 : Mv) (Z1 : Mz) (hI : MI 27 v ρ Z v1 ρ1 Z1) : wp g X F_m_init 27 145754 223 [(2, 178), (3, 0)] [] v1 ρ1 Z1 := by
  refine r_aload_n (pc := 223) hX 113 rfl rfl ?_
  refine r_bipush (pc := 224) hX 114 rfl (by decide) ?_
  refine r_newaX (pc := 226) hX 115 16 45 (n := 206) (by have := hI.1; omega) rfl rfl (by decide) (by decide) ac_boolean (by decide) (by decide) (by rw [hRm]; exact Nat.le_of_ble_eq_true rfl) (by rw [hRm]; exact Nat.le_of_ble_eq_true rfl) (fun v2 ρ2 Z2 hal => ?_)
  refine r_putRF (K := 12) (k := 56) (pc := 228) hX 116 rfl rfl (by decide) fw_X12_117 rfl rfl rfl rfl (((hal.2.2.2.2.2 178 (by decide)).2.2.1).trans hI.2.1) (by decide) ?_
  exact c_init_h28 g X hX hRm hQ _ _ _ (hI.al (k := 27) (f := 56) (K := 16) (N := 45) hal rfl (by decide) (Or.inl (by decide)))
set_option maxHeartbeats 4000000 in
set_option maxRecDepth 100000 in
theorem c_init_h26 (g : Gp) (X : Cx) {v ρ : Mv} {Z : Mz} (hX : okX g X F_m_init) (hRm : xR X = rmd 3 31 146297) (hQ : hQt g X (MdQ v ρ Z) 31 146297) (v1 ρ1 : Mv) (Z1 : Mz) (hI : MI 26 v ρ Z v1 ρ1 Z1) : wp g X F_m_init 26 145709 215 [(2, 178), (3, 0)] [] v1 ρ1 Z1 := by
  refine r_aload_n (pc := 215) hX 109 rfl rfl ?_
  refine r_bipush (pc := 216) hX 110 rfl (by decide) ?_
  refine r_newaX (pc := 218) hX 111 13 45 (n := 205) (by have := hI.1; omega) rfl rfl (by decide) (by decide) ac_int (by decide) (by decide) (by rw [hRm]; exact Nat.le_of_ble_eq_true rfl) (by rw [hRm]; exact Nat.le_of_ble_eq_true rfl) (fun v2 ρ2 Z2 hal => ?_)
  refine r_putRF (K := 12) (k := 50) (pc := 220) hX 112 rfl rfl (by decide) fw_X12_114 rfl rfl rfl rfl (((hal.2.2.2.2.2 178 (by decide)).2.2.1).trans hI.2.1) (by decide) ?_
  exact c_init_h27 g X hX hRm hQ _ _ _ (hI.al (k := 26) (f := 50) (K := 13) (N := 45) hal rfl (by decide) (Or.inl (by decide)))
set_option maxHeartbeats 4000000 in
set_option maxRecDepth 100000 in
theorem c_init_h25 (g : Gp) (X : Cx) {v ρ : Mv} {Z : Mz} (hX : okX g X F_m_init) (hRm : xR X = rmd 3 31 146297) (hQ : hQt g X (MdQ v ρ Z) 31 146297) (v1 ρ1 : Mv) (Z1 : Mz) (hI : MI 25 v ρ Z v1 ρ1 Z1) : wp g X F_m_init 25 145705 203 [(2, 178), (3, 0)] [] v1 ρ1 Z1 := by
  refine r_aload_n (pc := 203) hX 102 rfl rfl ?_
  refine r_iconst (pc := 204) hX 103 rfl ?_
  refine r_putI (pc := 205) hX 104 rfl fl_X12_108 rfl (fun _ h => by cases h; rfl) hI.2.1 (by decide) ?_
  replace hI := hI.tk
  refine r_aload_n (pc := 208) hX 105 rfl rfl ?_
  refine r_iconst (pc := 209) hX 106 rfl ?_
  refine r_newaX (pc := 210) hX 107 13 4 (n := 204) (by have := hI.1; omega) rfl rfl (by decide) (by decide) ac_int (by decide) (by decide) (by rw [hRm]; exact Nat.le_of_ble_eq_true rfl) (by rw [hRm]; exact Nat.le_of_ble_eq_true rfl) (fun v2 ρ2 Z2 hal => ?_)
  refine r_putRF (K := 12) (k := 48) (pc := 212) hX 108 rfl rfl (by decide) fw_X12_111 rfl rfl rfl rfl (((hal.2.2.2.2.2 178 (by decide)).2.2.1).trans hI.2.1) (by decide) ?_
  exact c_init_h26 g X hX hRm hQ _ _ _ (hI.al (k := 25) (f := 48) (K := 13) (N := 4) hal rfl (by decide) (Or.inr (up_s _ _ _ _)))
set_option maxHeartbeats 4000000 in
set_option maxRecDepth 100000 in
theorem c_init_h24 (g : Gp) (X : Cx) {v ρ : Mv} {Z : Mz} (hX : okX g X F_m_init) (hRm : xR X = rmd 3 31 146297) (hQ : hQt g X (MdQ v ρ Z) 31 146297) (v1 ρ1 : Mv) (Z1 : Mz) (hI : MI 24 v ρ Z v1 ρ1 Z1) : wp g X F_m_init 24 145702 196 [(2, 178), (3, 0)] [] v1 ρ1 Z1 := by
  refine r_aload_n (pc := 196) hX 98 rfl rfl ?_
  refine r_iconst (pc := 197) hX 99 rfl ?_
  refine r_newaX (pc := 198) hX 100 13 3 (n := 203) (by have := hI.1; omega) rfl rfl (by decide) (by decide) ac_int (by decide) (by decide) (by rw [hRm]; exact Nat.le_of_ble_eq_true rfl) (by rw [hRm]; exact Nat.le_of_ble_eq_true rfl) (fun v2 ρ2 Z2 hal => ?_)
  refine r_putRF (K := 12) (k := 44) (pc := 200) hX 101 rfl rfl (by decide) fw_X12_105 rfl rfl rfl rfl (((hal.2.2.2.2.2 178 (by decide)).2.2.1).trans hI.2.1) (by decide) ?_
  exact c_init_h25 g X hX hRm hQ _ _ _ (hI.al (k := 24) (f := 44) (K := 13) (N := 3) hal rfl (by decide) (Or.inl (by decide)))
set_option maxHeartbeats 4000000 in
set_option maxRecDepth 100000 in
theorem c_init_h23 (g : Gp) (X : Cx) {v ρ : Mv} {Z : Mz} (hX : okX g X F_m_init) (hRm : xR X = rmd 3 31 146297) (hQ : hQt g X (MdQ v ρ Z) 31 146297) (v1 ρ1 : Mv) (Z1 : Mz) (hI : MI 23 v ρ Z v1 ρ1 Z1) : wp g X F_m_init 23 145697 189 [(2, 178), (3, 0)] [] v1 ρ1 Z1 := by
  refine r_aload_n (pc := 189) hX 94 rfl rfl ?_
  refine r_iconst (pc := 190) hX 95 rfl ?_
  refine r_newaX (pc := 191) hX 96 13 5 (n := 202) (by have := hI.1; omega) rfl rfl (by decide) (by decide) ac_int (by decide) (by decide) (by rw [hRm]; exact Nat.le_of_ble_eq_true rfl) (by rw [hRm]; exact Nat.le_of_ble_eq_true rfl) (fun v2 ρ2 Z2 hal => ?_)
  refine r_putRF (K := 12) (k := 41) (pc := 193) hX 97 rfl rfl (by decide) fw_X12_102 rfl rfl rfl rfl (((hal.2.2.2.2.2 178 (by decide)).2.2.1).trans hI.2.1) (by decide) ?_
  exact c_init_h24 g X hX hRm hQ _ _ _ (hI.al (k := 23) (f := 41) (K := 13) (N := 5) hal rfl (by decide) (Or.inl (by decide)))
set_option maxHeartbeats 4000000 in
set_option maxRecDepth 100000 in
theorem c_init_h22 (g : Gp) (X : Cx) {v ρ : Mv} {Z : Mz} (hX : okX g X F_m_init) (hRm : xR X = rmd 3 31 146297) (hQ : hQt g X (MdQ v ρ Z) 31 146297) (v1 ρ1 : Mv) (Z1 : Mz) (hI : MI 22 v ρ Z v1 ρ1 Z1) : wp g X F_m_init 22 145693 182 [(2, 178), (3, 0)] [] v1 ρ1 Z1 := by
  refine r_aload_n (pc := 182) hX 90 rfl rfl ?_
  refine r_iconst (pc := 183) hX 91 rfl ?_
  refine r_newaX (pc := 184) hX 92 13 4 (n := 201) (by have := hI.1; omega) rfl rfl (by decide) (by decide) ac_int (by decide) (by decide) (by rw [hRm]; exact Nat.le_of_ble_eq_true rfl) (by rw [hRm]; exact Nat.le_of_ble_eq_true rfl) (fun v2 ρ2 Z2 hal => ?_)
  refine r_putRF (K := 12) (k := 40) (pc := 186) hX 93 rfl rfl (by decide) fw_X12_99 rfl rfl rfl rfl (((hal.2.2.2.2.2 178 (by decide)).2.2.1).trans hI.2.1) (by decide) ?_
  exact c_init_h23 g X hX hRm hQ _ _ _ (hI.al (k := 22) (f := 40) (K := 13) (N := 4) hal rfl (by decide) (Or.inl (by decide)))
set_option maxHeartbeats 4000000 in
set_option maxRecDepth 100000 in
theorem c_init_h21 (g : Gp) (X : Cx) {v ρ : Mv} {Z : Mz} (hX : okX g X F_m_init) (hRm : xR X = rmd 3 31 146297) (hQ : hQt g X (MdQ v ρ Z) 31 146297) (v1 ρ1 : Mv) (Z1 : Mz) (hI : MI 21 v ρ Z v1 ρ1 Z1) : wp g X F_m_init 21 145498 173 [(2, 178), (3, 0)] [] v1 ρ1 Z1 := by
  refine r_aload_n (pc := 173) hX 86 rfl rfl ?_
  refine r_sipush (pc := 174) hX 87 rfl (by decide) ?_
  refine r_newaX (pc := 177) hX 88 14 195 (n := 200) (by have := hI.1; omega) rfl rfl (by decide) (by decide) ac_long (by decide) (by decide) (by rw [hRm]; exact Nat.le_of_ble_eq_true rfl) (by rw [hRm]; exact Nat.le_of_ble_eq_true rfl) (fun v2 ρ2 Z2 hal => ?_)
  refine r_putRF (K := 12) (k := 39) (pc := 179) hX 89 rfl rfl (by decide) fw_X12_96 rfl rfl rfl rfl (((hal.2.2.2.2.2 178 (by decide)).2.2.1).trans hI.2.1) (by decide) ?_
  exact c_init_h22 g X hX hRm hQ _ _ _ (hI.al (k := 21) (f := 39) (K := 14) (N := 195) hal rfl (by decide) (Or.inl (by decide)))
set_option maxHeartbeats 4000000 in
set_option maxRecDepth 100000 in
theorem c_init_h20 (g : Gp) (X : Cx) {v ρ : Mv} {Z : Mz} (hX : okX g X F_m_init) (hRm : xR X = rmd 3 31 146297) (hQ : hQt g X (MdQ v ρ Z) 31 146297) (v1 ρ1 : Mv) (Z1 : Mz) (hI : MI 20 v ρ Z v1 ρ1 Z1) : wp g X F_m_init 20 116937 164 [(2, 178), (3, 0)] [] v1 ρ1 Z1 := by
  refine r_aload_n (pc := 164) hX 82 rfl rfl ?_
  refine r_sipush (pc := 165) hX 83 rfl (by decide) ?_
  refine r_newaX (pc := 168) hX 84 14 28561 (n := 199) (by have := hI.1; omega) rfl rfl (by decide) (by decide) ac_long (by decide) (by decide) (by rw [hRm]; exact Nat.le_of_ble_eq_true rfl) (by rw [hRm]; exact Nat.le_of_ble_eq_true rfl) (fun v2 ρ2 Z2 hal => ?_)
  refine r_putRF (K := 12) (k := 38) (pc := 170) hX 85 rfl rfl (by decide) fw_X12_93 rfl rfl rfl rfl (((hal.2.2.2.2.2 178 (by decide)).2.2.1).trans hI.2.1) (by decide) ?_
  exact c_init_h21 g X hX hRm hQ _ _ _ (hI.al (k := 20) (f := 38) (K := 14) (N := 28561) hal rfl (by decide) (Or.inl (by decide)))
set_option maxHeartbeats 4000000 in
set_option maxRecDepth 100000 in
theorem c_init_h19 (g : Gp) (X : Cx) {v ρ : Mv} {Z : Mz} (hX : okX g X F_m_init) (hRm : xR X = rmd 3 31 146297) (hQ : hQt g X (MdQ v ρ Z) 31 146297) (v1 ρ1 : Mv) (Z1 : Mz) (hI : MI 19 v ρ Z v1 ρ1 Z1) : wp g X F_m_init 19 88376 155 [(2, 178), (3, 0)] [] v1 ρ1 Z1 := by
  refine r_aload_n (pc := 155) hX 78 rfl rfl ?_
  refine r_sipush (pc := 156) hX 79 rfl (by decide) ?_
  refine r_newaX (pc := 159) hX 80 14 28561 (n := 198) (by have := hI.1; omega) rfl rfl (by decide) (by decide) ac_long (by decide) (by decide) (by rw [hRm]; exact Nat.le_of_ble_eq_true rfl) (by rw [hRm]; exact Nat.le_of_ble_eq_true rfl) (fun v2 ρ2 Z2 hal => ?_)
  refine r_putRF (K := 12) (k := 37) (pc := 161) hX 81 rfl rfl (by decide) fw_X12_90 rfl rfl rfl rfl (((hal.2.2.2.2.2 178 (by decide)).2.2.1).trans hI.2.1) (by decide) ?_
  exact c_init_h20 g X hX hRm hQ _ _ _ (hI.al (k := 19) (f := 37) (K := 14) (N := 28561) hal rfl (by decide) (Or.inl (by decide)))
set_option maxHeartbeats 4000000 in
set_option maxRecDepth 100000 in
theorem c_init_h18 (g : Gp) (X : Cx) {v ρ : Mv} {Z : Mz} (hX : okX g X F_m_init) (hRm : xR X = rmd 3 31 146297) (hQ : hQt g X (MdQ v ρ Z) 31 146297) (v1 ρ1 : Mv) (Z1 : Mz) (hI : MI 18 v ρ Z v1 ρ1 Z1) : wp g X F_m_init 18 3083 147 [(2, 178), (3, 0)] [] v1 ρ1 Z1 := by
  refine r_aload_n (pc := 147) hX 74 rfl rfl ?_
  refine r_ldc (y := 85293) (pc := 148) hX 75 rfl ki_X12_86 (by decide) ?_
  refine r_newaX (pc := 150) hX 76 14 85293 (n := 197) (by have := hI.1; omega) rfl rfl (by decide) (by decide) ac_long (by decide) (by decide) (by rw [hRm]; exact Nat.le_of_ble_eq_true rfl) (by rw [hRm]; exact Nat.le_of_ble_eq_true rfl) (fun v2 ρ2 Z2 hal => ?_)
  refine r_putRF (K := 12) (k := 36) (pc := 152) hX 77 rfl rfl (by decide) fw_X12_87 rfl rfl rfl rfl (((hal.2.2.2.2.2 178 (by decide)).2.2.1).trans hI.2.1) (by decide) ?_
  exact c_init_h19 g X hX hRm hQ _ _ _ (hI.al (k := 18) (f := 36) (K := 14) (N := 85293) hal rfl (by decide) (Or.inl (by decide)))
set_option maxHeartbeats 4000000 in
set_option maxRecDepth 100000 in
theorem c_init_h17 (g : Gp) (X : Cx) {v ρ : Mv} {Z : Mz} (hX : okX g X F_m_init) (hRm : xR X = rmd 3 31 146297) (hQ : hQt g X (MdQ v ρ Z) 31 146297) (v1 ρ1 : Mv) (Z1 : Mz) (hI : MI 17 v ρ Z v1 ρ1 Z1) : wp g X F_m_init 17 3080 140 [(2, 178), (3, 0)] [] v1 ρ1 Z1 := by
  refine r_aload_n (pc := 140) hX 70 rfl rfl ?_
  refine r_iconst (pc := 141) hX 71 rfl ?_
  refine r_newaX (pc := 142) hX 72 13 3 (n := 196) (by have := hI.1; omega) rfl rfl (by decide) (by decide) ac_int (by decide) (by decide) (by rw [hRm]; exact Nat.le_of_ble_eq_true rfl) (by rw [hRm]; exact Nat.le_of_ble_eq_true rfl) (fun v2 ρ2 Z2 hal => ?_)
  refine r_putRF (K := 12) (k := 34) (pc := 144) hX 73 rfl rfl (by decide) fw_X12_83 rfl rfl rfl rfl (((hal.2.2.2.2.2 178 (by decide)).2.2.1).trans hI.2.1) (by decide) ?_
  exact c_init_h18 g X hX hRm hQ _ _ _ (hI.al (k := 17) (f := 34) (K := 13) (N := 3) hal rfl (by decide) (Or.inl (by decide)))
set_option maxHeartbeats 4000000 in
set_option maxRecDepth 100000 in
theorem c_init_h16 (g : Gp) (X : Cx) {v ρ : Mv} {Z : Mz} (hX : okX g X F_m_init) (hRm : xR X = rmd 3 31 146297) (hQ : hQt g X (MdQ v ρ Z) 31 146297) (v1 ρ1 : Mv) (Z1 : Mz) (hI : MI 16 v ρ Z v1 ρ1 Z1) : wp g X F_m_init 16 3077 133 [(2, 178), (3, 0)] [] v1 ρ1 Z1 := by
  refine r_aload_n (pc := 133) hX 66 rfl rfl ?_
  refine r_iconst (pc := 134) hX 67 rfl ?_
  refine r_newaX (pc := 135) hX 68 13 3 (n := 195) (by have := hI.1; omega) rfl rfl (by decide) (by decide) ac_int (by decide) (by decide) (by rw [hRm]; exact Nat.le_of_ble_eq_true rfl) (by rw [hRm]; exact Nat.le_of_ble_eq_true rfl) (fun v2 ρ2 Z2 hal => ?_)
  refine r_putRF (K := 12) (k := 33) (pc := 137) hX 69 rfl rfl (by decide) fw_X12_80 rfl rfl rfl rfl (((hal.2.2.2.2.2 178 (by decide)).2.2.1).trans hI.2.1) (by decide) ?_
  exact c_init_h17 g X hX hRm hQ _ _ _ (hI.al (k := 16) (f := 33) (K := 13) (N := 3) hal rfl (by decide) (Or.inl (by decide)))
set_option maxHeartbeats 4000000 in
set_option maxRecDepth 100000 in
theorem c_init_h15 (g : Gp) (X : Cx) {v ρ : Mv} {Z : Mz} (hX : okX g X F_m_init) (hRm : xR X = rmd 3 31 146297) (hQ : hQt g X (MdQ v ρ Z) 31 146297) (v1 ρ1 : Mv) (Z1 : Mz) (hI : MI 15 v ρ Z v1 ρ1 Z1) : wp g X F_m_init 15 3074 126 [(2, 178), (3, 0)] [] v1 ρ1 Z1 := by
  refine r_aload_n (pc := 126) hX 62 rfl rfl ?_
  refine r_iconst (pc := 127) hX 63 rfl ?_
  refine r_newaX (pc := 128) hX 64 13 3 (n := 194) (by have := hI.1; omega) rfl rfl (by decide) (by decide) ac_int (by decide) (by decide) (by rw [hRm]; exact Nat.le_of_ble_eq_true rfl) (by rw [hRm]; exact Nat.le_of_ble_eq_true rfl) (fun v2 ρ2 Z2 hal => ?_)
  refine r_putRF (K := 12) (k := 32) (pc := 130) hX 65 rfl rfl (by decide) fw_X12_77 rfl rfl rfl rfl (((hal.2.2.2.2.2 178 (by decide)).2.2.1).trans hI.2.1) (by decide) ?_
  exact c_init_h16 g X hX hRm hQ _ _ _ (hI.al (k := 15) (f := 32) (K := 13) (N := 3) hal rfl (by decide) (Or.inl (by decide)))
set_option maxHeartbeats 4000000 in
set_option maxRecDepth 100000 in
theorem c_init_h14 (g : Gp) (X : Cx) {v ρ : Mv} {Z : Mz} (hX : okX g X F_m_init) (hRm : xR X = rmd 3 31 146297) (hQ : hQt g X (MdQ v ρ Z) 31 146297) (v1 ρ1 : Mv) (Z1 : Mz) (hI : MI 14 v ρ Z v1 ρ1 Z1) : wp g X F_m_init 14 3061 118 [(2, 178), (3, 0)] [] v1 ρ1 Z1 := by
  refine r_aload_n (pc := 118) hX 58 rfl rfl ?_
  refine r_bipush (pc := 119) hX 59 rfl (by decide) ?_
  refine r_newaX (pc := 121) hX 60 14 13 (n := 193) (by have := hI.1; omega) rfl rfl (by decide) (by decide) ac_long (by decide) (by decide) (by rw [hRm]; exact Nat.le_of_ble_eq_true rfl) (by rw [hRm]; exact Nat.le_of_ble_eq_true rfl) (fun v2 ρ2 Z2 hal => ?_)
  refine r_putRF (K := 12) (k := 30) (pc := 123) hX 61 rfl rfl (by decide) fw_X12_74 rfl rfl rfl rfl (((hal.2.2.2.2.2 178 (by decide)).2.2.1).trans hI.2.1) (by decide) ?_
  exact c_init_h15 g X hX hRm hQ _ _ _ (hI.al (k := 14) (f := 30) (K := 14) (N := 13) hal rfl (by decide) (Or.inl (by decide)))
set_option maxHeartbeats 4000000 in
set_option maxRecDepth 100000 in
theorem c_init_h13 (g : Gp) (X : Cx) {v ρ : Mv} {Z : Mz} (hX : okX g X F_m_init) (hRm : xR X = rmd 3 31 146297) (hQ : hQt g X (MdQ v ρ Z) 31 146297) (v1 ρ1 : Mv) (Z1 : Mz) (hI : MI 13 v ρ Z v1 ρ1 Z1) : wp g X F_m_init 13 3057 111 [(2, 178), (3, 0)] [] v1 ρ1 Z1 := by
  refine r_aload_n (pc := 111) hX 54 rfl rfl ?_
  refine r_iconst (pc := 112) hX 55 rfl ?_
  refine r_newaX (pc := 113) hX 56 14 4 (n := 192) (by have := hI.1; omega) rfl rfl (by decide) (by decide) ac_long (by decide) (by decide) (by rw [hRm]; exact Nat.le_of_ble_eq_true rfl) (by rw [hRm]; exact Nat.le_of_ble_eq_true rfl) (fun v2 ρ2 Z2 hal => ?_)
  refine r_putRF (K := 12) (k := 29) (pc := 115) hX 57 rfl rfl (by decide) fw_X12_71 rfl rfl rfl rfl (((hal.2.2.2.2.2 178 (by decide)).2.2.1).trans hI.2.1) (by decide) ?_
  exact c_init_h14 g X hX hRm hQ _ _ _ (hI.al (k := 13) (f := 29) (K := 14) (N := 4) hal rfl (by decide) (Or.inl (by decide)))
set_option maxHeartbeats 4000000 in
set_option maxRecDepth 100000 in
theorem c_init_h12 (g : Gp) (X : Cx) {v ρ : Mv} {Z : Mz} (hX : okX g X F_m_init) (hRm : xR X = rmd 3 31 146297) (hQ : hQt g X (MdQ v ρ Z) 31 146297) (v1 ρ1 : Mv) (Z1 : Mz) (hI : MI 12 v ρ Z v1 ρ1 Z1) : wp g X F_m_init 12 2328 102 [(2, 178), (3, 0)] [] v1 ρ1 Z1 := by
  refine r_aload_n (pc := 102) hX 50 rfl rfl ?_
  refine r_sipush (pc := 103) hX 51 rfl (by decide) ?_
  refine r_newaX (pc := 106) hX 52 14 729 (n := 191) (by have := hI.1; omega) rfl rfl (by decide) (by decide) ac_long (by decide) (by decide) (by rw [hRm]; exact Nat.le_of_ble_eq_true rfl) (by rw [hRm]; exact Nat.le_of_ble_eq_true rfl) (fun v2 ρ2 Z2 hal => ?_)
  refine r_putRF (K := 12) (k := 28) (pc := 108) hX 53 rfl rfl (by decide) fw_X12_68 rfl rfl rfl rfl (((hal.2.2.2.2.2 178 (by decide)).2.2.1).trans hI.2.1) (by decide) ?_
  exact c_init_h13 g X hX hRm hQ _ _ _ (hI.al (k := 12) (f := 28) (K := 14) (N := 729) hal rfl (by decide) (Or.inl (by decide)))
set_option maxHeartbeats 4000000 in
set_option maxRecDepth 100000 in
theorem c_init_h11 (g : Gp) (X : Cx) {v ρ : Mv} {Z : Mz} (hX : okX g X F_m_init) (hRm : xR X = rmd 3 31 146297) (hQ : hQt g X (MdQ v ρ Z) 31 146297) (v1 ρ1 : Mv) (Z1 : Mz) (hI : MI 11 v ρ Z v1 ρ1 Z1) : wp g X F_m_init 11 1599 93 [(2, 178), (3, 0)] [] v1 ρ1 Z1 := by
  refine r_aload_n (pc := 93) hX 46 rfl rfl ?_
  refine r_sipush (pc := 94) hX 47 rfl (by decide) ?_
  refine r_newaX (pc := 97) hX 48 14 729 (n := 190) (by have := hI.1; omega) rfl rfl (by decide) (by decide) ac_long (by decide) (by decide) (by rw [hRm]; exact Nat.le_of_ble_eq_true rfl) (by rw [hRm]; exact Nat.le_of_ble_eq_true rfl) (fun v2 ρ2 Z2 hal => ?_)
  refine r_putRF (K := 12) (k := 27) (pc := 99) hX 49 rfl rfl (by decide) fw_X12_65 rfl rfl rfl rfl (((hal.2.2.2.2.2 178 (by decide)).2.2.1).trans hI.2.1) (by decide) ?_
  exact c_init_h12 g X hX hRm hQ _ _ _ (hI.al (k := 11) (f := 27) (K := 14) (N := 729) hal rfl (by decide) (Or.inl (by decide)))
set_option maxHeartbeats 4000000 in
set_option maxRecDepth 100000 in
theorem c_init_h10 (g : Gp) (X : Cx) {v ρ : Mv} {Z : Mz} (hX : okX g X F_m_init) (hRm : xR X = rmd 3 31 146297) (hQ : hQt g X (MdQ v ρ Z) 31 146297) (v1 ρ1 : Mv) (Z1 : Mz) (hI : MI 10 v ρ Z v1 ρ1 Z1) : wp g X F_m_init 10 1596 86 [(2, 178), (3, 0)] [] v1 ρ1 Z1 := by
  refine r_aload_n (pc := 86) hX 42 rfl rfl ?_
  refine r_iconst (pc := 87) hX 43 rfl ?_
  refine r_newaX (pc := 88) hX 44 14 3 (n := 189) (by have := hI.1; omega) rfl rfl (by decide) (by decide) ac_long (by decide) (by decide) (by rw [hRm]; exact Nat.le_of_ble_eq_true rfl) (by rw [hRm]; exact Nat.le_of_ble_eq_true rfl) (fun v2 ρ2 Z2 hal => ?_)
  refine r_putRF (K := 12) (k := 26) (pc := 90) hX 45 rfl rfl (by decide) fw_X12_62 rfl rfl rfl rfl (((hal.2.2.2.2.2 178 (by decide)).2.2.1).trans hI.2.1) (by decide) ?_
  exact c_init_h11 g X hX hRm hQ _ _ _ (hI.al (k := 10) (f := 26) (K := 14) (N := 3) hal rfl (by decide) (Or.inl (by decide)))
set_option maxHeartbeats 4000000 in
set_option maxRecDepth 100000 in
theorem c_init_h9 (g : Gp) (X : Cx) {v ρ : Mv} {Z : Mz} (hX : okX g X F_m_init) (hRm : xR X = rmd 3 31 146297) (hQ : hQt g X (MdQ v ρ Z) 31 146297) (v1 ρ1 : Mv) (Z1 : Mz) (hI : MI 9 v ρ Z v1 ρ1 Z1) : wp g X F_m_init 9 1574 78 [(2, 178), (3, 0)] [] v1 ρ1 Z1 := by
  refine r_aload_n (pc := 78) hX 38 rfl rfl ?_
  refine r_bipush (pc := 79) hX 39 rfl (by decide) ?_
  refine r_newaX (pc := 81) hX 40 13 22 (n := 188) (by have := hI.1; omega) rfl rfl (by decide) (by decide) ac_int (by decide) (by decide) (by rw [hRm]; exact Nat.le_of_ble_eq_true rfl) (by rw [hRm]; exact Nat.le_of_ble_eq_true rfl) (fun v2 ρ2 Z2 hal => ?_)
  refine r_putRF (K := 12) (k := 24) (pc := 83) hX 41 rfl rfl (by decide) fw_X12_59 rfl rfl rfl rfl (((hal.2.2.2.2.2 178 (by decide)).2.2.1).trans hI.2.1) (by decide) ?_
  exact c_init_h10 g X hX hRm hQ _ _ _ (hI.al (k := 9) (f := 24) (K := 13) (N := 22) hal rfl (by decide) (Or.inl (by decide)))
set_option maxHeartbeats 4000000 in
set_option maxRecDepth 100000 in
theorem c_init_h8 (g : Gp) (X : Cx) {v ρ : Mv} {Z : Mz} (hX : okX g X F_m_init) (hRm : xR X = rmd 3 31 146297) (hQ : hQt g X (MdQ v ρ Z) 31 146297) (v1 ρ1 : Mv) (Z1 : Mz) (hI : MI 8 v ρ Z v1 ρ1 Z1) : wp g X F_m_init 8 1398 69 [(2, 178), (3, 0)] [] v1 ρ1 Z1 := by
  refine r_aload_n (pc := 69) hX 34 rfl rfl ?_
  refine r_sipush (pc := 70) hX 35 rfl (by decide) ?_
  refine r_newaX (pc := 73) hX 36 13 176 (n := 187) (by have := hI.1; omega) rfl rfl (by decide) (by decide) ac_int (by decide) (by decide) (by rw [hRm]; exact Nat.le_of_ble_eq_true rfl) (by rw [hRm]; exact Nat.le_of_ble_eq_true rfl) (fun v2 ρ2 Z2 hal => ?_)
  refine r_putRF (K := 12) (k := 23) (pc := 75) hX 37 rfl rfl (by decide) fw_X12_56 rfl rfl rfl rfl (((hal.2.2.2.2.2 178 (by decide)).2.2.1).trans hI.2.1) (by decide) ?_
  exact c_init_h9 g X hX hRm hQ _ _ _ (hI.al (k := 8) (f := 23) (K := 13) (N := 176) hal rfl (by decide) (Or.inl (by decide)))
set_option maxHeartbeats 4000000 in
set_option maxRecDepth 100000 in
theorem c_init_h7 (g : Gp) (X : Cx) {v ρ : Mv} {Z : Mz} (hX : okX g X F_m_init) (hRm : xR X = rmd 3 31 146297) (hQ : hQt g X (MdQ v ρ Z) 31 146297) (v1 ρ1 : Mv) (Z1 : Mz) (hI : MI 7 v ρ Z v1 ρ1 Z1) : wp g X F_m_init 7 1393 62 [(2, 178), (3, 0)] [] v1 ρ1 Z1 := by
  refine r_aload_n (pc := 62) hX 30 rfl rfl ?_
  refine r_iconst (pc := 63) hX 31 rfl ?_
  refine r_newaX (pc := 64) hX 32 13 5 (n := 186) (by have := hI.1; omega) rfl rfl (by decide) (by decide) ac_int (by decide) (by decide) (by rw [hRm]; exact Nat.le_of_ble_eq_true rfl) (by rw [hRm]; exact Nat.le_of_ble_eq_true rfl) (fun v2 ρ2 Z2 hal => ?_)
  refine r_putRF (K := 12) (k := 22) (pc := 66) hX 33 rfl rfl (by decide) fw_X12_53 rfl rfl rfl rfl (((hal.2.2.2.2.2 178 (by decide)).2.2.1).trans hI.2.1) (by decide) ?_
  exact c_init_h8 g X hX hRm hQ _ _ _ (hI.al (k := 7) (f := 22) (K := 13) (N := 5) hal rfl (by decide) (Or.inl (by decide)))
set_option maxHeartbeats 4000000 in
set_option maxRecDepth 100000 in
theorem c_init_h6 (g : Gp) (X : Cx) {v ρ : Mv} {Z : Mz} (hX : okX g X F_m_init) (hRm : xR X = rmd 3 31 146297) (hQ : hQt g X (MdQ v ρ Z) 31 146297) (v1 ρ1 : Mv) (Z1 : Mz) (hI : MI 6 v ρ Z v1 ρ1 Z1) : wp g X F_m_init 6 1390 55 [(2, 178), (3, 0)] [] v1 ρ1 Z1 := by
  refine r_aload_n (pc := 55) hX 26 rfl rfl ?_
  refine r_iconst (pc := 56) hX 27 rfl ?_
  refine r_newaX (pc := 57) hX 28 13 3 (n := 185) (by have := hI.1; omega) rfl rfl (by decide) (by decide) ac_int (by decide) (by decide) (by rw [hRm]; exact Nat.le_of_ble_eq_true rfl) (by rw [hRm]; exact Nat.le_of_ble_eq_true rfl) (fun v2 ρ2 Z2 hal => ?_)
  refine r_putRF (K := 12) (k := 21) (pc := 59) hX 29 rfl rfl (by decide) fw_X12_50 rfl rfl rfl rfl (((hal.2.2.2.2.2 178 (by decide)).2.2.1).trans hI.2.1) (by decide) ?_
  exact c_init_h7 g X hX hRm hQ _ _ _ (hI.al (k := 6) (f := 21) (K := 13) (N := 3) hal rfl (by decide) (Or.inl (by decide)))
set_option maxHeartbeats 4000000 in
set_option maxRecDepth 100000 in
theorem c_init_h5 (g : Gp) (X : Cx) {v ρ : Mv} {Z : Mz} (hX : okX g X F_m_init) (hRm : xR X = rmd 3 31 146297) (hQ : hQt g X (MdQ v ρ Z) 31 146297) (v1 ρ1 : Mv) (Z1 : Mz) (hI : MI 5 v ρ Z v1 ρ1 Z1) : wp g X F_m_init 5 1368 47 [(2, 178), (3, 0)] [] v1 ρ1 Z1 := by
  refine r_aload_n (pc := 47) hX 22 rfl rfl ?_
  refine r_bipush (pc := 48) hX 23 rfl (by decide) ?_
  refine r_newaX (pc := 50) hX 24 14 22 (n := 184) (by have := hI.1; omega) rfl rfl (by decide) (by decide) ac_long (by decide) (by decide) (by rw [hRm]; exact Nat.le_of_ble_eq_true rfl) (by rw [hRm]; exact Nat.le_of_ble_eq_true rfl) (fun v2 ρ2 Z2 hal => ?_)
  refine r_putRF (K := 12) (k := 10) (pc := 52) hX 25 rfl rfl (by decide) fw_X12_47 rfl rfl rfl rfl (((hal.2.2.2.2.2 178 (by decide)).2.2.1).trans hI.2.1) (by decide) ?_
  exact c_init_h6 g X hX hRm hQ _ _ _ (hI.al (k := 5) (f := 10) (K := 14) (N := 22) hal rfl (by decide) (Or.inl (by decide)))
set_option maxHeartbeats 4000000 in
set_option maxRecDepth 100000 in
theorem c_init_h4 (g : Gp) (X : Cx) {v ρ : Mv} {Z : Mz} (hX : okX g X F_m_init) (hRm : xR X = rmd 3 31 146297) (hQ : hQt g X (MdQ v ρ Z) 31 146297) (v1 ρ1 : Mv) (Z1 : Mz) (hI : MI 4 v ρ Z v1 ρ1 Z1) : wp g X F_m_init 4 1348 39 [(2, 178), (3, 0)] [] v1 ρ1 Z1 := by
  refine r_aload_n (pc := 39) hX 18 rfl rfl ?_
  refine r_bipush (pc := 40) hX 19 rfl (by decide) ?_
  refine r_newaX (pc := 42) hX 20 14 20 (n := 183) (by have := hI.1; omega) rfl rfl (by decide) (by decide) ac_long (by decide) (by decide) (by rw [hRm]; exact Nat.le_of_ble_eq_true rfl) (by rw [hRm]; exact Nat.le_of_ble_eq_true rfl) (fun v2 ρ2 Z2 hal => ?_)
  refine r_putRF (K := 12) (k := 9) (pc := 44) hX 21 rfl rfl (by decide) fw_X12_43 rfl rfl rfl rfl (((hal.2.2.2.2.2 178 (by decide)).2.2.1).trans hI.2.1) (by decide) ?_
  exact c_init_h5 g X hX hRm hQ _ _ _ (hI.al (k := 4) (f := 9) (K := 14) (N := 20) hal rfl (by decide) (Or.inl (by decide)))
set_option maxHeartbeats 4000000 in
set_option maxRecDepth 100000 in
theorem c_init_h3 (g : Gp) (X : Cx) {v ρ : Mv} {Z : Mz} (hX : okX g X F_m_init) (hRm : xR X = rmd 3 31 146297) (hQ : hQt g X (MdQ v ρ Z) 31 146297) (v1 ρ1 : Mv) (Z1 : Mz) (hI : MI 3 v ρ Z v1 ρ1 Z1) : wp g X F_m_init 3 1213 30 [(2, 178), (3, 0)] [] v1 ρ1 Z1 := by
  refine r_aload_n (pc := 30) hX 14 rfl rfl ?_
  refine r_sipush (pc := 31) hX 15 rfl (by decide) ?_
  refine r_newaX (pc := 34) hX 16 13 135 (n := 182) (by have := hI.1; omega) rfl rfl (by decide) (by decide) ac_int (by decide) (by decide) (by rw [hRm]; exact Nat.le_of_ble_eq_true rfl) (by rw [hRm]; exact Nat.le_of_ble_eq_true rfl) (fun v2 ρ2 Z2 hal => ?_)
  refine r_putRF (K := 12) (k := 8) (pc := 36) hX 17 rfl rfl (by decide) fw_X12_40 rfl rfl rfl rfl (((hal.2.2.2.2.2 178 (by decide)).2.2.1).trans hI.2.1) (by decide) ?_
  exact c_init_h4 g X hX hRm hQ _ _ _ (hI.al (k := 3) (f := 8) (K := 13) (N := 135) hal rfl (by decide) (Or.inl (by decide)))
set_option maxHeartbeats 4000000 in
set_option maxRecDepth 100000 in
theorem c_init_h2 (g : Gp) (X : Cx) {v ρ : Mv} {Z : Mz} (hX : okX g X F_m_init) (hRm : xR X = rmd 3 31 146297) (hQ : hQt g X (MdQ v ρ Z) 31 146297) (v1 ρ1 : Mv) (Z1 : Mz) (hI : MI 2 v ρ Z v1 ρ1 Z1) : wp g X F_m_init 2 1178 22 [(2, 178), (3, 0)] [] v1 ρ1 Z1 := by
  refine r_aload_n (pc := 22) hX 10 rfl rfl ?_
  refine r_bipush (pc := 23) hX 11 rfl (by decide) ?_
  refine r_newaX (pc := 25) hX 12 13 35 (n := 181) (by have := hI.1; omega) rfl rfl (by decide) (by decide) ac_int (by decide) (by decide) (by rw [hRm]; exact Nat.le_of_ble_eq_true rfl) (by rw [hRm]; exact Nat.le_of_ble_eq_true rfl) (fun v2 ρ2 Z2 hal => ?_)
  refine r_putRF (K := 12) (k := 7) (pc := 27) hX 13 rfl rfl (by decide) fw_X12_37 rfl rfl rfl rfl (((hal.2.2.2.2.2 178 (by decide)).2.2.1).trans hI.2.1) (by decide) ?_
  exact c_init_h3 g X hX hRm hQ _ _ _ (hI.al (k := 2) (f := 7) (K := 13) (N := 35) hal rfl (by decide) (Or.inl (by decide)))
set_option maxHeartbeats 4000000 in
set_option maxRecDepth 100000 in
theorem c_init_h1 (g : Gp) (X : Cx) {v ρ : Mv} {Z : Mz} (hX : okX g X F_m_init) (hRm : xR X = rmd 3 31 146297) (hQ : hQt g X (MdQ v ρ Z) 31 146297) (v1 ρ1 : Mv) (Z1 : Mz) (hI : MI 1 v ρ Z v1 ρ1 Z1) : wp g X F_m_init 1 940 13 [(2, 178), (3, 0)] [] v1 ρ1 Z1 := by
  refine r_aload_n (pc := 13) hX 6 rfl rfl ?_
  refine r_sipush (pc := 14) hX 7 rfl (by decide) ?_
  refine r_newaX (pc := 17) hX 8 13 238 (n := 180) (by have := hI.1; omega) rfl rfl (by decide) (by decide) ac_int (by decide) (by decide) (by rw [hRm]; exact Nat.le_of_ble_eq_true rfl) (by rw [hRm]; exact Nat.le_of_ble_eq_true rfl) (fun v2 ρ2 Z2 hal => ?_)
  refine r_putRF (K := 12) (k := 6) (pc := 19) hX 9 rfl rfl (by decide) fw_X12_33 rfl rfl rfl rfl (((hal.2.2.2.2.2 178 (by decide)).2.2.1).trans hI.2.1) (by decide) ?_
  exact c_init_h2 g X hX hRm hQ _ _ _ (hI.al (k := 1) (f := 6) (K := 13) (N := 238) hal rfl (by decide) (Or.inl (by decide)))
set_option maxHeartbeats 4000000 in
set_option maxRecDepth 100000 in
theorem c_init_h0 (g : Gp) (X : Cx) {v ρ : Mv} {Z : Mz} (hX : okX g X F_m_init) (hRm : xR X = rmd 3 31 146297) (hQ : hQt g X (MdQ v ρ Z) 31 146297) (v1 ρ1 : Mv) (Z1 : Mz) (hI : MI 0 v ρ Z v1 ρ1 Z1) : wp g X F_m_init 0 0 4 [(2, 178), (3, 0)] [] v1 ρ1 Z1 := by
  refine r_aload_n (pc := 4) hX 2 rfl rfl ?_
  refine r_sipush (pc := 5) hX 3 rfl (by decide) ?_
  refine r_newaX (pc := 8) hX 4 15 940 (n := 179) (by have := hI.1; omega) rfl rfl (by decide) (by decide) ac_byte (by decide) (by decide) (by rw [hRm]; exact Nat.le_of_ble_eq_true rfl) (by rw [hRm]; exact Nat.le_of_ble_eq_true rfl) (fun v2 ρ2 Z2 hal => ?_)
  refine r_putRF (K := 12) (k := 1) (pc := 10) hX 5 rfl rfl (by decide) fw_X12_14 rfl rfl rfl rfl (((hal.2.2.2.2.2 178 (by decide)).2.2.1).trans hI.2.1) (by decide) ?_
  exact c_init_h1 g X hX hRm hQ _ _ _ (hI.al (k := 0) (f := 1) (K := 15) (N := 940) hal rfl (by decide) (Or.inl (by decide)))
theorem c_init (g : Gp) (v ρ : Mv) (Z : Mz) (hk : Z.1 178 = 12) (hn : Z.2.2 = 179) (hv : ∀ k, v 178 k = 0) : Ok g 3 31 146297 F_m_init [(2, 178)] v ρ Z (MdQ v ρ Z) := by
  refine Ok.of mo_m_init (Nat.le_of_ble_eq_true rfl) ?_
  intro X hX hRm hxn hQ
  show wp g X F_m_init 0 0 0 [(2, 178), (3, 0)] [] v ρ Z
  refine r_aload_n (pc := 0) hX 0 rfl rfl ?_
  refine r_objInit (pc := 1) hX 1 rfl (by omega) oi_X12 oi_in oi_cd (by rw [hRm]; exact Nat.le_of_ble_eq_true rfl) (by rw [hRm]; exact Nat.le_of_ble_eq_true rfl) rfl ?_
  exact c_init_h0 g X hX hRm hQ v ρ Z ⟨by omega, hk, fun j q h => absurd h (Nat.not_lt_zero _), fun r j a b => by omega, fun j _ => hv j, Or.inl (hv 45), fun h => absurd h (by decide), fun r _ => ⟨rfl, rfl, rfl, rfl⟩⟩
