/-! the law's invariant between two calls -/
/-- the reference's own invariant between calls -/
def RfI (v : Mv) : Prop := (0 ≤ v 178 2 ∧ v 178 2 ≤ 940) ∧ inR (v 178 14) ∧ (0 ≤ v 178 11 ∧ v 178 11 ≤ 4) ∧ SInv (v 180) ∧ UInv (v 180) (v 187) (v 178 25) ∧ (∀ k, 0 ≤ k → k ≤ 1 → v 209 k ≠ 0 → SInv (fun i => v 207 (238 * k + i))) ∧ ChI (v 195) ∧ CsI (v 194) ∧ (-1 ≤ v 178 45 ∧ v 178 45 ≤ 3) ∧ (0 ≤ v 178 49 ∧ v 178 49 ≤ 1)
def LInv (N : Int) (sc : Int → Int) (ω : Rw) (v ρ : Mv) (Z : Mz) : Prop := HT ω v ρ Z ∧ ω 4 = 1 ∧ (∀ r, r ≤ 3 ∨ 178 ≤ r ∧ r ≤ 210 → ω r = 0) ∧ GM ρ Z ∧ (Z.1 3 = 13 ∧ Z.2.1 3 = N) ∧ (Z.1 210 = 14 ∧ Z.2.1 210 = 1) ∧ RfI v ∧ 211 ≤ Z.2.2 ∧ v 3 = sc
theorem LInv.ht {N : Int} {sc : Int → Int} {ω : Rw} {v ρ : Mv} {Z : Mz} (h : LInv N sc ω v ρ Z) : HT ω v ρ Z := h.1
theorem LInv.w4 {N : Int} {sc : Int → Int} {ω : Rw} {v ρ : Mv} {Z : Mz} (h : LInv N sc ω v ρ Z) : ω 4 = 1 := h.2.1
theorem LInv.k4 {N : Int} {sc : Int → Int} {ω : Rw} {v ρ : Mv} {Z : Mz} (h : LInv N sc ω v ρ Z) : Z.1 4 = 11 := h.1.kd h.2.1 (by decide)
theorem LInv.gm {N : Int} {sc : Int → Int} {ω : Rw} {v ρ : Mv} {Z : Mz} (h : LInv N sc ω v ρ Z) : GM ρ Z := h.2.2.2.1
theorem LInv.sk {N : Int} {sc : Int → Int} {ω : Rw} {v ρ : Mv} {Z : Mz} (h : LInv N sc ω v ρ Z) : Z.1 3 = 13 := h.2.2.2.2.1.1
theorem LInv.sl {N : Int} {sc : Int → Int} {ω : Rw} {v ρ : Mv} {Z : Mz} (h : LInv N sc ω v ρ Z) : Z.2.1 3 = N := h.2.2.2.2.1.2
theorem LInv.o0 {N : Int} {sc : Int → Int} {ω : Rw} {v ρ : Mv} {Z : Mz} (h : LInv N sc ω v ρ Z) : ω 210 = 0 := h.2.2.1 210 (Or.inr (by decide))
theorem LInv.ok {N : Int} {sc : Int → Int} {ω : Rw} {v ρ : Mv} {Z : Mz} (h : LInv N sc ω v ρ Z) : Z.1 210 = 14 := h.2.2.2.2.2.1.1
theorem LInv.ol {N : Int} {sc : Int → Int} {ω : Rw} {v ρ : Mv} {Z : Mz} (h : LInv N sc ω v ρ Z) : Z.2.1 210 = 1 := h.2.2.2.2.2.1.2
theorem LInv.rf {N : Int} {sc : Int → Int} {ω : Rw} {v ρ : Mv} {Z : Mz} (h : LInv N sc ω v ρ Z) : RfI v := h.2.2.2.2.2.2.1
theorem LInv.nz {N : Int} {sc : Int → Int} {ω : Rw} {v ρ : Mv} {Z : Mz} (h : LInv N sc ω v ρ Z) : 211 ≤ Z.2.2 := h.2.2.2.2.2.2.2.1
theorem LInv.s3 {N : Int} {sc : Int → Int} {ω : Rw} {v ρ : Mv} {Z : Mz} (h : LInv N sc ω v ρ Z) (k : Int) : v 3 k = sc k := congrFun h.2.2.2.2.2.2.2.2 k
theorem RfI.cg {v v' : Mv} (h : RfI v) (hv : ∀ r, 178 ≤ r → r ≤ 209 → v' r = v r) : RfI v' := by
  unfold RfI at h ⊢
  rw [hv 178 (by decide) (by decide), hv 180 (by decide) (by decide), hv 187 (by decide) (by decide), hv 209 (by decide) (by decide), hv 207 (by decide) (by decide), hv 195 (by decide) (by decide), hv 194 (by decide) (by decide)]
  exact h
theorem GM.cg {ρ ρ' : Mv} {Z Z' : Mz} (h : GM ρ Z) (hr : ρ' 178 = ρ 178) (hz : ∀ r, 178 ≤ r → r ≤ 209 → Z'.1 r = Z.1 r ∧ Z'.2.1 r = Z.2.1 r) : GM ρ' Z' := by
  refine ⟨(hz 178 (by decide) (by decide)).1.trans h.1, fun q hq => ?_⟩
  obtain ⟨j, hj⟩ := List.getElem?_of_mem hq
  have hq2 := md_rg' hj
  have a := h.2 q hq
  have b := hz q.2.1 (by omega) (by omega)
  exact ⟨by rw [hr]; exact a.1, b.1.trans a.2.1, b.2.trans a.2.2⟩
/-- a call of the class that makes nothing -/
theorem LInv.cls {N : Int} {sc : Int → Int} {ω : Rw} {v ρ v' ρ' : Mv} {Z : Mz} (h : LInv N sc ω v ρ Z) (hv : ∀ q, ω q = 0 → q ≠ 210 → v' q = v q) (hr : ∀ q, ω q = 0 → ρ' q = ρ q) (hH : HT ω v' ρ' Z) : LInv N sc ω v' ρ' Z := by
  obtain ⟨a1, a2, a3, a4, a5, a6, a7, a8, a9⟩ := h
  exact ⟨hH, a2, a3, a4.cg (hr 178 (a3 178 (Or.inr (by decide)))) (fun _ _ _ => ⟨rfl, rfl⟩), a5, a6, a7.cg (fun r h0 h1 => hv r (a3 r (Or.inr ⟨h0, by omega⟩)) (by omega)), a8, (hv 3 (a3 3 (Or.inl (by decide))) (by decide)).trans a9⟩
/-- a call of the class that makes something -/
theorem LInv.new {N : Int} {sc : Int → Int} {ω ω' : Rw} {v ρ v' ρ' : Mv} {Z Z' : Mz} {S R : List Nat} (h : LInv N sc ω v ρ Z) (ho : OmX Z.2.2 ω ω') (hz : ZzX Z.2.2 Z Z') (hv : FrB Z.2.2 ω S v v') (hr : FrB Z.2.2 ω R ρ ρ') (h0 : 0 ∉ S) (h1 : 0 ∉ R) (hH : HT ω' v' ρ' Z') : LInv N sc ω' v' ρ' Z' := by
  obtain ⟨a1, a2, a3, a4, a5, a6, a7, a8, a9⟩ := h
  have zr : ∀ r, r ≤ 210 → ω r = 0 → v' r = v r ∧ ρ' r = ρ r := fun r hr9 hw => ⟨hv r (by omega) (by rw [hw]; exact h0), hr r (by omega) (by rw [hw]; exact h1)⟩
  have hz3 := hz.2 3 (by omega)
  have hz210 := hz.2 210 (by omega)
  have hz1 := hz.1
  exact ⟨hH, (ho 4 (by omega)).trans a2, fun r hr9 => (ho r (by omega)).trans (a3 r hr9), a4.cg (zr 178 (by decide) (a3 178 (Or.inr (by decide)))).2 (fun r _ h9 => hz.2 r (by omega)), ⟨hz3.1.trans a5.1, hz3.2.trans a5.2⟩, ⟨hz210.1.trans a6.1, hz210.2.trans a6.2⟩, a7.cg (fun r h9 h8 => (zr r (by omega) (a3 r (Or.inr ⟨h9, by omega⟩))).1), by omega, (zr 3 (by decide) (a3 3 (Or.inl (by decide)))).1.trans a9⟩
/-- a call of the reference -/
theorem LInv.ref {N : Int} {sc : Int → Int} {ω : Rw} {v ρ v' : Mv} {Z : Mz} (h : LInv N sc ω v ρ Z) (hv : ∀ q, (q < 178 ∨ 209 < q) → v' q = v q) (hR : RfI v') : LInv N sc ω v' ρ Z := by
  obtain ⟨a1, a2, a3, a4, a5, a6, a7, a8, a9⟩ := h
  have hne : ∀ q, ω q ≠ 0 → q < 178 ∨ 209 < q := fun q hq => Classical.byContradiction fun e => hq (a3 q (Or.inr ⟨by omega, by omega⟩))
  exact ⟨a1.ext (fun q hq => ⟨rfl, hv q (hne q hq), rfl, rfl, rfl⟩) (Int.le_refl _) (a1.2.cg ⟨hv 0 (by decide), rfl, rfl⟩ ⟨hv 1 (by decide), rfl, rfl⟩) (fun q c hq hc e => absurd (hq.symm.trans e) hc), a2, a3, a4, a5, a6, hR, a8, (hv 3 (by decide)).trans a9⟩
theorem Fr.out {R Ks : List Int} {v v' : Mv} (h : Fr R Ks v v') (hR : R.all (fun r => decide (178 < r ∧ r ≤ 209)) = true) : ∀ q, (q < 178 ∨ 209 < q) → v' q = v q := fun q hq => h.1 q (fun hm => by
  have := of_decide_eq_true (List.all_eq_true.mp hR q hm)
  omega) (by omega)
/-! the law's frame -/
def LF (l : List (Nat × Instr × Nat)) : Fm := (RL, yL_law, cL_law, l, 8, some .boolean)
theorem okL {g : Gp} {X : Cx} {l : List (Nat × Instr × Nat)} (h : okX g X (LF [])) (hl : l.all (fun q => decide (decode cL_law q.1 = .ok q.2)) = true) : okX g X (LF l) :=
  ⟨h.1, h.2.1, h.2.2.1, h.2.2.2.1, h.2.2.2.2.1, h.2.2.2.2.2.1, h.2.2.2.2.2.2.1, h.2.2.2.2.2.2.2.1, h.2.2.2.2.2.2.2.2.1, fun q hq => of_decide_eq_true (List.all_eq_true.mp hl q hq)⟩
theorem wp_wid {g : Gp} {X : Cx} {F : Fm} {cells slots pc k n : Nat} {ls st : List V2} {v ρ : Mv} {Z : Mz} (h1 : cells ≤ k) (h2 : slots ≤ n) (kk : wp g X F k n pc ls st v ρ Z) : wp g X F cells slots pc ls st v ρ Z := fun ad H locs la a b c d e => W.widen h1 h2 (kk ad H locs la a b c d e)
/-- where the law stands: the machine, its room, how it was started -/
def LX (g : Gp) (X : Cx) : Prop := okX g X (LF []) ∧ xR X = room_1 ∧ (gL g).stackTraces = false ∧ KT (xs X)
/-- the law's locals at its loop's head -/
abbrev lls (i : Int) : List V2 := [(2, 3), (2, 4), (2, 178), (2, 210), (0, i), (3, 0), (3, 0), (3, 0)]
/-- class and reference: the tape's length, the images kept -/
def EqI (v ρ : Mv) : Prop := v (ρ 4 0) 1 = v 178 2 ∧ ∀ k, 0 ≤ k → k ≤ 1 → (v (ρ 4 13) k = 0 ↔ v 209 k = 0)
def LInv2 (N : Int) (sc : Int → Int) (ω : Rw) (v ρ : Mv) (Z : Mz) : Prop := LInv N sc ω v ρ Z ∧ EqI v ρ
theorem LInv.w2 {N : Int} {sc : Int → Int} {ω : Rw} {v ρ : Mv} {Z : Mz} (h : LInv N sc ω v ρ Z) : ω (ρ 4 0) = 2 := h.ht.rf h.w4 (by decide) rfl
theorem LInv.w62 {N : Int} {sc : Int → Int} {ω : Rw} {v ρ : Mv} {Z : Mz} (h : LInv N sc ω v ρ Z) : ω (ρ 4 13) = 62 := h.ht.rf h.w4 (by decide) rfl
theorem LInv.wz {N : Int} {sc : Int → Int} {ω : Rw} {v ρ : Mv} {Z : Mz} (h : LInv N sc ω v ρ Z) {r : Int} (h1 : 178 ≤ r) (h2 : r ≤ 210) : ω r = 0 := h.2.2.1 r (Or.inr ⟨h1, h2⟩)
theorem LInv.lt {N : Int} {sc : Int → Int} {ω : Rw} {v ρ : Mv} {Z : Mz} (h : LInv N sc ω v ρ Z) {r : Int} {c : Nat} (hw : ω r = c) (hc : c ≠ 0) : r < 178 ∨ 210 < r := Classical.byContradiction fun e => hc (hw.symm.trans (h.wz (by omega) (by omega)))
theorem LInv.lo {N : Int} {sc : Int → Int} {ω : Rw} {v ρ : Mv} {Z : Mz} (h : LInv N sc ω v ρ Z) {r : Int} {c : Nat} (hw : ω r = c) (hc : c ≠ 0) : r < 178 ∨ 209 < r := by have := h.lt hw hc; omega
def EqC (L : Int) (K : Int → Int) (v ρ : Mv) : Prop := v (ρ 4 0) 1 = L ∧ ∀ k, 0 ≤ k → k ≤ 1 → v (ρ 4 13) k = K k
theorem EqC.fr {L : Int} {K : Int → Int} {v' ρ ρ' : Mv} (h0 : ρ' 4 0 = ρ 4 0) (h13 : ρ' 4 13 = ρ 4 13) (hv : v' (ρ 4 0) 1 = L) (hk : ∀ k, 0 ≤ k → k ≤ 1 → v' (ρ 4 13) k = K k) : EqC L K v' ρ' := ⟨by rw [h0]; exact hv, fun k a b => by rw [h13]; exact hk k a b⟩
theorem KpE {v v1 v2 ρ ρ1 : Mv} {k0 r1 r2 : Int} (h : ∀ k, 0 ≤ k → k ≤ 1 → (v (ρ 4 13) k = 0 ↔ v 209 k = 0)) (y1 : ∀ k, v2 (ρ1 4 13) k = v1 (ρ1 4 13) k) (y3 : ∀ k, v1 209 k = v 209 k) (hc : ∀ k, 0 ≤ k → k ≤ 1 → v1 (ρ1 4 13) k = v1 (ρ 4 13) k)
    (hp1 : ((r1 = 1 ∧ 0 ≤ k0 ∧ k0 ≤ 1 ∨ r1 = 0 ∧ (k0 < 0 ∨ 1 < k0))) ∧ ((r1 = 1 → v1 (ρ 4 13) k0 = 1)) ∧ ((∀ j, (r1 = 1 → j ≠ k0) → v1 (ρ 4 13) j = v (ρ 4 13) j)))
    (hp2 : (r2 = 0 ∧ (k0 < 0 ∨ 1 < k0) ∧ v2 207 = v1 207 ∧ v2 209 = v1 209 ∨ r2 = 1 ∧ 0 ≤ k0 ∧ k0 ≤ 1 ∧ (∀ i, 0 ≤ i → i < 238 → v2 207 (238 * k0 + i) = v1 180 i) ∧ (∀ j, ¬ (238 * k0 ≤ j ∧ j < 238 * k0 + 238) → v2 207 j = v1 207 j) ∧ (∀ j, j ≠ k0 → v2 209 j = v1 209 j) ∧ v2 209 k0 = 1)) :
    ∀ k, 0 ≤ k → k ≤ 1 → (v2 (ρ1 4 13) k = 0 ↔ v2 209 k = 0) := by
  intro k a b
  rw [y1 k, hc k a b]
  rcases hp2 with ⟨-, e0, -, e2⟩ | ⟨-, k1, k2, -, -, f3, f4⟩
  · rw [hp1.2.2 k (fun e => by have := hp1.1; omega), e2, y3]
    exact h k a b
  · have hr : r1 = 1 := by have := hp1.1; omega
    by_cases e : k = k0
    · subst e
      rw [hp1.2.1 hr, f4]
    · rw [hp1.2.2 k (fun _ => e), f3 k e, y3]
      exact h k a b
theorem Eq00 {v v' ρ ρ' : Mv} (hr : ρ' 4 = ρ 4) (h0 : v' (ρ 4 0) = v (ρ 4 0)) (h13 : v' (ρ 4 13) = v (ρ 4 13)) (f0 : v (ρ 4 0) 1 = 0) (f13 : ∀ j, v (ρ 4 13) j = 0) (g0 : v' 178 2 = 0) (g13 : ∀ k, v' 209 k = 0) : EqI v' ρ' := by
  refine ⟨?_, fun k _ _ => ?_⟩
  · rw [hr, h0, f0, g0]
  · rw [hr, h13, f13, g13]
/-- a case of the law, at its pc: from the invariant, if what is behind it goes on from the invariant, it goes on -/
def CaseOk (g : Gp) (X : Cx) (N : Int) (sc : Int → Int) (pc : Nat) : Prop := ∀ (i : Int) (cells slots : Nat) (ω : Rw) (v ρ : Mv) (Z : Mz), 0 ≤ i → i + 6 ≤ N → cells + 20 ≤ 601024 → slots + 150 ≤ 7293034 → LInv2 N sc ω v ρ Z →
  (∀ (ω' : Rw) (v' ρ' : Mv) (Z' : Mz), LInv2 N sc ω' v' ρ' Z' → wp g X (LF []) (cells + 20) (slots + 150) 1410 (lls i) [] v' ρ' Z') → wp g X (LF []) cells slots pc (lls i) [] v ρ Z
