/-! the class's trips: which road each has -/
/-- what is kept of the past has the road R -/
def PsI (v ρ : Mv) (P R : Int) : Prop := ∀ j, 0 ≤ j → j < v P 1 → ρ (ρ (ρ P 0) j) 0 = R
/-- the past's trips are those of before -/
def PsE (ρ ρ' : Mv) (A : Int) : Prop := ∀ j, 0 ≤ j → j < 8 → ∃ i, 0 ≤ i ∧ i < 8 ∧ ρ' A j = ρ A i
/-- what a change of the past leaves -/
def PsQ (ω : Rw) (v ρ : Mv) (v' ρ' : Mv) (P R : Int) : Prop := PsI v' ρ' P R ∧ PsE ρ ρ' (ρ P 0) ∧ ∀ r, r ≠ ρ P 0 → (∀ j, 0 ≤ j → j < 8 → r ≠ ρ (ρ P 0) j) → ρ' r = ρ r
/-- the kept trips are none of the others -/
def TrD (ρ : Mv) (t : Int) : Prop := (∀ j k, 0 ≤ j → j < 8 → 0 ≤ k → k < 2 → ρ (ρ (ρ t 6) 0) j ≠ ρ (ρ t 11) k) ∧ (∀ k, 0 ≤ k → k < 2 → ρ t 5 ≠ ρ (ρ t 11) k) ∧ ρ (ρ t 11) 0 ≠ ρ (ρ t 11) 1
def TrI (v ρ : Mv) (t : Int) : Prop := PsI v ρ (ρ t 6) (ρ (ρ t 4) 0) ∧ TrD ρ t
/-- an act of the trip: its road and the kept trips' roads stand -/
def TrP (ρ : Mv) (v' ρ' : Mv) (t : Int) : Prop := TrI v' ρ' t ∧ (ρ' t 4 = ρ t 4 ∧ ρ' t 11 = ρ t 11 ∧ ρ' (ρ t 11) = ρ (ρ t 11)) ∧ ρ' (ρ t 4) 0 = ρ (ρ t 4) 0 ∧ ∀ k, 0 ≤ k → k < 2 → ρ' (ρ (ρ t 11) k) 0 = ρ (ρ (ρ t 11) k) 0
/-- the roles of what they are kept in -/
def TrW (ω : Rw) (ρ : Mv) (t : Int) : Prop := ω t = 1 ∧ ω (ρ t 4) = 22 ∧ ω (ρ t 5) = 66 ∧ ω (ρ t 6) = 27 ∧ ω (ρ (ρ t 6) 0) = 28 ∧ ω (ρ t 11) = 60 ∧ (∀ j, 0 ≤ j → j < 8 → ω (ρ (ρ (ρ t 6) 0) j) = 66) ∧ ∀ k, 0 ≤ k → k < 2 → ω (ρ (ρ t 11) k) = 66
theorem TrW.of {ω : Rw} {v ρ : Mv} {Z : Mz} {t : Int} (h : HT ω v ρ Z) (ht : ω t = 1) : TrW ω ρ t := by
  have w6 : ω (ρ t 6) = 27 := h.rf ht (by decide) rfl
  have wA : ω (ρ (ρ t 6) 0) = 28 := h.rf w6 (by decide) rfl
  have wK : ω (ρ t 11) = 60 := h.rf ht (by decide) rfl
  exact ⟨ht, h.rf ht (by decide) rfl, h.rf ht (by decide) rfl, w6, wA, wK, fun j a b => h.rf wA (by decide) (rf28 ⟨a, b⟩), fun k a b => h.rf wK (by decide) (rf60 ⟨a, b⟩)⟩
section Trips
variable {ω : Rw} {v v' ρ ρ' : Mv} {Z : Mz} {t : Int}
theorem TrP.of (h : TrI v ρ t) (et : ρ' t 4 = ρ t 4 ∧ ρ' t 5 = ρ t 5 ∧ ρ' t 6 = ρ t 6 ∧ ρ' t 11 = ρ t 11) (eT : ρ' (ρ t 4) 0 = ρ (ρ t 4) 0) (eP : ρ' (ρ t 6) 0 = ρ (ρ t 6) 0) (eK : ρ' (ρ t 11) = ρ (ρ t 11)) (eE : PsE ρ ρ' (ρ (ρ t 6) 0)) (eQ : PsI v' ρ' (ρ t 6) (ρ (ρ t 4) 0)) (ek : ∀ k, 0 ≤ k → k < 2 → ρ' (ρ (ρ t 11) k) 0 = ρ (ρ (ρ t 11) k) 0) : TrP ρ v' ρ' t := by
  obtain ⟨e4, e5, e6, e11⟩ := et
  refine ⟨⟨?_, ?_, ?_, ?_⟩, ⟨e4, e11, eK⟩, eT, ek⟩
  · rw [e6, e4, eT]; exact eQ
  · intro j k a b c d
    rw [e6, eP, e11, eK]
    obtain ⟨i, i0, i1, e⟩ := eE j a b
    rw [e]
    exact h.2.1 i k i0 i1 c d
  · intro k a b
    rw [e5, e11, eK]
    exact h.2.2.1 k a b
  · rw [e11, eK]
    exact h.2.2.2
/-- nothing of it is written -/
theorem TrP.fr {SV SR : List Nat} (h : TrI v ρ t) (hw : TrW ω ρ t) (hf : FrW ω SV v v') (hg : FrW ω SR ρ ρ') (h8 : v (ρ t 6) 1 ≤ 8) (hV : 27 ∉ SV) (hR : 1 ∉ SR ∧ 22 ∉ SR ∧ 27 ∉ SR ∧ 28 ∉ SR ∧ 60 ∉ SR ∧ 66 ∉ SR) : TrP ρ v' ρ' t := by
  obtain ⟨w1, w22, w5, w27, w28, w60, wj, wk⟩ := hw
  have et := hg t (by rw [w1]; exact hR.1)
  have eT := hg (ρ t 4) (by rw [w22]; exact hR.2.1)
  have eP := hg (ρ t 6) (by rw [w27]; exact hR.2.2.1)
  have eA := hg (ρ (ρ t 6) 0) (by rw [w28]; exact hR.2.2.2.1)
  have eK := hg (ρ t 11) (by rw [w60]; exact hR.2.2.2.2.1)
  have e66 : ∀ r, ω r = 66 → ρ' r = ρ r := fun r hr => hg r (by rw [hr]; exact hR.2.2.2.2.2)
  have eV : v' (ρ t 6) = v (ρ t 6) := hf _ (by rw [w27]; exact hV)
  refine TrP.of h ⟨by rw [et], by rw [et], by rw [et], by rw [et]⟩ (by rw [eT]) (by rw [eP]) eK (fun j a b => ⟨j, a, b, by rw [eA]⟩) (fun j a b => ?_) (fun k a b => by rw [e66 _ (wk k a b)])
  have h9 : j < v (ρ t 6) 1 := by rw [← eV]; exact b
  rw [eP, eA, e66 _ (wj j a (by omega))]
  exact h.1 j a h9
theorem TrP.rf (h : TrI v ρ t) : TrP ρ v ρ t := ⟨h, ⟨rfl, rfl, rfl⟩, rfl, fun _ _ _ => rfl⟩
/-- the past keeps the trip -/
theorem TrP.keep {v0 v1 : Mv} (h : TrI v ρ t) (hw : TrW ω ρ t) (hq : PsQ ω v0 ρ v1 ρ' (ρ t 6) (ρ (ρ t 4) 0)) (e1 : v' (ρ t 6) 1 = v1 (ρ t 6) 1) : TrP ρ v' ρ' t := by
  obtain ⟨w1, w22, w5, w27, w28, w60, wj, wk⟩ := hw
  obtain ⟨q1, q2, q3⟩ := hq
  have ne : ∀ r c, ω r = c → c ≠ 28 → c ≠ 66 → ρ' r = ρ r := fun r c hr h28 h66 => q3 r (rne hr w28 h28) (fun j a b => rne hr (wj j a b) h66)
  have et := ne t 1 w1 (by decide) (by decide)
  refine TrP.of h ⟨by rw [et], by rw [et], by rw [et], by rw [et]⟩ (by rw [ne _ _ w22 (by decide) (by decide)]) (by rw [ne _ _ w27 (by decide) (by decide)]) (ne _ _ w60 (by decide) (by decide)) q2 (fun j a b => q1 j a (by rw [← e1]; exact b)) (fun k a b => ?_)
  rw [q3 _ (rne (wk k a b) w28 (by decide)) (fun j c d e => h.2.1 j k c d a b e.symm)]
/-- the spare trip is the trip -/
theorem TrP.spare (h : TrI v ρ t) (hw : TrW ω ρ t) (h8 : v (ρ t 6) 1 ≤ 8) (hr : ∀ r, r ≠ ρ t 5 → ρ' r = ρ r) (hs : ρ' (ρ t 5) 0 = ρ (ρ t 5) 0 ∨ ρ' (ρ t 5) 0 = ρ (ρ t 4) 0) (e1 : v' (ρ t 6) 1 = v (ρ t 6) 1) : TrP ρ v' ρ' t := by
  obtain ⟨w1, w22, w5, w27, w28, w60, wj, wk⟩ := hw
  have ne : ∀ r c, ω r = c → c ≠ 66 → ρ' r = ρ r := fun r c hr2 h66 => hr r (rne hr2 w5 h66)
  have et := ne t 1 w1 (by decide)
  refine TrP.of h ⟨by rw [et], by rw [et], by rw [et], by rw [et]⟩ (by rw [ne _ _ w22 (by decide)]) (by rw [ne _ _ w27 (by decide)]) (ne _ _ w60 (by decide)) (fun j a b => ⟨j, a, b, by rw [ne _ _ w28 (by decide)]⟩) (fun j a b => ?_) (fun k a b => ?_)
  · have h9 := h.1 j a (by rw [← e1]; exact b)
    rw [ne _ _ w27 (by decide), ne _ _ w28 (by decide)]
    by_cases e : ρ (ρ (ρ t 6) 0) j = ρ t 5
    · rw [e] at h9 ⊢
      rcases hs with z | z
      · rw [z]; exact h9
      · exact z
    · rw [hr _ e]; exact h9
  · rw [hr _ (fun e => h.2.2.1 k a b e.symm)]
end Trips
theorem TrP.undo {ω : Rw} {v v' ρ ρ' : Mv} {t : Int} (h : TrI v ρ t) (hw : TrW ω ρ t) (hr : ∀ r, r ≠ ρ t 4 → ρ' r = ρ r) (h0 : ρ' (ρ t 4) 0 = ρ (ρ t 4) 0) (hq : PsI v' ρ' (ρ t 6) (ρ (ρ t 4) 0)) : TrP ρ v' ρ' t := by
  obtain ⟨w1, w22, w5, w27, w28, w60, wj, wk⟩ := hw
  have ne : ∀ r c, ω r = c → c ≠ 22 → ρ' r = ρ r := fun r c hr2 h22 => hr r (rne hr2 w22 h22)
  have et := ne t 1 w1 (by decide)
  exact TrP.of h ⟨by rw [et], by rw [et], by rw [et], by rw [et]⟩ h0 (by rw [ne _ _ w27 (by decide)]) (ne _ _ w60 (by decide)) (fun j a b => ⟨j, a, b, by rw [ne _ _ w28 (by decide)]⟩) hq (fun k a b => by rw [ne _ _ (wk k a b) (by decide)])
theorem PsI.vv {v v' ρ : Mv} {P R : Int} (h : PsI v ρ P R) (e : v' P 1 = v P 1) : PsI v' ρ P R := fun j a b => h j a (by rw [← e]; exact b)
/-- an image is kept -/
def TrG (ρ : Mv) (v' ρ' : Mv) (t k r : Int) : Prop := TrI v' ρ' t ∧ (ρ' t 4 = ρ t 4 ∧ ρ' t 11 = ρ t 11 ∧ ρ' (ρ t 11) = ρ (ρ t 11)) ∧ ρ' (ρ t 4) 0 = ρ (ρ t 4) 0 ∧ (∀ j, 0 ≤ j → j < 2 → (r = 1 → j ≠ k) → ρ' (ρ (ρ t 11) j) 0 = ρ (ρ (ρ t 11) j) 0) ∧ (r = 1 → ρ' (ρ (ρ t 11) k) 0 = ρ (ρ t 4) 0)
/-- an image is taken back -/
def TrR (ρ : Mv) (v' ρ' : Mv) (t k r : Int) : Prop := TrI v' ρ' t ∧ (ρ' t 4 = ρ t 4 ∧ ρ' t 11 = ρ t 11 ∧ ρ' (ρ t 11) = ρ (ρ t 11)) ∧ (r ≠ 1 → ρ' (ρ t 4) 0 = ρ (ρ t 4) 0) ∧ (r = 1 → ρ' (ρ t 4) 0 = ρ (ρ (ρ t 11) k) 0) ∧ ∀ j, 0 ≤ j → j < 2 → ρ' (ρ (ρ t 11) j) 0 = ρ (ρ (ρ t 11) j) 0
section Trips2
variable {ω : Rw} {v v' ρ ρ' : Mv} {Z : Mz} {t k : Int}
theorem TrG.no {r : Int} (h : TrI v ρ t) (hr : r ≠ 1) : TrG ρ v ρ t k r := ⟨h, ⟨rfl, rfl, rfl⟩, rfl, fun _ _ _ _ => rfl, fun e => absurd e hr⟩
theorem TrG.yes (h : TrI v ρ t) (hw : TrW ω ρ t) (hk : 0 ≤ k ∧ k < 2) (h8 : v (ρ t 6) 1 ≤ 8) (hr : ∀ r, r ≠ ρ (ρ t 11) k → ω r ≠ 61 → ρ' r = ρ r) (h0 : ρ' (ρ (ρ t 11) k) 0 = ρ (ρ t 4) 0) (e1 : v' (ρ t 6) 1 = v (ρ t 6) 1) : TrG ρ v' ρ' t k 1 := by
  obtain ⟨w1, w22, w5, w27, w28, w60, wj, wk⟩ := hw
  have ne : ∀ r c, ω r = c → c ≠ 66 → c ≠ 61 → ρ' r = ρ r := fun r c hr2 h66 h61 => hr r (rne hr2 (wk k hk.1 hk.2) h66) (by rw [hr2]; exact h61)
  have et := ne t 1 w1 (by decide) (by decide)
  have eA := ne _ _ w28 (by decide) (by decide)
  have eP := ne _ _ w27 (by decide) (by decide)
  have eK := ne _ _ w60 (by decide) (by decide)
  have eT := ne _ _ w22 (by decide) (by decide)
  have n66 : ∀ r, ω r = 66 → ω r ≠ 61 := fun r hr2 => by rw [hr2]; decide
  refine ⟨⟨?_, ?_⟩, ⟨by rw [et], by rw [et], eK⟩, by rw [eT], fun j a b c => ?_, fun _ => h0⟩
  · rw [et, eT]
    intro j a b
    rw [e1] at b
    rw [eP, eA, hr _ (h.2.1 j k a (by omega) hk.1 hk.2) (n66 _ (wj j a (by omega)))]
    exact h.1 j a b
  · unfold TrD
    rw [et, eP, eA, eK]
    exact h.2
  · have hne : ρ (ρ t 11) j ≠ ρ (ρ t 11) k := fun e => by
      have hj := c rfl
      have hc : (j = 0 ∧ k = 1) ∨ (j = 1 ∧ k = 0) := by omega
      rcases hc with ⟨x, y⟩ | ⟨x, y⟩ <;> rw [x, y] at e
      · exact h.2.2.2 e
      · exact h.2.2.2 e.symm
    rw [hr _ hne (n66 _ (wk j a b))]
theorem TrR.no {r : Int} (h : TrI v ρ t) (hr : r ≠ 1) : TrR ρ v ρ t k r := ⟨h, ⟨rfl, rfl, rfl⟩, fun _ => rfl, fun e => absurd e hr, fun _ _ _ => rfl⟩
theorem TrR.yes (h : TrI v ρ t) (hw : TrW ω ρ t) (hr : ∀ r, r ≠ ρ t 4 → r ≠ t → ρ' r = ρ r) (ht : ρ' t 4 = ρ t 4 ∧ ρ' t 5 = ρ t 5 ∧ ρ' t 6 = ρ t 6 ∧ ρ' t 11 = ρ t 11) (h0 : ρ' (ρ t 4) 0 = ρ (ρ (ρ t 11) k) 0) (e1 : v' (ρ t 6) 1 = 0) : TrR ρ v' ρ' t k 1 := by
  obtain ⟨w1, w22, w5, w27, w28, w60, wj, wk⟩ := hw
  have ne : ∀ r c, ω r = c → c ≠ 22 → c ≠ 1 → ρ' r = ρ r := fun r c hr2 h22 h1 => hr r (rne hr2 w22 h22) (rne hr2 w1 h1)
  have eA := ne _ _ w28 (by decide) (by decide)
  have eP := ne _ _ w27 (by decide) (by decide)
  have eK := ne _ _ w60 (by decide) (by decide)
  refine ⟨⟨?_, ?_⟩, ⟨ht.1, ht.2.2.2, eK⟩, fun e => absurd rfl e, fun _ => h0, fun j a b => by rw [ne _ _ (wk j a b) (by decide) (by decide)]⟩
  · rw [ht.2.2.1]
    intro j a b
    rw [e1] at b
    omega
  · unfold TrD
    rw [ht.2.2.1, eP, eA, ht.2.2.2, eK, ht.2.1]
    exact h.2
end Trips2
set_option maxHeartbeats 4000000 in
set_option maxRecDepth 100000 in
theorem c_X9_beginF (g : Gp) (ω : Rw) (v ρ : Mv) (Z : Mz) (hH : HT ω v ρ Z) (t : Int) (ht : ω t = 22) (o : Int) (ho : ω o = 5)  : Ok g 1 0 0 F_X9_begin [(2, t), (2, o)] v ρ Z (fun o9 v' ρ' Z' => Z = Z' ∧ FrW ω [22, 24, 25, 26] v v' ∧ FrW ω [22] ρ ρ' ∧ HT ω v' ρ' Z ∧ o9 = none ∧ (ρ' t 0 = o) ∧ (∀ r, r ≠ t → ρ' r = ρ r)) := by
  refine Ok.of mo_X9_begin (Nat.le_of_ble_eq_true rfl) ?_
  intro X hX hRm hxn hQ
  show wp g X F_X9_begin 0 0 0 [(2, t), (2, o), (3, 0)] [] v ρ Z
  refine r_aload_n (pc := 0) hX 0 rfl rfl ?_
  refine r_aload_n (pc := 1) hX 1 rfl rfl ?_
  refine r_putR (pc := 2) hX 2 rfl fl_X9_25 rfl (fun _ h => by cases h; rfl) (hH.kd ht (by decide)) (hH.g4 ht (by decide)) ?_
  have hH_2 : HT ω v (up ρ t 0 o) Z := hH.uf ht rfl ho rfl
  show wp g X F_X9_begin 0 0 5 [(2, t), (2, o), (3, 0)] [] v (up ρ t 0 o) Z
  refine r_aload_n (pc := 5) hX 3 rfl rfl ?_
  refine r_dup (pc := 6) hX 4 rfl (show (2 : Nat) ≠ 1 by decide) ?_
  refine e_getI (y := (v t 1)) (pc := 7) hX 5 rfl fl_X9_29 rfl (hH_2.kd ht (by decide)) (rfl) ?_
  refine r_iconst (pc := 10) hX 6 rfl ?_
  refine r_iadd (pc := 11) hX 7 rfl ?_
  refine r_putI (pc := 12) hX 8 rfl fl_X9_29 rfl (fun _ h => by cases h; rfl) (hH_2.kd ht (by decide)) (hH_2.g4 ht (by decide)) ?_
  have hH_12 : HT ω (up v t 1 ((v t 1) + 1)) (up ρ t 0 o) Z := hH_2.up0 ht (by decide) rfl
  show wp g X F_X9_begin 0 0 15 [(2, t), (2, o), (3, 0)] [] (up v t 1 ((v t 1) + 1)) (up ρ t 0 o) Z
  refine r_aload_n (pc := 15) hX 9 rfl rfl ?_
  refine r_iconst (pc := 16) hX 10 rfl ?_
  refine r_putI (pc := 17) hX 11 rfl fl_X9_33 rfl (fun _ h => by cases h; rfl) (hH_12.kd ht (by decide)) (hH_12.g4 ht (by decide)) ?_
  have hH_17 : HT ω (up (up v t 1 ((v t 1) + 1)) t 2 0) (up ρ t 0 o) Z := hH_12.upR ht (by decide) rfl (by omega) (by omega)
  show wp g X F_X9_begin 0 0 20 [(2, t), (2, o), (3, 0)] [] (up (up v t 1 ((v t 1) + 1)) t 2 0) (up ρ t 0 o) Z
  refine r_iconst (pc := 20) hX 12 rfl ?_
  refine r_istore_n (ls' := [(2, t), (2, o), (0, 0)]) (pc := 21) hX 13 rfl (by decide) rfl ?_
  have L22 : ∀ (n22 : Nat) (i : Int) (v22 : Mv) , (FrW ω [22, 24, 25, 26] v v22) → (HT ω v22 (up ρ t 0 o) Z) → (0 ≤ i ∧ i ≤ 3) → (3 - i).toNat < n22 → wp g X F_X9_begin 0 0 22 [(2, t), (2, o), (0, i)] [] v22 (up ρ t 0 o) Z := by
    intro n22
    induction n22 with
    | zero => intro i v22 hfr22 hH22 ii hme22; exact absurd hme22 (Nat.not_lt_zero _)
    | succ n22 ih22 =>
      intro i v22 hfr22 hH22 ii hme22
      refine r_iload_n (pc := 22) hX 14 rfl rfl ?_
      refine r_iconst (pc := 23) hX 15 rfl ?_
      first | refine r_icmp_ge (pc := 24) hX 16 (tgt := 59) rfl (by decide) (⟨by omega, by omega⟩) (⟨by omega, by omega⟩) (fun h24 => ?_) (fun h24 => ?_) | refine r_icmp_ge_any (pc := 24) hX 16 (tgt := 59) rfl (by decide) ?_ ?_
      · exact r_vret (pc := 59) hX 37 hQ rfl rfl (Nat.le_of_ble_eq_true rfl) (Nat.le_of_ble_eq_true rfl) ⟨rfl, hfr22, (FrW.rf).up (r := t) ht (by decide), hH22, rfl, (up_s _ _ _ _), (fun r hr => up_f hr)⟩
      · refine t_getR (q := (ρ t 4)) (pc := 27) hX 17 rfl rfl rfl fl_X9_15 rfl (hH22.kd ht (by decide)) ((up_k (by decide)).trans (rfl)) ?_
        have hw27_ : ω (ρ t 4) = 24 := hH.rf ht (by decide) rfl
        refine r_iload_n (pc := 31) hX 19 rfl rfl ?_
        refine r_iconst (pc := 32) hX 20 rfl ?_
        refine e_iast (n := 3) (pc := 33) hX 21 rfl (hH22.kd hw27_ (by decide)) (hH22.ln hw27_ (by decide)) (hH22.g4 hw27_ (by decide)) (by omega) (by omega) ?_
        have hH_33 : HT ω (up v22 (ρ t 4) i (-1)) (up ρ t 0 o) Z := hH22.upR hw27_ (by decide) rfl (by omega) (by omega)
        refine t_getR (q := (ρ t 5)) (pc := 34) hX 22 rfl rfl rfl fl_X9_18 rfl (hH_33.kd ht (by decide)) ((up_k (by decide)).trans (rfl)) ?_
        have hw34_ : ω (ρ t 5) = 25 := hH.rf ht (by decide) rfl
        refine r_iload_n (pc := 38) hX 24 rfl rfl ?_
        refine r_iconst (pc := 39) hX 25 rfl ?_
        refine e_zast (n := 3) (pc := 40) hX 26 rfl (hH_33.kd hw34_ (by decide)) (hH_33.ln hw34_ (by decide)) (hH_33.g4 hw34_ (by decide)) (by omega) (by omega) ⟨by omega, by omega⟩ ?_
        have hH_40 : HT ω (up (up v22 (ρ t 4) i (-1)) (ρ t 5) i 0) (up ρ t 0 o) Z := hH_33.up0 hw34_ (by decide) rfl
        refine t_getR (q := (ρ t 6)) (pc := 41) hX 27 rfl rfl rfl fl_X9_22 rfl (hH_40.kd ht (by decide)) ((up_k (by decide)).trans (rfl)) ?_
        have hw41_ : ω (ρ t 6) = 26 := hH.rf ht (by decide) rfl
        refine r_iload_n (pc := 45) hX 29 rfl rfl ?_
        refine r_aload_n (pc := 46) hX 30 rfl rfl ?_
        refine r_getR (q := (ρ o 7)) (pc := 47) hX 31 rfl fl_X9_36 rfl (hH_40.kd ho (by decide)) ((up_k (by decide)).trans (rfl)) ?_
        have hw47_ : ω (ρ o 7) = 14 := hH.rf ho (by decide) rfl
        refine r_iload_n (pc := 50) hX 32 rfl rfl ?_
        refine e_iald (y := (v (ρ o 7) i)) (n := 3) (pc := 51) hX 33 rfl (hH_40.kd hw47_ (by decide)) (hH_40.ln hw47_ (by decide)) (by omega) (by omega) ((up_r (rne hw47_ hw34_ (by decide))).trans ((up_r (rne hw47_ hw27_ (by decide))).trans ((hfr22.at hw47_ (by decide) i).trans (rfl)))) ?_
        have hb51 : 0 ≤ (v (ρ o 7) i) ∧ (v (ρ o 7) i) ≤ 8 := hH.rg hw47_ (by decide) rfl
        refine e_iast (n := 3) (pc := 52) hX 34 rfl (hH_40.kd hw41_ (by decide)) (hH_40.ln hw41_ (by decide)) (hH_40.g4 hw41_ (by decide)) (by omega) (by omega) ?_
        have hH_52 : HT ω (up (up (up v22 (ρ t 4) i (-1)) (ρ t 5) i 0) (ρ t 6) i (v (ρ o 7) i)) (up ρ t 0 o) Z := hH_40.upR hw41_ (by decide) rfl (by omega) (by omega)
        refine r_iinc (ls' := [(2, t), (2, o), (0, (i + 1))]) (pc := 53) hX 35 rfl rfl (by decide) rfl ?_
        refine r_goto (pc := 56) hX 36 (tgt := 22) rfl (by decide) ?_
        exact (ih22 (i + 1) (up (up (up v22 (ρ t 4) i (-1)) (ρ t 5) i 0) (ρ t 6) i (v (ρ o 7) i)) ((((hfr22).up (r := (ρ t 4)) hw27_ (by decide)).up (r := (ρ t 5)) hw34_ (by decide)).up (r := (ρ t 6)) hw41_ (by decide)) (hH_52) (by omega) (by omega))
  exact (L22 _ 0 (up (up v t 1 ((v t 1) + 1)) t 2 0) (((FrW.rf).up (r := t) ht (by decide)).up (r := t) ht (by decide)) (hH_17) (by omega) (Nat.lt_succ_self _))
set_option maxHeartbeats 4000000 in
set_option maxRecDepth 100000 in
theorem c_X9_copyFromF (g : Gp) (ω : Rw) (v ρ : Mv) (Z : Mz) (hH : HT ω v ρ Z) (t : Int) (ht : ω t = 22) (o : Int) (ho : ω o = 66)  : Ok g 2 0 0 F_X9_copyFrom [(2, t), (2, o)] v ρ Z (fun o9 v' ρ' Z' => Z = Z' ∧ FrW ω [22, 23, 24, 25, 26] v v' ∧ FrW ω [22] ρ ρ' ∧ HT ω v' ρ' Z ∧ o9 = none ∧ (ρ' t 0 = ρ o 0) ∧ (∀ r, r ≠ t → ρ' r = ρ r)) := by
  refine Ok.of mo_X9_copyFrom (Nat.le_of_ble_eq_true rfl) ?_
  intro X hX hRm hxn hQ
  show wp g X F_X9_copyFrom 0 0 0 [(2, t), (2, o), (3, 0)] [] v ρ Z
  refine r_aload_n (pc := 0) hX 0 rfl rfl ?_
  refine r_aload_n (pc := 1) hX 1 rfl rfl ?_
  refine r_getR (q := (ρ o 0)) (pc := 2) hX 2 rfl fl_X9_25 rfl (hH.kd ho (by decide)) (rfl) ?_
  have hw2_ : ω (ρ o 0) = 5 := hH.rf ho (by decide) rfl
  refine r_putR (pc := 5) hX 3 rfl fl_X9_25 rfl (fun _ h => by cases h; rfl) (hH.kd ht (by decide)) (hH.g4 ht (by decide)) ?_
  have hH_5 : HT ω v (up ρ t 0 (ρ o 0)) Z := hH.uf ht rfl hw2_ rfl
  show wp g X F_X9_copyFrom 0 0 8 [(2, t), (2, o), (3, 0)] [] v (up ρ t 0 (ρ o 0)) Z
  refine r_aload_n (pc := 8) hX 4 rfl rfl ?_
  refine r_dup (pc := 9) hX 5 rfl (show (2 : Nat) ≠ 1 by decide) ?_
  refine e_getI (y := (v t 1)) (pc := 10) hX 6 rfl fl_X9_29 rfl (hH_5.kd ht (by decide)) (rfl) ?_
  refine r_iconst (pc := 13) hX 7 rfl ?_
  refine r_iadd (pc := 14) hX 8 rfl ?_
  refine r_putI (pc := 15) hX 9 rfl fl_X9_29 rfl (fun _ h => by cases h; rfl) (hH_5.kd ht (by decide)) (hH_5.g4 ht (by decide)) ?_
  have hH_15 : HT ω (up v t 1 ((v t 1) + 1)) (up ρ t 0 (ρ o 0)) Z := hH_5.up0 ht (by decide) rfl
  show wp g X F_X9_copyFrom 0 0 18 [(2, t), (2, o), (3, 0)] [] (up v t 1 ((v t 1) + 1)) (up ρ t 0 (ρ o 0)) Z
  refine r_aload_n (pc := 18) hX 10 rfl rfl ?_
  refine r_aload_n (pc := 19) hX 11 rfl rfl ?_
  refine e_getI (y := (v o 2)) (pc := 20) hX 12 rfl fl_X9_33 rfl (hH_15.kd ho (by decide)) ((up_k (by decide)).trans (rfl)) ?_
  have hb20 : 0 ≤ (v o 2) ∧ (v o 2) ≤ 12 := hH.rg ho (by decide) rfl
  refine r_putI (pc := 23) hX 13 rfl fl_X9_33 rfl (fun _ h => by cases h; rfl) (hH_15.kd ht (by decide)) (hH_15.g4 ht (by decide)) ?_
  have hH_23 : HT ω (up (up v t 1 ((v t 1) + 1)) t 2 (v o 2)) (up ρ t 0 (ρ o 0)) Z := hH_15.upR ht (by decide) rfl (by omega) (by omega)
  show wp g X F_X9_copyFrom 0 0 26 [(2, t), (2, o), (3, 0)] [] (up (up v t 1 ((v t 1) + 1)) t 2 (v o 2)) (up ρ t 0 (ρ o 0)) Z
  refine r_aload_n (pc := 26) hX 14 rfl rfl ?_
  refine r_getR (q := (ρ o 3)) (pc := 27) hX 15 rfl fl_X9_9 rfl (hH_23.kd ho (by decide)) ((up_k (by decide)).trans (rfl)) ?_
  have hw27_ : ω (ρ o 3) = 67 := hH.rf ho (by decide) rfl
  refine r_iconst (pc := 30) hX 16 rfl ?_
  refine t_getR (q := (ρ t 3)) (pc := 31) hX 17 rfl rfl rfl fl_X9_9 rfl (hH_23.kd ht (by decide)) ((up_k (by decide)).trans (rfl)) ?_
  have hw31_ : ω (ρ t 3) = 23 := hH.rf ht (by decide) rfl
  refine r_iconst (pc := 35) hX 19 rfl ?_
  refine r_bipush (pc := 36) hX 20 rfl (by decide) ?_
  refine r_copy (na := 12) (nd := 12) (pc := 38) hX 21 13 12 rfl ml_X9_41 (by decide) (hH_23.kd hw27_ (by decide)) (hH_23.kd hw31_ (by decide)) (hH_23.g4 hw27_ (by decide)) (hH_23.g4 hw31_ (by decide)) (by decide) (hH_23.ln hw27_ (by decide)) (hH_23.ln hw31_ (by decide)) (by decide) (by decide) (by rw [hRm]; exact ⟨by decide, by decide, by decide, by decide⟩) (Nat.le_of_ble_eq_true rfl) ?_
  have hH_38 : HT ω (cpM (up (up v t 1 ((v t 1) + 1)) t 2 (v o 2)) (ρ t 3) (ρ o 3) 12) (up ρ t 0 (ρ o 0)) Z := hH_23.cp hw31_ (by decide) (lo := (-1)) (hi := 3) (fun _ => Or.inl rfl) (fun k _ _ => by have z := hH_23.rg (k := k) hw27_ (by decide) rfl; omega)
  show wp g X F_X9_copyFrom 0 0 41 [(2, t), (2, o), (3, 0)] [] (cpM (up (up v t 1 ((v t 1) + 1)) t 2 (v o 2)) (ρ t 3) (ρ o 3) 12) (up ρ t 0 (ρ o 0)) Z
  refine r_iconst (pc := 41) hX 22 rfl ?_
  refine r_istore_n (ls' := [(2, t), (2, o), (0, 0)]) (pc := 42) hX 23 rfl (by decide) rfl ?_
  have L43 : ∀ (n43 : Nat) (i : Int) (v43 : Mv) , (FrW ω [22, 23, 24, 25, 26] v v43) → (HT ω v43 (up ρ t 0 (ρ o 0)) Z) → (0 ≤ i ∧ i ≤ 3) → (3 - i).toNat < n43 → wp g X F_X9_copyFrom 0 0 43 [(2, t), (2, o), (0, i)] [] v43 (up ρ t 0 (ρ o 0)) Z := by
    intro n43
    induction n43 with
    | zero => intro i v43 hfr43 hH43 ii hme43; exact absurd hme43 (Nat.not_lt_zero _)
    | succ n43 ih43 =>
      intro i v43 hfr43 hH43 ii hme43
      refine r_iload_n (pc := 43) hX 24 rfl rfl ?_
      refine r_iconst (pc := 44) hX 25 rfl ?_
      first | refine r_icmp_ge (pc := 45) hX 26 (tgt := 90) rfl (by decide) (⟨by omega, by omega⟩) (⟨by omega, by omega⟩) (fun h45 => ?_) (fun h45 => ?_) | refine r_icmp_ge_any (pc := 45) hX 26 (tgt := 90) rfl (by decide) ?_ ?_
      · exact r_vret (pc := 90) hX 53 hQ rfl rfl (Nat.le_of_ble_eq_true rfl) (Nat.le_of_ble_eq_true rfl) ⟨rfl, hfr43, (FrW.rf).up (r := t) ht (by decide), hH43, rfl, (up_s _ _ _ _), (fun r hr => up_f hr)⟩
      · refine t_getR (q := (ρ t 4)) (pc := 48) hX 27 rfl rfl rfl fl_X9_15 rfl (hH43.kd ht (by decide)) ((up_k (by decide)).trans (rfl)) ?_
        have hw48_ : ω (ρ t 4) = 24 := hH.rf ht (by decide) rfl
        refine r_iload_n (pc := 52) hX 29 rfl rfl ?_
        refine r_aload_n (pc := 53) hX 30 rfl rfl ?_
        refine r_getR (q := (ρ o 4)) (pc := 54) hX 31 rfl fl_X9_15 rfl (hH43.kd ho (by decide)) ((up_k (by decide)).trans (rfl)) ?_
        have hw54_ : ω (ρ o 4) = 68 := hH.rf ho (by decide) rfl
        refine r_iload_n (pc := 57) hX 32 rfl rfl ?_
        refine e_iald (y := (v (ρ o 4) i)) (n := 3) (pc := 58) hX 33 rfl (hH43.kd hw54_ (by decide)) (hH43.ln hw54_ (by decide)) (by omega) (by omega) ((hfr43.at hw54_ (by decide) i).trans (rfl)) ?_
        have hb58 : (-1) ≤ (v (ρ o 4) i) ∧ (v (ρ o 4) i) ≤ 3 := hH.rg hw54_ (by decide) rfl
        refine e_iast (n := 3) (pc := 59) hX 34 rfl (hH43.kd hw48_ (by decide)) (hH43.ln hw48_ (by decide)) (hH43.g4 hw48_ (by decide)) (by omega) (by omega) ?_
        have hH_59 : HT ω (up v43 (ρ t 4) i (v (ρ o 4) i)) (up ρ t 0 (ρ o 0)) Z := hH43.upR hw48_ (by decide) rfl (by omega) (by omega)
        refine t_getR (q := (ρ t 5)) (pc := 60) hX 35 rfl rfl rfl fl_X9_18 rfl (hH_59.kd ht (by decide)) ((up_k (by decide)).trans (rfl)) ?_
        have hw60_ : ω (ρ t 5) = 25 := hH.rf ht (by decide) rfl
        refine r_iload_n (pc := 64) hX 37 rfl rfl ?_
        refine r_aload_n (pc := 65) hX 38 rfl rfl ?_
        refine r_getR (q := (ρ o 5)) (pc := 66) hX 39 rfl fl_X9_18 rfl (hH_59.kd ho (by decide)) ((up_k (by decide)).trans (rfl)) ?_
        have hw66_ : ω (ρ o 5) = 69 := hH.rf ho (by decide) rfl
        refine r_iload_n (pc := 69) hX 40 rfl rfl ?_
        refine e_zald (y := (v (ρ o 5) i)) (n := 3) (pc := 70) hX 41 rfl (hH_59.kd hw66_ (by decide)) (hH_59.ln hw66_ (by decide)) (by omega) (by omega) ((up_r (rne hw66_ hw48_ (by decide))).trans ((hfr43.at hw66_ (by decide) i).trans (rfl))) (fun hb70a hb70b => ?_)
        refine e_zast (n := 3) (pc := 71) hX 42 rfl (hH_59.kd hw60_ (by decide)) (hH_59.ln hw60_ (by decide)) (hH_59.g4 hw60_ (by decide)) (by omega) (by omega) ⟨by omega, by omega⟩ ?_
        have hH_71 : HT ω (up (up v43 (ρ t 4) i (v (ρ o 4) i)) (ρ t 5) i (v (ρ o 5) i)) (up ρ t 0 (ρ o 0)) Z := hH_59.up0 hw60_ (by decide) rfl
        refine t_getR (q := (ρ t 6)) (pc := 72) hX 43 rfl rfl rfl fl_X9_22 rfl (hH_71.kd ht (by decide)) ((up_k (by decide)).trans (rfl)) ?_
        have hw72_ : ω (ρ t 6) = 26 := hH.rf ht (by decide) rfl
        refine r_iload_n (pc := 76) hX 45 rfl rfl ?_
        refine r_aload_n (pc := 77) hX 46 rfl rfl ?_
        refine r_getR (q := (ρ o 6)) (pc := 78) hX 47 rfl fl_X9_22 rfl (hH_71.kd ho (by decide)) ((up_k (by decide)).trans (rfl)) ?_
        have hw78_ : ω (ρ o 6) = 70 := hH.rf ho (by decide) rfl
        refine r_iload_n (pc := 81) hX 48 rfl rfl ?_
        refine e_iald (y := (v (ρ o 6) i)) (n := 3) (pc := 82) hX 49 rfl (hH_71.kd hw78_ (by decide)) (hH_71.ln hw78_ (by decide)) (by omega) (by omega) ((up_r (rne hw78_ hw60_ (by decide))).trans ((up_r (rne hw78_ hw48_ (by decide))).trans ((hfr43.at hw78_ (by decide) i).trans (rfl)))) ?_
        have hb82 : 0 ≤ (v (ρ o 6) i) ∧ (v (ρ o 6) i) ≤ 11 := hH.rg hw78_ (by decide) rfl
        refine e_iast (n := 3) (pc := 83) hX 50 rfl (hH_71.kd hw72_ (by decide)) (hH_71.ln hw72_ (by decide)) (hH_71.g4 hw72_ (by decide)) (by omega) (by omega) ?_
        have hH_83 : HT ω (up (up (up v43 (ρ t 4) i (v (ρ o 4) i)) (ρ t 5) i (v (ρ o 5) i)) (ρ t 6) i (v (ρ o 6) i)) (up ρ t 0 (ρ o 0)) Z := hH_71.upR hw72_ (by decide) rfl (by omega) (by omega)
        refine r_iinc (ls' := [(2, t), (2, o), (0, (i + 1))]) (pc := 84) hX 51 rfl rfl (by decide) rfl ?_
        refine r_goto (pc := 87) hX 52 (tgt := 43) rfl (by decide) ?_
        exact (ih43 (i + 1) (up (up (up v43 (ρ t 4) i (v (ρ o 4) i)) (ρ t 5) i (v (ρ o 5) i)) (ρ t 6) i (v (ρ o 6) i)) ((((hfr43).up (r := (ρ t 4)) hw48_ (by decide)).up (r := (ρ t 5)) hw60_ (by decide)).up (r := (ρ t 6)) hw72_ (by decide)) (hH_83) (by omega) (by omega))
  exact (L43 _ 0 (cpM (up (up v t 1 ((v t 1) + 1)) t 2 (v o 2)) (ρ t 3) (ρ o 3) 12) ((((FrW.rf).up (r := t) ht (by decide)).up (r := t) ht (by decide)).cp (d := (ρ t 3)) hw31_ (by decide)) (hH_38) (by omega) (Nat.lt_succ_self _))
set_option maxHeartbeats 4000000 in
set_option maxRecDepth 100000 in
theorem c_X9_copyFromFB (g : Gp) (ω : Rw) (v ρ : Mv) (Z : Mz) (hH : HT ω v ρ Z) (t : Int) (ht : ω t = 66) (o : Int) (ho : ω o = 22)  : Ok g 2 0 0 F_X9_copyFrom [(2, t), (2, o)] v ρ Z (fun o9 v' ρ' Z' => Z = Z' ∧ FrW ω [66, 67, 68, 69, 70] v v' ∧ FrW ω [66] ρ ρ' ∧ HT ω v' ρ' Z ∧ o9 = none ∧ (ρ' t 0 = ρ o 0) ∧ (∀ r, r ≠ t → ρ' r = ρ r)) := by
  refine Ok.of mo_X9_copyFrom (Nat.le_of_ble_eq_true rfl) ?_
  intro X hX hRm hxn hQ
  show wp g X F_X9_copyFrom 0 0 0 [(2, t), (2, o), (3, 0)] [] v ρ Z
  refine r_aload_n (pc := 0) hX 0 rfl rfl ?_
  refine r_aload_n (pc := 1) hX 1 rfl rfl ?_
  refine r_getR (q := (ρ o 0)) (pc := 2) hX 2 rfl fl_X9_25 rfl (hH.kd ho (by decide)) (rfl) ?_
  have hw2_ : ω (ρ o 0) = 5 := hH.rf ho (by decide) rfl
  refine r_putR (pc := 5) hX 3 rfl fl_X9_25 rfl (fun _ h => by cases h; rfl) (hH.kd ht (by decide)) (hH.g4 ht (by decide)) ?_
  have hH_5 : HT ω v (up ρ t 0 (ρ o 0)) Z := hH.uf ht rfl hw2_ rfl
  show wp g X F_X9_copyFrom 0 0 8 [(2, t), (2, o), (3, 0)] [] v (up ρ t 0 (ρ o 0)) Z
  refine r_aload_n (pc := 8) hX 4 rfl rfl ?_
  refine r_dup (pc := 9) hX 5 rfl (show (2 : Nat) ≠ 1 by decide) ?_
  refine e_getI (y := (v t 1)) (pc := 10) hX 6 rfl fl_X9_29 rfl (hH_5.kd ht (by decide)) (rfl) ?_
  refine r_iconst (pc := 13) hX 7 rfl ?_
  refine r_iadd (pc := 14) hX 8 rfl ?_
  refine r_putI (pc := 15) hX 9 rfl fl_X9_29 rfl (fun _ h => by cases h; rfl) (hH_5.kd ht (by decide)) (hH_5.g4 ht (by decide)) ?_
  have hH_15 : HT ω (up v t 1 ((v t 1) + 1)) (up ρ t 0 (ρ o 0)) Z := hH_5.up0 ht (by decide) rfl
  show wp g X F_X9_copyFrom 0 0 18 [(2, t), (2, o), (3, 0)] [] (up v t 1 ((v t 1) + 1)) (up ρ t 0 (ρ o 0)) Z
  refine r_aload_n (pc := 18) hX 10 rfl rfl ?_
  refine r_aload_n (pc := 19) hX 11 rfl rfl ?_
  refine e_getI (y := (v o 2)) (pc := 20) hX 12 rfl fl_X9_33 rfl (hH_15.kd ho (by decide)) ((up_k (by decide)).trans (rfl)) ?_
  have hb20 : 0 ≤ (v o 2) ∧ (v o 2) ≤ 12 := hH.rg ho (by decide) rfl
  refine r_putI (pc := 23) hX 13 rfl fl_X9_33 rfl (fun _ h => by cases h; rfl) (hH_15.kd ht (by decide)) (hH_15.g4 ht (by decide)) ?_
  have hH_23 : HT ω (up (up v t 1 ((v t 1) + 1)) t 2 (v o 2)) (up ρ t 0 (ρ o 0)) Z := hH_15.upR ht (by decide) rfl (by omega) (by omega)
  show wp g X F_X9_copyFrom 0 0 26 [(2, t), (2, o), (3, 0)] [] (up (up v t 1 ((v t 1) + 1)) t 2 (v o 2)) (up ρ t 0 (ρ o 0)) Z
  refine r_aload_n (pc := 26) hX 14 rfl rfl ?_
  refine r_getR (q := (ρ o 3)) (pc := 27) hX 15 rfl fl_X9_9 rfl (hH_23.kd ho (by decide)) ((up_k (by decide)).trans (rfl)) ?_
  have hw27_ : ω (ρ o 3) = 23 := hH.rf ho (by decide) rfl
  refine r_iconst (pc := 30) hX 16 rfl ?_
  refine t_getR (q := (ρ t 3)) (pc := 31) hX 17 rfl rfl rfl fl_X9_9 rfl (hH_23.kd ht (by decide)) ((up_k (by decide)).trans (rfl)) ?_
  have hw31_ : ω (ρ t 3) = 67 := hH.rf ht (by decide) rfl
  refine r_iconst (pc := 35) hX 19 rfl ?_
  refine r_bipush (pc := 36) hX 20 rfl (by decide) ?_
  refine r_copy (na := 12) (nd := 12) (pc := 38) hX 21 13 12 rfl ml_X9_41 (by decide) (hH_23.kd hw27_ (by decide)) (hH_23.kd hw31_ (by decide)) (hH_23.g4 hw27_ (by decide)) (hH_23.g4 hw31_ (by decide)) (by decide) (hH_23.ln hw27_ (by decide)) (hH_23.ln hw31_ (by decide)) (by decide) (by decide) (by rw [hRm]; exact ⟨by decide, by decide, by decide, by decide⟩) (Nat.le_of_ble_eq_true rfl) ?_
  have hH_38 : HT ω (cpM (up (up v t 1 ((v t 1) + 1)) t 2 (v o 2)) (ρ t 3) (ρ o 3) 12) (up ρ t 0 (ρ o 0)) Z := hH_23.cp hw31_ (by decide) (lo := (-1)) (hi := 3) (fun _ => Or.inl rfl) (fun k _ _ => by have z := hH_23.rg (k := k) hw27_ (by decide) rfl; omega)
  show wp g X F_X9_copyFrom 0 0 41 [(2, t), (2, o), (3, 0)] [] (cpM (up (up v t 1 ((v t 1) + 1)) t 2 (v o 2)) (ρ t 3) (ρ o 3) 12) (up ρ t 0 (ρ o 0)) Z
  refine r_iconst (pc := 41) hX 22 rfl ?_
  refine r_istore_n (ls' := [(2, t), (2, o), (0, 0)]) (pc := 42) hX 23 rfl (by decide) rfl ?_
  have L43 : ∀ (n43 : Nat) (i : Int) (v43 : Mv) , (FrW ω [66, 67, 68, 69, 70] v v43) → (HT ω v43 (up ρ t 0 (ρ o 0)) Z) → (0 ≤ i ∧ i ≤ 3) → (3 - i).toNat < n43 → wp g X F_X9_copyFrom 0 0 43 [(2, t), (2, o), (0, i)] [] v43 (up ρ t 0 (ρ o 0)) Z := by
    intro n43
    induction n43 with
    | zero => intro i v43 hfr43 hH43 ii hme43; exact absurd hme43 (Nat.not_lt_zero _)
    | succ n43 ih43 =>
      intro i v43 hfr43 hH43 ii hme43
      refine r_iload_n (pc := 43) hX 24 rfl rfl ?_
      refine r_iconst (pc := 44) hX 25 rfl ?_
      first | refine r_icmp_ge (pc := 45) hX 26 (tgt := 90) rfl (by decide) (⟨by omega, by omega⟩) (⟨by omega, by omega⟩) (fun h45 => ?_) (fun h45 => ?_) | refine r_icmp_ge_any (pc := 45) hX 26 (tgt := 90) rfl (by decide) ?_ ?_
      · exact r_vret (pc := 90) hX 53 hQ rfl rfl (Nat.le_of_ble_eq_true rfl) (Nat.le_of_ble_eq_true rfl) ⟨rfl, hfr43, (FrW.rf).up (r := t) ht (by decide), hH43, rfl, (up_s _ _ _ _), (fun r hr => up_f hr)⟩
      · refine t_getR (q := (ρ t 4)) (pc := 48) hX 27 rfl rfl rfl fl_X9_15 rfl (hH43.kd ht (by decide)) ((up_k (by decide)).trans (rfl)) ?_
        have hw48_ : ω (ρ t 4) = 68 := hH.rf ht (by decide) rfl
        refine r_iload_n (pc := 52) hX 29 rfl rfl ?_
        refine r_aload_n (pc := 53) hX 30 rfl rfl ?_
        refine r_getR (q := (ρ o 4)) (pc := 54) hX 31 rfl fl_X9_15 rfl (hH43.kd ho (by decide)) ((up_k (by decide)).trans (rfl)) ?_
        have hw54_ : ω (ρ o 4) = 24 := hH.rf ho (by decide) rfl
        refine r_iload_n (pc := 57) hX 32 rfl rfl ?_
        refine e_iald (y := (v (ρ o 4) i)) (n := 3) (pc := 58) hX 33 rfl (hH43.kd hw54_ (by decide)) (hH43.ln hw54_ (by decide)) (by omega) (by omega) ((hfr43.at hw54_ (by decide) i).trans (rfl)) ?_
        have hb58 : (-1) ≤ (v (ρ o 4) i) ∧ (v (ρ o 4) i) ≤ 3 := hH.rg hw54_ (by decide) rfl
        refine e_iast (n := 3) (pc := 59) hX 34 rfl (hH43.kd hw48_ (by decide)) (hH43.ln hw48_ (by decide)) (hH43.g4 hw48_ (by decide)) (by omega) (by omega) ?_
        have hH_59 : HT ω (up v43 (ρ t 4) i (v (ρ o 4) i)) (up ρ t 0 (ρ o 0)) Z := hH43.upR hw48_ (by decide) rfl (by omega) (by omega)
        refine t_getR (q := (ρ t 5)) (pc := 60) hX 35 rfl rfl rfl fl_X9_18 rfl (hH_59.kd ht (by decide)) ((up_k (by decide)).trans (rfl)) ?_
        have hw60_ : ω (ρ t 5) = 69 := hH.rf ht (by decide) rfl
        refine r_iload_n (pc := 64) hX 37 rfl rfl ?_
        refine r_aload_n (pc := 65) hX 38 rfl rfl ?_
        refine r_getR (q := (ρ o 5)) (pc := 66) hX 39 rfl fl_X9_18 rfl (hH_59.kd ho (by decide)) ((up_k (by decide)).trans (rfl)) ?_
        have hw66_ : ω (ρ o 5) = 25 := hH.rf ho (by decide) rfl
        refine r_iload_n (pc := 69) hX 40 rfl rfl ?_
        refine e_zald (y := (v (ρ o 5) i)) (n := 3) (pc := 70) hX 41 rfl (hH_59.kd hw66_ (by decide)) (hH_59.ln hw66_ (by decide)) (by omega) (by omega) ((up_r (rne hw66_ hw48_ (by decide))).trans ((hfr43.at hw66_ (by decide) i).trans (rfl))) (fun hb70a hb70b => ?_)
        refine e_zast (n := 3) (pc := 71) hX 42 rfl (hH_59.kd hw60_ (by decide)) (hH_59.ln hw60_ (by decide)) (hH_59.g4 hw60_ (by decide)) (by omega) (by omega) ⟨by omega, by omega⟩ ?_
        have hH_71 : HT ω (up (up v43 (ρ t 4) i (v (ρ o 4) i)) (ρ t 5) i (v (ρ o 5) i)) (up ρ t 0 (ρ o 0)) Z := hH_59.up0 hw60_ (by decide) rfl
        refine t_getR (q := (ρ t 6)) (pc := 72) hX 43 rfl rfl rfl fl_X9_22 rfl (hH_71.kd ht (by decide)) ((up_k (by decide)).trans (rfl)) ?_
        have hw72_ : ω (ρ t 6) = 70 := hH.rf ht (by decide) rfl
        refine r_iload_n (pc := 76) hX 45 rfl rfl ?_
        refine r_aload_n (pc := 77) hX 46 rfl rfl ?_
        refine r_getR (q := (ρ o 6)) (pc := 78) hX 47 rfl fl_X9_22 rfl (hH_71.kd ho (by decide)) ((up_k (by decide)).trans (rfl)) ?_
        have hw78_ : ω (ρ o 6) = 26 := hH.rf ho (by decide) rfl
        refine r_iload_n (pc := 81) hX 48 rfl rfl ?_
        refine e_iald (y := (v (ρ o 6) i)) (n := 3) (pc := 82) hX 49 rfl (hH_71.kd hw78_ (by decide)) (hH_71.ln hw78_ (by decide)) (by omega) (by omega) ((up_r (rne hw78_ hw60_ (by decide))).trans ((up_r (rne hw78_ hw48_ (by decide))).trans ((hfr43.at hw78_ (by decide) i).trans (rfl)))) ?_
        have hb82 : 0 ≤ (v (ρ o 6) i) ∧ (v (ρ o 6) i) ≤ 11 := hH.rg hw78_ (by decide) rfl
        refine e_iast (n := 3) (pc := 83) hX 50 rfl (hH_71.kd hw72_ (by decide)) (hH_71.ln hw72_ (by decide)) (hH_71.g4 hw72_ (by decide)) (by omega) (by omega) ?_
        have hH_83 : HT ω (up (up (up v43 (ρ t 4) i (v (ρ o 4) i)) (ρ t 5) i (v (ρ o 5) i)) (ρ t 6) i (v (ρ o 6) i)) (up ρ t 0 (ρ o 0)) Z := hH_71.upR hw72_ (by decide) rfl (by omega) (by omega)
        refine r_iinc (ls' := [(2, t), (2, o), (0, (i + 1))]) (pc := 84) hX 51 rfl rfl (by decide) rfl ?_
        refine r_goto (pc := 87) hX 52 (tgt := 43) rfl (by decide) ?_
        exact (ih43 (i + 1) (up (up (up v43 (ρ t 4) i (v (ρ o 4) i)) (ρ t 5) i (v (ρ o 5) i)) (ρ t 6) i (v (ρ o 6) i)) ((((hfr43).up (r := (ρ t 4)) hw48_ (by decide)).up (r := (ρ t 5)) hw60_ (by decide)).up (r := (ρ t 6)) hw72_ (by decide)) (hH_83) (by omega) (by omega))
  exact (L43 _ 0 (cpM (up (up v t 1 ((v t 1) + 1)) t 2 (v o 2)) (ρ t 3) (ρ o 3) 12) ((((FrW.rf).up (r := t) ht (by decide)).up (r := t) ht (by decide)).cp (d := (ρ t 3)) hw31_ (by decide)) (hH_38) (by omega) (Nat.lt_succ_self _))
set_option maxHeartbeats 4000000 in
set_option maxRecDepth 100000 in
theorem c_X3_forgetF (g : Gp) (ω : Rw) (v ρ : Mv) (Z : Mz) (hH : HT ω v ρ Z) (t : Int) (ht : ω t = 27)  : Ok g 1 0 0 F_X3_forget [(2, t)] v ρ Z (fun o9 v' ρ' Z' => ρ = ρ' ∧ Z = Z' ∧ FrW ω [27] v v' ∧ HT ω v' ρ Z ∧ o9 = none ∧ (v' t 1 = 0)) := by
  refine Ok.of mo_X3_forget (Nat.le_of_ble_eq_true rfl) ?_
  intro X hX hRm hxn hQ
  show wp g X F_X3_forget 0 0 0 [(2, t)] [] v ρ Z
  refine r_aload_n (pc := 0) hX 0 rfl rfl ?_
  refine r_iconst (pc := 1) hX 1 rfl ?_
  refine r_putI (pc := 2) hX 2 rfl fl_X3_20 rfl (fun _ h => by cases h; rfl) (hH.kd ht (by decide)) (hH.g4 ht (by decide)) ?_
  have hH_2 : HT ω (up v t 1 0) ρ Z := hH.upR ht (by decide) rfl (by omega) (by omega)
  show wp g X F_X3_forget 0 0 5 [(2, t)] [] (up v t 1 0) ρ Z
  exact r_vret (pc := 5) hX 3 hQ rfl rfl (Nat.le_of_ble_eq_true rfl) (Nat.le_of_ble_eq_true rfl) ⟨rfl, rfl, (FrW.rf).up (r := t) ht (by decide), hH_2, rfl, (up_s _ _ _ _)⟩
set_option maxHeartbeats 4000000 in
set_option maxRecDepth 100000 in
theorem c_X3_keepF (g : Gp) (ω : Rw) (v ρ : Mv) (Z : Mz) (hH : HT ω v ρ Z) (t : Int) (ht : ω t = 27) (o : Int) (ho : ω o = 22) (hP : PsI v ρ t (ρ o 0)) : Ok g 3 0 0 F_X3_keep [(2, t), (2, o)] v ρ Z (fun o9 v' ρ' Z' => Z = Z' ∧ FrW ω [27, 66, 67, 68, 69, 70] v v' ∧ FrW ω [28, 66] ρ ρ' ∧ HT ω v' ρ' Z ∧ o9 = none ∧ (PsQ ω v ρ v' ρ' t (ρ o 0))) := by
  refine Ok.of mo_X3_keep (Nat.le_of_ble_eq_true rfl) ?_
  intro X hX hRm hxn hQ
  show wp g X F_X3_keep 0 0 0 [(2, t), (2, o), (3, 0), (3, 0)] [] v ρ Z
  have hwA : ω (ρ t 0) = 28 := hH.rf ht (by decide) rfl
  have hAo : o ≠ ρ t 0 := rne ho hwA (by decide)
  refine t_getI (y := (v t 1)) (pc := 0) hX 0 rfl rfl rfl fl_X3_20 rfl (hH.kd ht (by decide)) (rfl) ?_
  have hb0 : 0 ≤ (v t 1) ∧ (v t 1) ≤ 8 := hH.rg ht (by decide) rfl
  refine r_bipush (pc := 4) hX 2 rfl (by decide) ?_
  have L58 : ∀ (v58 : Mv) (ρ58 : Mv) , (FrW ω [27, 66, 67, 68, 69, 70] v v58) → (FrW ω [28, 66] ρ ρ58) → (HT ω v58 ρ58 Z) → (0 ≤ v58 t 1 ∧ v58 t 1 ≤ 7) → (∀ r, r ≠ ρ t 0 → ρ58 r = ρ r) → (PsE ρ ρ58 (ρ t 0)) → (∀ j, 0 ≤ j → j < v58 t 1 → ρ (ρ58 (ρ t 0) j) 0 = ρ o 0) → wp g X F_X3_keep 0 0 58 [(2, t), (2, o), (3, 0), (3, 0)] [] v58 ρ58 Z := by
    intro v58 ρ58 hfr58 hfrR58 hH58 ia jr je jp
    refine t_getR (q := (ρ t 0)) (pc := 58) hX 34 rfl rfl rfl fl_X3_13 rfl (hH58.kd ht (by decide)) ((hfrR58.at ht (by decide) 0).trans (rfl)) ?_
    have hw58_ : ω (ρ t 0) = 28 := hH.rf ht (by decide) rfl
    refine t_getI (y := (v58 t 1)) (pc := 62) hX 36 rfl rfl rfl fl_X3_20 rfl (hH58.kd ht (by decide)) (rfl) ?_
    have hb62 : 0 ≤ (v58 t 1) ∧ (v58 t 1) ≤ 8 := hH58.rg ht (by decide) rfl
    refine r_aald (q := (ρ58 (ρ t 0) (v58 t 1))) (pc := 66) hX 38 17 rfl (hH58.kd hw58_ (by decide)) (by decide) (by decide) rfl rfl (by omega) (by rw [show Z.2.1 (ρ t 0) = 8 from (hH58.ln hw58_ (by decide))]; omega) (rfl) ?_
    have hw66_ : ω (ρ58 (ρ t 0) (v58 t 1)) = 66 := hH58.rf hw58_ (by decide) (rf28 ⟨by omega, by omega⟩)
    have hwX := hw66_
    refine r_aload_n (pc := 67) hX 39 rfl rfl ?_
    refine r_callV (as := [(2, o)]) (st := []) (K := 9) (pc := 68) hX 40 rfl mo_X9_copyFrom ml_X3_24 im_X9_copyFrom se_X9_copyFrom (c_X9_copyFromFB g ω v58 ρ58 Z hH58 (ρ58 (ρ t 0) (v58 t 1)) hw66_ o ho ) rfl rfl rfl (hH58.kd hw66_ (by decide)) (by rw [hRm]; exact ⟨by decide, by decide⟩) (by rw [hRm]; exact ⟨by decide, by decide⟩) (Nat.le_of_ble_eq_true rfl) (fun o68 v68 ρv68 Zv68 hq68 _ => ?_)
    obtain ⟨rfl, hfr68, hfrR68, hH68, rfl, hq68⟩ := hq68
    show wp g X F_X3_keep 0 0 71 [(2, t), (2, o), (3, 0), (3, 0)] [] v68 ρv68 Z
    have hXo := hq68.1
    have hXr := hq68.2
    refine r_aload_n (pc := 71) hX 41 rfl rfl ?_
    refine r_dup (pc := 72) hX 42 rfl (show (2 : Nat) ≠ 1 by decide) ?_
    refine e_getI (y := (v58 t 1)) (pc := 73) hX 43 rfl fl_X3_20 rfl (hH68.kd ht (by decide)) ((hfr68.at ht (by decide) 1).trans (rfl)) ?_
    refine r_iconst (pc := 76) hX 44 rfl ?_
    refine r_iadd (pc := 77) hX 45 rfl ?_
    refine r_putI (pc := 78) hX 46 rfl fl_X3_20 rfl (fun _ h => by cases h; rfl) (hH68.kd ht (by decide)) (hH68.g4 ht (by decide)) ?_
    have hH_78 : HT ω (up v68 t 1 ((v58 t 1) + 1)) ρv68 Z := hH68.upR ht (by decide) rfl (by omega) (by omega)
    show wp g X F_X3_keep 0 0 81 [(2, t), (2, o), (3, 0), (3, 0)] [] (up v68 t 1 ((v58 t 1) + 1)) ρv68 Z
    exact r_vret (pc := 81) hX 47 hQ rfl rfl (Nat.le_of_ble_eq_true rfl) (Nat.le_of_ble_eq_true rfl) ⟨rfl, ((hfr58).tr hfr68 (by decide)).up (r := t) ht (by decide), (hfrR58).tr hfrR68 (by decide), hH_78, rfl, (by
        have eo : ρ58 o = ρ o := jr o hAo
        have hAX : ρ t 0 ≠ ρ58 (ρ t 0) (v58 t 1) := rne hwA hw66_ (by decide)
        have htX : t ≠ ρ58 (ρ t 0) (v58 t 1) := rne ht hw66_ (by decide)
        have htA : t ≠ ρ t 0 := rne ht hwA (by decide)
        refine ⟨fun j a b => ?_, fun j a b => ?_, fun r hr hj => ?_⟩
        · have e1 : ρv68 t 0 = ρ t 0 := (congrFun (hXr t htX) 0).trans (congrFun (jr t htA) 0)
          rw [up_s] at b
          rw [e1, hXr _ hAX]
          by_cases e : ρ58 (ρ t 0) j = ρ58 (ρ t 0) (v58 t 1)
          · rw [e, hXo, eo]
          · have hne : j ≠ v58 t 1 := fun z => e (by rw [z])
            have w : ω (ρ58 (ρ t 0) j) = 66 := hH58.rf hwA (by decide) (rf28 ⟨a, by omega⟩)
            rw [hXr _ e, jr _ (rne w hwA (by decide))]
            exact jp j a (by omega)
        · rw [hXr _ hAX]
          exact je j a b
        · obtain ⟨i9, p, q, e⟩ := je (v58 t 1) ia.1 (by omega)
          rw [hXr r (fun e9 => hj i9 p q (e9.trans e)), jr r hr])⟩
  first | refine r_icmp_lt (pc := 6) hX 3 (tgt := 58) rfl (by decide) (⟨by omega, by omega⟩) (⟨by omega, by omega⟩) (fun h6 => ?_) (fun h6 => ?_) | refine r_icmp_lt_any (pc := 6) hX 3 (tgt := 58) rfl (by decide) ?_ ?_
  · exact (L58  v ρ (FrW.rf) (FrW.rf) (hH) (by first | omega | (rw [up_s]; omega)) (by first | exact fun r _ => rfl | exact fun r hr => (up_f hr).trans (ir r hr)) (by
        first
        | exact fun j a b => ⟨j, a, b, rfl⟩
        | exact fun j a b => by
            by_cases e : j = 7
            · exact ⟨0, by decide, by decide, by rw [e, up_s]⟩
            · exact ⟨j + 1, by omega, by omega, by rw [up_k e, ie j a b, if_pos (by omega)]⟩) (by
        first
        | exact hP
        | exact fun j a b => by
            rw [up_s] at b
            rw [up_k (by omega), ie j a (by omega), if_pos (by omega)]
            exact hP (j + 1) (by omega) (by omega)) )
  · refine t_getR (q := (ρ t 0)) (pc := 9) hX 4 rfl rfl rfl fl_X3_13 rfl (hH.kd ht (by decide)) (rfl) ?_
    have hw9_ : ω (ρ t 0) = 28 := hH.rf ht (by decide) rfl
    refine r_iconst (pc := 13) hX 6 rfl ?_
    refine r_aald (q := (ρ (ρ t 0) 0)) (pc := 14) hX 7 17 rfl (hH.kd hw9_ (by decide)) (by decide) (by decide) rfl rfl (by omega) (by rw [show Z.2.1 (ρ t 0) = 8 from (hH.ln hw9_ (by decide))]; omega) (rfl) ?_
    have hw14_ : ω (ρ (ρ t 0) 0) = 66 := hH.rf hw9_ (by decide) (rf28 ⟨by omega, by omega⟩)
    refine r_astore_n (ls' := [(2, t), (2, o), (2, (ρ (ρ t 0) 0)), (3, 0)]) (pc := 15) hX 8 rfl (by decide) rfl ?_
    refine r_iconst (pc := 16) hX 9 rfl ?_
    refine r_istore_n (ls' := [(2, t), (2, o), (2, (ρ (ρ t 0) 0)), (0, 1)]) (pc := 17) hX 10 rfl (by decide) rfl ?_
    have L18 : ∀ (n18 : Nat) (i : Int) (v18 : Mv) (ρ18 : Mv) , (FrW ω [27, 66, 67, 68, 69, 70] v v18) → (FrW ω [28, 66] ρ ρ18) → (HT ω v18 ρ18 Z) → (1 ≤ i ∧ i ≤ 8) → (v18 t 1 = v t 1) → (∀ r, r ≠ ρ t 0 → ρ18 r = ρ r) → (∀ j, 0 ≤ j → j < 8 → ρ18 (ρ t 0) j = if j < i - 1 then ρ (ρ t 0) (j + 1) else ρ (ρ t 0) j) → (8 - i).toNat < n18 → wp g X F_X3_keep 0 0 18 [(2, t), (2, o), (2, (ρ (ρ t 0) 0)), (0, i)] [] v18 ρ18 Z := by
      intro n18
      induction n18 with
      | zero => intro i v18 ρ18 hfr18 hfrR18 hH18 ii ia ir ie hme18; exact absurd hme18 (Nat.not_lt_zero _)
      | succ n18 ih18 =>
        intro i v18 ρ18 hfr18 hfrR18 hH18 ii ia ir ie hme18
        refine r_iload_n (pc := 18) hX 11 rfl rfl ?_
        refine r_bipush (pc := 19) hX 12 rfl (by decide) ?_
        first | refine r_icmp_ge (pc := 21) hX 13 (tgt := 44) rfl (by decide) (⟨by omega, by omega⟩) (⟨by omega, by omega⟩) (fun h21 => ?_) (fun h21 => ?_) | refine r_icmp_ge_any (pc := 21) hX 13 (tgt := 44) rfl (by decide) ?_ ?_
        · refine t_getR (q := (ρ t 0)) (pc := 44) hX 26 rfl rfl rfl fl_X3_13 rfl (hH18.kd ht (by decide)) ((hfrR18.at ht (by decide) 0).trans (rfl)) ?_
          refine r_bipush (pc := 48) hX 28 rfl (by decide) ?_
          refine r_aload_n (pc := 50) hX 29 rfl rfl ?_
          refine r_aast (pc := 51) hX 30 17 9 rfl (hH18.kd hw9_ (by decide)) (by decide) (by decide) rfl rfl (hH18.g4 hw9_ (by decide)) (by omega) (by rw [show Z.2.1 (ρ t 0) = 8 from (hH18.ln hw9_ (by decide))]; omega) (Or.inr (hH18.kd hw14_ (by decide))) ?_
          have hH_51 : HT ω v18 (up ρ18 (ρ t 0) 7 (ρ (ρ t 0) 0)) Z := hH18.uf hw9_ (rf28 ⟨by omega, by omega⟩) hw14_ rfl
          refine r_aload_n (pc := 52) hX 31 rfl rfl ?_
          refine r_bipush (pc := 53) hX 32 rfl (by decide) ?_
          refine r_putI (pc := 55) hX 33 rfl fl_X3_20 rfl (fun _ h => by cases h; rfl) (hH_51.kd ht (by decide)) (hH_51.g4 ht (by decide)) ?_
          have hH_55 : HT ω (up v18 t 1 7) (up ρ18 (ρ t 0) 7 (ρ (ρ t 0) 0)) Z := hH_51.upR ht (by decide) rfl (by omega) (by omega)
          show wp g X F_X3_keep 0 0 58 [(2, t), (2, o), (2, (ρ (ρ t 0) 0)), (0, i)] [] (up v18 t 1 7) (up ρ18 (ρ t 0) 7 (ρ (ρ t 0) 0)) Z
          refine r_wk (ls' := [(2, t), (2, o), (3, 0), (3, 0)]) ⟨Or.inr rfl, Or.inr rfl, Or.inl rfl, Or.inl rfl, trivial⟩ ?_
          exact (L58  (up v18 t 1 7) (up ρ18 (ρ t 0) 7 (ρ (ρ t 0) 0)) ((hfr18).up (r := t) ht (by decide)) ((hfrR18).up (r := (ρ t 0)) hw9_ (by decide)) (hH_55) (by first | omega | (rw [up_s]; omega)) (by first | exact fun r _ => rfl | exact fun r hr => (up_f hr).trans (ir r hr)) (by
        first
        | exact fun j a b => ⟨j, a, b, rfl⟩
        | exact fun j a b => by
            by_cases e : j = 7
            · exact ⟨0, by decide, by decide, by rw [e, up_s]⟩
            · exact ⟨j + 1, by omega, by omega, by rw [up_k e, ie j a b, if_pos (by omega)]⟩) (by
        first
        | exact hP
        | exact fun j a b => by
            rw [up_s] at b
            rw [up_k (by omega), ie j a (by omega), if_pos (by omega)]
            exact hP (j + 1) (by omega) (by omega)) )
        · refine t_getR (q := (ρ t 0)) (pc := 24) hX 14 rfl rfl rfl fl_X3_13 rfl (hH18.kd ht (by decide)) ((hfrR18.at ht (by decide) 0).trans (rfl)) ?_
          refine r_iload_n (pc := 28) hX 16 rfl rfl ?_
          refine r_iconst (pc := 29) hX 17 rfl ?_
          refine r_isub (pc := 30) hX 18 rfl ?_
          refine t_getR (q := (ρ t 0)) (pc := 31) hX 19 rfl rfl rfl fl_X3_13 rfl (hH18.kd ht (by decide)) ((hfrR18.at ht (by decide) 0).trans (rfl)) ?_
          refine r_iload_n (pc := 35) hX 21 rfl rfl ?_
          refine r_aald (q := (ρ18 (ρ t 0) i)) (pc := 36) hX 22 17 rfl (hH18.kd hw9_ (by decide)) (by decide) (by decide) rfl rfl (by omega) (by rw [show Z.2.1 (ρ t 0) = 8 from (hH18.ln hw9_ (by decide))]; omega) (rfl) ?_
          have hw36_ : ω (ρ18 (ρ t 0) i) = 66 := hH18.rf hw9_ (by decide) (rf28 ⟨by omega, by omega⟩)
          refine r_aast (pc := 37) hX 23 17 9 rfl (hH18.kd hw9_ (by decide)) (by decide) (by decide) rfl rfl (hH18.g4 hw9_ (by decide)) (by omega) (by rw [show Z.2.1 (ρ t 0) = 8 from (hH18.ln hw9_ (by decide))]; omega) (Or.inr (hH18.kd hw36_ (by decide))) ?_
          have hH_37 : HT ω v18 (up ρ18 (ρ t 0) (i - 1) (ρ18 (ρ t 0) i)) Z := hH18.uf hw9_ (rf28 ⟨by omega, by omega⟩) hw36_ rfl
          refine r_iinc (ls' := [(2, t), (2, o), (2, (ρ (ρ t 0) 0)), (0, (i + 1))]) (pc := 38) hX 24 rfl rfl (by decide) rfl ?_
          refine r_goto (pc := 41) hX 25 (tgt := 18) rfl (by decide) ?_
          exact (ih18 (i + 1) v18 (up ρ18 (ρ t 0) (i - 1) (ρ18 (ρ t 0) i)) (hfr18) ((hfrR18).up (r := (ρ t 0)) hw9_ (by decide)) (hH_37) (by omega) ((rfl).trans (by omega)) (fun r hr => (up_f hr).trans (ir r hr)) (fun j a b => by
          by_cases e : j = i - 1
          · rw [e, up_s, ie i (by omega) (by omega), if_neg (by omega), if_pos (by omega), show i - 1 + 1 = i by omega]
          · rw [up_k e, ie j a b]
            by_cases e2 : j < i - 1
            · rw [if_pos e2, if_pos (by omega)]
            · rw [if_neg e2, if_neg (by omega)]) (by omega))
    exact (L18 _ 1 v ρ (FrW.rf) (FrW.rf) (hH) (by omega) (rfl) (fun r _ => rfl) (fun j a b => (if_neg (by omega)).symm) (Nat.lt_succ_self _))
set_option maxHeartbeats 4000000 in
set_option maxRecDepth 100000 in
theorem c_X3_recallF (g : Gp) (ω : Rw) (v ρ : Mv) (Z : Mz) (hH : HT ω v ρ Z) (t : Int) (ht : ω t = 27) (o : Int) (ho : ω o = 22) (hP : PsI v ρ t (ρ o 0)) : Ok g 3 0 0 F_X3_recall [(2, t), (2, o)] v ρ Z (fun o9 v' ρ' Z' => Z = Z' ∧ FrW ω [22, 23, 24, 25, 26, 27] v v' ∧ FrW ω [22] ρ ρ' ∧ HT ω v' ρ' Z ∧ ∃ r : Int, o9 = some (0, r) ∧ (-1 ≤ r ∧ r ≤ 7) ∧ ((∀ r, r ≠ o → ρ' r = ρ r) ∧ ρ' o 0 = ρ o 0) ∧ (PsI v' ρ' t (ρ o 0))) := by
  refine Ok.of mo_X3_recall (Nat.le_of_ble_eq_true rfl) ?_
  intro X hX hRm hxn hQ
  show wp g X F_X3_recall 0 0 0 [(2, t), (2, o)] [] v ρ Z
  have hg_t_1 : 0 ≤ v t 1 ∧ v t 1 ≤ 8 := hH.rg ht (by decide) rfl
  have hwA : ω (ρ t 0) = 28 := hH.rf ht (by decide) rfl
  refine t_getI (y := (v t 1)) (pc := 0) hX 0 rfl rfl rfl fl_X3_20 rfl (hH.kd ht (by decide)) (rfl) ?_
  have hb0 : 0 ≤ (v t 1) ∧ (v t 1) ≤ 8 := hH.rg ht (by decide) rfl
  first | refine r_if_gt (pc := 4) hX 2 (tgt := 9) rfl (by decide) (⟨by omega, by omega⟩) (fun h4 => ?_) (fun h4 => ?_) | refine r_if_gt_any (pc := 4) hX 2 (tgt := 9) rfl (by decide) ?_ ?_
  · refine r_aload_n (pc := 9) hX 5 rfl rfl ?_
    refine r_dup (pc := 10) hX 6 rfl (show (2 : Nat) ≠ 1 by decide) ?_
    refine e_getI (y := (v t 1)) (pc := 11) hX 7 rfl fl_X3_20 rfl (hH.kd ht (by decide)) (rfl) ?_
    refine r_iconst (pc := 14) hX 8 rfl ?_
    refine r_isub (pc := 15) hX 9 rfl ?_
    refine r_putI (pc := 16) hX 10 rfl fl_X3_20 rfl (fun _ h => by cases h; rfl) (hH.kd ht (by decide)) (hH.g4 ht (by decide)) ?_
    have hH_16 : HT ω (up v t 1 ((v t 1) - 1)) ρ Z := hH.upR ht (by decide) rfl (by omega) (by omega)
    show wp g X F_X3_recall 0 0 19 [(2, t), (2, o)] [] (up v t 1 ((v t 1) - 1)) ρ Z
    refine r_aload_n (pc := 19) hX 11 rfl rfl ?_
    refine t_getR (q := (ρ t 0)) (pc := 20) hX 12 rfl rfl rfl fl_X3_13 rfl (hH_16.kd ht (by decide)) (rfl) ?_
    have hw20_ : ω (ρ t 0) = 28 := hH.rf ht (by decide) rfl
    refine t_getI (y := ((v t 1) - 1)) (pc := 24) hX 14 rfl rfl rfl fl_X3_20 rfl (hH_16.kd ht (by decide)) (up_s _ _ _ _) ?_
    refine r_aald (q := (ρ (ρ t 0) ((v t 1) - 1))) (pc := 28) hX 16 17 rfl (hH_16.kd hw20_ (by decide)) (by decide) (by decide) rfl rfl (by omega) (by rw [show Z.2.1 (ρ t 0) = 8 from (hH_16.ln hw20_ (by decide))]; omega) (rfl) ?_
    have hw28_ : ω (ρ (ρ t 0) ((v t 1) - 1)) = 66 := hH.rf hw20_ (by decide) (rf28 ⟨by omega, by omega⟩)
    refine r_callV (as := [(2, (ρ (ρ t 0) ((v t 1) - 1)))]) (st := []) (K := 9) (pc := 29) hX 17 rfl mo_X9_copyFrom ml_X3_24 im_X9_copyFrom se_X9_copyFrom (c_X9_copyFromF g ω (up v t 1 ((v t 1) - 1)) ρ Z hH_16 o ho (ρ (ρ t 0) ((v t 1) - 1)) hw28_ ) rfl rfl rfl (hH_16.kd ho (by decide)) (by rw [hRm]; exact ⟨by decide, by decide⟩) (by rw [hRm]; exact ⟨by decide, by decide⟩) (Nat.le_of_ble_eq_true rfl) (fun o29 v29 ρv29 Zv29 hq29 _ => ?_)
    obtain ⟨rfl, hfr29, hfrR29, hH29, rfl, hq29⟩ := hq29
    show wp g X F_X3_recall 0 0 32 [(2, t), (2, o)] [] v29 ρv29 Z
    refine t_getI (y := ((v t 1) - 1)) (pc := 32) hX 18 rfl rfl rfl fl_X3_20 rfl (hH29.kd ht (by decide)) ((hfr29.at ht (by decide) 1).trans (up_s _ _ _ _)) ?_
    exact r_iret (pc := 36) hX 20 hQ rfl rfl (Nat.le_of_ble_eq_true rfl) (Nat.le_of_ble_eq_true rfl) ⟨rfl, ((FrW.rf).up (r := t) ht (by decide)).tr hfr29 (by decide), (FrW.rf).tr hfrR29 (by decide), hH29, ((v t 1) - 1), rfl, (by omega), (⟨hq29.2, hq29.1.trans (hP (v t 1 - 1) (by omega) (by omega))⟩), (fun j a b => by
        have e9 : v29 t 1 = v t 1 - 1 := (hfr29.at ht (by decide) 1).trans (up_s _ _ _ _)
        have w : ω (ρ (ρ t 0) j) = 66 := hH.rf hwA (by decide) (rf28 ⟨a, by omega⟩)
        rw [show ρv29 t 0 = ρ t 0 from congrFun (hq29.2 t (rne ht ho (by decide))) 0, hq29.2 _ (rne hwA ho (by decide)), hq29.2 _ (rne w ho (by decide))]
        exact hP j a (by omega))⟩
  · refine r_iconst (pc := 7) hX 3 rfl ?_
    exact r_iret (pc := 8) hX 4 hQ rfl rfl (Nat.le_of_ble_eq_true rfl) (Nat.le_of_ble_eq_true rfl) ⟨rfl, FrW.rf, FrW.rf, hH, (-1), rfl, (by omega), (⟨fun r _ => rfl, rfl⟩), (hP)⟩
