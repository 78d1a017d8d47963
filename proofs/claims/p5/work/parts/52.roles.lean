/-! ROLES of the class's regions; what each may hold -/
def kdO : Nat → Nat := fun c => match c with
  | 1 => 11
  | 2 => 8
  | 3 => 15
  | 4 => 5
  | 5 => 4
  | 6 => 14
  | 7 => 14
  | 8 => 14
  | 9 => 13
  | 10 => 16
  | 11 => 13
  | 12 => 19
  | 13 => 13
  | 14 => 13
  | 15 => 1
  | 16 => 13
  | 17 => 13
  | 18 => 13
  | 19 => 6
  | 20 => 13
  | 21 => 7
  | 22 => 9
  | 23 => 13
  | 24 => 13
  | 25 => 16
  | 26 => 13
  | 27 => 3
  | 28 => 17
  | 29 => 2
  | 30 => 13
  | 31 => 13
  | 32 => 14
  | 33 => 14
  | 34 => 14
  | 35 => 14
  | 36 => 13
  | 37 => 13
  | 38 => 13
  | 39 => 0
  | 40 => 20
  | 41 => 14
  | 42 => 19
  | 43 => 13
  | 44 => 13
  | 45 => 10
  | 46 => 13
  | 47 => 13
  | 48 => 13
  | 49 => 13
  | 50 => 13
  | 51 => 13
  | 52 => 13
  | 53 => 14
  | 54 => 20
  | 55 => 14
  | 56 => 14
  | 57 => 14
  | 58 => 20
  | 59 => 14
  | 60 => 17
  | 61 => 18
  | 62 => 16
  | 63 => 13
  | 64 => 13
  | 65 => 13
  | 66 => 9
  | 67 => 13
  | 68 => 13
  | 69 => 16
  | 70 => 13
  | _ => 99
def lnO : Nat → Int := fun c => match c with
  | 3 => 940
  | 6 => 4
  | 7 => 3
  | 8 => 3
  | 9 => 5
  | 10 => 5
  | 11 => 3
  | 12 => 3
  | 13 => 5
  | 14 => 3
  | 16 => 40
  | 17 => 40
  | 18 => 40
  | 20 => 40
  | 23 => 12
  | 24 => 3
  | 25 => 3
  | 26 => 3
  | 28 => 8
  | 30 => 5
  | 31 => 3
  | 32 => 3
  | 33 => 3
  | 34 => 13
  | 35 => 729
  | 36 => 3
  | 37 => 3
  | 38 => 3
  | 40 => 4
  | 41 => 3
  | 42 => 4
  | 43 => 3
  | 44 => 3
  | 46 => 5
  | 47 => 3
  | 48 => 3
  | 49 => 4
  | 50 => 3
  | 51 => 3
  | 52 => 5
  | 53 => 3
  | 54 => 15
  | 55 => 13
  | 56 => 3
  | 57 => 1820
  | 58 => 9
  | 59 => 729
  | 60 => 2
  | 61 => 2
  | 62 => 2
  | 63 => 3
  | 64 => 3
  | 65 => 4
  | 67 => 12
  | 68 => 3
  | 69 => 3
  | 70 => 3
  | _ => 0
def rgO : Nat → Int → Option (Int × Int) := fun c => match c with
  | 2 => fun k => if k = 1 then some (0, 940) else if k = 2 then some (0, 1000) else if k = 3 then some (0, 940) else if k = 4 then some (0, 4) else if k = 5 then some (0, 1000) else if k = 6 then some ((-2147483648), 2147483647) else if k = 7 then some ((-1), 21) else if k = 9 then some (0, 4) else if k = 10 then some (0, 1000) else none
  | 4 => fun k => if k = 2 then some (0, 1) else if k = 3 then some (0, 1) else none
  | 5 => fun k => if k = 8 then some (0, 4) else if k = 9 then some (0, 3) else if k = 10 then some (0, 3) else if k = 11 then some (1, 9) else if k = 12 then some (1, 12) else if k = 13 then some (0, 1) else none
  | 9 => fun _ => some (0, 3)
  | 11 => fun _ => some (0, 9)
  | 13 => fun _ => some (0, 12)
  | 14 => fun _ => some (0, 8)
  | 15 => fun k => if k = 4 then some (0, 40) else none
  | 16 => fun _ => some ((-1), 21)
  | 17 => fun _ => some ((-1), 2)
  | 18 => fun _ => some ((-1), 3)
  | 19 => fun k => if k = 3 then some (0, 40) else if k = 4 then some (0, 20) else none
  | 22 => fun k => if k = 2 then some (0, 12) else none
  | 23 => fun _ => some ((-1), 3)
  | 24 => fun _ => some ((-1), 3)
  | 26 => fun _ => some (0, 11)
  | 27 => fun k => if k = 1 then some (0, 8) else none
  | 29 => fun k => if k = 5 then some (0, 9) else if k = 6 then some (0, 12) else none
  | 30 => fun _ => some ((-1), 2)
  | 31 => fun _ => some (0, 11)
  | 36 => fun _ => some ((-11), 9)
  | 37 => fun _ => some (0, 8)
  | 38 => fun _ => some (0, 22)
  | 43 => fun _ => some ((-1), 3)
  | 44 => fun _ => some ((-1), 3)
  | 45 => fun k => if k = 2 then some ((-1), 2) else if k = 5 then some ((-1), 3) else if k = 6 then some (0, 12) else if k = 9 then some (0, 3) else none
  | 46 => fun _ => some ((-1), 2)
  | 47 => fun _ => some (0, 3)
  | 48 => fun _ => some ((-11), 9)
  | 49 => fun _ => some ((-11), 12)
  | 50 => fun _ => some (0, 11)
  | 66 => fun k => if k = 2 then some (0, 12) else none
  | 67 => fun _ => some ((-1), 3)
  | 68 => fun _ => some ((-1), 3)
  | 70 => fun _ => some (0, 11)
  | _ => fun _ => none
def rfO : Nat → Int → Option Nat := fun c => match c with
  | 1 => fun k => if k = 0 then some 2 else if k = 1 then some 4 else if k = 2 then some 15 else if k = 3 then some 21 else if k = 4 then some 22 else if k = 5 then some 66 else if k = 6 then some 27 else if k = 7 then some 29 else if k = 8 then some 29 else if k = 9 then some 39 else if k = 10 then some 45 else if k = 11 then some 60 else if k = 12 then some 61 else if k = 13 then some 62 else if k = 14 then some 63 else if k = 15 then some 64 else if k = 16 then some 65 else none
  | 2 => fun k => if k = 0 then some 3 else none
  | 4 => fun k => if k = 0 then some 2 else if k = 1 then some 5 else none
  | 5 => fun k => if k = 0 then some 6 else if k = 1 then some 9 else if k = 2 then some 10 else if k = 3 then some 7 else if k = 4 then some 11 else if k = 5 then some 12 else if k = 6 then some 8 else if k = 7 then some 14 else none
  | 12 => fun k => if 0 ≤ k ∧ k < 3 then some 13 else none
  | 15 => fun k => if k = 0 then some 2 else if k = 1 then some 16 else if k = 2 then some 17 else if k = 3 then some 18 else none
  | 19 => fun k => if k = 0 then some 20 else if k = 1 then some 20 else if k = 2 then some 20 else none
  | 21 => fun k => if k = 0 then some 2 else if k = 1 then some 19 else none
  | 22 => fun k => if k = 0 then some 5 else if k = 3 then some 23 else if k = 4 then some 24 else if k = 5 then some 25 else if k = 6 then some 26 else none
  | 27 => fun k => if k = 0 then some 28 else none
  | 28 => fun k => if 0 ≤ k ∧ k < 8 then some 66 else none
  | 29 => fun k => if k = 0 then some 5 else if k = 2 then some 30 else if k = 3 then some 31 else if k = 4 then some 32 else if k = 9 then some 33 else if k = 10 then some 34 else if k = 11 then some 35 else if k = 12 then some 36 else if k = 13 then some 37 else if k = 14 then some 38 else none
  | 39 => fun k => if k = 0 then some 29 else if k = 3 then some 40 else if k = 4 then some 42 else if k = 5 then some 44 else none
  | 40 => fun k => if 0 ≤ k ∧ k < 4 then some 41 else none
  | 42 => fun k => if 0 ≤ k ∧ k < 4 then some 43 else none
  | 45 => fun k => if k = 0 then some 5 else if k = 7 then some 46 else if k = 8 then some 47 else if k = 10 then some 48 else if k = 11 then some 49 else if k = 12 then some 50 else if k = 13 then some 51 else if k = 14 then some 52 else if k = 15 then some 53 else if k = 16 then some 54 else if k = 17 then some 56 else if k = 18 then some 57 else if k = 19 then some 58 else none
  | 54 => fun k => if 0 ≤ k ∧ k < 15 then some 55 else none
  | 58 => fun k => if 0 ≤ k ∧ k < 9 then some 59 else none
  | 60 => fun k => if 0 ≤ k ∧ k < 2 then some 66 else none
  | 66 => fun k => if k = 0 then some 5 else if k = 3 then some 67 else if k = 4 then some 68 else if k = 5 then some 69 else if k = 6 then some 70 else none
  | _ => fun _ => none
def rnO : Nat → Int → Option Nat := fun c => match c with
  | 1 => fun k => if k = 17 then some 19 else none
  | 61 => fun k => if 0 ≤ k ∧ k < 2 then some 19 else none
  | _ => fun _ => none
theorem rf12 {k : Int} (h : 0 ≤ k ∧ k < 3) : rfO 12 k = some 13 := if_pos h
theorem rf28 {k : Int} (h : 0 ≤ k ∧ k < 8) : rfO 28 k = some 66 := if_pos h
theorem rf40 {k : Int} (h : 0 ≤ k ∧ k < 4) : rfO 40 k = some 41 := if_pos h
theorem rf42 {k : Int} (h : 0 ≤ k ∧ k < 4) : rfO 42 k = some 43 := if_pos h
theorem rf54 {k : Int} (h : 0 ≤ k ∧ k < 15) : rfO 54 k = some 55 := if_pos h
theorem rf58 {k : Int} (h : 0 ≤ k ∧ k < 9) : rfO 58 k = some 59 := if_pos h
theorem rf60 {k : Int} (h : 0 ≤ k ∧ k < 2) : rfO 60 k = some 66 := if_pos h
theorem rn61 {k : Int} (h : 0 ≤ k ∧ k < 2) : rnO 61 k = some 19 := if_pos h
abbrev Rw : Type := Int → Nat
def okR (ω : Rw) (v ρ : Mv) (Z : Mz) (r : Int) (c : Nat) : Prop := 4 ≤ r ∧ r < Z.2.2 ∧ Z.1 r = kdO c ∧ Z.2.1 r = lnO c ∧ (∀ k a b, rgO c k = some (a, b) → a ≤ v r k ∧ v r k ≤ b) ∧ (∀ k d, rfO c k = some d → ω (ρ r k) = d) ∧ (∀ k d, rnO c k = some d → ρ r k < 0 ∨ ω (ρ r k) = d)
def STs (v : Mv) (Z : Mz) : Prop := Z.1 0 = 13 ∧ Z.2.1 0 = 3 ∧ v 0 0 = 81 ∧ v 0 1 = 9 ∧ v 0 2 = 1 ∧ Z.1 1 = 14 ∧ Z.2.1 1 = 13 ∧ ∀ k, 0 ≤ k → k ≤ 12 → 1 ≤ v 1 k ∧ v 1 k ≤ 8916100448256
/-- the class's part of the heap is as it should be -/
def HT (ω : Rw) (v ρ : Mv) (Z : Mz) : Prop := (∀ (r : Int) (c : Nat), ω r = c → c ≠ 0 → okR ω v ρ Z r c) ∧ STs v Z
/-- what may change: regions of these roles -/
def FrW (ω : Rw) (S : List Nat) (v v' : Mv) : Prop := ∀ r : Int, ω r ∉ S → v' r = v r
section
variable {ω : Rw} {v ρ v' ρ' : Mv} {Z : Mz} {r k x a b : Int} {c d : Nat} {S S' : List Nat}
theorem HT.kd (h : HT ω v ρ Z) (hw : ω r = c) (hc : c ≠ 0) : Z.1 r = kdO c := (h.1 r c hw hc).2.2.1
theorem HT.ln (h : HT ω v ρ Z) (hw : ω r = c) (hc : c ≠ 0) : Z.2.1 r = lnO c := (h.1 r c hw hc).2.2.2.1
theorem HT.g4 (h : HT ω v ρ Z) (hw : ω r = c) (hc : c ≠ 0) : 4 ≤ r := (h.1 r c hw hc).1
theorem HT.rg (h : HT ω v ρ Z) (hw : ω r = c) (hc : c ≠ 0) (hk : rgO c k = some (a, b)) : a ≤ v r k ∧ v r k ≤ b := (h.1 r c hw hc).2.2.2.2.1 k a b hk
theorem HT.rf (h : HT ω v ρ Z) (hw : ω r = c) (hc : c ≠ 0) (hk : rfO c k = some d) : ω (ρ r k) = d := (h.1 r c hw hc).2.2.2.2.2.1 k d hk
theorem HT.rn (h : HT ω v ρ Z) (hw : ω r = c) (hc : c ≠ 0) (hk : rnO c k = some d) : ρ r k < 0 ∨ ω (ρ r k) = d := (h.1 r c hw hc).2.2.2.2.2.2 k d hk
theorem HT.lt (h : HT ω v ρ Z) (hw : ω r = c) (hc : c ≠ 0) : r < Z.2.2 := (h.1 r c hw hc).2.1
theorem HT.w0 (h : HT ω v ρ Z) : ω 0 = 0 := Classical.byContradiction fun e => by have := (h.1 0 _ rfl e).1; omega
theorem HT.w1 (h : HT ω v ρ Z) : ω 1 = 0 := Classical.byContradiction fun e => by have := (h.1 1 _ rfl e).1; omega
theorem rne {e : Int} (h : ω r = c) (h2 : ω e = d) (hc : c ≠ d) : r ≠ e := fun q => hc (by rw [← h, q, h2])
theorem HT.up0 (h : HT ω v ρ Z) (hw : ω r = c) (hc : c ≠ 0) (hk : rgO c k = none) : HT ω (up v r k x) ρ Z := ⟨fun q e he hn => by
  obtain ⟨a1, a2, a4, a5, a6, a7⟩ := h.1 q e he hn
  refine ⟨a1, a2, a4, a5, fun j y z hj => ?_, a7⟩
  by_cases hq : q = r ∧ j = k
  · obtain ⟨rfl, rfl⟩ := hq
    rw [← he, hw, hk] at hj; cases hj
  · rw [show up v r k x q j = v q j from if_neg hq]; exact a6 j y z hj, by
  have h4 := h.g4 hw hc
  obtain ⟨b1, b2, b3, b4, b5, b6, b7, b8⟩ := h.2
  exact ⟨b1, b2, by rw [up_r (by omega)]; exact b3, by rw [up_r (by omega)]; exact b4, by rw [up_r (by omega)]; exact b5, b6, b7, fun k h0 h1 => by rw [up_r (by omega)]; exact b8 k h0 h1⟩⟩
theorem HT.upR (h : HT ω v ρ Z) (hw : ω r = c) (hc : c ≠ 0) (hk : rgO c k = some (a, b)) (h1 : a ≤ x) (h2 : x ≤ b) : HT ω (up v r k x) ρ Z := ⟨fun q e he hn => by
  obtain ⟨a1, a2, a4, a5, a6, a7⟩ := h.1 q e he hn
  refine ⟨a1, a2, a4, a5, fun j y z hj => ?_, a7⟩
  by_cases hq : q = r ∧ j = k
  · obtain ⟨rfl, rfl⟩ := hq
    rw [← he, hw, hk] at hj; cases hj
    rw [up_s]; exact ⟨h1, h2⟩
  · rw [show up v r k x q j = v q j from if_neg hq]; exact a6 j y z hj, by
  have h4 := h.g4 hw hc
  obtain ⟨b1, b2, b3, b4, b5, b6, b7, b8⟩ := h.2
  exact ⟨b1, b2, by rw [up_r (by omega)]; exact b3, by rw [up_r (by omega)]; exact b4, by rw [up_r (by omega)]; exact b5, b6, b7, fun k h0 h1 => by rw [up_r (by omega)]; exact b8 k h0 h1⟩⟩
theorem HT.uf (h : HT ω v ρ Z) (hw : ω r = c) (hk : rfO c k = some d) (hx : ω x = d) (hkn : rnO c k = none) : HT ω v (up ρ r k x) Z := ⟨fun q e he hn => by
  obtain ⟨a1, a2, a4, a5, a6, a7, a8⟩ := h.1 q e he hn
  refine ⟨a1, a2, a4, a5, a6, fun j y hj => ?_, fun j y hj => ?_⟩
  · by_cases hq : q = r ∧ j = k
    · obtain ⟨rfl, rfl⟩ := hq
      rw [← he, hw, hk] at hj; cases hj
      rw [up_s]; exact hx
    · rw [show up ρ r k x q j = ρ q j from if_neg hq]; exact a7 j y hj
  · by_cases hq : q = r ∧ j = k
    · obtain ⟨rfl, rfl⟩ := hq
      rw [← he, hw, hkn] at hj; cases hj
    · rw [show up ρ r k x q j = ρ q j from if_neg hq]; exact a8 j y hj, h.2⟩
theorem HT.un (h : HT ω v ρ Z) (hw : ω r = c) (hk : rnO c k = some d) (hx : x < 0 ∨ ω x = d) (hkn : rfO c k = none) : HT ω v (up ρ r k x) Z := ⟨fun q e he hn => by
  obtain ⟨a1, a2, a4, a5, a6, a7, a8⟩ := h.1 q e he hn
  refine ⟨a1, a2, a4, a5, a6, fun j y hj => ?_, fun j y hj => ?_⟩
  · by_cases hq : q = r ∧ j = k
    · obtain ⟨rfl, rfl⟩ := hq
      rw [← he, hw, hkn] at hj; cases hj
    · rw [show up ρ r k x q j = ρ q j from if_neg hq]; exact a7 j y hj
  · by_cases hq : q = r ∧ j = k
    · obtain ⟨rfl, rfl⟩ := hq
      rw [← he, hw, hk] at hj; cases hj
      rw [up_s]; exact hx
    · rw [show up ρ r k x q j = ρ q j from if_neg hq]; exact a8 j y hj, h.2⟩
theorem FrW.rf : FrW ω S v v := fun _ _ => rfl
theorem FrW.up (h : FrW ω S v v') (hw : ω r = c) (hc : c ∈ S) : FrW ω S v (up v' r k x) := fun q hq => by
  rw [up_f (fun e => hq (by rw [e, hw]; exact hc))]; exact h q hq
theorem FrW.tr {v2 : Mv} (h : FrW ω S v v') (h2 : FrW ω S' v' v2) (hS : ∀ c ∈ S', c ∈ S) : FrW ω S v v2 := fun q hq => (h2 q (fun e => hq (hS _ e))).trans (h q hq)
theorem FrW.at (h : FrW ω S v v') (hw : ω r = c) (hc : c ∉ S) (k : Int) : v' r k = v r k := congrFun (h r (by rw [hw]; exact hc)) k
theorem FrW.rw (h : FrW ω S v v') (hw : ω r = c) (hc : c ∉ S) : v' r = v r := h r (by rw [hw]; exact hc)
end
