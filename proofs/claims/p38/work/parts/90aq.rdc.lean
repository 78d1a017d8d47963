/-! the class's state while it reads a road, as the road's function has it -/
def NmB (x : Int) : Prop := 0 ≤ x ∧ x < 34359738368
theorem tn_b {F : Int → Int} {n m p : Int} (h1 : p ≤ n) (h : tk F n m p = 1) : NmB (tn F n p) := by
  have hw := tk_word h1 h
  have hb := te_bd (f := F) h1
  have ha := cntL_all (f := F) (q := tq F n p) (te F n p - tq F n p).toNat (by have := hw.2.2; unfold tl at this; omega)
  have h3 := n32_lt _ ha
  have h4 : 32 ^ (te F n p - tq F n p).toNat ≤ 32 ^ 7 := Nat.pow_le_pow_right (by decide) (by omega)
  unfold tn NmB
  exact ⟨(n32_pos _ ha).1, by omega⟩
/-- the roles of what a RoadText has -/
def RtW (ω : Rw) (ρ : Mv) (t : Int) : Prop := (ω t = 4) ∧ (ω (ρ t 0) = 2) ∧ (ω (ρ (ρ t 0) 0) = 3) ∧ (ω (ρ t 1) = 5) ∧ (ω (ρ (ρ t 1) 0) = 6) ∧ (ω (ρ (ρ t 1) 1) = 9) ∧ (ω (ρ (ρ t 1) 2) = 10) ∧ (ω (ρ (ρ t 1) 3) = 7) ∧ (ω (ρ (ρ t 1) 4) = 11) ∧ (ω (ρ (ρ t 1) 5) = 12) ∧ (ω (ρ (ρ t 1) 6) = 8) ∧ (ω (ρ (ρ t 1) 7) = 14) ∧ (∀ l, 0 ≤ l → l < 3 → ω (ρ (ρ (ρ t 1) 5) l) = 13)
theorem RtW.w4 {ω : Rw} {ρ : Mv} {t : Int} (h : RtW ω ρ t) : ω t = 4 := h.1
theorem RtW.w2 {ω : Rw} {ρ : Mv} {t : Int} (h : RtW ω ρ t) : ω (ρ t 0) = 2 := h.2.1
theorem RtW.w3 {ω : Rw} {ρ : Mv} {t : Int} (h : RtW ω ρ t) : ω (ρ (ρ t 0) 0) = 3 := h.2.2.1
theorem RtW.w5 {ω : Rw} {ρ : Mv} {t : Int} (h : RtW ω ρ t) : ω (ρ t 1) = 5 := h.2.2.2.1
theorem RtW.w6 {ω : Rw} {ρ : Mv} {t : Int} (h : RtW ω ρ t) : ω (ρ (ρ t 1) 0) = 6 := h.2.2.2.2.1
theorem RtW.w9 {ω : Rw} {ρ : Mv} {t : Int} (h : RtW ω ρ t) : ω (ρ (ρ t 1) 1) = 9 := h.2.2.2.2.2.1
theorem RtW.w10 {ω : Rw} {ρ : Mv} {t : Int} (h : RtW ω ρ t) : ω (ρ (ρ t 1) 2) = 10 := h.2.2.2.2.2.2.1
theorem RtW.w7 {ω : Rw} {ρ : Mv} {t : Int} (h : RtW ω ρ t) : ω (ρ (ρ t 1) 3) = 7 := h.2.2.2.2.2.2.2.1
theorem RtW.w11 {ω : Rw} {ρ : Mv} {t : Int} (h : RtW ω ρ t) : ω (ρ (ρ t 1) 4) = 11 := h.2.2.2.2.2.2.2.2.1
theorem RtW.w12 {ω : Rw} {ρ : Mv} {t : Int} (h : RtW ω ρ t) : ω (ρ (ρ t 1) 5) = 12 := h.2.2.2.2.2.2.2.2.2.1
theorem RtW.w8 {ω : Rw} {ρ : Mv} {t : Int} (h : RtW ω ρ t) : ω (ρ (ρ t 1) 6) = 8 := h.2.2.2.2.2.2.2.2.2.2.1
theorem RtW.w14 {ω : Rw} {ρ : Mv} {t : Int} (h : RtW ω ρ t) : ω (ρ (ρ t 1) 7) = 14 := h.2.2.2.2.2.2.2.2.2.2.2.1
theorem RtW.w13 {ω : Rw} {ρ : Mv} {t : Int} (h : RtW ω ρ t) : ∀ l, 0 ≤ l → l < 3 → ω (ρ (ρ (ρ t 1) 5) l) = 13 := h.2.2.2.2.2.2.2.2.2.2.2.2
theorem RtW.of {ω : Rw} {v ρ : Mv} {Z : Mz} {t : Int} (h : HT ω v ρ Z) (ht : ω t = 4) : RtW ω ρ t := by
  have w2 : ω (ρ t 0) = 2 := h.rf ht (by decide) rfl
  have w5 : ω (ρ t 1) = 5 := h.rf ht (by decide) rfl
  have w12 : ω (ρ (ρ t 1) 5) = 12 := h.rf w5 (by decide) rfl
  exact ⟨ht, w2, h.rf w2 (by decide) rfl, w5, h.rf w5 (by decide) rfl, h.rf w5 (by decide) rfl, h.rf w5 (by decide) rfl, h.rf w5 (by decide) rfl, h.rf w5 (by decide) rfl, w12, h.rf w5 (by decide) rfl, h.rf w5 (by decide) rfl, fun l a b => h.rf w12 (by decide) (rf12 ⟨a, b⟩)⟩
/-- the road's object o; rows of lands below L are told -/
def RcI (v ρ : Mv) (o L i : Int) (s : Rd) : Prop := (v o 8 = s.H 0) ∧ (v o 9 = s.H 1) ∧ (v o 10 = s.H 2) ∧ (v o 11 = s.H 3) ∧ (v o 12 = s.H 4) ∧ (v o 13 = s.H 5) ∧ (v o 14 = i) ∧ (∀ c, 0 ≤ c → c < 4 → v (ρ o 2) c = s.H (10 + c)) ∧ (∀ j, 0 ≤ j → j < s.H 0 → v (ρ o 0) j = s.N (0 + j) ∧ NmB (s.N (0 + j))) ∧ (∀ j, 0 ≤ j → j < s.H 1 → v (ρ o 3) j = s.N (4 + j) ∧ NmB (s.N (4 + j))) ∧ (∀ j, 0 ≤ j → j < s.H 2 → v (ρ o 6) j = s.N (7 + j) ∧ NmB (s.N (7 + j))) ∧ (∀ l c, 0 ≤ l → l < 3 → 0 ≤ c → c < 4 → v (ρ (ρ o 5) l) c = if l < L then s.H (17 + 5 * l + c) else 0) ∧ (∀ l, 0 ≤ l → l < 3 → v (ρ (ρ o 5) l) 4 = 12 - (v (ρ (ρ o 5) l) 0 + v (ρ (ρ o 5) l) 1 + v (ρ (ρ o 5) l) 2 + v (ρ (ρ o 5) l) 3)) ∧ (∀ l k, 0 ≤ l → l < 3 → 0 ≤ k → k < 3 → l ≠ k → ρ (ρ o 5) l ≠ ρ (ρ o 5) k)
theorem RcI.k8 {v ρ : Mv} {o L i : Int} {s : Rd} (h : RcI v ρ o L i s) : v o 8 = s.H 0 := h.1
theorem RcI.k9 {v ρ : Mv} {o L i : Int} {s : Rd} (h : RcI v ρ o L i s) : v o 9 = s.H 1 := h.2.1
theorem RcI.k10 {v ρ : Mv} {o L i : Int} {s : Rd} (h : RcI v ρ o L i s) : v o 10 = s.H 2 := h.2.2.1
theorem RcI.k11 {v ρ : Mv} {o L i : Int} {s : Rd} (h : RcI v ρ o L i s) : v o 11 = s.H 3 := h.2.2.2.1
theorem RcI.k12 {v ρ : Mv} {o L i : Int} {s : Rd} (h : RcI v ρ o L i s) : v o 12 = s.H 4 := h.2.2.2.2.1
theorem RcI.k13 {v ρ : Mv} {o L i : Int} {s : Rd} (h : RcI v ρ o L i s) : v o 13 = s.H 5 := h.2.2.2.2.2.1
theorem RcI.k14 {v ρ : Mv} {o L i : Int} {s : Rd} (h : RcI v ρ o L i s) : v o 14 = i := h.2.2.2.2.2.2.1
theorem RcI.en {v ρ : Mv} {o L i : Int} {s : Rd} (h : RcI v ρ o L i s) : ∀ c, 0 ≤ c → c < 4 → v (ρ o 2) c = s.H (10 + c) := h.2.2.2.2.2.2.2.1
theorem RcI.nc {v ρ : Mv} {o L i : Int} {s : Rd} (h : RcI v ρ o L i s) : ∀ j, 0 ≤ j → j < s.H 0 → v (ρ o 0) j = s.N (0 + j) ∧ NmB (s.N (0 + j)) := h.2.2.2.2.2.2.2.2.1
theorem RcI.nl {v ρ : Mv} {o L i : Int} {s : Rd} (h : RcI v ρ o L i s) : ∀ j, 0 ≤ j → j < s.H 1 → v (ρ o 3) j = s.N (4 + j) ∧ NmB (s.N (4 + j)) := h.2.2.2.2.2.2.2.2.2.1
theorem RcI.np {v ρ : Mv} {o L i : Int} {s : Rd} (h : RcI v ρ o L i s) : ∀ j, 0 ≤ j → j < s.H 2 → v (ρ o 6) j = s.N (7 + j) ∧ NmB (s.N (7 + j)) := h.2.2.2.2.2.2.2.2.2.2.1
theorem RcI.cr {v ρ : Mv} {o L i : Int} {s : Rd} (h : RcI v ρ o L i s) : ∀ l c, 0 ≤ l → l < 3 → 0 ≤ c → c < 4 → v (ρ (ρ o 5) l) c = if l < L then s.H (17 + 5 * l + c) else 0 := h.2.2.2.2.2.2.2.2.2.2.2.1
theorem RcI.gr {v ρ : Mv} {o L i : Int} {s : Rd} (h : RcI v ρ o L i s) : ∀ l, 0 ≤ l → l < 3 → v (ρ (ρ o 5) l) 4 = 12 - (v (ρ (ρ o 5) l) 0 + v (ρ (ρ o 5) l) 1 + v (ρ (ρ o 5) l) 2 + v (ρ (ρ o 5) l) 3) := h.2.2.2.2.2.2.2.2.2.2.2.2.1
theorem RcI.ds {v ρ : Mv} {o L i : Int} {s : Rd} (h : RcI v ρ o L i s) : ∀ l k, 0 ≤ l → l < 3 → 0 ≤ k → k < 3 → l ≠ k → ρ (ρ o 5) l ≠ ρ (ρ o 5) k := h.2.2.2.2.2.2.2.2.2.2.2.2.2
def RdC (F : Int → Int) (n m : Int) (v ρ : Mv) (t i L : Int) (s : Rd) : Prop := (TkC F n m v ρ (ρ t 0) s.p) ∧ (RcI v ρ (ρ t 1) L i s) ∧ (v t 2 = s.o0) ∧ (v t 3 = s.o1)
theorem RdC.tk {F : Int → Int} {n m : Int} {v ρ : Mv} {t i L : Int} {s : Rd} (h : RdC F n m v ρ t i L s) : TkC F n m v ρ (ρ t 0) s.p := h.1
theorem RdC.rc {F : Int → Int} {n m : Int} {v ρ : Mv} {t i L : Int} {s : Rd} (h : RdC F n m v ρ t i L s) : RcI v ρ (ρ t 1) L i s := h.2.1
theorem RdC.o0 {F : Int → Int} {n m : Int} {v ρ : Mv} {t i L : Int} {s : Rd} (h : RdC F n m v ρ t i L s) : v t 2 = s.o0 := h.2.2.1
theorem RdC.o1 {F : Int → Int} {n m : Int} {v ρ : Mv} {t i L : Int} {s : Rd} (h : RdC F n m v ρ t i L s) : v t 3 = s.o1 := h.2.2.2
def PoC (F : Int → Int) (n m : Int) (v ρ : Mv) (t i r : Int) (q : Int × Rd) : Prop := r = 1 ∧ q.1 = 0 ∧ RdC F n m v ρ t i (q.2.H 1) q.2 ∨ r = 0 ∧ q.1 ≠ 0 ∧ v (ρ t 0) 9 = q.1 ∧ v (ρ t 0) 10 = ta F n m q.2.p
section RdCs
variable {F : Int → Int} {n m : Int} {v v' ρ : Mv} {t i L r : Int} {s : Rd} {ω : Rw} {Z : Mz}
theorem RcI.row {o : Int} (h : RcI v ρ o L i s) (h5 : v' o = v o) (h0 : v' (ρ o 0) = v (ρ o 0)) (h2 : v' (ρ o 2) = v (ρ o 2)) (h3 : v' (ρ o 3) = v (ρ o 3)) (h6 : v' (ρ o 6) = v (ρ o 6)) (hr : ∀ l, 0 ≤ l → l < 3 → v' (ρ (ρ o 5) l) = v (ρ (ρ o 5) l)) : RcI v' ρ o L i s := by
  obtain ⟨a8, a9, a10, a11, a12, a13, a14, b, c0, c1, c2, d, e, f⟩ := h
  exact ⟨by rw [h5]; exact a8, by rw [h5]; exact a9, by rw [h5]; exact a10, by rw [h5]; exact a11, by rw [h5]; exact a12, by rw [h5]; exact a13, by rw [h5]; exact a14, by rw [h2]; exact b, by rw [h0]; exact c0, by rw [h3]; exact c1, by rw [h6]; exact c2, fun l c x y => by rw [hr l x y]; exact d l c x y, fun l x y => by rw [hr l x y]; exact e l x y, f⟩
/-- what else is written: regions of other roles -/
theorem RcI.fr (h : RcI v ρ (ρ t 1) L i s) (hw : RtW ω ρ t) (hf : ∀ r, inW (ω r) = true → v' r = v r) : RcI v' ρ (ρ t 1) L i s :=
  h.row (hf _ (by rw [hw.w5]; rfl)) (hf _ (by rw [hw.w6]; rfl)) (hf _ (by rw [hw.w10]; rfl)) (hf _ (by rw [hw.w7]; rfl)) (hf _ (by rw [hw.w8]; rfl)) (fun l a b => hf _ (by rw [hw.w13 l a b]; rfl))
theorem FrW.keep {S : List Nat} (h : FrW ω S v v') (hS : ∀ c ∈ S, inW c = false) : ∀ r, inW (ω r) = true → v' r = v r := fun r hr => h r (fun z => by rw [hS _ z] at hr; cases hr)
theorem up_inW {q k x : Int} {c : Nat} (hq : ω q = c) (hc : inW c = false) : ∀ r, inW (ω r) = true → (up v q k x) r = v r := fun r hr => up_f (fun e => by rw [e, hq, hc] at hr; cases hr)
/-- the token moves on, the rest stands -/
theorem RdC.go {S : List Nat} {p : Int} (h : RdC F n m v ρ t i L s) (hw : RtW ω ρ t) (hf : FrW ω S v v') (hS : ∀ c ∈ S, c = 2) (hT : TkC F n m v' ρ (ρ t 0) p) : RdC F n m v' ρ t i L (Rd.wp_ s p) := by
  have h4 : v' t = v t := hf t (fun z => by have := hS _ z; rw [hw.w4] at this; cases this)
  exact ⟨hT, (h.rc.fr hw (hf.keep (fun c hc => by rw [hS c hc]; rfl)) : RcI v' ρ (ρ t 1) L i s), by rw [h4]; exact h.o0, by rw [h4]; exact h.o1⟩
/-- a region of another role is written -/
theorem RdC.oth {q k x : Int} {c : Nat} (h : RdC F n m v ρ t i L s) (hw : RtW ω ρ t) (hq : ω q = c) (hc : inW c = false) (h2 : c ≠ 2) (h3 : c ≠ 3) (h4 : c ≠ 4) : RdC F n m (up v q k x) ρ t i L s := by
  have e4 : (up v q k x) t = v t := up_f (rne hw.w4 hq (fun e => h4 e.symm))
  have e2 : (up v q k x) (ρ t 0) = v (ρ t 0) := up_f (rne hw.w2 hq (fun e => h2 e.symm))
  have e3 : (up v q k x) (ρ (ρ t 0) 0) = v (ρ (ρ t 0) 0) := up_f (rne hw.w3 hq (fun e => h3 e.symm))
  refine ⟨?_, h.rc.fr hw (up_inW hq hc), by rw [e4]; exact h.o0, by rw [e4]; exact h.o1⟩
  have := h.tk
  unfold TkC at this ⊢
  rw [e2, e3]
  exact this
theorem TkC.oth {q k x p : Int} {c : Nat} (h : TkC F n m v ρ (ρ t 0) p) (hw : RtW ω ρ t) (hq : ω q = c) (h2 : c ≠ 2) (h3 : c ≠ 3) : TkC F n m (up v q k x) ρ (ρ t 0) p := by
  have e2 : (up v q k x) (ρ t 0) = v (ρ t 0) := up_f (rne hw.w2 hq (fun e => h2 e.symm))
  have e3 : (up v q k x) (ρ (ρ t 0) 0) = v (ρ (ρ t 0) 0) := up_f (rne hw.w3 hq (fun e => h3 e.symm))
  unfold TkC at h ⊢
  rw [e2, e3]
  exact h
/-- places of H that the class keeps elsewhere -/
theorem RdC.ign {c x : Int} (h : RdC F n m v ρ t i L s) (hc : 6 ≤ c ∧ c < 10 ∨ 14 ≤ c ∧ c < 17 ∨ 32 ≤ c ∧ c < 35) : RdC F n m v ρ t i L (Rd.wH s (sv s.H c x)) := by
  obtain ⟨h1, ⟨a8, a9, a10, a11, a12, a13, a14, b, c0, c1, c2, d, e, f⟩, h3, h4⟩ := h
  refine ⟨h1, ⟨?_, ?_, ?_, ?_, ?_, ?_, a14, fun j p q => ?_, ?_, ?_, ?_, fun l j p q p2 q2 => ?_, e, f⟩, h3, h4⟩
  · exact a8.trans (sv_n (by omega)).symm
  · exact a9.trans (sv_n (by omega)).symm
  · exact a10.trans (sv_n (by omega)).symm
  · exact a11.trans (sv_n (by omega)).symm
  · exact a12.trans (sv_n (by omega)).symm
  · exact a13.trans (sv_n (by omega)).symm
  · exact (b j p q).trans (sv_n (by omega)).symm
  · show ∀ j, 0 ≤ j → j < sv s.H c x 0 → _
    rw [sv_n (by omega)]; exact c0
  · show ∀ j, 0 ≤ j → j < sv s.H c x 1 → _
    rw [sv_n (by omega)]; exact c1
  · show ∀ j, 0 ≤ j → j < sv s.H c x 2 → _
    rw [sv_n (by omega)]; exact c2
  · rw [d l j p q p2 q2]
    show _ = if l < L then sv s.H c x (17 + 5 * l + j) else 0
    rw [sv_n (by omega)]
end RdCs
