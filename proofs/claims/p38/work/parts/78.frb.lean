def FrB (n : Int) (ω : Rw) (S : List Nat) (v v' : Mv) : Prop := ∀ r, r < n → ω r ∉ S → v' r = v r
def OmX (n : Int) (ω ω' : Rw) : Prop := ∀ r, r < n → ω' r = ω r
def ZzX (n : Int) (Z Z' : Mz) : Prop := Z.2.2 ≤ Z'.2.2 ∧ ∀ q, q < n → Z'.1 q = Z.1 q ∧ Z'.2.1 q = Z.2.1 q
section
variable {ω ω1 ω2 : Rw} {v v' v2 : Mv} {Z Z1 Z2 : Mz} {n m r k x : Int} {c : Nat} {S S' : List Nat}
theorem OmX.rf : OmX n ω ω := fun _ _ => rfl
theorem OmX.tr (h : OmX n ω ω1) (h2 : OmX m ω1 ω2) (hm : n ≤ m) : OmX n ω ω2 := fun r hr => (h2 r (by omega)).trans (h r hr)
theorem ZzX.rf : ZzX n Z Z := ⟨Int.le_refl _, fun _ _ => ⟨rfl, rfl⟩⟩
theorem ZzX.tr (h : ZzX n Z Z1) (h2 : ZzX m Z1 Z2) (hm : n ≤ m) : ZzX n Z Z2 := ⟨Int.le_trans h.1 h2.1, fun q hq => ⟨(h2.2 q (by omega)).1.trans (h.2 q hq).1, (h2.2 q (by omega)).2.trans (h.2 q hq).2⟩⟩
theorem FrB.rf : FrB n ω S v v := fun _ _ _ => rfl
theorem FrB.up (h : FrB n ω S v v') (ho : OmX n ω ω1) (hw : ω1 r = c) (hc : c ∈ S) : FrB n ω S v (up v' r k x) := fun q hq hs => by
  rw [up_f (fun e => hs (by rw [← ho q hq, e, hw]; exact hc))]; exact h q hq hs
theorem FrB.tr (h : FrB n ω S v v') (ho : OmX n ω ω1) (h2 : FrW ω1 S' v' v2) (hS : ∀ c ∈ S', c ∈ S) : FrB n ω S v v2 := fun q hq hs => (h2 q (fun e => hs (hS _ (by rw [← ho q hq]; exact e)))).trans (h q hq hs)
theorem FrB.trB (h : FrB n ω S v v') (ho : OmX n ω ω1) (h2 : FrB m ω1 S' v' v2) (hm : n ≤ m) (hS : ∀ c ∈ S', c ∈ S) : FrB n ω S v v2 := fun q hq hs => (h2 q (by omega) (fun e => hs (hS _ (by rw [← ho q hq]; exact e)))).trans (h q hq hs)
theorem FrB.al (h : FrB n ω S v v') (h2 : ∀ q, q < n → v2 q = v' q) : FrB n ω S v v2 := fun q hq hs => (h2 q hq).trans (h q hq hs)
end
