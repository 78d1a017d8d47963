/-- roads that are not being read stand: regions below B -/
def inW (c : Nat) : Bool := c == 5 || c == 6 || c == 7 || c == 8 || c == 10 || c == 13
def FrK (ω : Rw) (B : Int) (v v' : Mv) : Prop := ∀ r, inW (ω r) = true → r < B → v' r = v r
def NbI (ρ : Mv) (o B : Int) : Prop := B ≤ o ∧ B ≤ ρ o 0 ∧ B ≤ ρ o 2 ∧ B ≤ ρ o 3 ∧ B ≤ ρ o 6 ∧ ∀ l, 0 ≤ l → l < 3 → B ≤ ρ (ρ o 5) l
theorem FrK.rf {ω : Rw} {B : Int} {v : Mv} : FrK ω B v v := fun _ _ _ => rfl
theorem FrK.tr {ω : Rw} {B : Int} {v v1 v2 : Mv} (h : FrK ω B v v1) (h2 : FrK ω B v1 v2) : FrK ω B v v2 := fun r a b => (h2 r a b).trans (h r a b)
theorem FrK.ar {ω : Rw} {B : Int} {v v1 : Mv} {q k x : Int} (h : FrK ω B v v1) (hq : B ≤ q) : FrK ω B v (up v1 q k x) := fun r a b => (up_f (by omega)).trans (h r a b)
theorem FrK.ot {ω : Rw} {B : Int} {v v1 : Mv} {q k x : Int} {c : Nat} (h : FrK ω B v v1) (hq : ω q = c) (hc : inW c = false) : FrK ω B v (up v1 q k x) := fun r a b => (up_f (fun e => by rw [e, hq, hc] at a; cases a)).trans (h r a b)
theorem FrK.tw {ω : Rw} {B : Int} {v v1 v2 : Mv} {S : List Nat} (h : FrK ω B v v1) (hf : FrW ω S v1 v2) (hS : ∀ c ∈ S, inW c = false) : FrK ω B v v2 := fun r a b => (hf r (fun z => by rw [hS _ z] at a; cases a)).trans (h r a b)
