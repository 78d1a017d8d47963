/-! WHAT HOLDS of the reference's row s (region 180) between calls -/
def wtF (f : Int → Int) (l : Int) : Nat → Int
  | 0 => f (14 + l)
  | n + 1 => wtF f l n * f (17 + 5 * l + f (45 + (n : Int)))
/-- the values that wait, behind n codes -/
def dpF (f : Int → Int) : Nat → Int
  | 0 => 0
  | n + 1 => dpF f n + (if f (58 + 3 * (n : Int)) = 20 then 0 else if f (58 + 3 * (n : Int)) = 21 ∨ f (58 + 3 * (n : Int)) = 22 then -1 else 1)
def codF (f : Int → Int) (m : Int) : Prop := ∀ n : Nat, (n : Int) < m → 0 ≤ dpF f n ∧ dpF f n ≤ 40 ∧ (f (58 + 3 * (n : Int)) = 20 → 1 ≤ dpF f n) ∧ (f (58 + 3 * (n : Int)) = 21 ∨ f (58 + 3 * (n : Int)) = 22 → 2 ≤ dpF f n) ∧ inR (f (58 + 3 * (n : Int)))
/-- the road's part -/
def RInv (f : Int → Int) : Prop := (0 ≤ f 0 ∧ f 0 ≤ 4) ∧ (0 ≤ f 1 ∧ f 1 ≤ 3) ∧ (0 ≤ f 2 ∧ f 2 ≤ 3) ∧ (1 ≤ f 3 ∧ f 3 ≤ 9) ∧ (1 ≤ f 4 ∧ f 4 ≤ 12) ∧ (0 ≤ f 5 ∧ f 5 ≤ 1) ∧
  (∀ c, 0 ≤ c → c ≤ 3 → 0 ≤ f (6 + c) ∧ f (6 + c) ≤ 3) ∧ (∀ c, 0 ≤ c → c ≤ 3 → 0 ≤ f (10 + c) ∧ f (10 + c) ≤ 1) ∧
  (∀ l, 0 ≤ l → l ≤ 2 → 0 ≤ f (14 + l) ∧ f (14 + l) ≤ 9 ∧ (l = 0 ∨ l < f 1 → 1 ≤ f (14 + l))) ∧
  (∀ l c, 0 ≤ l → l ≤ 2 → 0 ≤ c → c ≤ 4 → 0 ≤ f (17 + 5 * l + c) ∧ f (17 + 5 * l + c) ≤ 12) ∧
  (∀ l, 0 ≤ l → l ≤ 2 → f (17 + 5 * l + 0) + f (17 + 5 * l + 1) + f (17 + 5 * l + 2) + f (17 + 5 * l + 3) + f (17 + 5 * l + 4) = 12) ∧ (∀ q, 0 ≤ q → q ≤ 2 → 0 ≤ f (32 + q) ∧ f (32 + q) ≤ 8)
/-- what is so on it -/
def TInv (f : Int → Int) : Prop := (0 ≤ f 35 ∧ f 35 ≤ f 4) ∧ (∀ q, 0 ≤ q → q ≤ 2 → 0 ≤ f (36 + q) ∧ f (36 + q) ≤ f 0) ∧ (∀ q, 0 ≤ q → q ≤ 2 → 0 ≤ f (39 + q) ∧ f (39 + q) ≤ 1) ∧ (∀ q, 0 ≤ q → q ≤ 2 → 0 ≤ f (42 + q) ∧ f (42 + q) ≤ 8 + 3 * f 35 ∧ (f 2 ≤ q → f (42 + q) ≤ 8)) ∧ (∀ i, 0 ≤ i → i ≤ 11 → 0 ≤ f (45 + i) ∧ f (45 + i) ≤ 4) ∧ ∃ l, 0 ≤ l ∧ (l = 0 ∨ l < f 1) ∧ ∀ i, 0 ≤ i → i < f 35 → 1 ≤ f (17 + 5 * l + f (45 + i))
def CInv (f : Int → Int) : Prop := 0 ≤ f 57 ∧ f 57 ≤ 40 ∧ codF f (f 57)
def SInv (f : Int → Int) : Prop := RInv f ∧ TInv f ∧ CInv f
section
variable {f : Int → Int}
theorem SInv.c0 (h : SInv f) : 0 ≤ f 0 ∧ f 0 ≤ 4 := h.1.1
theorem SInv.c1 (h : SInv f) : 0 ≤ f 1 ∧ f 1 ≤ 3 := h.1.2.1
theorem SInv.c2 (h : SInv f) : 0 ≤ f 2 ∧ f 2 ≤ 3 := h.1.2.2.1
theorem SInv.c3 (h : SInv f) : 1 ≤ f 3 ∧ f 3 ≤ 9 := h.1.2.2.2.1
theorem SInv.c4 (h : SInv f) : 1 ≤ f 4 ∧ f 4 ≤ 12 := h.1.2.2.2.2.1
theorem SInv.c5 (h : SInv f) : 0 ≤ f 5 ∧ f 5 ≤ 1 := h.1.2.2.2.2.2.1
theorem SInv.c6 (h : SInv f) (c : Int) (h0 : 0 ≤ c) (h1 : c ≤ 3) : 0 ≤ f (6 + c) ∧ f (6 + c) ≤ 3 := h.1.2.2.2.2.2.2.1 c h0 h1
theorem SInv.c10 (h : SInv f) (c : Int) (h0 : 0 ≤ c) (h1 : c ≤ 3) : 0 ≤ f (10 + c) ∧ f (10 + c) ≤ 1 := h.1.2.2.2.2.2.2.2.1 c h0 h1
theorem SInv.c14 (h : SInv f) (c : Int) (h0 : 0 ≤ c) (h1 : c ≤ 2) : 0 ≤ f (14 + c) ∧ f (14 + c) ≤ 9 ∧ (c = 0 ∨ c < f 1 → 1 ≤ f (14 + c)) := h.1.2.2.2.2.2.2.2.2.1 c h0 h1
theorem SInv.c17 (h : SInv f) (l c : Int) (h0 : 0 ≤ l) (h1 : l ≤ 2) (h2 : 0 ≤ c) (h3 : c ≤ 4) : 0 ≤ f (17 + 5 * l + c) ∧ f (17 + 5 * l + c) ≤ 12 := h.1.2.2.2.2.2.2.2.2.2.1 l c h0 h1 h2 h3
theorem SInv.sum (h : SInv f) (l : Int) (h0 : 0 ≤ l) (h1 : l ≤ 2) : f (17 + 5 * l + 0) + f (17 + 5 * l + 1) + f (17 + 5 * l + 2) + f (17 + 5 * l + 3) + f (17 + 5 * l + 4) = 12 := h.1.2.2.2.2.2.2.2.2.2.2.1 l h0 h1
theorem SInv.c32 (h : SInv f) (c : Int) (h0 : 0 ≤ c) (h1 : c ≤ 2) : 0 ≤ f (32 + c) ∧ f (32 + c) ≤ 8 := h.1.2.2.2.2.2.2.2.2.2.2.2 c h0 h1
theorem SInv.c35 (h : SInv f) : 0 ≤ f 35 ∧ f 35 ≤ f 4 ∧ f 35 ≤ 12 := ⟨h.2.1.1.1, h.2.1.1.2, by have := h.2.1.1.2; have := h.c4; omega⟩
theorem SInv.c36 (h : SInv f) (c : Int) (h0 : 0 ≤ c) (h1 : c ≤ 2) : 0 ≤ f (36 + c) ∧ f (36 + c) ≤ f 0 ∧ f (36 + c) ≤ 4 := ⟨(h.2.1.2.1 c h0 h1).1, (h.2.1.2.1 c h0 h1).2, by have := (h.2.1.2.1 c h0 h1).2; have := h.c0; omega⟩
theorem SInv.c39 (h : SInv f) (c : Int) (h0 : 0 ≤ c) (h1 : c ≤ 2) : 0 ≤ f (39 + c) ∧ f (39 + c) ≤ 1 := h.2.1.2.2.1 c h0 h1
theorem SInv.c42 (h : SInv f) (c : Int) (h0 : 0 ≤ c) (h1 : c ≤ 2) : 0 ≤ f (42 + c) ∧ f (42 + c) ≤ 8 + 3 * f 35 ∧ (f 2 ≤ c → f (42 + c) ≤ 8) ∧ f (42 + c) ≤ 44 := ⟨(h.2.1.2.2.2.1 c h0 h1).1, (h.2.1.2.2.2.1 c h0 h1).2.1, (h.2.1.2.2.2.1 c h0 h1).2.2, by have := (h.2.1.2.2.2.1 c h0 h1).2.1; have := h.c35; omega⟩
theorem SInv.c45 (h : SInv f) (c : Int) (h0 : 0 ≤ c) (h1 : c ≤ 11) : 0 ≤ f (45 + c) ∧ f (45 + c) ≤ 4 := h.2.1.2.2.2.2.1 c h0 h1
theorem SInv.c57 (h : SInv f) : 0 ≤ f 57 ∧ f 57 ≤ 40 := ⟨h.2.2.1, h.2.2.2.1⟩
end
/-- scores, owners -/
def ScI (f : Int → Int) : Prop := ∀ q, 0 ≤ q → q ≤ 2 → 0 ≤ f q ∧ f q ≤ 400
def OwI (f : Int → Int) : Prop := ∀ c, 0 ≤ c → c ≤ 4 → -1 ≤ f c ∧ f c ≤ 2 ∧ (c = 4 → f c = -1)
/-- scores and owners as they are now -/
def AsN (v v' : Mv) : Prop := (∀ q, 0 ≤ q → q ≤ 2 → v' 185 q = v 180 (42 + q)) ∧ OwI (v' 186) ∧ ∀ c, 0 ≤ c → c ≤ 4 → v' 186 c < v 180 2
theorem AsN.sc {v v' : Mv} (hS : SInv (v 180)) (h : AsN v v') : ScI (v' 185) := fun q h0 h1 => by
  rw [h.1 q h0 h1]
  have := hS.c42 q h0 h1
  omega
