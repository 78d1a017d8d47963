def nbF (t : Int → Int) : Nat → Int
  | 0 => 0
  | n + 1 => nbF t n + (if t (n : Int) = 21 ∨ t (n : Int) = 22 then 1 else 0)
def shR (r : Int → Int) : Int → Int := fun k => r (k - 58)
def SnI (r t : Int → Int) (C T N W : Int) : Prop := 0 ≤ C ∧ 0 ≤ T ∧ 0 ≤ N ∧ N ≤ 20 ∧ 0 ≤ W ∧ W ≤ 1 ∧ C + T ≤ 2 * N - W ∧ (∀ k, 0 ≤ k → k < T → 20 ≤ t k ∧ t k ≤ 23) ∧ codF (shR r) C ∧ dpF (shR r) C.toNat = nbF t T.toNat + W
theorem nbF_nn (t : Int → Int) : ∀ n : Nat, 0 ≤ nbF t n
  | 0 => Int.le_refl 0
  | n + 1 => by
    have := nbF_nn t n
    show 0 ≤ nbF t n + _
    split <;> omega
theorem nbF_cg {t u : Int → Int} {T : Int} (h : ∀ k, 0 ≤ k → k < T → u k = t k) : ∀ n : Nat, (n : Int) ≤ T → nbF u n = nbF t n
  | 0, _ => rfl
  | n + 1, hn => by
    show nbF u n + _ = nbF t n + _
    rw [nbF_cg h n (by omega), h n (by omega) (by omega)]
theorem nbF_s {t : Int → Int} {T : Int} (h : 0 ≤ T) : nbF t (T + 1).toNat = nbF t T.toNat + (if t T = 21 ∨ t T = 22 then 1 else 0) := by
  have e : (T + 1).toNat = T.toNat + 1 := by omega
  rw [e]; show nbF t T.toNat + _ = _
  rw [Int.toNat_of_nonneg h]
theorem dpF_s {f : Int → Int} {i : Int} (h : 0 ≤ i) : dpF f (i + 1).toNat = dpF f i.toNat + (if f (58 + 3 * i) = 20 then 0 else if f (58 + 3 * i) = 21 ∨ f (58 + 3 * i) = 22 then -1 else 1) := by
  have e : (i + 1).toNat = i.toNat + 1 := by omega
  rw [e]; show dpF f i.toNat + _ = _
  rw [Int.toNat_of_nonneg h]
theorem dpF_le (f : Int → Int) : ∀ n : Nat, dpF f n ≤ n
  | 0 => Int.le_refl 0
  | n + 1 => by
    have := dpF_le f n
    show dpF f n + _ ≤ ((n + 1 : Nat) : Int)
    split
    · omega
    · split <;> omega
theorem dpF_cgR {r q : Int → Int} {C : Int} (h : ∀ k, k < 3 * C → q k = r k) : ∀ n : Nat, (n : Int) ≤ C → dpF (shR q) n = dpF (shR r) n
  | 0, _ => rfl
  | n + 1, hn => by
    show dpF (shR q) n + _ = dpF (shR r) n + _
    rw [dpF_cgR h n (by omega)]
    have e : shR q (58 + 3 * (n : Int)) = shR r (58 + 3 * (n : Int)) := h _ (by omega)
    rw [e]
theorem codF_cgR {r q : Int → Int} {C : Int} (h : ∀ k, k < 3 * C → q k = r k) (hc : codF (shR r) C) : codF (shR q) C := fun n hn => by
  have e : shR q (58 + 3 * (n : Int)) = shR r (58 + 3 * (n : Int)) := h _ (by omega)
  rw [dpF_cgR h n (by omega), e]; exact hc n hn
/-- one code more -/
theorem SnI.code {r q t : Int → Int} {C T N W a : Int} (h : SnI r t C T N W) (hC : C ≤ 39) (hq : ∀ k, k < 3 * C → q k = r k) (ha : q (3 * C) = a) (hr : inR a) (h20 : a = 20 → 1 ≤ nbF t T.toNat + W) (h21 : a = 21 ∨ a = 22 → 2 ≤ nbF t T.toNat + W) :
    codF (shR q) (C + 1) ∧ dpF (shR q) (C + 1).toNat = nbF t T.toNat + W + (if a = 20 then 0 else if a = 21 ∨ a = 22 then -1 else 1) := by
  obtain ⟨c0, t0, n0, n20, w0, w1, hs, hk, hc, hd⟩ := h
  have e : shR q (58 + 3 * C) = a := by show q (58 + 3 * C - 58) = a; rw [show 58 + 3 * C - 58 = 3 * C by omega]; exact ha
  have d : dpF (shR q) C.toNat = nbF t T.toNat + W := by rw [dpF_cgR hq _ (by omega)]; exact hd
  refine ⟨fun n hn => ?_, ?_⟩
  · by_cases e1 : (n : Int) < C
    · exact codF_cgR hq hc n e1
    · have e2 : (n : Int) = C := by omega
      have e3 : n = C.toNat := by omega
      have l := dpF_le (shR q) n
      have := nbF_nn t T.toNat
      rw [e2, e]; rw [e3] at l ⊢; rw [d] at l ⊢
      exact ⟨by omega, by omega, h20, h21, hr⟩
  · rw [dpF_s c0, d, e]
theorem SnI.start {r t : Int → Int} : SnI r t 0 0 0 0 := ⟨by decide, by decide, by decide, by decide, by decide, by decide, by decide, fun k a b => by omega, fun n hn => by omega, rfl⟩
theorem SnI.stk {r t : Int → Int} {C T N W : Int} (h : SnI r t C T N W) (k : Int) (a : 0 ≤ k) (b : k < T) : 20 ≤ t k ∧ t k ≤ 23 := h.2.2.2.2.2.2.2.1 k a b
theorem SnI.nums {r t : Int → Int} {C T N W : Int} (h : SnI r t C T N W) : 0 ≤ C ∧ 0 ≤ T ∧ 0 ≤ N ∧ N ≤ 20 ∧ 0 ≤ W ∧ W ≤ 1 ∧ C + T ≤ 2 * N - W := ⟨h.1, h.2.1, h.2.2.1, h.2.2.2.1, h.2.2.2.2.1, h.2.2.2.2.2.1, h.2.2.2.2.2.2.1⟩
theorem SnI.leaf {r q t : Int → Int} {C T N a : Int} (h : SnI r t C T N 0) (hN : N ≤ 19) (hq : ∀ k, k < 3 * C → q k = r k) (ha : q (3 * C) = a) (h7 : 0 ≤ a ∧ a ≤ 7) : SnI q t (C + 1) T (N + 1) 1 := by
  have n := h.nums
  have z := h.code (by omega) hq ha ⟨by omega, by omega⟩ (fun e => by omega) (fun e => by omega)
  refine ⟨by omega, by omega, by omega, by omega, by omega, by omega, by omega, h.stk, z.1, ?_⟩
  rw [z.2, if_neg (by omega), if_neg (by omega)]; omega
theorem SnI.push {r t u : Int → Int} {C T N a : Int} (h : SnI r t C T N 0) (hN : N ≤ 19) (hu : ∀ k, 0 ≤ k → k < T → u k = t k) (ha : u T = a) (h2 : a = 20 ∨ a = 23) : SnI r u C (T + 1) (N + 1) 0 := by
  have n := h.nums
  refine ⟨by omega, by omega, by omega, by omega, by omega, by omega, by omega, fun k a9 b9 => ?_, h.2.2.2.2.2.2.2.2.1, ?_⟩
  · by_cases e : k = T
    · subst e; omega
    · rw [hu k a9 (by omega)]; exact h.stk k a9 (by omega)
  · rw [nbF_s n.2.1, ha, if_neg (by omega), nbF_cg hu _ (by omega), h.2.2.2.2.2.2.2.2.2]; omega
theorem SnI.op {r t u : Int → Int} {C T N a : Int} (h : SnI r t C T N 1) (hu : ∀ k, 0 ≤ k → k < T → u k = t k) (ha : u T = a) (h2 : a = 21 ∨ a = 22) : SnI r u C (T + 1) N 0 := by
  have n := h.nums
  refine ⟨by omega, by omega, by omega, by omega, by omega, by omega, by omega, fun k a9 b9 => ?_, h.2.2.2.2.2.2.2.2.1, ?_⟩
  · by_cases e : k = T
    · subst e; omega
    · rw [hu k a9 (by omega)]; exact h.stk k a9 (by omega)
  · rw [nbF_s n.2.1, ha, if_pos h2, nbF_cg hu _ (by omega), h.2.2.2.2.2.2.2.2.2]; omega
theorem nbF_p {t : Int → Int} {T : Int} (h : 0 < T) : nbF t T.toNat = nbF t (T - 1).toNat + (if t (T - 1) = 21 ∨ t (T - 1) = 22 then 1 else 0) := by
  have z := nbF_s (t := t) (T := T - 1) (by omega)
  rw [show T - 1 + 1 = T by omega] at z; exact z
theorem SnI.nots {r q t : Int → Int} {C T N : Int} (h : SnI r t C T N 1) (hT : 0 < T) (ht : t (T - 1) = 20) (hq : ∀ k, k < 3 * C → q k = r k) (ha : q (3 * C) = 20) : SnI q t (C + 1) (T - 1) N 1 := by
  have n := h.nums
  have nn := nbF_nn t T.toNat
  have z := h.code (by omega) hq ha ⟨by omega, by omega⟩ (fun e => by omega) (fun e => by omega)
  refine ⟨by omega, by omega, by omega, by omega, by omega, by omega, by omega, fun k a b => h.stk k a (by omega), z.1, ?_⟩
  rw [z.2, nbF_p hT, if_neg (by omega), if_pos rfl]; omega
theorem SnI.join {r q t : Int → Int} {C T N : Int} (h : SnI r t C T N 1) (hT : 0 < T) (ht : t (T - 1) = 21 ∨ t (T - 1) = 22) (hq : ∀ k, k < 3 * C → q k = r k) (ha : q (3 * C) = t (T - 1)) : SnI q t (C + 1) (T - 1) N 1 := by
  have n := h.nums
  have np := nbF_p (t := t) hT
  rw [if_pos ht] at np
  have nn := nbF_nn t (T - 1).toNat
  have z := h.code (by omega) hq ha ⟨by omega, by omega⟩ (fun e => by omega) (fun e => by omega)
  refine ⟨by omega, by omega, by omega, by omega, by omega, by omega, by omega, fun k a b => h.stk k a (by omega), z.1, ?_⟩
  rw [z.2, np, if_neg (by omega), if_pos ht]; omega
theorem SnI.shut {r t : Int → Int} {C T N : Int} (h : SnI r t C T N 1) (hT : 0 < T) (ht : t (T - 1) ≠ 21 ∧ t (T - 1) ≠ 22) : SnI r t C (T - 1) N 1 := by
  have n := h.nums
  have np := nbF_p (t := t) hT
  rw [if_neg (by omega)] at np
  refine ⟨by omega, by omega, by omega, by omega, by omega, by omega, by omega, fun k a b => h.stk k a (by omega), h.2.2.2.2.2.2.2.2.1, ?_⟩
  rw [h.2.2.2.2.2.2.2.2.2, np]; omega
theorem SnI.cinv {r t g : Int → Int} {C T N W : Int} (h : SnI r t C T N W) (h57 : g 57 = C) (hg : ∀ k, 0 ≤ k → k < 3 * C → g (58 + k) = r k) : CInv g := by
  have n := h.nums
  have hd : ∀ m : Nat, (m : Int) ≤ C → dpF g m = dpF (shR r) m := by
    intro m
    induction m with
    | zero => intro _; rfl
    | succ m ih =>
      intro hm
      show dpF g m + _ = dpF (shR r) m + _
      have e : shR r (58 + 3 * (m : Int)) = g (58 + 3 * (m : Int)) := by
        rw [hg (3 * m) (by omega) (by omega)]; show r _ = _; congr 1; omega
      rw [ih (by omega), e]
  refine ⟨by omega, by omega, fun m hm => ?_⟩
  rw [h57] at hm
  have e : g (58 + 3 * (m : Int)) = shR r (58 + 3 * (m : Int)) := by
    rw [hg (3 * m) (by omega) (by omega)]; show _ = r _; congr 1; omega
  rw [hd m (by omega), e]
  exact h.2.2.2.2.2.2.2.2.1 m hm
theorem TInv.cg {f g : Int → Int} (h : TInv f) (h4 : f 4 ≤ 12) (h1 : f 1 ≤ 3) (hg : ∀ k, k < 57 → g k = f k) : TInv g := by
  obtain ⟨b0, b1, b2, b3, b4, l, l0, l1, l2⟩ := h
  refine ⟨by rw [hg 35 (by omega), hg 4 (by omega)]; exact b0, fun q h0 h1 => by rw [hg (36 + q) (by omega), hg 0 (by omega)]; exact b1 q h0 h1, fun q h0 h1 => by rw [hg _ (by omega)]; exact b2 q h0 h1, fun q h0 h1 => by rw [hg (42 + q) (by omega), hg 35 (by omega), hg 2 (by omega)]; exact b3 q h0 h1, fun i h0 h1 => by rw [hg _ (by omega)]; exact b4 i h0 h1, l, l0, by rw [hg 1 (by omega)]; exact l1, fun i h0 h1 => ?_⟩
  rw [hg 35 (by omega)] at h1
  have z := l2 i h0 h1
  have y := b4 i h0 (by omega)
  rw [hg (45 + i) (by omega), hg _ (by omega)]
  exact z
theorem UInv.cg57 {f g U : Int → Int} {m : Int} (h : UInv f U m) (hS : SInv f) (hg : ∀ k, k < 57 → g k = f k) : UInv g U m := ⟨h.1, h.2.1, fun j a b => by
  have c4 := hS.c4
  have c1 := hS.c1
  have e4 : cmb f (fun i => U (22 * j + i)) 4 = f 4 := if_neg (by omega)
  have e1 : cmb f (fun i => U (22 * j + i)) 1 = f 1 := if_neg (by omega)
  refine (h.2.2 j a b).cg (by omega) (by omega) (fun k hk => ?_)
  unfold cmb
  split
  · rfl
  · exact hg k hk⟩
theorem SInv.said {f g : Int → Int} (hS : SInv f) (hg : ∀ k, k < 57 → g k = f k) (hc : CInv g) : SInv g := by
  have c4 := hS.c4
  have c1 := hS.c1
  exact ⟨hS.1.cg (fun k hk => hg k (by omega)), hS.2.1.cg (by omega) (by omega) hg, hc⟩
theorem SInv.cod {f : Int → Int} (hS : SInv f) (i : Int) (a : 0 ≤ i) (b : i < f 57) : 0 ≤ dpF f i.toNat ∧ dpF f i.toNat ≤ 40 ∧ (f (58 + 3 * i) = 20 → 1 ≤ dpF f i.toNat) ∧ (f (58 + 3 * i) = 21 ∨ f (58 + 3 * i) = 22 → 2 ≤ dpF f i.toNat) ∧ inR (f (58 + 3 * i)) := by
  have z := hS.2.2.2.2 i.toNat (by omega)
  rw [Int.toNat_of_nonneg a] at z; exact z
theorem dpF_20 {f : Int → Int} {i : Int} (h : 0 ≤ i) (e : f (58 + 3 * i) = 20) : dpF f (i + 1).toNat = dpF f i.toNat := by rw [dpF_s h, if_pos e]; omega
theorem dpF_21 {f : Int → Int} {i : Int} (h : 0 ≤ i) (e : f (58 + 3 * i) = 21 ∨ f (58 + 3 * i) = 22) : dpF f (i + 1).toNat = dpF f i.toNat - 1 := by rw [dpF_s h, if_neg (by omega), if_pos e]; omega
theorem dpF_7 {f : Int → Int} {i : Int} (h : 0 ≤ i) (e : f (58 + 3 * i) ≠ 20) (e1 : f (58 + 3 * i) ≠ 21) (e2 : f (58 + 3 * i) ≠ 22) : dpF f (i + 1).toNat = dpF f i.toNat + 1 := by rw [dpF_s h, if_neg e, if_neg (by omega)]
