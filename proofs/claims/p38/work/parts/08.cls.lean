def tbg : List Cond := lw_tbl.filter goodWord
theorem tbg_in {w : Cond} (h : w ∈ lw_tbl) (hg : goodWord w = true) : w ∈ tbg := List.mem_filter.mpr ⟨h, hg⟩
theorem okX.ts {g : Gp} {X : Cx} {F : Fm} (h : okX g X F) : ∀ w ∈ tbg, w.before (xa X) (xs X) = true := fun w hw => h.2.2.2.2.2.1 w (List.mem_filter.mp hw).1 (List.mem_filter.mp hw).2
set_option maxRecDepth 100000 in
theorem uw0 : ∀ w ∈ u_ws RX0 TX0 6, w ∈ tbg := by decide +kernel
set_option maxRecDepth 100000 in
theorem uw1 : ∀ w ∈ u_ws RX1 TX1 5, w ∈ tbg := by decide +kernel
set_option maxRecDepth 100000 in
theorem uw2 : ∀ w ∈ u_ws RX2 TX2 15, w ∈ tbg := by decide +kernel
set_option maxRecDepth 100000 in
theorem uw3 : ∀ w ∈ u_ws RX3 TX3 2, w ∈ tbg := by decide +kernel
set_option maxRecDepth 100000 in
theorem uw4 : ∀ w ∈ u_ws RX4 TX4 15, w ∈ tbg := by decide +kernel
set_option maxRecDepth 100000 in
theorem uw5 : ∀ w ∈ u_ws RX5 TX5 4, w ∈ tbg := by decide +kernel
set_option maxRecDepth 100000 in
theorem uw6 : ∀ w ∈ u_ws RX6 TX6 5, w ∈ tbg := by decide +kernel
set_option maxRecDepth 100000 in
theorem uw7 : ∀ w ∈ u_ws RX7 TX7 2, w ∈ tbg := by decide +kernel
set_option maxRecDepth 100000 in
theorem uw8 : ∀ w ∈ u_ws RX8 TX8 11, w ∈ tbg := by decide +kernel
set_option maxRecDepth 100000 in
theorem uw9 : ∀ w ∈ u_ws RX9 TX9 7, w ∈ tbg := by decide +kernel
set_option maxRecDepth 100000 in
theorem uw10 : ∀ w ∈ u_ws RX10 TX10 20, w ∈ tbg := by decide +kernel
set_option maxRecDepth 100000 in
theorem uw11 : ∀ w ∈ u_ws RX11 TX11 18, w ∈ tbg := by decide +kernel
set_option maxRecDepth 100000 in
theorem uw12 : ∀ w ∈ u_ws RX12 TX12 60, w ∈ tbg := by decide +kernel
def clsOK (K : Nat) (q : vw_C) : Prop := (∀ w ∈ u_ws q.1 q.2.1 q.2.2, w ∈ tbg) ∧ (∀ k, k < q.2.2 → parseFieldDescriptor (q.2.1 k).2.2.1 = some (tyC K k)) ∧ (∀ a, a < q.2.2 → ∀ b, b < q.2.2 → a ≠ b → (q.2.1 a).2.1 ≠ (q.2.1 b).2.1) ∧ (∀ k, k < q.2.2 → (q.2.1 k).1 = q.1)
theorem cls_ok : ∀ (K : Nat) (q : vw_C), cls[K]? = some q → clsOK K q
  | 0, q, h => by cases h; exact ⟨uw0, tyX0_ok, nmX0, by decide +kernel⟩
  | 1, q, h => by cases h; exact ⟨uw1, tyX1_ok, nmX1, by decide +kernel⟩
  | 2, q, h => by cases h; exact ⟨uw2, tyX2_ok, nmX2, by decide +kernel⟩
  | 3, q, h => by cases h; exact ⟨uw3, tyX3_ok, nmX3, by decide +kernel⟩
  | 4, q, h => by cases h; exact ⟨uw4, tyX4_ok, nmX4, by decide +kernel⟩
  | 5, q, h => by cases h; exact ⟨uw5, tyX5_ok, nmX5, by decide +kernel⟩
  | 6, q, h => by cases h; exact ⟨uw6, tyX6_ok, nmX6, by decide +kernel⟩
  | 7, q, h => by cases h; exact ⟨uw7, tyX7_ok, nmX7, by decide +kernel⟩
  | 8, q, h => by cases h; exact ⟨uw8, tyX8_ok, nmX8, by decide +kernel⟩
  | 9, q, h => by cases h; exact ⟨uw9, tyX9_ok, nmX9, by decide +kernel⟩
  | 10, q, h => by cases h; exact ⟨uw10, tyX10_ok, nmX10, by decide +kernel⟩
  | 11, q, h => by cases h; exact ⟨uw11, tyX11_ok, nmX11, by decide +kernel⟩
  | 12, q, h => by cases h; exact ⟨uw12, tyX12_ok, nmX12, by decide +kernel⟩
  | n + 13, q, h => by simp [cls] at h
/-- a field's link: entry idx of class own is field k of kind K -/
def LkF (own : String) (idx K k : Nat) : Prop := ∃ q : vw_C, cls[K]? = some q ∧ k < q.2.2 ∧ (Cond.fieldLink own idx q.1 (q.2.1 k).2.1 (q.2.1 k).2.2.1 ∈ lw_tbl ∨ ∃ host, Cond.fieldLinkNest own idx q.1 (q.2.1 k).2.1 (q.2.1 k).2.2.1 host ∈ lw_tbl)
