set_option maxRecDepth 20000 in
theorem oi_X0 : Cond.methodLink RX0 3 objectInit ∈ lw_tbl := List.mem_append_right _ (List.mem_append_right _ (List.mem_append_left _ (List.mem_of_getElem? (i := 165) rfl)))
set_option maxRecDepth 20000 in
theorem oi_X1 : Cond.methodLink RX1 3 objectInit ∈ lw_tbl := List.mem_append_right _ (List.mem_append_left _ (List.mem_of_getElem? (i := 217) rfl))
set_option maxRecDepth 20000 in
theorem oi_X2 : Cond.methodLink RX2 3 objectInit ∈ lw_tbl := List.mem_append_right _ (List.mem_append_right _ (List.mem_append_left _ (List.mem_of_getElem? (i := 104) rfl)))
set_option maxRecDepth 20000 in
theorem oi_X3 : Cond.methodLink RX3 3 objectInit ∈ lw_tbl := List.mem_append_right _ (List.mem_append_right _ (List.mem_append_left _ (List.mem_of_getElem? (i := 88) rfl)))
set_option maxRecDepth 20000 in
theorem oi_X4 : Cond.methodLink RX4 3 objectInit ∈ lw_tbl := List.mem_append_right _ (List.mem_append_left _ (List.mem_of_getElem? (i := 96) rfl))
set_option maxRecDepth 20000 in
theorem oi_X5 : Cond.methodLink RX5 3 objectInit ∈ lw_tbl := List.mem_append_right _ (List.mem_append_left _ (List.mem_of_getElem? (i := 90) rfl))
set_option maxRecDepth 20000 in
theorem oi_X6 : Cond.methodLink RX6 3 objectInit ∈ lw_tbl := List.mem_append_right _ (List.mem_append_right _ (List.mem_append_left _ (List.mem_of_getElem? (i := 6) rfl)))
set_option maxRecDepth 20000 in
theorem oi_X7 : Cond.methodLink RX7 3 objectInit ∈ lw_tbl := List.mem_append_right _ (List.mem_append_right _ (List.mem_append_left _ (List.mem_of_getElem? (i := 0) rfl)))
set_option maxRecDepth 20000 in
theorem oi_X8 : Cond.methodLink RX8 3 objectInit ∈ lw_tbl := List.mem_append_right _ (List.mem_append_left _ (List.mem_of_getElem? (i := 38) rfl))
set_option maxRecDepth 20000 in
theorem oi_X9 : Cond.methodLink RX9 3 objectInit ∈ lw_tbl := List.mem_append_right _ (List.mem_append_right _ (List.mem_append_left _ (List.mem_of_getElem? (i := 38) rfl)))
set_option maxRecDepth 20000 in
theorem oi_X10 : Cond.methodLink RX10 3 objectInit ∈ lw_tbl := List.mem_append_right _ (List.mem_append_right _ (List.mem_append_left _ (List.mem_of_getElem? (i := 196) rfl)))
set_option maxRecDepth 20000 in
theorem oi_X11 : Cond.methodLink RX11 3 objectInit ∈ lw_tbl := List.mem_append_right _ (List.mem_append_left _ (List.mem_of_getElem? (i := 30) rfl))
set_option maxRecDepth 20000 in
theorem oi_X12 : Cond.methodLink RX12 27 objectInit ∈ lw_tbl := List.mem_append_right _ (List.mem_append_right _ (List.mem_append_right _ (List.mem_append_right _ (List.mem_append_right _ (List.mem_append_right _ (List.mem_append_right _ (List.mem_append_left _ (List.mem_of_getElem? (i := 19) rfl))))))))
set_option maxRecDepth 20000 in
theorem oi_in : Cond.instanceMethod objectInit ∈ lw_tbl := List.mem_append_right _ (List.mem_append_left _ (List.mem_of_getElem? (i := 31) rfl))
set_option maxRecDepth 20000 in
theorem oi_cd : Cond.code objectInit ⟨#[0xb1]⟩ 1 none ∈ lw_tbl := List.mem_append_right _ (List.mem_append_left _ (List.mem_of_getElem? (i := 32) rfl))
set_option maxRecDepth 20000 in
theorem ac_byte : Cond.arrayClass .byte ∈ lw_tbl := List.mem_append_right _ (List.mem_append_left _ (List.mem_of_getElem? (i := 84) rfl))
set_option maxRecDepth 20000 in
theorem ac_long : Cond.arrayClass .long ∈ lw_tbl := List.mem_append_right _ (List.mem_append_left _ (List.mem_of_getElem? (i := 196) rfl))
set_option maxRecDepth 20000 in
theorem ac_int : Cond.arrayClass .int ∈ lw_tbl := List.mem_append_right _ (List.mem_append_left _ (List.mem_of_getElem? (i := 197) rfl))
set_option maxRecDepth 20000 in
theorem ac_boolean : Cond.arrayClass .boolean ∈ lw_tbl := List.mem_append_right _ (List.mem_append_left _ (List.mem_of_getElem? (i := 198) rfl))
theorem rfA28 {k : Int} {e : Nat} (h : rfO 28 k = some e) : 0 ≤ k ∧ k < 8 ∧ e = 66 := by
  have h : (if 0 ≤ k ∧ k < 8 then some 66 else none) = some e := h
  by_cases q : 0 ≤ k ∧ k < 8
  · rw [if_pos q] at h; cases h; exact ⟨q.1, q.2, rfl⟩
  · rw [if_neg q] at h; cases h
theorem rfA60 {k : Int} {e : Nat} (h : rfO 60 k = some e) : 0 ≤ k ∧ k < 2 ∧ e = 66 := by
  have h : (if 0 ≤ k ∧ k < 2 then some 66 else none) = some e := h
  by_cases q : 0 ≤ k ∧ k < 2
  · rw [if_pos q] at h; cases h; exact ⟨q.1, q.2, rfl⟩
  · rw [if_neg q] at h; cases h
theorem rfA12 {k : Int} {e : Nat} (h : rfO 12 k = some e) : 0 ≤ k ∧ k < 3 ∧ e = 13 := by
  have h : (if 0 ≤ k ∧ k < 3 then some 13 else none) = some e := h
  by_cases q : 0 ≤ k ∧ k < 3
  · rw [if_pos q] at h; cases h; exact ⟨q.1, q.2, rfl⟩
  · rw [if_neg q] at h; cases h
theorem rfA40 {k : Int} {e : Nat} (h : rfO 40 k = some e) : 0 ≤ k ∧ k < 4 ∧ e = 41 := by
  have h : (if 0 ≤ k ∧ k < 4 then some 41 else none) = some e := h
  by_cases q : 0 ≤ k ∧ k < 4
  · rw [if_pos q] at h; cases h; exact ⟨q.1, q.2, rfl⟩
  · rw [if_neg q] at h; cases h
theorem rfA42 {k : Int} {e : Nat} (h : rfO 42 k = some e) : 0 ≤ k ∧ k < 4 ∧ e = 43 := by
  have h : (if 0 ≤ k ∧ k < 4 then some 43 else none) = some e := h
  by_cases q : 0 ≤ k ∧ k < 4
  · rw [if_pos q] at h; cases h; exact ⟨q.1, q.2, rfl⟩
  · rw [if_neg q] at h; cases h
theorem rfA54 {k : Int} {e : Nat} (h : rfO 54 k = some e) : 0 ≤ k ∧ k < 15 ∧ e = 55 := by
  have h : (if 0 ≤ k ∧ k < 15 then some 55 else none) = some e := h
  by_cases q : 0 ≤ k ∧ k < 15
  · rw [if_pos q] at h; cases h; exact ⟨q.1, q.2, rfl⟩
  · rw [if_neg q] at h; cases h
theorem rfA58 {k : Int} {e : Nat} (h : rfO 58 k = some e) : 0 ≤ k ∧ k < 9 ∧ e = 59 := by
  have h : (if 0 ≤ k ∧ k < 9 then some 59 else none) = some e := h
  by_cases q : 0 ≤ k ∧ k < 9
  · rw [if_pos q] at h; cases h; exact ⟨q.1, q.2, rfl⟩
  · rw [if_neg q] at h; cases h
