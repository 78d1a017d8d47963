theorem HB.mk0 {x : Int} (h : 0 ≤ x ∧ x ≤ 4) : HB 0 x := by refine ⟨fun _ => h, ?_, ?_, ?_, ?_, ?_, ?_, ?_, ?_, ?_⟩ <;> intro <;> omega
theorem HB.mk2 {x : Int} (h : 0 ≤ x ∧ x ≤ 3) : HB 2 x := by refine ⟨?_, fun _ => h, ?_, ?_, ?_, ?_, ?_, ?_, ?_, ?_⟩ <;> intro <;> omega
theorem HB.mk3 {x : Int} (h : 1 ≤ x ∧ x ≤ 9) : HB 3 x := by refine ⟨?_, ?_, fun _ => h, ?_, ?_, ?_, ?_, ?_, ?_, ?_⟩ <;> intro <;> omega
theorem HB.mk4 {x : Int} (h : 1 ≤ x ∧ x ≤ 12) : HB 4 x := by refine ⟨?_, ?_, ?_, fun _ => h, ?_, ?_, ?_, ?_, ?_, ?_⟩ <;> intro <;> omega
theorem HB.mk5 {x : Int} (h : 0 ≤ x ∧ x ≤ 1) : HB 5 x := by refine ⟨?_, ?_, ?_, ?_, fun _ => h, ?_, ?_, ?_, ?_, ?_⟩ <;> intro <;> omega
theorem HB.mk6 {k x : Int} (hk : 6 ≤ k ∧ k < 10) (h : 0 ≤ x ∧ x ≤ 3) : HB k x := by refine ⟨?_, ?_, ?_, ?_, ?_, fun _ => h, ?_, ?_, ?_, ?_⟩ <;> intro <;> omega
theorem HB.mk10 {k x : Int} (hk : 10 ≤ k ∧ k < 14) (h : 0 ≤ x ∧ x ≤ 1) : HB k x := by refine ⟨?_, ?_, ?_, ?_, ?_, ?_, fun _ => h, ?_, ?_, ?_⟩ <;> intro <;> omega
theorem HB.mk32 {k x : Int} (hk : 32 ≤ k ∧ k < 35) (h : 0 ≤ x ∧ x ≤ 8) : HB k x := by refine ⟨?_, ?_, ?_, ?_, ?_, ?_, ?_, ?_, ?_, fun _ => h⟩ <;> intro <;> omega
