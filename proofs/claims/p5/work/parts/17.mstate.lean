/-! the reference's cells: its object is region 178, its arrays 179 .. 209 -/
def mdT : List (Nat × Int × Nat × Int) := [(1, 179, 15, 940), (6, 180, 13, 238), (7, 181, 13, 35), (8, 182, 13, 135), (9, 183, 14, 20), (10, 184, 14, 22), (21, 185, 13, 3), (22, 186, 13, 5), (23, 187, 13, 176), (24, 188, 13, 22), (26, 189, 14, 3), (27, 190, 14, 729), (28, 191, 14, 729), (29, 192, 14, 4), (30, 193, 14, 13), (32, 194, 13, 3), (33, 195, 13, 3), (34, 196, 13, 3), (36, 197, 14, 85293), (37, 198, 14, 28561), (38, 199, 14, 28561), (39, 200, 14, 195), (40, 201, 13, 4), (41, 202, 13, 5), (44, 203, 13, 3), (48, 204, 13, 4), (50, 205, 13, 45), (56, 206, 16, 45), (57, 207, 13, 476), (58, 208, 14, 20), (59, 209, 16, 2)]
def GM (ρ : Mv) (Z : Mz) : Prop := Z.1 178 = 12 ∧ ∀ q ∈ mdT, ρ 178 q.1 = q.2.1 ∧ Z.1 q.2.1 = q.2.2.1 ∧ Z.2.1 q.2.1 = q.2.2.2
theorem a_tape {ρ : Mv} {Z : Mz} (h : GM ρ Z) : ρ 178 1 = 179 ∧ Z.1 179 = 15 ∧ Z.2.1 179 = 940 := h.2 (1, 179, 15, 940) (by decide)
theorem a_s {ρ : Mv} {Z : Mz} (h : GM ρ Z) : ρ 178 6 = 180 ∧ Z.1 180 = 13 ∧ Z.2.1 180 = 238 := h.2 (6, 180, 13, 238) (by decide)
theorem a_h {ρ : Mv} {Z : Mz} (h : GM ρ Z) : ρ 178 7 = 181 ∧ Z.1 181 = 13 ∧ Z.2.1 181 = 35 := h.2 (7, 181, 13, 35) (by decide)
theorem a_read {ρ : Mv} {Z : Mz} (h : GM ρ Z) : ρ 178 8 = 182 ∧ Z.1 182 = 13 ∧ Z.2.1 182 = 135 := h.2 (8, 182, 13, 135) (by decide)
theorem a_names {ρ : Mv} {Z : Mz} (h : GM ρ Z) : ρ 178 9 = 183 ∧ Z.1 183 = 14 ∧ Z.2.1 183 = 20 := h.2 (9, 183, 14, 20) (by decide)
theorem a_reserved {ρ : Mv} {Z : Mz} (h : GM ρ Z) : ρ 178 10 = 184 ∧ Z.1 184 = 14 ∧ Z.2.1 184 = 22 := h.2 (10, 184, 14, 22) (by decide)
theorem a_scores {ρ : Mv} {Z : Mz} (h : GM ρ Z) : ρ 178 21 = 185 ∧ Z.1 185 = 13 ∧ Z.2.1 185 = 3 := h.2 (21, 185, 13, 3) (by decide)
theorem a_own {ρ : Mv} {Z : Mz} (h : GM ρ Z) : ρ 178 22 = 186 ∧ Z.1 186 = 13 ∧ Z.2.1 186 = 5 := h.2 (22, 186, 13, 5) (by decide)
theorem a_undone {ρ : Mv} {Z : Mz} (h : GM ρ Z) : ρ 178 23 = 187 ∧ Z.1 187 = 13 ∧ Z.2.1 187 = 176 := h.2 (23, 187, 13, 176) (by decide)
theorem a_before {ρ : Mv} {Z : Mz} (h : GM ρ Z) : ρ 178 24 = 188 ∧ Z.1 188 = 13 ∧ Z.2.1 188 = 22 := h.2 (24, 188, 13, 22) (by decide)
theorem a_weight {ρ : Mv} {Z : Mz} (h : GM ρ Z) : ρ 178 26 = 189 ∧ Z.1 189 = 14 ∧ Z.2.1 189 = 3 := h.2 (26, 189, 14, 3) (by decide)
theorem a_ways {ρ : Mv} {Z : Mz} (h : GM ρ Z) : ρ 178 27 = 190 ∧ Z.1 190 = 14 ∧ Z.2.1 190 = 729 := h.2 (27, 190, 14, 729) (by decide)
theorem a_then {ρ : Mv} {Z : Mz} (h : GM ρ Z) : ρ 178 28 = 191 ∧ Z.1 191 = 14 ∧ Z.2.1 191 = 729 := h.2 (28, 191, 14, 729) (by decide)
theorem a_wonBy {ρ : Mv} {Z : Mz} (h : GM ρ Z) : ρ 178 29 = 192 ∧ Z.1 192 = 14 ∧ Z.2.1 192 = 4 := h.2 (29, 192, 14, 4) (by decide)
theorem a_endsAt {ρ : Mv} {Z : Mz} (h : GM ρ Z) : ρ 178 30 = 193 ∧ Z.1 193 = 14 ∧ Z.2.1 193 = 13 := h.2 (30, 193, 14, 13) (by decide)
theorem a_chooser {ρ : Mv} {Z : Mz} (h : GM ρ Z) : ρ 178 32 = 194 ∧ Z.1 194 = 13 ∧ Z.2.1 194 = 3 := h.2 (32, 194, 13, 3) (by decide)
theorem a_choice {ρ : Mv} {Z : Mz} (h : GM ρ Z) : ρ 178 33 = 195 ∧ Z.1 195 = 13 ∧ Z.2.1 195 = 3 := h.2 (33, 195, 13, 3) (by decide)
theorem a_chosenRow {ρ : Mv} {Z : Mz} (h : GM ρ Z) : ρ 178 34 = 196 ∧ Z.1 196 = 13 ∧ Z.2.1 196 = 3 := h.2 (34, 196, 13, 3) (by decide)
theorem a_turned {ρ : Mv} {Z : Mz} (h : GM ρ Z) : ρ 178 36 = 197 ∧ Z.1 197 = 14 ∧ Z.2.1 197 = 85293 := h.2 (36, 197, 14, 85293) (by decide)
theorem a_behind {ρ : Mv} {Z : Mz} (h : GM ρ Z) : ρ 178 37 = 198 ∧ Z.1 198 = 14 ∧ Z.2.1 198 = 28561 := h.2 (37, 198, 14, 28561) (by decide)
theorem a_rowsNow {ρ : Mv} {Z : Mz} (h : GM ρ Z) : ρ 178 38 = 199 ∧ Z.1 199 = 14 ∧ Z.2.1 199 = 28561 := h.2 (38, 199, 14, 28561) (by decide)
theorem a_powers {ρ : Mv} {Z : Mz} (h : GM ρ Z) : ρ 178 39 = 200 ∧ Z.1 200 = 14 ∧ Z.2.1 200 = 195 := h.2 (39, 200, 14, 195) (by decide)
theorem a_freeRow {ρ : Mv} {Z : Mz} (h : GM ρ Z) : ρ 178 40 = 201 ∧ Z.1 201 = 13 ∧ Z.2.1 201 = 4 := h.2 (40, 201, 13, 4) (by decide)
theorem a_since {ρ : Mv} {Z : Mz} (h : GM ρ Z) : ρ 178 41 = 202 ∧ Z.1 202 = 13 ∧ Z.2.1 202 = 5 := h.2 (41, 202, 13, 5) (by decide)
theorem a_tookRow {ρ : Mv} {Z : Mz} (h : GM ρ Z) : ρ 178 44 = 203 ∧ Z.1 203 = 13 ∧ Z.2.1 203 = 3 := h.2 (44, 203, 13, 3) (by decide)
theorem a_loggedAt {ρ : Mv} {Z : Mz} (h : GM ρ Z) : ρ 178 48 = 204 ∧ Z.1 204 = 13 ∧ Z.2.1 204 = 4 := h.2 (48, 204, 13, 4) (by decide)
theorem a_stack {ρ : Mv} {Z : Mz} (h : GM ρ Z) : ρ 178 50 = 205 ∧ Z.1 205 = 13 ∧ Z.2.1 205 = 45 := h.2 (50, 205, 13, 45) (by decide)
theorem a_truths {ρ : Mv} {Z : Mz} (h : GM ρ Z) : ρ 178 56 = 206 ∧ Z.1 206 = 16 ∧ Z.2.1 206 = 45 := h.2 (56, 206, 16, 45) (by decide)
theorem a_kept {ρ : Mv} {Z : Mz} (h : GM ρ Z) : ρ 178 57 = 207 ∧ Z.1 207 = 13 ∧ Z.2.1 207 = 476 := h.2 (57, 207, 13, 476) (by decide)
theorem a_namesKept {ρ : Mv} {Z : Mz} (h : GM ρ Z) : ρ 178 58 = 208 ∧ Z.1 208 = 14 ∧ Z.2.1 208 = 20 := h.2 (58, 208, 14, 20) (by decide)
theorem a_areKept {ρ : Mv} {Z : Mz} (h : GM ρ Z) : ρ 178 59 = 209 ∧ Z.1 209 = 16 ∧ Z.2.1 209 = 2 := h.2 (59, 209, 16, 2) (by decide)
/-- what may change: whole regions R, and of the object the fields Ks -/
def Fr (R Ks : List Int) (v v' : Mv) : Prop := (∀ r : Int, r ∉ R → r ≠ 178 → v' r = v r) ∧ ∀ k : Int, k ∉ Ks → v' 178 k = v 178 k
theorem Fr.rf {R Ks : List Int} {v : Mv} : Fr R Ks v v := ⟨fun _ _ _ => rfl, fun _ _ => rfl⟩
theorem Fr.arr {R Ks : List Int} {v v' : Mv} (h : Fr R Ks v v') {r k x : Int} (hr : r ∈ R) (h9 : r ≠ 178) : Fr R Ks v (up v' r k x) := ⟨fun q hq h => by rw [up_f (fun e => hq (by rw [e]; exact hr))]; exact ‹Fr R Ks v v'›.1 q hq h, fun b hb => by rw [up_r h9.symm]; exact h.2 b hb⟩
theorem Fr.fld {R Ks : List Int} {v v' : Mv} (h : Fr R Ks v v') {k x : Int} (hk : k ∈ Ks) : Fr R Ks v (up v' 178 k x) := ⟨fun q hq h9 => by rw [up_f h9]; exact h.1 q hq h9, fun b hb => by rw [up_k (fun e => hb (by rw [e]; exact hk))]; exact h.2 b hb⟩
theorem Fr.tr {R Ks R' Ks' : List Int} {v v' v2 : Mv} (h : Fr R Ks v v') (h2 : Fr R' Ks' v' v2) (hR : ∀ r ∈ R', r ∈ R) (hK : ∀ k ∈ Ks', k ∈ Ks) : Fr R Ks v v2 := ⟨fun q hq h9 => (h2.1 q (fun e => hq (hR q e)) h9).trans (h.1 q hq h9), fun b hb => (h2.2 b (fun e => hb (hK b e))).trans (h.2 b hb)⟩
