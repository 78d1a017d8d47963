def R_law : String := "RedWhiteLaw"
def lw_P (b : Addr) (xs : List Int32) (args : Array Value) (s : State) : Prop := args = #[.ref b] ∧ s.IntsAt b xs ∧ xs.length ≤ 3072 ∧ (Jvm.Cond.and given_1 narrow_1).before args s = true
def lw_Q (_ : Array Value) (s : State) (o : Outcome) (t : State) : Prop := o = .returned (some (.int 1)) ∧ Framed s o t [] 601024 7293034
def lw_Z (below : List Frame) (a : Array Value) (s : State) : State → Prop := fun t => ∃ o, t.status = .running ∧ Ended t below o ∧ lw_Q a s o t
/-- the law's own end, with 1 on the stack, nothing written that was there before, its room as the claim has it -/
theorem lw_ret {p : Program} {l : Launch} {e : Env} {s : State} {m : MethodId} {below : List Frame} {meth : Method} {c : Code} {b : Nat} (hx : p.tables.exec = Jvm.exec) (hb : c.code = code) (hr : meth.sig.returnType = ret) (hlocks : meth.locks = false) {pc : Nat} {H : Heap} {ls : Array Slot} (hdg : decode code pc = .ok (.ireturn, 1)) : W p l e room_1 s m #[Value.ref b] below meth c H [] 601024 7293034 (lw_Z below #[Value.ref b] s) (F0 m pc ls [.int 1]) := by
  intro T hT X
  obtain ⟨fs, hret, hrun, hended, hW, hframe⟩ := X.leave (v := some (.int 1)) (hlocks := hlocks) (fun h => by rw [hr] at h; cases h)
  have hmeth' : T.vm.method? m = some meth := X.method'
  refine ⟨T.setFrames fs, ?_, .returned (some (.int 1)), hrun, hended, rfl, ⟨_, rfl⟩, hW, hframe⟩
  jvm_step X.here [X.here.top, hx, hb, hdg, hmeth', hr, ret, narrow_b1]
  (try refine ⟨rfl, ?_⟩); (try refine ⟨rfl, ?_⟩)
  first | (intro acts; rw [hret _ acts rfl rfl rfl]) | rw [hret _ _ rfl rfl rfl]
  exact Steps.refl _
def lw_At (p : Program) (s : State) (m : MethodId) (meth : Method) (c : Code) (b L : Nat) (xs : Nat → Int32) : Prop :=
  p.tables.exec = Jvm.exec ∧ c.code = code ∧ meth.sig.returnType = ret ∧ c.maxLocals = 8 ∧ s.vm.findClass R_law = some m.cls ∧ (∀ w ∈ lw_tbl, w.before #[Value.ref b] s = true) ∧ va_X b L xs s s.heap ∧ b < s.heap.size ∧ meth.locks = false ∧ (Jvm.Cond.and given_1 narrow_1).before #[Value.ref b] s = true ∧ meth.name = "law"
/-- an array that the start knows whole -/
theorem arr_of {args : Array Value} {s : State} {tm : Term} {ty : FieldType} {N : Nat} {f : Nat → Value} (hN : N < 2 ^ 31) (harr : (Cond.arrayOf tm ty).before args s = true) (hlen : (Term.length tm).eval args s none [] s = some (.int (Int32.ofNat N))) (hel : ∀ j : Nat, j < N → (Term.elem tm (.int (Int32.ofNat j))).eval args s none [] s = some (f j)) : ∃ (t : Nat) (cell : Cell), tm.eval args s none [] s = some (.ref t) ∧ s.heap[t]? = some cell ∧ s.isArrayOf cell ty ∧ cell.vm ≠ .unknown ∧ cell.slots.size = N ∧ ∀ j : Nat, j < N → cell.slots[j]? = some (f j) := by
  obtain ⟨t, ht, cell, h1, h2, h3, h4, h5, h6, -⟩ := va_Tof (A := fun q => s.heap.size ≤ q) hN harr hlen hel (fun a h => Nat.not_le.mpr h)
  refine ⟨t, cell, ht, h1, h2, h3, ?_, h6⟩
  obtain ⟨t', cell', ht', hat, -⟩ := Term.length_spec hlen
  cases ht.symm.trans ht'
  obtain ⟨hcell, -, -, -⟩ := State.arrayAt?_spec hat
  cases h1.symm.trans hcell
  have hsz : cell.slots.size < 2 ^ 31 := by
    simp only [Term.eval, ht, hat, Option.bind_eq_bind, Option.bind_some] at hlen
    by_cases hlt : cell.slots.size < 2147483648
    · exact hlt
    · simp [hlt] at hlen
  have e1 : (Int32.ofNat cell.slots.size).toNatClampNeg = cell.slots.size := Int32.toNatClampNeg_ofNat_of_lt hsz
  have e2 : (Int32.ofNat N).toNatClampNeg = N := Int32.toNatClampNeg_ofNat_of_lt hN
  have e3 : Int32.ofNat cell.slots.size = Int32.ofNat N := h5
  rw [← e1, e3, e2]
def v00 (xs : Nat → Int32) : Mv := fun r k => if r = 0 then stpL.getD k.toNat 0 else if r = 1 then twvL.getD k.toNat 1 else if r = 3 then (xs k.toNat).toInt else 0
def r00 : Mv := fun _ _ => -1
def Z00 (L : Nat) : Mz := (fun r => if r = 0 then 13 else if r = 1 then 14 else if r = 3 then 13 else 99, fun r => if r = 0 then 3 else if r = 1 then 13 else if r = 3 then (L : Int) else 0, 4)
def a00 (tS tT b : Nat) : Int → Nat := fun r => if r = 0 then tS else if r = 1 then tT else b
theorem Z00_k {L : Nat} {r : Int} (h : (Z00 L).1 r ≠ 99) : r = 0 ∨ r = 1 ∨ r = 3 := by
  by_cases h0 : r = 0
  · exact Or.inl h0
  · by_cases h1 : r = 1
    · exact Or.inr (Or.inl h1)
    · by_cases h3 : r = 3
      · exact Or.inr (Or.inr h3)
      · exact absurd (show (if r = 0 then 13 else if r = 1 then 14 else if r = 3 then 13 else 99 : Nat) = 99 by rw [if_neg h0, if_neg h1, if_neg h3]) h
theorem tw_all : ∀ k : Nat, k < 13 → 1 ≤ twvL.getD k 1 ∧ twvL.getD k 1 ≤ 8916100448256 := by decide +kernel
theorem tw_same : ∀ k : Nat, k < 13 → twvL.getD k 1 = twvL.getD k 0 := by decide +kernel
theorem ht00 (xs : Nat → Int32) (L : Nat) : HT (fun _ => 0) (v00 xs) r00 (Z00 L) := ⟨fun r c h hc => absurd h.symm hc, rfl, rfl, rfl, rfl, rfl, rfl, rfl, fun k h0 h1 => tw_all k.toNat (by omega)⟩
theorem no_rng {K : Nat} (h1 : K ≠ 15) (h2 : K ≠ 16) (x : Int) : rngK K x := ⟨fun e => absurd e h2, fun e => absurd e h1⟩
theorem Kn_all {s : State} {args : Array Value} (hts : ∀ w ∈ lw_tbl, w.before args s = true) : ∃ (dC : Nat → ClassId) (dI : Nat → Nat → Nat), ∀ (k : Nat) (q : vw_C), cls[k]? = some q → u_Kn s q.1 q.2.1 q.2.2 (dC k) (dI k) := by
  have h0 : ∀ k : Nat, ∃ p : ClassId × (Nat → Nat), ∀ q : vw_C, cls[k]? = some q → u_Kn s q.1 q.2.1 q.2.2 p.1 p.2 := by
    intro k
    cases hc : cls[k]? with
    | none => exact ⟨(0, fun _ => 0), fun q h => by cases h⟩
    | some q =>
      obtain ⟨n, hi⟩ := cls_in k q hc
      obtain ⟨c1, -, -, -⟩ := cls_ok k q hc
      obtain ⟨cC, iS, h⟩ := u_known (C := q.1) (T := q.2.1) (N := q.2.2) hts (fun w hw => (List.mem_filter.mp (c1 w hw)).1) (hts _ hi)
      exact ⟨(cC, iS), fun q' h' => by cases h'; exact h⟩
  obtain ⟨D, hD⟩ := Classical.axiomOfChoice h0
  exact ⟨fun k => (D k).1, fun k => (D k).2, hD⟩
theorem Ar_all {s : State} {args : Array Value} (hts : ∀ w ∈ lw_tbl, w.before args s = true) : ∃ dA : Nat → ClassId, ∀ K, 13 ≤ K → K < 21 → ArrOfT s (dA K) (aty K) ∧ va_RA s (dA K) (aty K) := by
  have mk : ∀ {c : ClassId} {k : Class} {comp : ClassId} {ty : FieldType}, s.vm.classes[c]? = some k → k.kind = .array comp ty → ArrOfT s c ty := fun h1 h2 n z => ⟨fun _ h => (by cases h), _, h1, _, h2⟩
  have h0 : ∀ K : Nat, ∃ c : ClassId, 13 ≤ K → K < 21 → ArrOfT s c (aty K) ∧ va_RA s c (aty K) := by
    intro K
    by_cases hK : 13 ≤ K ∧ K < 21
    · have : K = 13 ∨ K = 14 ∨ K = 15 ∨ K = 16 ∨ K = 17 ∨ K = 18 ∨ K = 19 ∨ K = 20 := by omega
      rcases this with rfl | rfl | rfl | rfl | rfl | rfl | rfl | rfl
      · obtain ⟨c, k, comp, f1, f2, f3⟩ := Cond.arrayClass_spec (hts _ ac_int)
        exact ⟨c, fun _ _ => ⟨mk f2 f3, f1⟩⟩
      · obtain ⟨c, k, comp, f1, f2, f3⟩ := Cond.arrayClass_spec (hts _ ac_long)
        exact ⟨c, fun _ _ => ⟨mk f2 f3, f1⟩⟩
      · obtain ⟨c, k, comp, f1, f2, f3⟩ := Cond.arrayClass_spec (hts _ ac_byte)
        exact ⟨c, fun _ _ => ⟨mk f2 f3, f1⟩⟩
      · obtain ⟨c, k, comp, f1, f2, f3⟩ := Cond.arrayClass_spec (hts _ ac_boolean)
        exact ⟨c, fun _ _ => ⟨mk f2 f3, f1⟩⟩
      · obtain ⟨comp, c, k, f0, -, f2, f3, f1⟩ := Cond.arrayOver_spec (hts _ w_o17)
        exact ⟨c, fun _ _ => ⟨mk f2 f3, k, comp, f2, f3, f0, f1⟩⟩
      · obtain ⟨comp, c, k, f0, -, f2, f3, f1⟩ := Cond.arrayOver_spec (hts _ w_o18)
        exact ⟨c, fun _ _ => ⟨mk f2 f3, k, comp, f2, f3, f0, f1⟩⟩
      · obtain ⟨comp, c, k, f0, -, f2, f3, f1⟩ := arrayOverA_spec (hts _ w_o19)
        exact ⟨c, fun _ _ => ⟨mk f2 f3, f1⟩⟩
      · obtain ⟨comp, c, k, f0, -, f2, f3, f1⟩ := arrayOverA_spec (hts _ w_o20)
        exact ⟨c, fun _ _ => ⟨mk f2 f3, f1⟩⟩
    · exact ⟨0, fun a b => absurd ⟨a, b⟩ hK⟩
  obtain ⟨D, hD⟩ := Classical.axiomOfChoice h0
  exact ⟨D, hD⟩
/-- the text constant, where it lies -/
theorem Ky_all {s : State} {args : Array Value} (hn : narrow_1.before args s = true) : ∃ aK aV : Nat, tmK.eval args s none [] s = some (.ref aK) ∧ va_O "java/lang/String" aK (fun q => s.heap.size ≤ q) s s.heap ∧ va_OF "java/lang/String" "coder" "B" (.int 0) aK (fun q => s.heap.size ≤ q) s s.heap ∧ va_OF "java/lang/String" "value" "[B" (.ref aV) aK (fun q => s.heap.size ≤ q) s s.heap ∧ va_T .byte aV 121 (fun j => .int (keyB.getD j 0)) (fun q => s.heap.size ≤ q) s s.heap := by
  have hA : ∀ a : Nat, a < s.heap.size → ¬ (fun q => s.heap.size ≤ q) a := fun a h => Nat.not_le.mpr h
  obtain ⟨a, c, cA, kA, q1, q2, q3, q4, q5, q6, -⟩ := Cond.exactly_spec (args := args) (first := s) (o := none) (s := s) (idx := []) (t := tmK) (cls := "java/lang/String") (n_ke hn)
  obtain ⟨t, ht, hT⟩ := va_Tof (f := fun j => .int (keyB.getD j 0)) (A := fun q => s.heap.size ≤ q) (N := 121) (by decide) (n_ka hn) (va_eqt (n_kl hn)) (fun j hj => va_eqt (k_el hn j hj)) hA
  exact ⟨a, t, q1, ⟨cA, q3, q5, by rw [q6]; exact q2, hA a (Array.getElem?_eq_some_iff.mp q3).1⟩, vk_OFof q1 (va_eqt (n_kc hn)) hA, vk_OFof q1 ht hA, hT⟩
theorem Rel00 {g : Gp} {s : State} {tS tT b L : Nat} {xs : Nat → Int32} (hB : gB g = s.heap.size) (hL : L ≤ 3072) {cS cT : Cell}
    (s1 : s.heap[tS]? = some cS) (s2 : s.isArrayOf cS .int) (s3 : cS.vm ≠ .unknown) (s4 : cS.slots.size = 3) (s5 : ∀ j : Nat, j < 3 → cS.slots[j]? = some (.int (Int32.ofInt (stpL.getD j 0))))
    (t1 : s.heap[tT]? = some cT) (t2 : s.isArrayOf cT .long) (t3 : cT.vm ≠ .unknown) (t4 : cT.slots.size = 13) (t5 : ∀ j : Nat, j < 13 → cT.slots[j]? = some (.long (Int64.ofInt (twvL.getD j 0))))
    (hX : va_X b L xs s s.heap) (hSS : SS g s (a00 tS tT b) s.heap) : Rel g s (a00 tS tT b) (v00 xs) r00 (Z00 L) s.heap := by
  refine ⟨fun r hr => ?_, fun r q hr hq h4 => ?_, by rw [hB]; exact Nat.le_refl _, hSS⟩
  · rcases Z00_k hr with rfl | rfl | rfl
    · refine ⟨by decide, by show (0 : Int) < 4; decide, by show (13 : Nat) < 21; decide, ?_, fun k => by show (-1 : Int) < 4; decide, fun h => absurd h (by decide)⟩
      show cellAt g s (a00 tS tT b) s.heap 0 13 3 (v00 xs 0) (r00 0)
      unfold cellAt
      rw [if_neg (by decide)]
      refine ⟨by decide, by decide, fun j _ _ => no_rng (by decide) (by decide) _, cS, s1, ⟨s2, s3, s4, fun j hj => ?_⟩, fun h => absurd h (by decide)⟩
      rw [s5 j hj]
      rfl
    · refine ⟨by decide, by show (1 : Int) < 4; decide, by show (14 : Nat) < 21; decide, ?_, fun k => by show (-1 : Int) < 4; decide, fun h => absurd h (by decide)⟩
      show cellAt g s (a00 tS tT b) s.heap 1 14 13 (v00 xs 1) (r00 1)
      unfold cellAt
      rw [if_neg (by decide)]
      refine ⟨by decide, by decide, fun j _ _ => no_rng (by decide) (by decide) _, cT, t1, ⟨t2, t3, t4, fun j hj => ?_⟩, fun h => absurd h (by decide)⟩
      rw [t5 j hj, ← tw_same j hj]
      rfl
    · refine ⟨by decide, by show (3 : Int) < 4; decide, by show (13 : Nat) < 21; decide, ?_, fun k => by show (-1 : Int) < 4; decide, fun h => absurd h (by decide)⟩
      obtain ⟨scr, x1, x2, x3, x4, x5⟩ := hX
      show cellAt g s (a00 tS tT b) s.heap 3 13 (L : Int) (v00 xs 3) (r00 3)
      unfold cellAt
      rw [if_neg (by decide)]
      refine ⟨by omega, by omega, fun j _ _ => no_rng (by decide) (by decide) _, scr, x1, ⟨x2, x3, by rw [x4]; rfl, fun j hj => ?_⟩, fun h => absurd h (by decide)⟩
      rw [x5 j hj]
      show some (Value.int (xs j)) = some (.int (Int32.ofInt (xs j).toInt))
      rw [Int32.ofInt_toInt]
  · rcases Z00_k hr with rfl | rfl | rfl <;> exact absurd h4 (by decide)
set_option maxHeartbeats 4000000 in
set_option maxRecDepth 100000 in
theorem whole_start {p : Program} {e : Env} {s : State} {m : MethodId} {below : List Frame} {meth : Method} {c : Code} (l : Launch) (htr : l.stackTraces = false) {b L : Nat} {xs : Nat → Int32} (hL : L ≤ 3072) (C0 : lw_At p s m meth c b L xs) : W p l e room_1 s m #[Value.ref b] below meth c s.heap [] 0 0 (lw_Z below #[Value.ref b] s) (entryFrame m ([Value.ref b] : List Value).toArray 8) := by
  obtain ⟨hx, hb, hr, hml, hown, hts, hX, hbl, hlocks, hgv, hnm⟩ := C0
  have hA : ∀ a : Nat, a < s.heap.size → ¬ (fun q => s.heap.size ≤ q) a := fun a h => Nat.not_le.mpr h
  have hn : narrow_1.before #[Value.ref b] s = true := ba2 hgv
  obtain ⟨dC, dI, hKc⟩ := Kn_all hts
  obtain ⟨dA, hAr⟩ := Ar_all hts
  obtain ⟨aK, aV, hk0, hk1, hk2, hk3, hk4⟩ := Ky_all hn
  obtain ⟨tS, cS, s0, s1, s2, s3, s4, s5⟩ := arr_of (N := 3) (f := fun j => .int (Int32.ofInt (stpL.getD j 0))) (by decide) (n_sa hn) (va_eqt (n_sl hn)) (fun j hj => va_eqt (s_el hn j hj))
  obtain ⟨tT, cT, t0, t1, t2, t3, t4, t5⟩ := arr_of (N := 13) (f := fun j => .long (Int64.ofInt (twvL.getD j 0))) (by decide) (n_ta hn) (va_eqt (n_tl hn)) (fun j hj => va_eqtl (t_el hn j hj))
  let g : Gp := (l, dC, dI, fun K => if K = 90 then aK else if K = 91 then aV else dA K, s.heap.size)
  let ad : Int → Nat := a00 tS tT b
  let X : Cx := (p, e, room_1, s, m, #[Value.ref b], below, meth, c, lw_Z below #[Value.ref b] s, ad, 4)
  have hSS : SS g s ad s.heap := ⟨va_Zof (hts _ w_ls) (hts _ iz_X11) s0 hA, va_Zof (hts _ w_lt) (hts _ iz_X11) t0 hA, vx_Zqof (hts _ w_lu) (hts _ w_it) (n_us hn) hA, vx_Zqof (hts _ w_lp) (hts _ w_it) (n_ss hn) hA,
    hk1, hk2, hk3, hk4, va_Zof (hts _ w_lc) (hts _ w_is) (va_eqi (n_cs hn)) hA, va_Zqof (hts _ w_lf) (hts _ w_ip) (n_fm hn) hA⟩
  have hRel : Rel g s ad (v00 xs) r00 (Z00 L) s.heap := Rel00 rfl hL s1 s2 s3 s4 s5 t1 t2 t3 t4 t5 hX hSS
  have hKK : KK g s := ⟨⟨hKc, fun k q h => by simp at h⟩, fun w hw hnw => by
      have h9 := hts w hw
      cases w <;> first | exact va_tabs rfl rfl h9 | (simp [isNest] at hnw), fun K h1 h2 => by
      have e1 : gA g K = dA K := by
        show (if K = 90 then aK else if K = 91 then aV else dA K) = dA K
        rw [if_neg (by omega), if_neg (by omega)]
      rw [e1]
      exact hAr K h1 h2, va_AO.of (hts _ w_o17), va_AO.of (hts _ w_o18), hts _ w_o19, hts _ w_o20, vk_R.of (hts _ w_sr) hk0⟩
  have hKT : KT s := fun w hw => by
    have hm : w ∈ lw_tbl := of_decide_eq_true (List.all_eq_true.mp nsT w (List.mem_cons_of_mem _ (List.mem_filter.mp hw).1))
    have hd := List.all_eq_true.mp nsG w hw
    have h9 := hts w hm
    cases w <;> first | exact va_tabs rfl rfl h9 | (simp [isDc] at hd)
  have hok : okX g X (LF []) := ⟨hx, hb, hr, hml, hown, fun w hw _ => hts w hw, hKK, hlocks, hnm, fun q hq => by cases hq⟩
  have hLX : LX g X := ⟨hok, rfl, htr, hKT⟩
  have hsc : ∀ k : Int, inR (v00 xs 3 k) := fun k => by
    show inR (xs k.toNat).toInt
    exact inR_t _
  have hret : ∀ (i : Int) (cells slots : Nat) (v ρ : Mv) (Z : Mz), cells ≤ 601024 → slots ≤ 7293034 → wp g X (LF []) cells slots 1417 (lls i) [(0, 1)] v ρ Z := by
    intro i cells slots v ρ Z h1 h2 ad' H locs la a1 a2 a3 a4 a5
    have e1 : ([(0, 1)] : List V2).map (tr ad') = [Value.int 1] := by
      show [Value.int (Int32.ofInt 1)] = [Value.int 1]
      rw [show Int32.ofInt 1 = (1 : Int32) by decide]
    rw [e1]
    refine va_forget (fun q hq => a4.1 q hq) ?_
    refine W.widen h1 h2 ?_
    exact lw_ret hx hb hr hlocks d_1417
  have hwp := l_start (N := (L : Int)) (sc := v00 xs 3) hLX (ht00 xs L) rfl ⟨rfl, rfl⟩ rfl (fun ω' v' ρ' Z' hI => l_loop hLX hsc (by omega) hret 512 0 207 158316 ω' v' ρ' Z' (by decide) (by decide) (by omega) (by decide) (by decide) hI)
  have h := hwp ad s.heap [] _ hRel (fun x hx => by cases hx) (fun x hx e => by
    have : x.2 = 3 ∨ x.1 = 3 := by
      rcases List.mem_cons.mp hx with rfl | h9
      · exact Or.inl rfl
      · right
        have : ∀ y ∈ ([(3, 0), (3, 0), (3, 0), (3, 0), (3, 0), (3, 0), (3, 0)] : List V2), y.1 = 3 := by decide
        exact this x h9
    show x.2 < 4
    omega) ⟨(fun q hq => by cases hq), fun _ _ => rfl, Int.le_refl _⟩ (lvr_entry (ad := ad) (n := 8) (as := [(2, 3)]) (by decide))
  have eb : ([(2, 3)] : List V2).map (tr ad) = [Value.ref b] := by
    rw [List.map_cons, tr_r ad (by decide)]
    rfl
  rw [eb] at h
  rw [lg_entry_eq]
  exact h
set_option maxHeartbeats 4000000 in
theorem lw_walk (l : Launch) (htr : l.stackTraces = false) (b : Addr) (xs : List Int32) : MetFree l x (headSpec (Jvm.Cond.code x code maxLocals ret :: tables_1) room_1) (lw_P b xs) (fun _ _ _ _ _ => True) lw_Q := by
  refine MetFree.of_bodyS (code := code) (maxLocals := maxLocals) (ret := ret) (by decide) ?_ ?_
  · intro args s m h hn
    obtain ⟨meth, c, h1, h2, h3, h4, h5, h6, -, -⟩ := Cond.code_spec hn (atoms_spec (ws := Jvm.Cond.code x code maxLocals ret :: tables_1) h _ List.mem_cons_self)
    exact ⟨meth, c, h1, h2, h3, h4, h5, h6⟩
  · intro p e s m args below meth c s₁ B hml0 hP _
    obtain ⟨rfl, hx, hbd, hgv⟩ := hP
    obtain ⟨scr, harrAt, hlist, hof, hsmall⟩ := hx
    obtain ⟨hcb, hkn, -, -⟩ := State.arrayAt?_spec harrAt
    have hown : s.vm.findClass R_law = some m.cls := findClass_of_methodNamed B.named
    have hts0 : ∀ c ∈ (Jvm.Cond.code x code maxLocals ret :: tables_1), c.before #[Value.ref b] s = true := atoms_spec (ws := Jvm.Cond.code x code maxLocals ret :: tables_1) B.pre
    have hts : ∀ w ∈ lw_tbl, w.before #[Value.ref b] s = true := k2_hts_sels lw_privs (fun w hw => hts0 w (List.mem_cons_of_mem _ hw)) lw_privs_ok
    have hml : c.maxLocals = 8 := B.maxLocals_eq (hts0 _ List.mem_cons_self)
    have X₀ : Stand p l e room_1 s m #[Value.ref b] below meth c s₁ [] 0 0 := Stand.of_body B
    have hh0 : s₁.heap = s.heap := by rw [B.state]; rfl
    have hsz : scr.slots.size = xs.length := by rw [← Array.length_toList, hlist, List.length_map]
    have hval : ∀ j : Nat, j < xs.length → scr.slots[j]? = some (.int (xs.getD j 0)) := fun j hj => by
      rw [← Array.getElem?_toList, hlist]
      simp [hj]
    have hbl : b < s.heap.size := (Array.getElem?_eq_some_iff.mp hcb).1
    have hX : va_X b xs.length (fun j => xs.getD j 0) s s.heap := ⟨scr, hcb, hof, hkn, hsz, hval⟩
    have K : W p l e room_1 s m #[Value.ref b] below meth c s₁.heap [] 0 0 (lw_Z below #[Value.ref b] s) (entryFrame m ([Value.ref b] : List Value).toArray 8) := by
      rw [hh0]
      exact whole_start l htr hbd ⟨B.exec, B.bytes, B.returns, hml, hown, hts, hX, hbl, B.notSynchronized, hgv, (name_of_methodNamed B.named B.method).1⟩
    obtain ⟨t, a1, o, b1, b2, b3⟩ := K s₁ rfl X₀
    exact ⟨t, o, a1, b1, b2, b3⟩
theorem lw_pre_spec {args : Array Value} {s : State} (h : (Jvm.Cond.and given_1 narrow_1).before args s = true) (hr : rest_1_c.before args s = true) : ∃ (b : Addr) (xs : List Int32), lw_P b xs args s := by
  have hs := flat_of_before _ h
  have hq := flat_of_before _ hr
  have hc : (Cond.count 1).before args s = true := hs _ (by decide +kernel)
  have harr : (Cond.arrayOf (.arg 0) .int).before args s = true := hs _ (by decide +kernel)
  have hle : (Cond.le (.length (.arg 0)) (.int 3072)).before args s = true := hs _ (by decide +kernel)
  have hlen : (Cond.isInt (.length (.arg 0))).before args s = true := hq _ (by decide +kernel)
  have hall : (Cond.all (.arg 0) (.isInt (.elem (.arg 0) (.index 0)))).before args s = true := hq _ (by decide +kernel)
  obtain ⟨b, xs, hb, hx⟩ := State.ints_of_pre rfl harr hlen hall
  have hsm : xs.length < 2 ^ 31 := hx.choose_spec.2.2.2
  have hev : (Term.length (.arg 0)).eval args s none [] s = some (.int xs.length.toInt32) := hx.length_eval hb
  have hv := Cond.le_ints hev (show (Term.int 3072).eval args s none [] s = some (.int 3072) from rfl)
  have hd : xs.length.toInt32 ≤ 3072 := by
    simpa [Cond.before, Cond.holds, hv] using hle
  have hN : xs.length ≤ 3072 := (Int32.ofNat_le_ofNat hsm (by decide)).mp (show Int32.ofNat xs.length ≤ Int32.ofNat 3072 from hd)
  exact ⟨b, xs, Cond.one_arg hc (show args[0]? = some (.ref b) from hb), hx, hN, h⟩
theorem lw_comes (l : Launch) (htr : l.stackTraces = false) : Comes l x (Jvm.Cond.code x code maxLocals ret :: tables_1) room_1 (fun tb e args s => Calls_1 tb e args s ∧ rest_1 tb e args s ∧ Pre_1 tb e args s)
    (fun _ _ args s o t => lw_Q args s o t) := by
  intro p e ha hc hk s m args below hf hfit hheap happ hpre
  obtain ⟨b, xs, hP⟩ := lw_pre_spec hpre.2.2 hpre.2.1
  obtain ⟨k, o, h1, h2, h3, hQ⟩ := lw_walk l htr b xs p e ha hc hk s m args below hf ((Spec.applies_iff_loose hf).mp happ).1 hP trivial
  exact ⟨k, o, h1, h2, h3, hQ⟩
theorem lw_frame {s t : State} {o : Outcome} {args : Array Value} (h : Framed s o t [] 601024 7293034) :
    Framed s o t (fieldLocs frame_1_writes args s ++ arrayLocs frame_1_arrays args s ++ staticLocs frame_1_statics s) 601024 7293034 := h
theorem no_tr {l : Launch} (h : l.flags = flags0) : l.stackTraces = false := by
  unfold Launch.stackTraces
  rw [h]
  decide +kernel
theorem lw_limb (L : Cond) (hL : ∀ (args : Array Value) (s t : State), L.after args s (.returned (some (.int 1))) t = true) :
    ArmFor flags0 classFile x code maxLocals ret World_1 tables_1 room_1 Calls_1 rest_1 Pre_1
      (fun tb e a s o t => postC L tb e a s o t ∧ Framed s o t (fieldLocs frame_1_writes a s ++ arrayLocs frame_1_arrays a s ++ staticLocs frame_1_statics s) 601024 7293034) := by
  intro l hfl _ _ p e ha hc hk s m args below hf hfit hheap happ hpre
  obtain ⟨k, o, h1, h2, h3, rfl, hF⟩ := lw_comes l (no_tr hfl) p e ha hc hk s m args below hf hfit hheap happ hpre
  exact ⟨k, _, h1, h2, h3, hL args s _, lw_frame hF⟩
