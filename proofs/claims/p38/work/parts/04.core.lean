/-! THE PICTURE: values are a tag and a whole number (0 int, 1 long, 2 reference by its region, 3 nothing known); memory is numbers v, references r by region and place, kinds, lengths. -/
abbrev V2 : Type := Nat × Int
abbrev Mv : Type := Int → Int → Int
abbrev Mz : Type := (Int → Nat) × (Int → Int) × Int
abbrev Fm : Type := String × MethodName × ByteArray × List (Nat × Instr × Nat) × Nat × Option FieldType
abbrev Gp : Type := Launch × (Nat → ClassId) × (Nat → Nat → Nat) × (Nat → ClassId) × Nat
abbrev Cx : Type := Program × Env × Room × State × MethodId × Array Value × List Frame × Method × Code × (State → Prop) × (Int → Nat) × Int
abbrev gL (g : Gp) : Launch := g.1
abbrev gC (g : Gp) : Nat → ClassId := g.2.1
abbrev gI (g : Gp) : Nat → Nat → Nat := g.2.2.1
abbrev gA (g : Gp) : Nat → ClassId := g.2.2.2.1
abbrev gB (g : Gp) : Nat := g.2.2.2.2
/-- the text constant: its object, its bytes -/
abbrev gK (g : Gp) : Nat := gA g 90
abbrev gV (g : Gp) : Nat := gA g 91
abbrev xp (X : Cx) : Program := X.1
abbrev xe (X : Cx) : Env := X.2.1
abbrev xR (X : Cx) : Room := X.2.2.1
abbrev xs (X : Cx) : State := X.2.2.2.1
abbrev xm (X : Cx) : MethodId := X.2.2.2.2.1
abbrev xa (X : Cx) : Array Value := X.2.2.2.2.2.1
abbrev xb (X : Cx) : List Frame := X.2.2.2.2.2.2.1
abbrev xt (X : Cx) : Method := X.2.2.2.2.2.2.2.1
abbrev xc (X : Cx) : Code := X.2.2.2.2.2.2.2.2.1
abbrev xq (X : Cx) : State → Prop := X.2.2.2.2.2.2.2.2.2.1
abbrev xd (X : Cx) : Int → Nat := X.2.2.2.2.2.2.2.2.2.2.1
abbrev xn (X : Cx) : Int := X.2.2.2.2.2.2.2.2.2.2.2
abbrev fown (F : Fm) : String := F.1
abbrev fy (F : Fm) : MethodName := F.2.1
abbrev fcode (F : Fm) : ByteArray := F.2.2.1
abbrev fprg (F : Fm) : List (Nat × Instr × Nat) := F.2.2.2.1
abbrev fnl (F : Fm) : Nat := F.2.2.2.2.1
abbrev fret (F : Fm) : Option FieldType := F.2.2.2.2.2
/-- the classes of the worlds; a kind below 13 is an object of that class, 13.. are arrays -/
abbrev cls : List vw_C := [(RX0, TX0, 6), (RX1, TX1, 5), (RX2, TX2, 15), (RX3, TX3, 2), (RX4, TX4, 15), (RX5, TX5, 4), (RX6, TX6, 5), (RX7, TX7, 2), (RX8, TX8, 11), (RX9, TX9, 7), (RX10, TX10, 20), (RX11, TX11, 18), (RX12, TX12, 60)]
def tyC (K : Nat) : Nat → FieldType := match K with
  | 0 => tyX0 | 1 => tyX1 | 2 => tyX2 | 3 => tyX3 | 4 => tyX4 | 5 => tyX5 | 6 => tyX6 | 7 => tyX7 | 8 => tyX8 | 9 => tyX9 | 10 => tyX10 | 11 => tyX11 | _ => tyX12
/-- the sort of a field's type: 0 int and smaller, 1 long, 2 reference -/
def sortT : FieldType → Nat
  | .long => 1
  | .object _ => 2
  | .array _ => 2
  | _ => 0
def fty (K k : Nat) : Nat := sortT (tyC K k)
/-- the element type of an array kind -/
def aty (K : Nat) : FieldType := match K with
  | 13 => .int | 14 => .long | 15 => .byte | 16 => .boolean | 17 => .object "RedWhite$Trip" | 18 => .object "RedWhite$Sentence" | 19 => .array .int | _ => .array .long
def ety (K : Nat) : Nat := sortT (aty K)
def tr (ad : Int → Nat) (x : V2) : Value := match x.1 with
  | 0 => .int (Int32.ofInt x.2)
  | 1 => .long (Int64.ofInt x.2)
  | 2 => if x.2 < 0 then .null else .ref (ad x.2)
  | 4 => .ref x.2.toNat
  | _ => .null
theorem tr_i (ad : Int → Nat) (x : Int) : tr ad (0, x) = .int (Int32.ofInt x) := rfl
theorem tr_l (ad : Int → Nat) (x : Int) : tr ad (1, x) = .long (Int64.ofInt x) := rfl
theorem tr_a (ad : Int → Nat) (x : Int) : tr ad (4, x) = .ref x.toNat := rfl
theorem tr_n (ad : Int → Nat) : tr ad (2, -1) = .null := rfl
theorem tr_r (ad : Int → Nat) {x : Int} (h : 0 ≤ x) : tr ad (2, x) = .ref (ad x) := by
  show (if x < 0 then Value.null else .ref (ad x)) = _
  rw [if_neg (by omega)]
/-- what stands at a place of sort t -/
def pv (t : Nat) (v r : Int) : V2 := (t, if t = 2 then r else v)
/-- an array cell, read: its elements -/
def arrOK (s : State) (ty : FieldType) (n : Nat) (f : Nat → Value) (cell : Cell) : Prop := s.isArrayOf cell ty ∧ cell.vm ≠ .unknown ∧ cell.slots.size = n ∧ ∀ j : Nat, j < n → cell.slots[j]? = some (f j)
/-- what the elements of byte and boolean arrays can be -/
def rngK (K : Nat) (x : Int) : Prop := (K = 16 → 0 ≤ x ∧ x ≤ 1) ∧ (K = 15 → -128 ≤ x ∧ x < 128)
def cellAt (g : Gp) (s : State) (ad : Int → Nat) (H : Heap) (r : Int) (K : Nat) (n : Int) (v ρ : Int → Int) : Prop :=
  if K < 13 then ∃ q, cls[K]? = some q ∧ t_OB (ad r) (gC g K) q.2.2 (gI g K) H (fun k => tr ad (pv (fty K k) (v k) (ρ k)))
  else 0 ≤ n ∧ n < 2147483648 ∧ (∀ j : Int, 0 ≤ j → j < n → rngK K (v j)) ∧ ∃ cell, H[ad r]? = some cell ∧ arrOK s (aty K) n.toNat (fun j => tr ad (pv (ety K) (v j) (ρ j))) cell ∧ (4 ≤ r → cell = arrV (gA g K) n.toNat (fun j => tr ad (pv (ety K) (v j) (ρ j))))
/-- what the tables say, of this state -/
def isNest : Cond → Bool
  | .fieldLinkNest .. => true
  | .methodLinkNest .. => true
  | _ => false
/-- the text constant of the tape's words -/
def keyT : String := "colour ends land player goal cars change takes turns comes grey or and not leads won has turned score start needs number "
def keyB : List Int32 := [99, 111, 108, 111, 117, 114, 32, 101, 110, 100, 115, 32, 108, 97, 110, 100, 32, 112, 108, 97, 121, 101, 114, 32, 103, 111, 97, 108, 32, 99, 97, 114, 115, 32, 99, 104, 97, 110, 103, 101, 32, 116, 97, 107, 101, 115, 32, 116, 117, 114, 110, 115, 32, 99, 111, 109, 101, 115, 32, 103, 114, 101, 121, 32, 111, 114, 32, 97, 110, 100, 32, 110, 111, 116, 32, 108, 101, 97, 100, 115, 32, 119, 111, 110, 32, 104, 97, 115, 32, 116, 117, 114, 110, 101, 100, 32, 115, 99, 111, 114, 101, 32, 115, 116, 97, 114, 116, 32, 110, 101, 101, 100, 115, 32, 110, 117, 109, 98, 101, 114, 32]
def KY (g : Gp) (s : State) (H : Heap) : Prop := va_O "java/lang/String" (gK g) (fun q => gB g ≤ q) s H ∧ va_OF "java/lang/String" "coder" "B" (.int 0) (gK g) (fun q => gB g ≤ q) s H ∧ va_OF "java/lang/String" "value" "[B" (.ref (gV g)) (gK g) (fun q => gB g ≤ q) s H ∧ va_T .byte (gV g) 121 (fun j => .int (keyB.getD j 0)) (fun q => gB g ≤ q) s H ∧ va_Z "java/lang/String" "COMPACT_STRINGS" "Z" (.int 1) (fun q => gB g ≤ q) s H ∧ va_Zq "jdk/internal/util/Preconditions" "SIOOBE_FORMATTER" "Ljava/util/function/BiFunction;" (fun q => gB g ≤ q) s H
def KK (g : Gp) (s : State) : Prop := va_K (gC g, gI g) cls [] s ∧ (∀ w ∈ lw_tbl, isNest w = true → va_Nw w s) ∧ (∀ K, 13 ≤ K → K < 21 → ArrOfT s (gA g K) (aty K) ∧ va_RA s (gA g K) (aty K)) ∧ va_AO "RedWhite$Trip" s ∧ va_AO "RedWhite$Sentence" s ∧ va_AOA .int s ∧ va_AOA .long s ∧ vk_R "RedWhite$Tape" 70 keyT (gK g) s
def SS (g : Gp) (s : State) (ad : Int → Nat) (H : Heap) : Prop := va_Z "RedWhite" "STEPS" "[I" (.ref (ad 0)) (fun q => gB g ≤ q) s H ∧ va_Z "RedWhite" "TWELVES" "[J" (.ref (ad 1)) (fun q => gB g ≤ q) s H ∧ vx_Zq Bundle.tN "UNASSIGNED_STACK" Bundle.steD (fun q => gB g ≤ q) s H ∧ vx_Zq Bundle.tN "SUPPRESSED_SENTINEL" Bundle.listD (fun q => gB g ≤ q) s H ∧ KY g s H
/-- the heap holds the picture -/
def Rel (g : Gp) (s : State) (ad : Int → Nat) (v ρ : Mv) (Z : Mz) (H : Heap) : Prop :=
  (∀ r : Int, Z.1 r ≠ 99 → 0 ≤ r ∧ r < Z.2.2 ∧ Z.1 r < 21 ∧ cellAt g s ad H r (Z.1 r) (Z.2.1 r) (v r) (ρ r) ∧ (∀ k, ρ r k < Z.2.2) ∧ (4 ≤ r → gB g ≤ ad r)) ∧
  (∀ r q : Int, Z.1 r ≠ 99 → Z.1 q ≠ 99 → 4 ≤ r → ad r = ad q → r = q) ∧ gB g ≤ H.size ∧ SS g s ad H
def scop (Z : Mz) (l : List V2) : Prop := ∀ x ∈ l, x.1 = 2 → x.2 < Z.2.2
/-- the locals: what is known of them -/
def lpr (ad : Int → Nat) (ls : List V2) : List (Nat × Value) := (ls.zipIdx.filter (fun q => q.1.1 != 3)).map (fun q => (q.2, tr ad q.1))
def lvr (ad : Int → Nat) (la : Array Slot) (nL : Nat) (ls : List V2) : Prop := lv_has la nL (lpr ad ls)
/-- what was written lies in the new part; the addresses known at the start stand -/
def LQ (g : Gp) (X : Cx) (ad : Int → Nat) (Z : Mz) (locs : List Loc) : Prop := (∀ q ∈ locs, gB g ≤ q.base) ∧ (∀ r : Int, r < xn X → ad r = xd X r) ∧ xn X ≤ Z.2.2
def wp (g : Gp) (X : Cx) (F : Fm) (cells slots pc : Nat) (ls st : List V2) (v ρ : Mv) (Z : Mz) : Prop :=
  ∀ (ad : Int → Nat) (H : Heap) (locs : List Loc) (la : Array Slot), Rel g (xs X) ad v ρ Z H → scop Z st → scop Z ls → LQ g X ad Z locs → lvr ad la (fnl F) ls →
    W (xp X) (gL g) (xe X) (xR X) (xs X) (xm X) (xa X) (xb X) (xt X) (xc X) H locs cells slots (xq X) (F0 (xm X) pc la (st.map (tr ad)))
/-- where a method's body stands: the machine, the code, the tables -/
def okX (g : Gp) (X : Cx) (F : Fm) : Prop :=
  (xp X).tables.exec = Jvm.exec ∧ (xc X).code = fcode F ∧ (xt X).sig.returnType = fret F ∧ (xc X).maxLocals = fnl F ∧ (xs X).vm.findClass (fown F) = some (xm X).cls ∧ (∀ w ∈ lw_tbl, goodWord w = true → w.before (xa X) (xs X) = true) ∧ KK g (xs X) ∧ (xt X).locks = false ∧ (xt X).name = (fy F).name ∧ (∀ q ∈ fprg F, decode (fcode F) q.1 = .ok q.2)
theorem okX.dec {g : Gp} {X : Cx} {F : Fm} (h : okX g X F) {i pc len : Nat} {ins : Instr} (hf : (fprg F)[i]? = some (pc, ins, len)) : decode (fcode F) pc = .ok (ins, len) := h.2.2.2.2.2.2.2.2.2 (pc, ins, len) (List.mem_of_getElem? hf)
abbrev inR (x : Int) : Prop := -2147483648 ≤ x ∧ x < 2147483648
abbrev inL (x : Int) : Prop := -9223372036854775808 ≤ x ∧ x < 9223372036854775808
