/-! THE WORLD of the layout's cells, and what a way from a place means on the machine -/
def aTys (cy : Nat → ClassId) : List (ClassId × FieldType) := [(cy 0, .int), (cy 1, .byte), (cy 2, .boolean), (cy 3, .long), (cy 4, .array .int), (cy 5, .array .long)]
def aFv (ad : Nat → Nat) (S : aS) (i k : Nat) : Option Nat → Value
  | some r => .ref (ad r)
  | none => .int (Int32.ofInt (S.1 i k))
def aE (cy : Nat → ClassId) (ad : Nat → Nat) (S : aS) (i : Nat) : aC → va_E
  | .inl (c, fs) => .inr (c, fs.mapIdx (aFv ad S i))
  | .inr (t, n, b) => .inl (cy t, n, if t = 3 then .inr (.inl fun j => Int64.ofInt (S.2 i j)) else if t < 3 then .inl (fun j => Int32.ofInt (S.1 i j)) else .inr (.inr (.inr (.inr fun j => some (ad (b + j))))))
def aW (cy : Nat → ClassId) (ad : Nat → Nat) (S : aS) : va_W := (List.range aN).map fun i => (ad i, aE cy ad S i (LY i))
theorem aW_get {cy : Nat → ClassId} {ad : Nat → Nat} {S : aS} {i : Nat} (h : i < aN) : (aW cy ad S)[i]? = some (ad i, aE cy ad S i (LY i)) := by
  simp [aW, h]
theorem aW_set {cy : Nat → ClassId} {ad : Nat → Nat} {S S' : aS} {i : Nat} {x : va_E} (h : i < aN) (hx : aE cy ad S' i (LY i) = x) (ho : ∀ j, j ≠ i → aE cy ad S' j (LY j) = aE cy ad S j (LY j)) : (aW cy ad S).set i (ad i, x) = aW cy ad S' := by
  apply List.ext_getElem?
  intro j
  rw [List.getElem?_set]
  by_cases hj : i = j
  · subst hj
    rw [if_pos rfl, aW_get h, hx, if_pos (by simpa [aW] using h)]
  · rw [if_neg hj]
    by_cases hN : j < aN
    · rw [aW_get hN, aW_get hN, ho j (fun e => hj e.symm)]
    · simp [aW, hN]
theorem aFv_upI {ad : Nat → Nat} {S : aS} {i k : Nat} {v : Int} {j m : Nat} (h : ¬ (j = i ∧ m = k)) (x : Option Nat) : aFv ad (upI S i k v) j m x = aFv ad S j m x := by
  cases x with
  | some r => rfl
  | none => simp [aFv, upI, up2, h]
theorem aE_upI {cy : Nat → ClassId} {ad : Nat → Nat} {S : aS} {i k : Nat} {v : Int} {j : Nat} (h : j ≠ i) (x : aC) : aE cy ad (upI S i k v) j x = aE cy ad S j x := by
  rcases x with ⟨c, fs⟩ | ⟨t, n, b⟩
  · show Sum.inr (c, fs.mapIdx _) = Sum.inr (c, fs.mapIdx _)
    congr 3
    funext m x
    exact aFv_upI (fun q => h q.1) x
  · simp only [aE]
    congr 3
    · split
      · rfl
      · split
        · congr 1; funext m; simp [upI, up2, h]
        · rfl
theorem aE_upL {cy : Nat → ClassId} {ad : Nat → Nat} {S : aS} {i k : Nat} {v : Int} {j : Nat} (h : j ≠ i) (x : aC) : aE cy ad (upL S i k v) j x = aE cy ad S j x := by
  rcases x with ⟨c, fs⟩ | ⟨t, n, b⟩
  · rfl
  · simp only [aE]
    congr 3
    · split
      · congr 2; funext m; simp [upL, up2, h]
      · rfl
/-- the links to fields of nest mates -/
def aNl : List (String × Nat × String × String × String × String) := [("SlipHouse", 87, "SlipHouse$Tape", "size", "I", "SlipHouse"), ("SlipHouse", 99, "SlipHouse$Books", "size", "I", "SlipHouse"), ("SlipHouse", 111, "SlipHouse$Books", "first", "[I", "SlipHouse"), ("SlipHouse", 115, "SlipHouse$Books", "last", "[I", "SlipHouse"), ("SlipHouse", 118, "SlipHouse$Books", "toldFrom", "[I", "SlipHouse"), ("SlipHouse", 121, "SlipHouse$Books", "toldTo", "[I", "SlipHouse"), ("SlipHouse", 128, "SlipHouse$Slips", "size", "I", "SlipHouse"), ("SlipHouse", 141, "SlipHouse$Entries", "size", "I", "SlipHouse"), ("SlipHouse", 155, "SlipHouse$Rules", "size", "I", "SlipHouse"), ("SlipHouse", 166, "SlipHouse$Entries", "forms", "LSlipHouse$Words;", "SlipHouse"), ("SlipHouse", 173, "SlipHouse$Slips", "words", "LSlipHouse$Words;", "SlipHouse"), ("SlipHouse", 203, "SlipHouse$Senses", "entry", "[I", "SlipHouse"), ("SlipHouse", 206, "SlipHouse$Senses", "parent", "[I", "SlipHouse"), ("SlipHouse", 228, "SlipHouse$Pointers", "size", "I", "SlipHouse"), ("SlipHouse", 235, "SlipHouse$Pointers", "from", "[I", "SlipHouse"), ("SlipHouse", 238, "SlipHouse$Pointers", "to", "[I", "SlipHouse"), ("SlipHouse", 244, "SlipHouse$Witnesses", "all", "[I", "SlipHouse"), ("SlipHouse", 247, "SlipHouse$Witnesses", "allBooks", "[I", "SlipHouse"), ("SlipHouse", 253, "SlipHouse$Witnesses", "own", "[I", "SlipHouse"), ("SlipHouse", 256, "SlipHouse$Witnesses", "place", "[I", "SlipHouse"), ("SlipHouse", 267, "SlipHouse$Slips", "entry", "[I", "SlipHouse"), ("SlipHouse", 268, "SlipHouse$Slips", "sense", "[I", "SlipHouse"), ("SlipHouse", 274, "SlipHouse$Slips", "book", "[I", "SlipHouse"), ("SlipHouse", 291, "SlipHouse$Editions", "size", "I", "SlipHouse"), ("SlipHouse", 316, "SlipHouse$Books", "befores", "I", "SlipHouse"), ("SlipHouse", 322, "SlipHouse$Entries", "formsOf", "[I", "SlipHouse"), ("SlipHouse$Editions", 31, "SlipHouse$Slips", "size", "I", "SlipHouse"), ("SlipHouse$Editions", 34, "SlipHouse$Slips", "entry", "[I", "SlipHouse"), ("SlipHouse$Editions", 36, "SlipHouse$Slips", "sense", "[I", "SlipHouse"), ("SlipHouse$Printer", 88, "SlipHouse$Senses", "entry", "[I", "SlipHouse"), ("SlipHouse$Printer", 91, "SlipHouse$Senses", "parent", "[I", "SlipHouse"), ("SlipHouse$Printer", 94, "SlipHouse$Witnesses", "place", "[I", "SlipHouse"), ("SlipHouse$Printer", 103, "SlipHouse$Pointers", "size", "I", "SlipHouse"), ("SlipHouse$Printer", 106, "SlipHouse$Pointers", "from", "[I", "SlipHouse"), ("SlipHouse$Printer", 109, "SlipHouse$Pointers", "to", "[I", "SlipHouse"), ("SlipHouse$Printer", 118, "SlipHouse$Witnesses", "all", "[I", "SlipHouse"), ("SlipHouse$Printer", 121, "SlipHouse$Witnesses", "firstFrom", "[I", "SlipHouse"), ("SlipHouse$Printer", 124, "SlipHouse$Witnesses", "firstTo", "[I", "SlipHouse"), ("SlipHouse$Witnesses", 45, "SlipHouse$Slips", "size", "I", "SlipHouse"), ("SlipHouse$Witnesses", 51, "SlipHouse$Slips", "sense", "[I", "SlipHouse"), ("SlipHouse$Witnesses", 54, "SlipHouse$Slips", "book", "[I", "SlipHouse"), ("SlipHouse$Witnesses", 67, "SlipHouse$Books", "first", "[I", "SlipHouse"), ("SlipHouse$Witnesses", 76, "SlipHouse$Books", "last", "[I", "SlipHouse"), ("SlipHouse$Witnesses", 83, "SlipHouse$Senses", "parent", "[I", "SlipHouse"), ("SlipHouse$Words", 28, "SlipHouse$Rules", "size", "I", "SlipHouse"), ("SlipHouse$Words", 42, "SlipHouse$Rules", "fresh", "[J", "SlipHouse"), ("SlipHouse$Words", 46, "SlipHouse$Rules", "old", "[J", "SlipHouse")]
def aNs (U : State) : Prop := ∀ q ∈ aNl, va_Nw (.fieldLinkNest q.1 q.2.1 q.2.2.1 q.2.2.2.1 q.2.2.2.2.1 q.2.2.2.2.2) U
theorem aNs.warm {s U : State} (h : aNs s) (hW : s.WarmedH U.vm) : aNs U := fun q hq => (h q hq).warmF hW
theorem aNs.same {u U : State} (h : aNs u) (hv : u.vm = U.vm) : aNs U := fun q hq => (h q hq).same rfl hv
def aKK (D : va_G) (cy : Nat → ClassId) (U : State) : Prop := va_K D vwCl (aTys cy) U ∧ aNs U
/-- the tables' words that a callee may take over -/
def gw : List Cond := lw_tbl.filter goodWord
/-- a method: its name, its code, how many locals, what it returns, how many frames and words of locals its calls take -/
abbrev aM : Type := MethodName × ByteArray × Nat × Option FieldType × Nat × Nat
def aWs (Y : aM) : List Cond := .code Y.1 Y.2.1 Y.2.2.1 Y.2.2.2.1 :: gw
def aRm (Y : aM) : Room := { frames := Y.2.2.2.2.1, cells := 0, slots := 0, locals := Y.2.2.2.2.2 }
def aCtx (Y : aM) (p : Program) (R : Room) (s : State) (m : MethodId) (args : Array Value) (meth : Method) (c : Code) (cells slots : Nat) : Prop :=
  p.tables.exec = Jvm.exec ∧ c.code = Y.2.1 ∧ c.maxLocals = Y.2.2.1 ∧ s.vm.findClass Y.1.cls = some m.cls ∧ (∀ w ∈ gw, w.before args s = true) ∧ Y.2.2.2.2.1 ≤ R.frames ∧ Y.2.2.2.2.2 ≤ R.locals ∧ cells ≤ R.cells ∧ slots ≤ R.slots
def aHp (D : va_G) (cy : Nat → ClassId) (ad : Nat → Nat) (A : Nat → Prop) (S : aS) (H0 H : Heap) (locs : List Loc) : Prop :=
  va_P D vwCl (aW cy ad S) H ∧ va_D A (aW cy ad S) ∧ va_S A H0 H locs
def aIn (ls : aL) (stk : List aV) (S : aS) : Prop := aRg S ∧ (∀ q ∈ ls, aOk q.2) ∧ ∀ v ∈ stk, aOk v
def aRet (i : Instr) (rt : Option FieldType) (v : Option aV) : Prop := match i, rt, v with
  | .ireturn, some .int, some (.inl _) => True
  | .ireturn, some .boolean, some (.inl a) => a = 0 ∨ a = 1
  | .lreturn, some .long, some (.inr (.inl _)) => True
  | .return_, none, none => True
  | _, _, _ => False
/-- what is behind the method's end -/
def aEnd (Y : aM) (Q : Option aV → aS → Prop) (p : Program) (l : Launch) (e : Env) (R : Room) (s : State) (m : MethodId) (args : Array Value) (below : List Frame) (meth : Method) (c : Code) (cells slots : Nat) (Z : State → Prop) (D : va_G) (cy : Nat → ClassId) (ad : Nat → Nat) (A : Nat → Prop) : Prop :=
  ∀ (v : Option aV) (S : aS) (H : Heap) (locs : List Loc) (pc : Nat) (jl : Array Slot) (i : Instr), Q v S → aRg S → (∀ w, v = some w → aOk w) → aHp D cy ad A S s.heap H locs → decode Y.2.1 pc = .ok (i, 1) → aRet i Y.2.2.2.1 v → W p l e R s m args below meth c H locs cells slots Z (F0 m pc jl (v.toList.map (mv ad)))
def aGo (l : Launch) (Y : aM) (Q : Option aV → aS → Prop) : aK := fun pc ls stk S => aIn ls stk S →
  ∀ (p : Program) (e : Env) (R : Room) (s : State) (m : MethodId) (args : Array Value) (below : List Frame) (meth : Method) (c : Code) (cells slots : Nat) (Z : State → Prop) (D : va_G) (cy : Nat → ClassId) (ad : Nat → Nat) (A : Nat → Prop),
    aCtx Y p R s m args meth c cells slots → aKK D cy s → (∀ q, s.heap.size ≤ q → A q) → aEnd Y Q p l e R s m args below meth c cells slots Z D cy ad A →
    ∀ (H : Heap) (locs : List Loc) (jl : Array Slot), aHp D cy ad A S s.heap H locs → lv_has jl Y.2.2.1 (mL ad ls) → W p l e R s m args below meth c H locs cells slots Z (F0 m pc jl (stk.map (mv ad)))
/-- a method's contract for a way of calling it -/
def aMt (l : Launch) (Y : aM) (as : List aV) (S : aS) (Q : Option aV → aS → Prop) : Prop := aRg S → (∀ v ∈ as, aOk v) → ∀ (D : va_G) (cy : Nat → ClassId) (ad : Nat → Nat) (sz : Nat),
  Met l Y.1 (aWs Y) (aRm Y) (va_Pc (as.map (mv ad)) (fun U => U.heap.size = sz ∧ va_P D vwCl (aW cy ad S) U.heap ∧ aKK D cy U ∧ va_D (fun _ => True) (aW cy ad S)))
    (fun _ st oc t => (∃ (v : Option aV) (S' : aS), oc = .returned (v.map (mv ad)) ∧ Q v S' ∧ aRg S' ∧ (∀ w, v = some w → aOk w) ∧ va_P D vwCl (aW cy ad S') t.heap ∧ va_K D vwCl (aTys cy) t ∧ va_D (va_A (aW cy ad S) sz) (aW cy ad S')) ∧ va_F (va_A (aW cy ad S) sz) st t) 0 0 (va_A (aW cy ad S) sz)
def aOK (l : Launch) (Y : aM) (sp : aSp) : Prop := ∀ as S Q, sp as S Q → aMt l Y as S Q
