/-! how a way is read, row by row -/
def wpC (b : Bool) (g : Prop) (d : Except DecodeError (Instr × Nat)) (f : Instr → Nat → Prop) : Prop := bif b then g else match d with
  | .ok (i, len) => f i len
  | .error _ => False
section EV
variable {cc : ByteArray} {tb : aTb} {nL : Nat} {rt : Option FieldType} {Q : Option aV → aS → Prop} {cut : Nat → Bool} {G k : aK} {n pc i j len : Nat} {ls : aL} {stk r : List aV} {S : aS} {a b v : Int} {x : aV} {off : Int} {f : Int → Int → Int} {t : Nat}
theorem wp_s : wp cc tb nL rt Q cut G (n + 1) pc ls stk S = wpC (cut pc) (G pc ls stk S) (decode cc pc) (fun i len => ws1 tb nL rt Q (wp cc tb nL rt Q cut G n) i len pc ls stk S) := propext Iff.rfl
theorem wpC_f {g : Prop} {i : Instr} {f : Instr → Nat → Prop} : wpC false g (.ok (i, len)) f = f i len := propext Iff.rfl
theorem wpC_t {g : Prop} {d : Except DecodeError (Instr × Nat)} {f : Instr → Nat → Prop} : wpC true g d f = g := propext Iff.rfl
theorem e_aload_n {j : Fin 4} : ws1 tb nL rt Q k (.aload_n j) 1 pc ls stk S = (wLd 2 j k (pc + 1) ls stk S) := propext Iff.rfl
theorem e_aload {j : Nat} : ws1 tb nL rt Q k (.aload j) 2 pc ls stk S = (wLd 2 j k (pc + 2) ls stk S) := propext Iff.rfl
theorem e_iload_n {j : Fin 4} : ws1 tb nL rt Q k (.iload_n j) 1 pc ls stk S = (wLd 0 j k (pc + 1) ls stk S) := propext Iff.rfl
theorem e_iload {j : Nat} : ws1 tb nL rt Q k (.iload j) 2 pc ls stk S = (wLd 0 j k (pc + 2) ls stk S) := propext Iff.rfl
theorem e_lload_n {j : Fin 4} : ws1 tb nL rt Q k (.lload_n j) 1 pc ls stk S = (wLd 1 j k (pc + 1) ls stk S) := propext Iff.rfl
theorem e_lload {j : Nat} : ws1 tb nL rt Q k (.lload j) 2 pc ls stk S = (wLd 1 j k (pc + 2) ls stk S) := propext Iff.rfl
theorem e_istore_n {j : Fin 4} : ws1 tb nL rt Q k (.istore_n j) 1 pc ls stk S = (wSt nL 0 j k (pc + 1) ls stk S) := propext Iff.rfl
theorem e_istore {j : Nat} : ws1 tb nL rt Q k (.istore j) 2 pc ls stk S = (wSt nL 0 j k (pc + 2) ls stk S) := propext Iff.rfl
theorem e_lstore_n {j : Fin 4} : ws1 tb nL rt Q k (.lstore_n j) 1 pc ls stk S = (wSt nL 1 j k (pc + 1) ls stk S) := propext Iff.rfl
theorem e_lstore {j : Nat} : ws1 tb nL rt Q k (.lstore j) 2 pc ls stk S = (wSt nL 1 j k (pc + 2) ls stk S) := propext Iff.rfl
theorem e_astore_n {j : Fin 4} : ws1 tb nL rt Q k (.astore_n j) 1 pc ls stk S = (wSt nL 2 j k (pc + 1) ls stk S) := propext Iff.rfl
theorem e_astore {j : Nat} : ws1 tb nL rt Q k (.astore j) 2 pc ls stk S = (wSt nL 2 j k (pc + 2) ls stk S) := propext Iff.rfl
theorem e_iconst {n : Int} : ws1 tb nL rt Q k (.iconst n) 1 pc ls stk S = (k (pc + 1) ls (.inl (wI n) :: stk) S) := propext Iff.rfl
theorem e_bipush {n : Int} : ws1 tb nL rt Q k (.bipush n) 2 pc ls stk S = (k (pc + 2) ls (.inl ((Int8.ofInt n).toInt32).toInt :: stk) S) := propext Iff.rfl
theorem e_sipush {n : Int} : ws1 tb nL rt Q k (.sipush n) 3 pc ls stk S = (k (pc + 3) ls (.inl ((Int16.ofInt n).toInt32).toInt :: stk) S) := propext Iff.rfl
theorem e_lconst {n : Fin 2} : ws1 tb nL rt Q k (.lconst n) 1 pc ls stk S = (k (pc + 1) ls (.inr (.inl (Int64.ofNat (n : Nat)).toInt) :: stk) S) := propext Iff.rfl
theorem e_iadd  : ws1 tb nL rt Q k (.iadd) 1 pc ls stk S = (wI2 (fun a b => wI (a + b)) k (pc + 1) ls stk S) := propext Iff.rfl
theorem e_isub  : ws1 tb nL rt Q k (.isub) 1 pc ls stk S = (wI2 (fun a b => wI (a - b)) k (pc + 1) ls stk S) := propext Iff.rfl
theorem e_imul  : ws1 tb nL rt Q k (.imul) 1 pc ls stk S = (wI2 (fun a b => wI (a * b)) k (pc + 1) ls stk S) := propext Iff.rfl
theorem e_idiv  : ws1 tb nL rt Q k (.idiv) 1 pc ls stk S = (wD2 (fun a b => wI (a.tdiv b)) k (pc + 1) ls stk S) := propext Iff.rfl
theorem e_irem  : ws1 tb nL rt Q k (.irem) 1 pc ls stk S = (wD2 (fun a b => wI (a.tmod b)) k (pc + 1) ls stk S) := propext Iff.rfl
theorem e_iand  : ws1 tb nL rt Q k (.iand) 1 pc ls stk S = (wI2 bAnd k (pc + 1) ls stk S) := propext Iff.rfl
theorem e_ior  : ws1 tb nL rt Q k (.ior) 1 pc ls stk S = (wI2 bOr k (pc + 1) ls stk S) := propext Iff.rfl
theorem e_ixor  : ws1 tb nL rt Q k (.ixor) 1 pc ls stk S = (wI2 bXor k (pc + 1) ls stk S) := propext Iff.rfl
theorem e_ishl  : ws1 tb nL rt Q k (.ishl) 1 pc ls stk S = (wI2 bShl k (pc + 1) ls stk S) := propext Iff.rfl
theorem e_ishr  : ws1 tb nL rt Q k (.ishr) 1 pc ls stk S = (wI2 bShr k (pc + 1) ls stk S) := propext Iff.rfl
theorem e_iushr  : ws1 tb nL rt Q k (.iushr) 1 pc ls stk S = (wI2 bUshr k (pc + 1) ls stk S) := propext Iff.rfl
theorem e_lsub  : ws1 tb nL rt Q k (.lsub) 1 pc ls stk S = (wL2 (fun a b => wL (a - b)) k (pc + 1) ls stk S) := propext Iff.rfl
theorem e_land  : ws1 tb nL rt Q k (.land) 1 pc ls stk S = (wL2 lAnd k (pc + 1) ls stk S) := propext Iff.rfl
theorem e_lor  : ws1 tb nL rt Q k (.lor) 1 pc ls stk S = (wL2 lOr k (pc + 1) ls stk S) := propext Iff.rfl
theorem e_lshl  : ws1 tb nL rt Q k (.lshl) 1 pc ls stk S = (wLI2 lShl k (pc + 1) ls stk S) := propext Iff.rfl
theorem e_lushr  : ws1 tb nL rt Q k (.lushr) 1 pc ls stk S = (wLI2 lUshr k (pc + 1) ls stk S) := propext Iff.rfl
theorem e_lcmp  : ws1 tb nL rt Q k (.lcmp) 1 pc ls stk S = (wCmp k (pc + 1) ls stk S) := propext Iff.rfl
theorem e_i2l  : ws1 tb nL rt Q k (.i2l) 1 pc ls stk S = (wI2L k (pc + 1) ls stk S) := propext Iff.rfl
theorem e_l2i  : ws1 tb nL rt Q k (.l2i) 1 pc ls stk S = (wL2I k (pc + 1) ls stk S) := propext Iff.rfl
theorem e_i2b  : ws1 tb nL rt Q k (.i2b) 1 pc ls stk S = (wI2B k (pc + 1) ls stk S) := propext Iff.rfl
theorem e_dup  : ws1 tb nL rt Q k (.dup) 1 pc ls stk S = (wDup k (pc + 1) ls stk S) := propext Iff.rfl
theorem e_dup2  : ws1 tb nL rt Q k (.dup2) 1 pc ls stk S = (wDup2 k (pc + 1) ls stk S) := propext Iff.rfl
theorem e_pop  : ws1 tb nL rt Q k (.pop) 1 pc ls stk S = (wPop k (pc + 1) ls stk S) := propext Iff.rfl
theorem e_iinc {j : Nat} {n : Int} : ws1 tb nL rt Q k (.iinc j n) 3 pc ls stk S = (wInc nL j n k (pc + 3) ls stk S) := propext Iff.rfl
theorem e_ifCond {c : Jvm.ClassFile.Cond} {off : Int} : ws1 tb nL rt Q k (.ifCond c off) 3 pc ls stk S = (wIf (cN c) (jt pc off) k pc ls stk S) := propext Iff.rfl
theorem e_if_icmp {c : Jvm.ClassFile.Cond} {off : Int} : ws1 tb nL rt Q k (.if_icmp c off) 3 pc ls stk S = (wIc (cN c) (jt pc off) k pc ls stk S) := propext Iff.rfl
theorem e_goto {off : Int} : ws1 tb nL rt Q k (.goto off) 3 pc ls stk S = (wJ k pc off ls stk S) := propext Iff.rfl
theorem e_tableswitch {d lo hi : Int} {offs : Array Int} : ws1 tb nL rt Q k (.tableswitch d lo hi offs) len pc ls stk S = (wTsw d lo hi offs.toList k pc ls stk S) := propext Iff.rfl
theorem e_lookupswitch {d : Int} {ps : Array (Int × Int)} : ws1 tb nL rt Q k (.lookupswitch d ps) len pc ls stk S = (wLsw d ps k pc ls stk S) := propext Iff.rfl
theorem e_getfield {j : Nat} : ws1 tb nL rt Q k (.getfield j) 3 pc ls stk S = (wGet (tb.1 j) k (pc + 3) ls stk S) := propext Iff.rfl
theorem e_putfield {j : Nat} : ws1 tb nL rt Q k (.putfield j) 3 pc ls stk S = (wPut (tb.2.1 j) k (pc + 3) ls stk S) := propext Iff.rfl
theorem e_iaload  : ws1 tb nL rt Q k (.iaload) 1 pc ls stk S = (wAld (fun t => t == 0) k (pc + 1) ls stk S) := propext Iff.rfl
theorem e_baload  : ws1 tb nL rt Q k (.baload) 1 pc ls stk S = (wAld (fun t => t == 1 || t == 2) k (pc + 1) ls stk S) := propext Iff.rfl
theorem e_laload  : ws1 tb nL rt Q k (.laload) 1 pc ls stk S = (wAll k (pc + 1) ls stk S) := propext Iff.rfl
theorem e_aaload  : ws1 tb nL rt Q k (.aaload) 1 pc ls stk S = (wAlr k (pc + 1) ls stk S) := propext Iff.rfl
theorem e_arraylength  : ws1 tb nL rt Q k (.arraylength) 1 pc ls stk S = (wAln k (pc + 1) ls stk S) := propext Iff.rfl
theorem e_iastore  : ws1 tb nL rt Q k (.iastore) 1 pc ls stk S = (wAst k (pc + 1) ls stk S) := propext Iff.rfl
theorem e_bastore  : ws1 tb nL rt Q k (.bastore) 1 pc ls stk S = (wBst k (pc + 1) ls stk S) := propext Iff.rfl
theorem e_lastore  : ws1 tb nL rt Q k (.lastore) 1 pc ls stk S = (wLst k (pc + 1) ls stk S) := propext Iff.rfl
theorem e_invokevirtual {j : Nat} : ws1 tb nL rt Q k (.invokevirtual j) 3 pc ls stk S = (wCall (tb.2.2.1 j) true k (pc + 3) ls stk S) := propext Iff.rfl
theorem e_invokestatic {j : Nat} : ws1 tb nL rt Q k (.invokestatic j) 3 pc ls stk S = (wCall (tb.2.2.1 j) false k (pc + 3) ls stk S) := propext Iff.rfl
theorem e_ireturn  : ws1 tb nL rt Q k (.ireturn) 1 pc ls stk S = (wRi rt Q stk S) := propext Iff.rfl
theorem e_lreturn  : ws1 tb nL rt Q k (.lreturn) 1 pc ls stk S = (wRl rt Q stk S) := propext Iff.rfl
theorem e_return_  : ws1 tb nL rt Q k (.return_) 1 pc ls stk S = (wRv rt Q stk S) := propext Iff.rfl
theorem e_ldc2 {n : Nat} {x : Int} (h : tb.2.2.2 n = some x) : ws1 tb nL rt Q k (.ldc2_w n) 3 pc ls stk S = k (pc + 3) ls (.inr (.inl x) :: stk) S := by
  show (match tb.2.2.2 n with
    | some x => k (pc + 3) ls (.inr (.inl x) :: stk) S
    | none => False) = _
  rw [h]
def wLdo (ty : Nat) (o : Option aV) (k : aK) (pc : Nat) (ls : aL) (stk : List aV) (S : aS) : Prop := match ty, o with
  | 0, some (.inl a) => k pc ls (.inl a :: stk) S
  | 1, some (.inr (.inl a)) => k pc ls (.inr (.inl a) :: stk) S
  | 2, some (.inr (.inr a)) => k pc ls (.inr (.inr a) :: stk) S
  | _, _ => False
theorem e_wLd {ty : Nat} : wLd ty i k pc ls stk S = wLdo ty (lget ls i) k pc ls stk S := propext Iff.rfl
theorem e_wLd0 : wLdo 0 (some (.inl a)) k pc ls stk S = k pc ls (.inl a :: stk) S := propext Iff.rfl
theorem e_wLd1 : wLdo 1 (some (.inr (.inl a))) k pc ls stk S = k pc ls (.inr (.inl a) :: stk) S := propext Iff.rfl
theorem e_wLd2 : wLdo 2 (some (.inr (.inr t))) k pc ls stk S = k pc ls (.inr (.inr t) :: stk) S := propext Iff.rfl
theorem e_get1 : lget ((i, x) :: ls) i = some x := by simp [lget]
theorem e_get2 (h : (j == i) = false) : lget ((j, x) :: ls) i = lget ls i := by
  have h' : ¬ j = i := by simpa using h
  simp [lget, h']
theorem e_wSt0 : wSt nL 0 i k pc ls (.inl a :: r) S = (i < nL ∧ k pc (lset i (.inl a) ls) r S) := propext Iff.rfl
theorem e_wSt1 : wSt nL 1 i k pc ls (.inr (.inl a) :: r) S = (i + 1 < nL ∧ k pc (lset i (.inr (.inl a)) ls) r S) := propext Iff.rfl
theorem e_wSt2 : wSt nL 2 i k pc ls (.inr (.inr t) :: r) S = (i < nL ∧ k pc (lset i (.inr (.inr t)) ls) r S) := propext Iff.rfl
theorem e_isL0 : isL (.inl a) = false := rfl
theorem e_isL1 : isL (.inr (.inl a)) = true := rfl
theorem e_isL2 : isL (.inr (.inr t)) = false := rfl
theorem e_lset : lset i x ls = lput i x (lclr i (isL x) ls) := rfl
theorem e_lclr0 {vl : Bool} : lclr i vl [] = [] := rfl
theorem e_lclr1 {vl : Bool} (h : (j == i || (j + 1 == i && isL x) || (vl && j == i + 1)) = true) : lclr i vl ((j, x) :: ls) = lclr i vl ls := if_pos h
theorem e_lclr2 {vl : Bool} (h : (j == i || (j + 1 == i && isL x) || (vl && j == i + 1)) = false) : lclr i vl ((j, x) :: ls) = (j, x) :: lclr i vl ls := if_neg (by rw [h]; decide)
theorem e_lput0 : lput i x [] = [(i, x)] := rfl
theorem e_lput1 {w : aV} (h : i < j) : lput i x ((j, w) :: ls) = (i, x) :: (j, w) :: ls := if_pos h
theorem e_lput2 {w : aV} (h : ¬ i < j) : lput i x ((j, w) :: ls) = (j, w) :: lput i x ls := if_neg h
theorem e_wI2 : wI2 f k pc ls (.inl b :: .inl a :: r) S = k pc ls (.inl (f a b) :: r) S := propext Iff.rfl
theorem e_wD2 : wD2 f k pc ls (.inl b :: .inl a :: r) S = (b ≠ 0 ∧ k pc ls (.inl (f a b) :: r) S) := propext Iff.rfl
theorem e_wL2 : wL2 f k pc ls (.inr (.inl b) :: .inr (.inl a) :: r) S = k pc ls (.inr (.inl (f a b)) :: r) S := propext Iff.rfl
theorem e_wLI2 : wLI2 f k pc ls (.inl b :: .inr (.inl a) :: r) S = k pc ls (.inr (.inl (f a b)) :: r) S := propext Iff.rfl
theorem e_wCmp : wCmp k pc ls (.inr (.inl b) :: .inr (.inl a) :: r) S = k pc ls (.inl (lCmp a b) :: r) S := propext Iff.rfl
theorem e_wI2L : wI2L k pc ls (.inl a :: r) S = k pc ls (.inr (.inl a) :: r) S := propext Iff.rfl
theorem e_wL2I : wL2I k pc ls (.inr (.inl a) :: r) S = k pc ls (.inl (wI a) :: r) S := propext Iff.rfl
theorem e_wI2B : wI2B k pc ls (.inl a :: r) S = k pc ls (.inl (narB a) :: r) S := propext Iff.rfl
theorem e_wDup0 : wDup k pc ls (.inl a :: r) S = k pc ls (.inl a :: .inl a :: r) S := propext Iff.rfl
theorem e_wDup1 : wDup k pc ls (.inr (.inr t) :: r) S = k pc ls (.inr (.inr t) :: .inr (.inr t) :: r) S := propext Iff.rfl
theorem e_wDup2 : wDup2 k pc ls (.inl b :: .inr (.inr t) :: r) S = k pc ls (.inl b :: .inr (.inr t) :: .inl b :: .inr (.inr t) :: r) S := propext Iff.rfl
theorem e_wPop : wPop k pc ls (.inl a :: r) S = k pc ls r S := propext Iff.rfl
def wInco (nL i : Nat) (n : Int) (o : Option aV) (k : aK) (pc : Nat) (ls : aL) (stk : List aV) (S : aS) : Prop := match o with
  | some (.inl a) => i < nL ∧ k pc (lset i (.inl (wI (a + n))) ls) stk S
  | _ => False
theorem e_wInc {n : Int} : wInc nL i n k pc ls stk S = wInco nL i n (lget ls i) k pc ls stk S := propext Iff.rfl
theorem e_wInc0 {n : Int} : wInco nL i n (some (.inl a)) k pc ls stk S = (i < nL ∧ k pc (lset i (.inl (wI (a + n))) ls) stk S) := propext Iff.rfl
def wJo (k : aK) (o : Option Nat) (ls : aL) (r : List aV) (S : aS) : Prop := match o with
  | some t => k t ls r S
  | none => False
theorem e_wJ : wJ k pc off ls r S = wJo k (jt pc off) ls r S := propext Iff.rfl
theorem e_wJo : wJo k (some t) ls r S = k t ls r S := propext Iff.rfl
theorem e_wIf_eq : wIf (cN .eq) (some t) k pc ls (.inl a :: r) S = ((a = 0 → k t ls r S) ∧ (¬ a = 0 → k (pc + 3) ls r S)) := propext Iff.rfl
theorem e_wIc_eq : wIc (cN .eq) (some t) k pc ls (.inl b :: .inl a :: r) S = ((a = b → k t ls r S) ∧ (¬ a = b → k (pc + 3) ls r S)) := propext Iff.rfl
theorem e_wIf_ne : wIf (cN .ne) (some t) k pc ls (.inl a :: r) S = ((¬ a = 0 → k t ls r S) ∧ (a = 0 → k (pc + 3) ls r S)) := propext Iff.rfl
theorem e_wIc_ne : wIc (cN .ne) (some t) k pc ls (.inl b :: .inl a :: r) S = ((¬ a = b → k t ls r S) ∧ (a = b → k (pc + 3) ls r S)) := propext Iff.rfl
theorem e_wIf_lt : wIf (cN .lt) (some t) k pc ls (.inl a :: r) S = ((a < 0 → k t ls r S) ∧ (¬ a < 0 → k (pc + 3) ls r S)) := propext Iff.rfl
theorem e_wIc_lt : wIc (cN .lt) (some t) k pc ls (.inl b :: .inl a :: r) S = ((a < b → k t ls r S) ∧ (¬ a < b → k (pc + 3) ls r S)) := propext Iff.rfl
theorem e_wIf_ge : wIf (cN .ge) (some t) k pc ls (.inl a :: r) S = ((0 ≤ a → k t ls r S) ∧ (¬ 0 ≤ a → k (pc + 3) ls r S)) := propext Iff.rfl
theorem e_wIc_ge : wIc (cN .ge) (some t) k pc ls (.inl b :: .inl a :: r) S = ((b ≤ a → k t ls r S) ∧ (¬ b ≤ a → k (pc + 3) ls r S)) := propext Iff.rfl
theorem e_wIf_gt : wIf (cN .gt) (some t) k pc ls (.inl a :: r) S = ((0 < a → k t ls r S) ∧ (¬ 0 < a → k (pc + 3) ls r S)) := propext Iff.rfl
theorem e_wIc_gt : wIc (cN .gt) (some t) k pc ls (.inl b :: .inl a :: r) S = ((b < a → k t ls r S) ∧ (¬ b < a → k (pc + 3) ls r S)) := propext Iff.rfl
theorem e_wIf_le : wIf (cN .le) (some t) k pc ls (.inl a :: r) S = ((a ≤ 0 → k t ls r S) ∧ (¬ a ≤ 0 → k (pc + 3) ls r S)) := propext Iff.rfl
theorem e_wIc_le : wIc (cN .le) (some t) k pc ls (.inl b :: .inl a :: r) S = ((a ≤ b → k t ls r S) ∧ (¬ a ≤ b → k (pc + 3) ls r S)) := propext Iff.rfl
theorem e_tsw {d lo hi : Int} {os : List Int} : wTsw d lo hi os k pc ls (.inl a :: r) S = ((hi - lo < os.length) ∧ (a < lo ∨ hi < a → wJ k pc d ls r S) ∧ tsw k pc a ls r S lo os) := propext Iff.rfl
theorem e_tsw0 : tsw k pc a ls r S v [] = True := propext Iff.rfl
theorem e_tsw1 {os : List Int} : tsw k pc a ls r S v (off :: os) = ((a = v → wJ k pc off ls r S) ∧ tsw k pc a ls r S (v + 1) os) := propext Iff.rfl
theorem e_lsw {d : Int} {ps : Array (Int × Int)} : wLsw d ps k pc ls (.inl a :: r) S = ((ps.toList.zip (ps.toList.drop 1)).all (fun (a, next) => a.1 < next.1) = true ∧ lsw k pc a ls r S d ps.toList) := propext Iff.rfl
theorem e_lsw0 {d : Int} : lsw k pc a ls r S d [] = wJ k pc d ls r S := propext Iff.rfl
theorem e_lsw1 {d : Int} {os : List (Int × Int)} : lsw k pc a ls r S d ((v, off) :: os) = ((a = v → wJ k pc off ls r S) ∧ (¬ a = v → lsw k pc a ls r S d os)) := propext Iff.rfl
theorem e_getI {ci f t : Nat} (h1 : t < aN) (h2 : lyC t = some ci) (h3 : lyF t f = some none) : wGet (some (ci, f)) k pc ls (.inr (.inr t) :: r) S = k pc ls (.inl (S.1 t f) :: r) S := by
  simp only [wGet, h1, h2, h3, true_and]
theorem e_getR {ci f t u : Nat} (h1 : t < aN) (h2 : lyC t = some ci) (h3 : lyF t f = some (some u)) : wGet (some (ci, f)) k pc ls (.inr (.inr t) :: r) S = k pc ls (.inr (.inr u) :: r) S := by
  simp only [wGet, h1, h2, h3, true_and]
theorem e_putI {ci f t : Nat} (h1 : t < aN) (h2 : lyC t = some ci) (h3 : lyF t f = some none) : wPut (some (ci, f)) k pc ls (.inl v :: .inr (.inr t) :: r) S = k pc ls r (upI S t f v) := by
  simp only [wPut, h1, h2, h3, true_and]
theorem e_ald {ts : Nat → Bool} {N : Int} (h1 : t < aN) (h2 : ts (lyT t) = true) (h3 : (lyN t : Int) = N) : wAld ts k pc ls (.inl a :: .inr (.inr t) :: r) S = (0 ≤ a ∧ a < N ∧ k pc ls (.inl (S.1 t a.toNat) :: r) S) := by
  simp only [wAld, h1, h2, ← h3, true_and]
theorem e_all {N : Int} (h1 : t < aN) (h2 : lyT t = 3) (h3 : (lyN t : Int) = N) : wAll k pc ls (.inl a :: .inr (.inr t) :: r) S = (0 ≤ a ∧ a < N ∧ k pc ls (.inr (.inl (S.2 t a.toNat)) :: r) S) := by
  simp only [wAll, h1, h2, ← h3, true_and]
theorem e_alr {N : Int} {b : Nat} (h1 : t < aN) (h2 : lyT t = 4 ∨ lyT t = 5) (h3 : (lyN t : Int) = N) (h4 : lyB t = b) : wAlr k pc ls (.inl a :: .inr (.inr t) :: r) S = (0 ≤ a ∧ a < N ∧ k pc ls (.inr (.inr (b + a.toNat)) :: r) S) := by
  simp only [wAlr, h1, h2, ← h3, h4, true_and]
theorem e_aln {N : Int} (h1 : t < aN) (h2 : lyT t < 6) (h3 : lyN t < 2000000) (h4 : (lyN t : Int) = N) : wAln k pc ls (.inr (.inr t) :: r) S = k pc ls (.inl N :: r) S := by
  simp only [wAln, h1, h2, h3, h4, true_and]
theorem e_ast {N : Int} (h1 : t < aN) (h2 : lyT t = 0) (h3 : (lyN t : Int) = N) : wAst k pc ls (.inl v :: .inl a :: .inr (.inr t) :: r) S = (0 ≤ a ∧ a < N ∧ k pc ls r (upI S t a.toNat v)) := by
  simp only [wAst, h1, h2, ← h3, true_and]
theorem e_bst {N : Int} (h1 : t < aN) (h2 : lyT t = 1) (h3 : (lyN t : Int) = N) : wBst k pc ls (.inl v :: .inl a :: .inr (.inr t) :: r) S = (0 ≤ a ∧ a < N ∧ k pc ls r (upI S t a.toNat (narB v))) := by
  simp only [wBst, h1, h2, ← h3, true_and]
  simp
theorem e_zst {N : Int} (h1 : t < aN) (h2 : lyT t = 2) (h3 : (lyN t : Int) = N) : wBst k pc ls (.inl v :: .inl a :: .inr (.inr t) :: r) S = (0 ≤ a ∧ a < N ∧ k pc ls r (upI S t a.toNat (narZ v))) := by
  simp only [wBst, h1, h2, ← h3, true_and]
  simp
theorem e_lst {N : Int} (h1 : t < aN) (h2 : lyT t = 3) (h3 : (lyN t : Int) = N) : wLst k pc ls (.inr (.inl v) :: .inl a :: .inr (.inr t) :: r) S = (0 ≤ a ∧ a < N ∧ k pc ls r (upL S t a.toNat v)) := by
  simp only [wLst, h1, h2, ← h3, true_and]
theorem e_pop0 {acc : List aV} : pop 0 acc stk = some (acc, stk) := rfl
theorem e_pop1 {acc : List aV} : pop (n + 1) acc (x :: stk) = pop n (x :: acc) stk := rfl
def wCallo (cr : Option Nat) (sp : aSp) (vt : Bool) (o : Option (List aV × List aV)) (k : aK) (pc : Nat) (ls : aL) (S : aS) : Prop := match o with
  | some (as, r) => few r = true ∧ (match cr, vt, as with
      | some c, true, .inr (.inr b) :: _ => b < aN ∧ lyC b = some c
      | none, false, _ => True
      | _, _, _ => False) ∧ sp as S (fun v S' => k pc ls (v.toList ++ r) S')
  | none => False
theorem e_call {cr : Option Nat} {sp : aSp} {vt : Bool} : wCall (some (cr, n, sp)) vt k pc ls stk S = wCallo cr sp vt (pop n [] stk) k pc ls S := propext Iff.rfl
theorem e_callV {c b : Nat} {sp : aSp} {as : List aV} (h1 : b < aN) (h2 : lyC b = some c) (h3 : few r = true) : wCallo (some c) sp true (some (.inr (.inr b) :: as, r)) k pc ls S = sp (.inr (.inr b) :: as) S (fun v S' => k pc ls (v.toList ++ r) S') := by
  simp only [wCallo, h1, h2, h3, true_and]
theorem e_callS {sp : aSp} {as : List aV} (h3 : few r = true) : wCallo none sp false (some (as, r)) k pc ls S = sp as S (fun v S' => k pc ls (v.toList ++ r) S') := by
  simp only [wCallo, h3, true_and]
theorem e_callS0 {sp : aSp} {as : List aV} : wCallo none sp false (some (as, [])) k pc ls S = sp as S (fun v S' => k pc ls (v.toList ++ []) S') := e_callS rfl
theorem e_callS1 {x : aV} {sp : aSp} {as : List aV} : wCallo none sp false (some (as, [x])) k pc ls S = sp as S (fun v S' => k pc ls (v.toList ++ [x]) S') := e_callS rfl
theorem e_callS2 {x y : aV} {sp : aSp} {as : List aV} : wCallo none sp false (some (as, [x, y])) k pc ls S = sp as S (fun v S' => k pc ls (v.toList ++ [x, y]) S') := e_callS rfl
theorem e_callS3 {x y z : aV} {sp : aSp} {as : List aV} : wCallo none sp false (some (as, [x, y, z])) k pc ls S = sp as S (fun v S' => k pc ls (v.toList ++ [x, y, z]) S') := e_callS rfl
theorem e_callS4 {x y z w : aV} {sp : aSp} {as : List aV} : wCallo none sp false (some (as, [x, y, z, w])) k pc ls S = sp as S (fun v S' => k pc ls (v.toList ++ [x, y, z, w]) S') := e_callS rfl
theorem few0 : few [] = true := rfl
theorem few1 {a : aV} : few [a] = true := rfl
theorem few2 {a b : aV} : few [a, b] = true := rfl
theorem few3 {a b c : aV} : few [a, b, c] = true := rfl
theorem few4 {a b c d : aV} : few [a, b, c, d] = true := rfl
theorem e_tl0 : (none : Option aV).toList ++ r = r := rfl
theorem e_tl1 : (some x).toList ++ r = x :: r := rfl
theorem e_ri : wRi (some .int) Q [.inl a] S = Q (some (.inl a)) S := propext Iff.rfl
theorem e_rz : wRi (some .boolean) Q [.inl a] S = ((a = 0 ∨ a = 1) ∧ Q (some (.inl a)) S) := propext Iff.rfl
theorem e_rl : wRl (some .long) Q [.inr (.inl a)] S = Q (some (.inr (.inl a))) S := propext Iff.rfl
theorem e_rv : wRv none Q [] S = Q none S := propext Iff.rfl
end EV
theorem f40 : ((0 : Fin 4) : Nat) = 0 := rfl
theorem f41 : ((1 : Fin 4) : Nat) = 1 := rfl
theorem f42 : ((2 : Fin 4) : Nat) = 2 := rfl
theorem f43 : ((3 : Fin 4) : Nat) = 3 := rfl
theorem lc0 : (Int64.ofNat ((0 : Fin 2) : Nat)).toInt = 0 := by decide
theorem lc1 : (Int64.ofNat ((1 : Fin 2) : Nat)).toInt = 1 := by decide
theorem wI_id {x : Int} (h : -2147483648 ≤ x) (h2 : x < 2147483648) : wI x = x := ofI_toInt ⟨h, h2⟩
theorem wL_id {x : Int} (h : -9223372036854775808 ≤ x) (h2 : x < 9223372036854775808) : wL x = x := ofL_toInt ⟨h, h2⟩
theorem up_hit {S : aS} {i j : Nat} {v : Int} : (upI S i j v).1 i j = v := by simp [upI, up2]
theorem up_cell {S : aS} {i j m : Nat} {v : Int} (h : ¬ m = j) : (upI S i j v).1 i m = S.1 i m := by simp [upI, up2, h]
theorem up_obj {S : aS} {i j m n : Nat} {v : Int} (h : ¬ n = i) : (upI S i j v).1 n m = S.1 n m := by
  simp [upI, up2, h]
theorem up_2 {S : aS} {i j : Nat} {v : Int} : (upI S i j v).2 = S.2 := rfl
theorem upL_hit {S : aS} {i j : Nat} {v : Int} : (upL S i j v).2 i j = v := by simp [upL, up2]
theorem upL_cell {S : aS} {i j m : Nat} {v : Int} (h : ¬ m = j) : (upL S i j v).2 i m = S.2 i m := by simp [upL, up2, h]
theorem upL_obj {S : aS} {i j m n : Nat} {v : Int} (h : ¬ n = i) : (upL S i j v).2 n m = S.2 n m := by
  simp [upL, up2, h]
theorem upL_1 {S : aS} {i j : Nat} {v : Int} : (upL S i j v).1 = S.1 := rfl
theorem ic_m1 : wI (-1) = (-1) := by decide
theorem ic_0 : wI 0 = 0 := by decide
theorem ic_1 : wI 1 = 1 := by decide
theorem ic_2 : wI 2 = 2 := by decide
theorem ic_3 : wI 3 = 3 := by decide
theorem ic_4 : wI 4 = 4 := by decide
theorem ic_5 : wI 5 = 5 := by decide
theorem bp_m2 : ((Int8.ofInt (-2)).toInt32).toInt = (-2) := by decide
theorem bp_8 : ((Int8.ofInt 8).toInt32).toInt = 8 := by decide
theorem bp_9 : ((Int8.ofInt 9).toInt32).toInt = 9 := by decide
theorem bp_10 : ((Int8.ofInt 10).toInt32).toInt = 10 := by decide
theorem bp_12 : ((Int8.ofInt 12).toInt32).toInt = 12 := by decide
theorem bp_20 : ((Int8.ofInt 20).toInt32).toInt = 20 := by decide
theorem bp_24 : ((Int8.ofInt 24).toInt32).toInt = 24 := by decide
theorem bp_30 : ((Int8.ofInt 30).toInt32).toInt = 30 := by decide
theorem bp_32 : ((Int8.ofInt 32).toInt32).toInt = 32 := by decide
theorem bp_40 : ((Int8.ofInt 40).toInt32).toInt = 40 := by decide
theorem bp_41 : ((Int8.ofInt 41).toInt32).toInt = 41 := by decide
theorem bp_43 : ((Int8.ofInt 43).toInt32).toInt = 43 := by decide
theorem bp_44 : ((Int8.ofInt 44).toInt32).toInt = 44 := by decide
theorem bp_45 : ((Int8.ofInt 45).toInt32).toInt = 45 := by decide
theorem bp_46 : ((Int8.ofInt 46).toInt32).toInt = 46 := by decide
theorem bp_48 : ((Int8.ofInt 48).toInt32).toInt = 48 := by decide
theorem bp_58 : ((Int8.ofInt 58).toInt32).toInt = 58 := by decide
theorem bp_60 : ((Int8.ofInt 60).toInt32).toInt = 60 := by decide
theorem bp_62 : ((Int8.ofInt 62).toInt32).toInt = 62 := by decide
theorem bp_64 : ((Int8.ofInt 64).toInt32).toInt = 64 := by decide
theorem bp_81 : ((Int8.ofInt 81).toInt32).toInt = 81 := by decide
theorem bp_96 : ((Int8.ofInt 96).toInt32).toInt = 96 := by decide
theorem bp_97 : ((Int8.ofInt 97).toInt32).toInt = 97 := by decide
theorem bp_120 : ((Int8.ofInt 120).toInt32).toInt = 120 := by decide
theorem bp_122 : ((Int8.ofInt 122).toInt32).toInt = 122 := by decide
theorem sp_255 : ((Int16.ofInt 255).toInt32).toInt = 255 := by decide
theorem sp_900 : ((Int16.ofInt 900).toInt32).toInt = 900 := by decide
theorem sp_960 : ((Int16.ofInt 960).toInt32).toInt = 960 := by decide
theorem sp_1000 : ((Int16.ofInt 1000).toInt32).toInt = 1000 := by decide
theorem sp_2000 : ((Int16.ofInt 2000).toInt32).toInt = 2000 := by decide
theorem sp_2001 : ((Int16.ofInt 2001).toInt32).toInt = 2001 := by decide
theorem sp_2560 : ((Int16.ofInt 2560).toInt32).toInt = 2560 := by decide
theorem sp_7200 : ((Int16.ofInt 7200).toInt32).toInt = 7200 := by decide
theorem sp_8000 : ((Int16.ofInt 8000).toInt32).toInt = 8000 := by decide
theorem sp_20000 : ((Int16.ofInt 20000).toInt32).toInt = 20000 := by decide
theorem jt_1_7 : jt 1 7 = some 8 := rfl
theorem jt_1_12 : jt 1 12 = some 13 := rfl
theorem jt_1_14 : jt 1 14 = some 15 := rfl
theorem jt_1_15 : jt 1 15 = some 16 := rfl
theorem jt_1_20 : jt 1 20 = some 21 := rfl
theorem jt_1_22 : jt 1 22 = some 23 := rfl
theorem jt_1_23 : jt 1 23 = some 24 := rfl
theorem jt_1_25 : jt 1 25 = some 26 := rfl
theorem jt_1_31 : jt 1 31 = some 32 := rfl
theorem jt_1_36 : jt 1 36 = some 37 := rfl
theorem jt_1_44 : jt 1 44 = some 45 := rfl
theorem jt_1_47 : jt 1 47 = some 48 := rfl
theorem jt_1_63 : jt 1 63 = some 64 := rfl
theorem jt_1_67 : jt 1 67 = some 68 := rfl
theorem jt_1_75 : jt 1 75 = some 76 := rfl
theorem jt_1_79 : jt 1 79 = some 80 := rfl
theorem jt_1_83 : jt 1 83 = some 84 := rfl
theorem jt_1_91 : jt 1 91 = some 92 := rfl
theorem jt_1_95 : jt 1 95 = some 96 := rfl
theorem jt_1_99 : jt 1 99 = some 100 := rfl
theorem jt_1_107 : jt 1 107 = some 108 := rfl
theorem jt_1_115 : jt 1 115 = some 116 := rfl
theorem jt_1_123 : jt 1 123 = some 124 := rfl
theorem jt_1_133 : jt 1 133 = some 134 := rfl
theorem jt_1_138 : jt 1 138 = some 139 := rfl
theorem jt_1_146 : jt 1 146 = some 147 := rfl
theorem jt_1_154 : jt 1 154 = some 155 := rfl
theorem jt_1_159 : jt 1 159 = some 160 := rfl
theorem jt_1_167 : jt 1 167 = some 168 := rfl
theorem jt_2_7 : jt 2 7 = some 9 := rfl
theorem jt_2_12 : jt 2 12 = some 14 := rfl
theorem jt_2_19 : jt 2 19 = some 21 := rfl
theorem jt_2_21 : jt 2 21 = some 23 := rfl
theorem jt_2_24 : jt 2 24 = some 26 := rfl
theorem jt_2_27 : jt 2 27 = some 29 := rfl
theorem jt_2_37 : jt 2 37 = some 39 := rfl
theorem jt_2_57 : jt 2 57 = some 59 := rfl
theorem jt_3_12 : jt 3 12 = some 15 := rfl
theorem jt_3_35 : jt 3 35 = some 38 := rfl
theorem jt_3_65 : jt 3 65 = some 68 := rfl
theorem jt_3_70 : jt 3 70 = some 73 := rfl
theorem jt_3_75 : jt 3 75 = some 78 := rfl
theorem jt_3_80 : jt 3 80 = some 83 := rfl
theorem jt_3_85 : jt 3 85 = some 88 := rfl
theorem jt_3_118 : jt 3 118 = some 121 := rfl
theorem jt_3_123 : jt 3 123 = some 126 := rfl
theorem jt_3_128 : jt 3 128 = some 131 := rfl
theorem jt_3_164 : jt 3 164 = some 167 := rfl
theorem jt_3_198 : jt 3 198 = some 201 := rfl
theorem jt_3_203 : jt 3 203 = some 206 := rfl
theorem jt_3_208 : jt 3 208 = some 211 := rfl
theorem jt_3_214 : jt 3 214 = some 217 := rfl
theorem jt_3_219 : jt 3 219 = some 222 := rfl
theorem jt_4_12 : jt 4 12 = some 16 := rfl
theorem jt_4_18 : jt 4 18 = some 22 := rfl
theorem jt_4_21 : jt 4 21 = some 25 := rfl
theorem jt_4_35 : jt 4 35 = some 39 := rfl
theorem jt_4_47 : jt 4 47 = some 51 := rfl
theorem jt_5_4 : jt 5 4 = some 9 := rfl
theorem jt_5_5 : jt 5 5 = some 10 := rfl
theorem jt_5_8 : jt 5 8 = some 13 := rfl
theorem jt_5_11 : jt 5 11 = some 16 := rfl
theorem jt_5_12 : jt 5 12 = some 17 := rfl
theorem jt_5_14 : jt 5 14 = some 19 := rfl
theorem jt_5_15 : jt 5 15 = some 20 := rfl
theorem jt_5_16 : jt 5 16 = some 21 := rfl
theorem jt_5_17 : jt 5 17 = some 22 := rfl
theorem jt_5_18 : jt 5 18 = some 23 := rfl
theorem jt_5_19 : jt 5 19 = some 24 := rfl
theorem jt_5_20 : jt 5 20 = some 25 := rfl
theorem jt_5_21 : jt 5 21 = some 26 := rfl
theorem jt_5_22 : jt 5 22 = some 27 := rfl
theorem jt_5_23 : jt 5 23 = some 28 := rfl
theorem jt_5_25 : jt 5 25 = some 30 := rfl
theorem jt_5_26 : jt 5 26 = some 31 := rfl
theorem jt_5_27 : jt 5 27 = some 32 := rfl
theorem jt_5_30 : jt 5 30 = some 35 := rfl
theorem jt_5_33 : jt 5 33 = some 38 := rfl
theorem jt_5_34 : jt 5 34 = some 39 := rfl
theorem jt_5_37 : jt 5 37 = some 42 := rfl
theorem jt_5_39 : jt 5 39 = some 44 := rfl
theorem jt_5_40 : jt 5 40 = some 45 := rfl
theorem jt_5_45 : jt 5 45 = some 50 := rfl
theorem jt_5_50 : jt 5 50 = some 55 := rfl
theorem jt_6_4 : jt 6 4 = some 10 := rfl
theorem jt_6_7 : jt 6 7 = some 13 := rfl
theorem jt_6_12 : jt 6 12 = some 18 := rfl
theorem jt_6_14 : jt 6 14 = some 20 := rfl
theorem jt_6_17 : jt 6 17 = some 23 := rfl
theorem jt_6_22 : jt 6 22 = some 28 := rfl
theorem jt_6_24 : jt 6 24 = some 30 := rfl
theorem jt_6_34 : jt 6 34 = some 40 := rfl
theorem jt_7_7 : jt 7 7 = some 14 := rfl
theorem jt_7_11 : jt 7 11 = some 18 := rfl
theorem jt_7_14 : jt 7 14 = some 21 := rfl
theorem jt_7_15 : jt 7 15 = some 22 := rfl
theorem jt_7_16 : jt 7 16 = some 23 := rfl
theorem jt_7_17 : jt 7 17 = some 24 := rfl
theorem jt_7_18 : jt 7 18 = some 25 := rfl
theorem jt_7_20 : jt 7 20 = some 27 := rfl
theorem jt_7_26 : jt 7 26 = some 33 := rfl
theorem jt_7_30 : jt 7 30 = some 37 := rfl
theorem jt_7_31 : jt 7 31 = some 38 := rfl
theorem jt_7_32 : jt 7 32 = some 39 := rfl
theorem jt_7_33 : jt 7 33 = some 40 := rfl
theorem jt_7_36 : jt 7 36 = some 43 := rfl
theorem jt_7_38 : jt 7 38 = some 45 := rfl
theorem jt_7_54 : jt 7 54 = some 61 := rfl
theorem jt_7_66 : jt 7 66 = some 73 := rfl
theorem jt_7_91 : jt 7 91 = some 98 := rfl
theorem jt_8_4 : jt 8 4 = some 12 := rfl
theorem jt_8_5 : jt 8 5 = some 13 := rfl
theorem jt_8_12 : jt 8 12 = some 20 := rfl
theorem jt_8_14 : jt 8 14 = some 22 := rfl
theorem jt_8_15 : jt 8 15 = some 23 := rfl
theorem jt_8_16 : jt 8 16 = some 24 := rfl
theorem jt_8_18 : jt 8 18 = some 26 := rfl
theorem jt_8_20 : jt 8 20 = some 28 := rfl
theorem jt_8_23 : jt 8 23 = some 31 := rfl
theorem jt_8_31 : jt 8 31 = some 39 := rfl
theorem jt_8_34 : jt 8 34 = some 42 := rfl
theorem jt_8_35 : jt 8 35 = some 43 := rfl
theorem jt_8_44 : jt 8 44 = some 52 := rfl
theorem jt_8_47 : jt 8 47 = some 55 := rfl
theorem jt_9_5 : jt 9 5 = some 14 := rfl
theorem jt_9_7 : jt 9 7 = some 16 := rfl
theorem jt_9_12 : jt 9 12 = some 21 := rfl
theorem jt_9_13 : jt 9 13 = some 22 := rfl
theorem jt_9_17 : jt 9 17 = some 26 := rfl
theorem jt_9_20 : jt 9 20 = some 29 := rfl
theorem jt_9_22 : jt 9 22 = some 31 := rfl
theorem jt_9_24 : jt 9 24 = some 33 := rfl
theorem jt_9_26 : jt 9 26 = some 35 := rfl
theorem jt_9_27 : jt 9 27 = some 36 := rfl
theorem jt_9_28 : jt 9 28 = some 37 := rfl
theorem jt_9_31 : jt 9 31 = some 40 := rfl
theorem jt_9_36 : jt 9 36 = some 45 := rfl
theorem jt_9_37 : jt 9 37 = some 46 := rfl
theorem jt_9_41 : jt 9 41 = some 50 := rfl
theorem jt_9_67 : jt 9 67 = some 76 := rfl
theorem jt_9_90 : jt 9 90 = some 99 := rfl
theorem jt_9_100 : jt 9 100 = some 109 := rfl
theorem jt_10_4 : jt 10 4 = some 14 := rfl
theorem jt_10_5 : jt 10 5 = some 15 := rfl
theorem jt_10_7 : jt 10 7 = some 17 := rfl
theorem jt_10_11 : jt 10 11 = some 21 := rfl
theorem jt_10_16 : jt 10 16 = some 26 := rfl
theorem jt_10_20 : jt 10 20 = some 30 := rfl
theorem jt_10_23 : jt 10 23 = some 33 := rfl
theorem jt_10_27 : jt 10 27 = some 37 := rfl
theorem jt_10_35 : jt 10 35 = some 45 := rfl
theorem jt_10_49 : jt 10 49 = some 59 := rfl
theorem jt_10_61 : jt 10 61 = some 71 := rfl
theorem jt_11_4 : jt 11 4 = some 15 := rfl
theorem jt_11_8 : jt 11 8 = some 19 := rfl
theorem jt_11_16 : jt 11 16 = some 27 := rfl
theorem jt_11_19 : jt 11 19 = some 30 := rfl
theorem jt_11_23 : jt 11 23 = some 34 := rfl
theorem jt_11_28 : jt 11 28 = some 39 := rfl
theorem jt_11_33 : jt 11 33 = some 44 := rfl
theorem jt_11_34 : jt 11 34 = some 45 := rfl
theorem jt_11_40 : jt 11 40 = some 51 := rfl
theorem jt_11_47 : jt 11 47 = some 58 := rfl
theorem jt_11_61 : jt 11 61 = some 72 := rfl
theorem jt_11_68 : jt 11 68 = some 79 := rfl
theorem jt_11_78 : jt 11 78 = some 89 := rfl
theorem jt_12_4 : jt 12 4 = some 16 := rfl
theorem jt_12_5 : jt 12 5 = some 17 := rfl
theorem jt_12_18 : jt 12 18 = some 30 := rfl
theorem jt_12_20 : jt 12 20 = some 32 := rfl
theorem jt_12_21 : jt 12 21 = some 33 := rfl
theorem jt_12_24 : jt 12 24 = some 36 := rfl
theorem jt_12_27 : jt 12 27 = some 39 := rfl
theorem jt_12_43 : jt 12 43 = some 55 := rfl
theorem jt_12_46 : jt 12 46 = some 58 := rfl
theorem jt_12_55 : jt 12 55 = some 67 := rfl
theorem jt_12_174 : jt 12 174 = some 186 := rfl
theorem jt_13_4 : jt 13 4 = some 17 := rfl
theorem jt_13_5 : jt 13 5 = some 18 := rfl
theorem jt_13_8 : jt 13 8 = some 21 := rfl
theorem jt_13_11 : jt 13 11 = some 24 := rfl
theorem jt_13_12 : jt 13 12 = some 25 := rfl
theorem jt_13_17 : jt 13 17 = some 30 := rfl
theorem jt_13_19 : jt 13 19 = some 32 := rfl
theorem jt_13_20 : jt 13 20 = some 33 := rfl
theorem jt_13_32 : jt 13 32 = some 45 := rfl
theorem jt_13_34 : jt 13 34 = some 47 := rfl
theorem jt_13_35 : jt 13 35 = some 48 := rfl
theorem jt_13_37 : jt 13 37 = some 50 := rfl
theorem jt_13_42 : jt 13 42 = some 55 := rfl
theorem jt_13_49 : jt 13 49 = some 62 := rfl
theorem jt_13_56 : jt 13 56 = some 69 := rfl
theorem jt_13_63 : jt 13 63 = some 76 := rfl
theorem jt_13_102 : jt 13 102 = some 115 := rfl
theorem jt_14_5 : jt 14 5 = some 19 := rfl
theorem jt_14_7 : jt 14 7 = some 21 := rfl
theorem jt_14_10 : jt 14 10 = some 24 := rfl
theorem jt_14_11 : jt 14 11 = some 25 := rfl
theorem jt_14_21 : jt 14 21 = some 35 := rfl
theorem jt_14_34 : jt 14 34 = some 48 := rfl
theorem jt_14_44 : jt 14 44 = some 58 := rfl
theorem jt_14_54 : jt 14 54 = some 68 := rfl
theorem jt_14_64 : jt 14 64 = some 78 := rfl
theorem jt_14_68 : jt 14 68 = some 82 := rfl
theorem jt_14_74 : jt 14 74 = some 88 := rfl
theorem jt_14_78 : jt 14 78 = some 92 := rfl
theorem jt_14_83 : jt 14 83 = some 97 := rfl
theorem jt_14_93 : jt 14 93 = some 107 := rfl
theorem jt_15_m13 : jt 15 (-13) = some 2 := rfl
theorem jt_15_5 : jt 15 5 = some 20 := rfl
theorem jt_15_6 : jt 15 6 = some 21 := rfl
theorem jt_15_7 : jt 15 7 = some 22 := rfl
theorem jt_15_9 : jt 15 9 = some 24 := rfl
theorem jt_15_16 : jt 15 16 = some 31 := rfl
theorem jt_15_17 : jt 15 17 = some 32 := rfl
theorem jt_15_30 : jt 15 30 = some 45 := rfl
theorem jt_15_36 : jt 15 36 = some 51 := rfl
theorem jt_15_37 : jt 15 37 = some 52 := rfl
theorem jt_15_41 : jt 15 41 = some 56 := rfl
theorem jt_15_62 : jt 15 62 = some 77 := rfl
theorem jt_16_4 : jt 16 4 = some 20 := rfl
theorem jt_16_7 : jt 16 7 = some 23 := rfl
theorem jt_16_9 : jt 16 9 = some 25 := rfl
theorem jt_16_10 : jt 16 10 = some 26 := rfl
theorem jt_16_16 : jt 16 16 = some 32 := rfl
theorem jt_16_35 : jt 16 35 = some 51 := rfl
theorem jt_17_5 : jt 17 5 = some 22 := rfl
theorem jt_17_6 : jt 17 6 = some 23 := rfl
theorem jt_17_7 : jt 17 7 = some 24 := rfl
theorem jt_17_8 : jt 17 8 = some 25 := rfl
theorem jt_17_10 : jt 17 10 = some 27 := rfl
theorem jt_17_11 : jt 17 11 = some 28 := rfl
theorem jt_17_14 : jt 17 14 = some 31 := rfl
theorem jt_17_15 : jt 17 15 = some 32 := rfl
theorem jt_17_17 : jt 17 17 = some 34 := rfl
theorem jt_17_22 : jt 17 22 = some 39 := rfl
theorem jt_17_23 : jt 17 23 = some 40 := rfl
theorem jt_17_37 : jt 17 37 = some 54 := rfl
theorem jt_17_38 : jt 17 38 = some 55 := rfl
theorem jt_17_63 : jt 17 63 = some 80 := rfl
theorem jt_17_70 : jt 17 70 = some 87 := rfl
theorem jt_17_75 : jt 17 75 = some 92 := rfl
theorem jt_17_77 : jt 17 77 = some 94 := rfl
theorem jt_17_83 : jt 17 83 = some 100 := rfl
theorem jt_17_88 : jt 17 88 = some 105 := rfl
theorem jt_17_104 : jt 17 104 = some 121 := rfl
theorem jt_17_120 : jt 17 120 = some 137 := rfl
theorem jt_17_136 : jt 17 136 = some 153 := rfl
theorem jt_17_152 : jt 17 152 = some 169 := rfl
theorem jt_17_169 : jt 17 169 = some 186 := rfl
theorem jt_17_175 : jt 17 175 = some 192 := rfl
theorem jt_17_181 : jt 17 181 = some 198 := rfl
theorem jt_17_187 : jt 17 187 = some 204 := rfl
theorem jt_18_4 : jt 18 4 = some 22 := rfl
theorem jt_18_5 : jt 18 5 = some 23 := rfl
theorem jt_18_11 : jt 18 11 = some 29 := rfl
theorem jt_18_12 : jt 18 12 = some 30 := rfl
theorem jt_18_13 : jt 18 13 = some 31 := rfl
theorem jt_18_26 : jt 18 26 = some 44 := rfl
theorem jt_18_27 : jt 18 27 = some 45 := rfl
theorem jt_18_37 : jt 18 37 = some 55 := rfl
theorem jt_18_41 : jt 18 41 = some 59 := rfl
theorem jt_19_m17 : jt 19 (-17) = some 2 := rfl
theorem jt_19_4 : jt 19 4 = some 23 := rfl
theorem jt_19_5 : jt 19 5 = some 24 := rfl
theorem jt_19_6 : jt 19 6 = some 25 := rfl
theorem jt_19_7 : jt 19 7 = some 26 := rfl
theorem jt_19_15 : jt 19 15 = some 34 := rfl
theorem jt_19_20 : jt 19 20 = some 39 := rfl
theorem jt_19_23 : jt 19 23 = some 42 := rfl
theorem jt_19_24 : jt 19 24 = some 43 := rfl
theorem jt_19_25 : jt 19 25 = some 44 := rfl
theorem jt_19_26 : jt 19 26 = some 45 := rfl
theorem jt_19_36 : jt 19 36 = some 55 := rfl
theorem jt_19_48 : jt 19 48 = some 67 := rfl
theorem jt_19_51 : jt 19 51 = some 70 := rfl
theorem jt_19_64 : jt 19 64 = some 83 := rfl
theorem jt_20_m16 : jt 20 (-16) = some 4 := rfl
theorem jt_20_4 : jt 20 4 = some 24 := rfl
theorem jt_20_6 : jt 20 6 = some 26 := rfl
theorem jt_20_7 : jt 20 7 = some 27 := rfl
theorem jt_20_11 : jt 20 11 = some 31 := rfl
theorem jt_20_15 : jt 20 15 = some 35 := rfl
theorem jt_20_17 : jt 20 17 = some 37 := rfl
theorem jt_20_27 : jt 20 27 = some 47 := rfl
theorem jt_20_40 : jt 20 40 = some 60 := rfl
theorem jt_21_m19 : jt 21 (-19) = some 2 := rfl
theorem jt_21_4 : jt 21 4 = some 25 := rfl
theorem jt_21_5 : jt 21 5 = some 26 := rfl
theorem jt_21_6 : jt 21 6 = some 27 := rfl
theorem jt_21_24 : jt 21 24 = some 45 := rfl
theorem jt_21_34 : jt 21 34 = some 55 := rfl
theorem jt_21_46 : jt 21 46 = some 67 := rfl
theorem jt_22_m20 : jt 22 (-20) = some 2 := rfl
theorem jt_22_5 : jt 22 5 = some 27 := rfl
theorem jt_22_6 : jt 22 6 = some 28 := rfl
theorem jt_22_15 : jt 22 15 = some 37 := rfl
theorem jt_22_40 : jt 22 40 = some 62 := rfl
theorem jt_23_m21 : jt 23 (-21) = some 2 := rfl
theorem jt_23_4 : jt 23 4 = some 27 := rfl
theorem jt_23_10 : jt 23 10 = some 33 := rfl
theorem jt_23_23 : jt 23 23 = some 46 := rfl
theorem jt_23_29 : jt 23 29 = some 52 := rfl
theorem jt_23_43 : jt 23 43 = some 66 := rfl
theorem jt_23_63 : jt 23 63 = some 86 := rfl
theorem jt_23_80 : jt 23 80 = some 103 := rfl
theorem jt_24_m20 : jt 24 (-20) = some 4 := rfl
theorem jt_24_4 : jt 24 4 = some 28 := rfl
theorem jt_24_7 : jt 24 7 = some 31 := rfl
theorem jt_24_11 : jt 24 11 = some 35 := rfl
theorem jt_24_15 : jt 24 15 = some 39 := rfl
theorem jt_24_17 : jt 24 17 = some 41 := rfl
theorem jt_24_19 : jt 24 19 = some 43 := rfl
theorem jt_24_23 : jt 24 23 = some 47 := rfl
theorem jt_24_27 : jt 24 27 = some 51 := rfl
theorem jt_24_53 : jt 24 53 = some 77 := rfl
theorem jt_25_5 : jt 25 5 = some 30 := rfl
theorem jt_25_6 : jt 25 6 = some 31 := rfl
theorem jt_25_7 : jt 25 7 = some 32 := rfl
theorem jt_25_10 : jt 25 10 = some 35 := rfl
theorem jt_25_23 : jt 25 23 = some 48 := rfl
theorem jt_25_27 : jt 25 27 = some 52 := rfl
theorem jt_25_37 : jt 25 37 = some 62 := rfl
theorem jt_25_47 : jt 25 47 = some 72 := rfl
theorem jt_25_49 : jt 25 49 = some 74 := rfl
theorem jt_25_155 : jt 25 155 = some 180 := rfl
theorem jt_26_m22 : jt 26 (-22) = some 4 := rfl
theorem jt_26_7 : jt 26 7 = some 33 := rfl
theorem jt_26_13 : jt 26 13 = some 39 := rfl
theorem jt_26_17 : jt 26 17 = some 43 := rfl
theorem jt_26_20 : jt 26 20 = some 46 := rfl
theorem jt_26_33 : jt 26 33 = some 59 := rfl
theorem jt_26_37 : jt 26 37 = some 63 := rfl
theorem jt_26_54 : jt 26 54 = some 80 := rfl
theorem jt_26_55 : jt 26 55 = some 81 := rfl
theorem jt_26_107 : jt 26 107 = some 133 := rfl
theorem jt_27_m25 : jt 27 (-25) = some 2 := rfl
theorem jt_27_m23 : jt 27 (-23) = some 4 := rfl
theorem jt_27_m19 : jt 27 (-19) = some 8 := rfl
theorem jt_27_5 : jt 27 5 = some 32 := rfl
theorem jt_27_7 : jt 27 7 = some 34 := rfl
theorem jt_27_12 : jt 27 12 = some 39 := rfl
theorem jt_28_m26 : jt 28 (-26) = some 2 := rfl
theorem jt_28_m24 : jt 28 (-24) = some 4 := rfl
theorem jt_28_4 : jt 28 4 = some 32 := rfl
theorem jt_28_5 : jt 28 5 = some 33 := rfl
theorem jt_28_6 : jt 28 6 = some 34 := rfl
theorem jt_28_12 : jt 28 12 = some 40 := rfl
theorem jt_28_22 : jt 28 22 = some 50 := rfl
theorem jt_28_27 : jt 28 27 = some 55 := rfl
theorem jt_28_34 : jt 28 34 = some 62 := rfl
theorem jt_28_49 : jt 28 49 = some 77 := rfl
theorem jt_28_66 : jt 28 66 = some 94 := rfl
theorem jt_29_m25 : jt 29 (-25) = some 4 := rfl
theorem jt_29_4 : jt 29 4 = some 33 := rfl
theorem jt_29_12 : jt 29 12 = some 41 := rfl
theorem jt_29_53 : jt 29 53 = some 82 := rfl
theorem jt_30_m28 : jt 30 (-28) = some 2 := rfl
theorem jt_30_m26 : jt 30 (-26) = some 4 := rfl
theorem jt_30_4 : jt 30 4 = some 34 := rfl
theorem jt_30_7 : jt 30 7 = some 37 := rfl
theorem jt_30_10 : jt 30 10 = some 40 := rfl
theorem jt_30_29 : jt 30 29 = some 59 := rfl
theorem jt_30_32 : jt 30 32 = some 62 := rfl
theorem jt_31_m26 : jt 31 (-26) = some 5 := rfl
theorem jt_31_4 : jt 31 4 = some 35 := rfl
theorem jt_31_13 : jt 31 13 = some 44 := rfl
theorem jt_31_39 : jt 31 39 = some 70 := rfl
theorem jt_32_m28 : jt 32 (-28) = some 4 := rfl
theorem jt_32_5 : jt 32 5 = some 37 := rfl
theorem jt_32_12 : jt 32 12 = some 44 := rfl
theorem jt_32_13 : jt 32 13 = some 45 := rfl
theorem jt_32_20 : jt 32 20 = some 52 := rfl
theorem jt_32_54 : jt 32 54 = some 86 := rfl
theorem jt_33_m29 : jt 33 (-29) = some 4 := rfl
theorem jt_33_5 : jt 33 5 = some 38 := rfl
theorem jt_33_6 : jt 33 6 = some 39 := rfl
theorem jt_33_7 : jt 33 7 = some 40 := rfl
theorem jt_33_12 : jt 33 12 = some 45 := rfl
theorem jt_33_13 : jt 33 13 = some 46 := rfl
theorem jt_33_22 : jt 33 22 = some 55 := rfl
theorem jt_33_26 : jt 33 26 = some 59 := rfl
theorem jt_33_34 : jt 33 34 = some 67 := rfl
theorem jt_33_61 : jt 33 61 = some 94 := rfl
theorem jt_34_m30 : jt 34 (-30) = some 4 := rfl
theorem jt_34_4 : jt 34 4 = some 38 := rfl
theorem jt_34_5 : jt 34 5 = some 39 := rfl
theorem jt_34_6 : jt 34 6 = some 40 := rfl
theorem jt_34_36 : jt 34 36 = some 70 := rfl
theorem jt_35_m33 : jt 35 (-33) = some 2 := rfl
theorem jt_35_16 : jt 35 16 = some 51 := rfl
theorem jt_35_33 : jt 35 33 = some 68 := rfl
theorem jt_35_141 : jt 35 141 = some 176 := rfl
theorem jt_36_m34 : jt 36 (-34) = some 2 := rfl
theorem jt_36_5 : jt 36 5 = some 41 := rfl
theorem jt_36_7 : jt 36 7 = some 43 := rfl
theorem jt_36_10 : jt 36 10 = some 46 := rfl
theorem jt_36_15 : jt 36 15 = some 51 := rfl
theorem jt_36_31 : jt 36 31 = some 67 := rfl
theorem jt_36_39 : jt 36 39 = some 75 := rfl
theorem jt_37_m35 : jt 37 (-35) = some 2 := rfl
theorem jt_37_m33 : jt 37 (-33) = some 4 := rfl
theorem jt_37_m32 : jt 37 (-32) = some 5 := rfl
theorem jt_37_4 : jt 37 4 = some 41 := rfl
theorem jt_37_5 : jt 37 5 = some 42 := rfl
theorem jt_37_7 : jt 37 7 = some 44 := rfl
theorem jt_37_25 : jt 37 25 = some 62 := rfl
theorem jt_37_72 : jt 37 72 = some 109 := rfl
theorem jt_38_5 : jt 38 5 = some 43 := rfl
theorem jt_38_7 : jt 38 7 = some 45 := rfl
theorem jt_38_18 : jt 38 18 = some 56 := rfl
theorem jt_38_58 : jt 38 58 = some 96 := rfl
theorem jt_39_m37 : jt 39 (-37) = some 2 := rfl
theorem jt_39_5 : jt 39 5 = some 44 := rfl
theorem jt_39_16 : jt 39 16 = some 55 := rfl
theorem jt_39_31 : jt 39 31 = some 70 := rfl
theorem jt_39_35 : jt 39 35 = some 74 := rfl
theorem jt_40_m36 : jt 40 (-36) = some 4 := rfl
theorem jt_40_4 : jt 40 4 = some 44 := rfl
theorem jt_40_7 : jt 40 7 = some 47 := rfl
theorem jt_40_14 : jt 40 14 = some 54 := rfl
theorem jt_40_15 : jt 40 15 = some 55 := rfl
theorem jt_40_20 : jt 40 20 = some 60 := rfl
theorem jt_40_31 : jt 40 31 = some 71 := rfl
theorem jt_41_m26 : jt 41 (-26) = some 15 := rfl
theorem jt_41_4 : jt 41 4 = some 45 := rfl
theorem jt_41_5 : jt 41 5 = some 46 := rfl
theorem jt_41_15 : jt 41 15 = some 56 := rfl
theorem jt_41_17 : jt 41 17 = some 58 := rfl
theorem jt_41_50 : jt 41 50 = some 91 := rfl
theorem jt_41_66 : jt 41 66 = some 107 := rfl
theorem jt_42_m37 : jt 42 (-37) = some 5 := rfl
theorem jt_42_m31 : jt 42 (-31) = some 11 := rfl
theorem jt_42_m22 : jt 42 (-22) = some 20 := rfl
theorem jt_42_4 : jt 42 4 = some 46 := rfl
theorem jt_42_5 : jt 42 5 = some 47 := rfl
theorem jt_42_8 : jt 42 8 = some 50 := rfl
theorem jt_42_10 : jt 42 10 = some 52 := rfl
theorem jt_42_13 : jt 42 13 = some 55 := rfl
theorem jt_42_16 : jt 42 16 = some 58 := rfl
theorem jt_42_44 : jt 42 44 = some 86 := rfl
theorem jt_43_m39 : jt 43 (-39) = some 4 := rfl
theorem jt_43_5 : jt 43 5 = some 48 := rfl
theorem jt_43_7 : jt 43 7 = some 50 := rfl
theorem jt_43_31 : jt 43 31 = some 74 := rfl
theorem jt_43_33 : jt 43 33 = some 76 := rfl
theorem jt_43_44 : jt 43 44 = some 87 := rfl
theorem jt_43_68 : jt 43 68 = some 111 := rfl
theorem jt_43_139 : jt 43 139 = some 182 := rfl
theorem jt_44_m37 : jt 44 (-37) = some 7 := rfl
theorem jt_44_5 : jt 44 5 = some 49 := rfl
theorem jt_44_7 : jt 44 7 = some 51 := rfl
theorem jt_44_17 : jt 44 17 = some 61 := rfl
theorem jt_44_33 : jt 44 33 = some 77 := rfl
theorem jt_45_m23 : jt 45 (-23) = some 22 := rfl
theorem jt_45_7 : jt 45 7 = some 52 := rfl
theorem jt_45_20 : jt 45 20 = some 65 := rfl
theorem jt_45_25 : jt 45 25 = some 70 := rfl
theorem jt_45_49 : jt 45 49 = some 94 := rfl
theorem jt_45_81 : jt 45 81 = some 126 := rfl
theorem jt_46_7 : jt 46 7 = some 53 := rfl
theorem jt_46_48 : jt 46 48 = some 94 := rfl
theorem jt_47_m44 : jt 47 (-44) = some 3 := rfl
theorem jt_47_4 : jt 47 4 = some 51 := rfl
theorem jt_47_16 : jt 47 16 = some 63 := rfl
theorem jt_47_20 : jt 47 20 = some 67 := rfl
theorem jt_48_m45 : jt 48 (-45) = some 3 := rfl
theorem jt_48_5 : jt 48 5 = some 53 := rfl
theorem jt_48_12 : jt 48 12 = some 60 := rfl
theorem jt_48_14 : jt 48 14 = some 62 := rfl
theorem jt_48_16 : jt 48 16 = some 64 := rfl
theorem jt_48_24 : jt 48 24 = some 72 := rfl
theorem jt_49_m42 : jt 49 (-42) = some 7 := rfl
theorem jt_49_m38 : jt 49 (-38) = some 11 := rfl
theorem jt_49_m13 : jt 49 (-13) = some 36 := rfl
theorem jt_49_6 : jt 49 6 = some 55 := rfl
theorem jt_49_11 : jt 49 11 = some 60 := rfl
theorem jt_49_12 : jt 49 12 = some 61 := rfl
theorem jt_49_13 : jt 49 13 = some 62 := rfl
theorem jt_49_15 : jt 49 15 = some 64 := rfl
theorem jt_49_22 : jt 49 22 = some 71 := rfl
theorem jt_50_4 : jt 50 4 = some 54 := rfl
theorem jt_50_14 : jt 50 14 = some 64 := rfl
theorem jt_51_m39 : jt 51 (-39) = some 12 := rfl
theorem jt_51_5 : jt 51 5 = some 56 := rfl
theorem jt_51_14 : jt 51 14 = some 65 := rfl
theorem jt_51_16 : jt 51 16 = some 67 := rfl
theorem jt_52_m48 : jt 52 (-48) = some 4 := rfl
theorem jt_52_5 : jt 52 5 = some 57 := rfl
theorem jt_52_7 : jt 52 7 = some 59 := rfl
theorem jt_52_33 : jt 52 33 = some 85 := rfl
theorem jt_52_34 : jt 52 34 = some 86 := rfl
theorem jt_52_39 : jt 52 39 = some 91 := rfl
theorem jt_53_m39 : jt 53 (-39) = some 14 := rfl
theorem jt_53_7 : jt 53 7 = some 60 := rfl
theorem jt_53_9 : jt 53 9 = some 62 := rfl
theorem jt_53_15 : jt 53 15 = some 68 := rfl
theorem jt_54_5 : jt 54 5 = some 59 := rfl
theorem jt_54_7 : jt 54 7 = some 61 := rfl
theorem jt_54_15 : jt 54 15 = some 69 := rfl
theorem jt_54_20 : jt 54 20 = some 74 := rfl
theorem jt_54_26 : jt 54 26 = some 80 := rfl
theorem jt_54_29 : jt 54 29 = some 83 := rfl
theorem jt_55_m51 : jt 55 (-51) = some 4 := rfl
theorem jt_55_m22 : jt 55 (-22) = some 33 := rfl
theorem jt_55_7 : jt 55 7 = some 62 := rfl
theorem jt_55_14 : jt 55 14 = some 69 := rfl
theorem jt_55_65 : jt 55 65 = some 120 := rfl
theorem jt_55_124 : jt 55 124 = some 179 := rfl
theorem jt_56_m51 : jt 56 (-51) = some 5 := rfl
theorem jt_56_4 : jt 56 4 = some 60 := rfl
theorem jt_56_12 : jt 56 12 = some 68 := rfl
theorem jt_56_15 : jt 56 15 = some 71 := rfl
theorem jt_57_m43 : jt 57 (-43) = some 14 := rfl
theorem jt_57_4 : jt 57 4 = some 61 := rfl
theorem jt_57_10 : jt 57 10 = some 67 := rfl
theorem jt_57_41 : jt 57 41 = some 98 := rfl
theorem jt_58_m55 : jt 58 (-55) = some 3 := rfl
theorem jt_58_4 : jt 58 4 = some 62 := rfl
theorem jt_58_16 : jt 58 16 = some 74 := rfl
theorem jt_59_m34 : jt 59 (-34) = some 25 := rfl
theorem jt_59_5 : jt 59 5 = some 64 := rfl
theorem jt_59_6 : jt 59 6 = some 65 := rfl
theorem jt_59_12 : jt 59 12 = some 71 := rfl
theorem jt_59_14 : jt 59 14 = some 73 := rfl
theorem jt_59_18 : jt 59 18 = some 77 := rfl
theorem jt_60_m39 : jt 60 (-39) = some 21 := rfl
theorem jt_60_5 : jt 60 5 = some 65 := rfl
theorem jt_60_7 : jt 60 7 = some 67 := rfl
theorem jt_60_29 : jt 60 29 = some 89 := rfl
theorem jt_61_6 : jt 61 6 = some 67 := rfl
theorem jt_61_12 : jt 61 12 = some 73 := rfl
theorem jt_62_m18 : jt 62 (-18) = some 44 := rfl
theorem jt_63_m48 : jt 63 (-48) = some 15 := rfl
theorem jt_63_5 : jt 63 5 = some 68 := rfl
theorem jt_63_6 : jt 63 6 = some 69 := rfl
theorem jt_63_7 : jt 63 7 = some 70 := rfl
theorem jt_63_61 : jt 63 61 = some 124 := rfl
theorem jt_63_71 : jt 63 71 = some 134 := rfl
theorem jt_63_81 : jt 63 81 = some 144 := rfl
theorem jt_63_91 : jt 63 91 = some 154 := rfl
theorem jt_63_101 : jt 63 101 = some 164 := rfl
theorem jt_63_111 : jt 63 111 = some 174 := rfl
theorem jt_63_120 : jt 63 120 = some 183 := rfl
theorem jt_63_129 : jt 63 129 = some 192 := rfl
theorem jt_64_5 : jt 64 5 = some 69 := rfl
theorem jt_64_7 : jt 64 7 = some 71 := rfl
theorem jt_64_10 : jt 64 10 = some 74 := rfl
theorem jt_64_42 : jt 64 42 = some 106 := rfl
theorem jt_65_m31 : jt 65 (-31) = some 34 := rfl
theorem jt_65_5 : jt 65 5 = some 70 := rfl
theorem jt_65_49 : jt 65 49 = some 114 := rfl
theorem jt_66_5 : jt 66 5 = some 71 := rfl
theorem jt_66_14 : jt 66 14 = some 80 := rfl
theorem jt_66_17 : jt 66 17 = some 83 := rfl
theorem jt_66_20 : jt 66 20 = some 86 := rfl
theorem jt_67_m33 : jt 67 (-33) = some 34 := rfl
theorem jt_67_4 : jt 67 4 = some 71 := rfl
theorem jt_68_m63 : jt 68 (-63) = some 5 := rfl
theorem jt_68_4 : jt 68 4 = some 72 := rfl
theorem jt_68_8 : jt 68 8 = some 76 := rfl
theorem jt_68_18 : jt 68 18 = some 86 := rfl
theorem jt_69_7 : jt 69 7 = some 76 := rfl
theorem jt_70_m67 : jt 70 (-67) = some 3 := rfl
theorem jt_70_m66 : jt 70 (-66) = some 4 := rfl
theorem jt_70_36 : jt 70 36 = some 106 := rfl
theorem jt_71_m51 : jt 71 (-51) = some 20 := rfl
theorem jt_71_m41 : jt 71 (-41) = some 30 := rfl
theorem jt_71_m31 : jt 71 (-31) = some 40 := rfl
theorem jt_71_11 : jt 71 11 = some 82 := rfl
theorem jt_72_m40 : jt 72 (-40) = some 32 := rfl
theorem jt_72_17 : jt 72 17 = some 89 := rfl
theorem jt_73_m69 : jt 73 (-69) = some 4 := rfl
theorem jt_73_m38 : jt 73 (-38) = some 35 := rfl
theorem jt_73_4 : jt 73 4 = some 77 := rfl
theorem jt_73_7 : jt 73 7 = some 80 := rfl
theorem jt_73_10 : jt 73 10 = some 83 := rfl
theorem jt_73_20 : jt 73 20 = some 93 := rfl
theorem jt_74_m62 : jt 74 (-62) = some 12 := rfl
theorem jt_74_7 : jt 74 7 = some 81 := rfl
theorem jt_74_9 : jt 74 9 = some 83 := rfl
theorem jt_74_24 : jt 74 24 = some 98 := rfl
theorem jt_75_28 : jt 75 28 = some 103 := rfl
theorem jt_76_7 : jt 76 7 = some 83 := rfl
theorem jt_76_8 : jt 76 8 = some 84 := rfl
theorem jt_77_m59 : jt 77 (-59) = some 18 := rfl
theorem jt_77_m28 : jt 77 (-28) = some 49 := rfl
theorem jt_77_4 : jt 77 4 = some 81 := rfl
theorem jt_77_7 : jt 77 7 = some 84 := rfl
theorem jt_78_m58 : jt 78 (-58) = some 20 := rfl
theorem jt_78_4 : jt 78 4 = some 82 := rfl
theorem jt_78_66 : jt 78 66 = some 144 := rfl
theorem jt_79_m58 : jt 79 (-58) = some 21 := rfl
theorem jt_79_10 : jt 79 10 = some 89 := rfl
theorem jt_79_29 : jt 79 29 = some 108 := rfl
theorem jt_80_m67 : jt 80 (-67) = some 13 := rfl
theorem jt_80_5 : jt 80 5 = some 85 := rfl
theorem jt_80_7 : jt 80 7 = some 87 := rfl
theorem jt_81_4 : jt 81 4 = some 85 := rfl
theorem jt_81_5 : jt 81 5 = some 86 := rfl
theorem jt_82_m38 : jt 82 (-38) = some 44 := rfl
theorem jt_82_5 : jt 82 5 = some 87 := rfl
theorem jt_82_70 : jt 82 70 = some 152 := rfl
theorem jt_83_57 : jt 83 57 = some 140 := rfl
theorem jt_84_4 : jt 84 4 = some 88 := rfl
theorem jt_85_28 : jt 85 28 = some 113 := rfl
theorem jt_85_35 : jt 85 35 = some 120 := rfl
theorem jt_86_m27 : jt 86 (-27) = some 59 := rfl
theorem jt_86_5 : jt 86 5 = some 91 := rfl
theorem jt_86_20 : jt 86 20 = some 106 := rfl
theorem jt_88_m51 : jt 88 (-51) = some 37 := rfl
theorem jt_88_12 : jt 88 12 = some 100 := rfl
theorem jt_89_m76 : jt 89 (-76) = some 13 := rfl
theorem jt_90_72 : jt 90 72 = some 162 := rfl
theorem jt_90_80 : jt 90 80 = some 170 := rfl
theorem jt_91_m67 : jt 91 (-67) = some 24 := rfl
theorem jt_91_7 : jt 91 7 = some 98 := rfl
theorem jt_92_20 : jt 92 20 = some 112 := rfl
theorem jt_92_35 : jt 92 35 = some 127 := rfl
theorem jt_93_m61 : jt 93 (-61) = some 32 := rfl
theorem jt_93_15 : jt 93 15 = some 108 := rfl
theorem jt_93_26 : jt 93 26 = some 119 := rfl
theorem jt_94_20 : jt 94 20 = some 114 := rfl
theorem jt_95_m91 : jt 95 (-91) = some 4 := rfl
theorem jt_95_4 : jt 95 4 = some 99 := rfl
theorem jt_96_m92 : jt 96 (-92) = some 4 := rfl
theorem jt_97_7 : jt 97 7 = some 104 := rfl
theorem jt_97_8 : jt 97 8 = some 105 := rfl
theorem jt_98_5 : jt 98 5 = some 103 := rfl
theorem jt_100_7 : jt 100 7 = some 107 := rfl
theorem jt_101_4 : jt 101 4 = some 105 := rfl
theorem jt_101_7 : jt 101 7 = some 108 := rfl
theorem jt_101_55 : jt 101 55 = some 156 := rfl
theorem jt_101_63 : jt 101 63 = some 164 := rfl
theorem jt_102_7 : jt 102 7 = some 109 := rfl
theorem jt_103_m41 : jt 103 (-41) = some 62 := rfl
theorem jt_103_7 : jt 103 7 = some 110 := rfl
theorem jt_104_m69 : jt 104 (-69) = some 35 := rfl
theorem jt_104_4 : jt 104 4 = some 108 := rfl
theorem jt_104_9 : jt 104 9 = some 113 := rfl
theorem jt_104_10 : jt 104 10 = some 114 := rfl
theorem jt_105_17 : jt 105 17 = some 122 := rfl
theorem jt_106_m103 : jt 106 (-103) = some 3 := rfl
theorem jt_106_m80 : jt 106 (-80) = some 26 := rfl
theorem jt_106_7 : jt 106 7 = some 113 := rfl
theorem jt_107_4 : jt 107 4 = some 111 := rfl
theorem jt_107_39 : jt 107 39 = some 146 := rfl
theorem jt_108_m67 : jt 108 (-67) = some 41 := rfl
theorem jt_108_19 : jt 108 19 = some 127 := rfl
theorem jt_109_7 : jt 109 7 = some 116 := rfl
theorem jt_109_13 : jt 109 13 = some 122 := rfl
theorem jt_110_m31 : jt 110 (-31) = some 79 := rfl
theorem jt_110_7 : jt 110 7 = some 117 := rfl
theorem jt_110_13 : jt 110 13 = some 123 := rfl
theorem jt_110_34 : jt 110 34 = some 144 := rfl
theorem jt_111_m51 : jt 111 (-51) = some 60 := rfl
theorem jt_112_6 : jt 112 6 = some 118 := rfl
theorem jt_112_7 : jt 112 7 = some 119 := rfl
theorem jt_113_6 : jt 113 6 = some 119 := rfl
theorem jt_113_7 : jt 113 7 = some 120 := rfl
theorem jt_114_7 : jt 114 7 = some 121 := rfl
theorem jt_114_21 : jt 114 21 = some 135 := rfl
theorem jt_115_49 : jt 115 49 = some 164 := rfl
theorem jt_116_m26 : jt 116 (-26) = some 90 := rfl
theorem jt_116_4 : jt 116 4 = some 120 := rfl
theorem jt_116_24 : jt 116 24 = some 140 := rfl
theorem jt_117_m67 : jt 117 (-67) = some 50 := rfl
theorem jt_117_m35 : jt 117 (-35) = some 82 := rfl
theorem jt_117_12 : jt 117 12 = some 129 := rfl
theorem jt_118_4 : jt 118 4 = some 122 := rfl
theorem jt_118_28 : jt 118 28 = some 146 := rfl
theorem jt_119_20 : jt 119 20 = some 139 := rfl
theorem jt_122_5 : jt 122 5 = some 127 := rfl
theorem jt_123_m83 : jt 123 (-83) = some 40 := rfl
theorem jt_124_4 : jt 124 4 = some 128 := rfl
theorem jt_124_17 : jt 124 17 = some 141 := rfl
theorem jt_125_7 : jt 125 7 = some 132 := rfl
theorem jt_126_8 : jt 126 8 = some 134 := rfl
theorem jt_129_7 : jt 129 7 = some 136 := rfl
theorem jt_130_m108 : jt 130 (-108) = some 22 := rfl
theorem jt_131_7 : jt 131 7 = some 138 := rfl
theorem jt_132_7 : jt 132 7 = some 139 := rfl
theorem jt_136_14 : jt 136 14 = some 150 := rfl
theorem jt_137_7 : jt 137 7 = some 144 := rfl
theorem jt_138_m19 : jt 138 (-19) = some 119 := rfl
theorem jt_138_27 : jt 138 27 = some 165 := rfl
theorem jt_141_4 : jt 141 4 = some 145 := rfl
theorem jt_141_7 : jt 141 7 = some 148 := rfl
theorem jt_145_7 : jt 145 7 = some 152 := rfl
theorem jt_146_12 : jt 146 12 = some 158 := rfl
theorem jt_149_m71 : jt 149 (-71) = some 78 := rfl
theorem jt_149_6 : jt 149 6 = some 155 := rfl
theorem jt_149_7 : jt 149 7 = some 156 := rfl
theorem jt_151_20 : jt 151 20 = some 171 := rfl
theorem jt_152_18 : jt 152 18 = some 170 := rfl
theorem jt_153_4 : jt 153 4 = some 157 := rfl
theorem jt_155_8 : jt 155 8 = some 163 := rfl
theorem jt_157_7 : jt 157 7 = some 164 := rfl
theorem jt_158_6 : jt 158 6 = some 164 := rfl
theorem jt_159_m72 : jt 159 (-72) = some 87 := rfl
theorem jt_160_7 : jt 160 7 = some 167 := rfl
theorem jt_161_7 : jt 161 7 = some 168 := rfl
theorem jt_162_m29 : jt 162 (-29) = some 133 := rfl
theorem jt_167_m83 : jt 167 (-83) = some 84 := rfl
theorem jt_167_31 : jt 167 31 = some 198 := rfl
theorem jt_168_5 : jt 168 5 = some 173 := rfl
theorem jt_173_m144 : jt 173 (-144) = some 29 := rfl
theorem jt_173_7 : jt 173 7 = some 180 := rfl
theorem jt_174_25 : jt 174 25 = some 199 := rfl
theorem jt_176_m126 : jt 176 (-126) = some 50 := rfl
theorem jt_177_8 : jt 177 8 = some 185 := rfl
theorem jt_178_8 : jt 178 8 = some 186 := rfl
theorem jt_178_14 : jt 178 14 = some 192 := rfl
theorem jt_179_m137 : jt 179 (-137) = some 42 := rfl
theorem jt_179_18 : jt 179 18 = some 197 := rfl
theorem jt_183_m176 : jt 183 (-176) = some 7 := rfl
theorem jt_183_4 : jt 183 4 = some 187 := rfl
theorem jt_183_7 : jt 183 7 = some 190 := rfl
theorem jt_187_4 : jt 187 4 = some 191 := rfl
theorem jt_194_4 : jt 194 4 = some 198 := rfl
theorem jt_195_m31 : jt 195 (-31) = some 164 := rfl
theorem jt_196_m27 : jt 196 (-27) = some 169 := rfl
theorem jt_225_25 : jt 225 25 = some 250 := rfl
theorem jt_236_14 : jt 236 14 = some 250 := rfl
theorem jt_247_4 : jt 247 4 = some 251 := rfl
theorem g_0_0 {k : aK} {pc : Nat} {ls : aL} {r : List aV} {S : aS} : wGet (some (11, 0)) k pc ls (.inr (.inr 0) :: r) S = k pc ls (.inr (.inr 1) :: r) S := e_getR (by decide) rfl rfl
theorem g_0_1 {k : aK} {pc : Nat} {ls : aL} {r : List aV} {S : aS} : wGet (some (11, 1)) k pc ls (.inr (.inr 0) :: r) S = k pc ls (.inr (.inr 3) :: r) S := e_getR (by decide) rfl rfl
theorem g_0_2 {k : aK} {pc : Nat} {ls : aL} {r : List aV} {S : aS} : wGet (some (11, 2)) k pc ls (.inr (.inr 0) :: r) S = k pc ls (.inr (.inr 11) :: r) S := e_getR (by decide) rfl rfl
theorem g_0_3 {k : aK} {pc : Nat} {ls : aL} {r : List aV} {S : aS} : wGet (some (11, 3)) k pc ls (.inr (.inr 0) :: r) S = k pc ls (.inr (.inr 14) :: r) S := e_getR (by decide) rfl rfl
theorem g_0_4 {k : aK} {pc : Nat} {ls : aL} {r : List aV} {S : aS} : wGet (some (11, 4)) k pc ls (.inr (.inr 0) :: r) S = k pc ls (.inr (.inr 81) :: r) S := e_getR (by decide) rfl rfl
theorem g_0_5 {k : aK} {pc : Nat} {ls : aL} {r : List aV} {S : aS} : wGet (some (11, 5)) k pc ls (.inr (.inr 0) :: r) S = k pc ls (.inr (.inr 208) :: r) S := e_getR (by decide) rfl rfl
theorem g_0_6 {k : aK} {pc : Nat} {ls : aL} {r : List aV} {S : aS} : wGet (some (11, 6)) k pc ls (.inr (.inr 0) :: r) S = k pc ls (.inr (.inr 211) :: r) S := e_getR (by decide) rfl rfl
theorem g_0_7 {k : aK} {pc : Nat} {ls : aL} {r : List aV} {S : aS} : wGet (some (11, 7)) k pc ls (.inr (.inr 0) :: r) S = k pc ls (.inr (.inr 219) :: r) S := e_getR (by decide) rfl rfl
theorem g_0_8 {k : aK} {pc : Nat} {ls : aL} {r : List aV} {S : aS} : wGet (some (11, 8)) k pc ls (.inr (.inr 0) :: r) S = k pc ls (.inr (.inr 222) :: r) S := e_getR (by decide) rfl rfl
theorem g_0_9 {k : aK} {pc : Nat} {ls : aL} {r : List aV} {S : aS} : wGet (some (11, 9)) k pc ls (.inr (.inr 0) :: r) S = k pc ls (.inr (.inr 242) :: r) S := e_getR (by decide) rfl rfl
theorem cv_0_0 {k : aK} {pc : Nat} {ls : aL} {S : aS} {sp : aSp} {as : List aV} : wCallo (some 11) sp true (some (.inr (.inr 0) :: as, [])) k pc ls S = sp (.inr (.inr 0) :: as) S (fun v S' => k pc ls (v.toList ++ []) S') := e_callV (by decide) rfl rfl
theorem cv_0_1 {k : aK} {pc : Nat} {ls : aL} {x : aV} {S : aS} {sp : aSp} {as : List aV} : wCallo (some 11) sp true (some (.inr (.inr 0) :: as, [x])) k pc ls S = sp (.inr (.inr 0) :: as) S (fun v S' => k pc ls (v.toList ++ [x]) S') := e_callV (by decide) rfl rfl
theorem cv_0_2 {k : aK} {pc : Nat} {ls : aL} {x y : aV} {S : aS} {sp : aSp} {as : List aV} : wCallo (some 11) sp true (some (.inr (.inr 0) :: as, [x, y])) k pc ls S = sp (.inr (.inr 0) :: as) S (fun v S' => k pc ls (v.toList ++ [x, y]) S') := e_callV (by decide) rfl rfl
theorem cv_0_3 {k : aK} {pc : Nat} {ls : aL} {x y z : aV} {S : aS} {sp : aSp} {as : List aV} : wCallo (some 11) sp true (some (.inr (.inr 0) :: as, [x, y, z])) k pc ls S = sp (.inr (.inr 0) :: as) S (fun v S' => k pc ls (v.toList ++ [x, y, z]) S') := e_callV (by decide) rfl rfl
theorem cv_0_4 {k : aK} {pc : Nat} {ls : aL} {x y z w : aV} {S : aS} {sp : aSp} {as : List aV} : wCallo (some 11) sp true (some (.inr (.inr 0) :: as, [x, y, z, w])) k pc ls S = sp (.inr (.inr 0) :: as) S (fun v S' => k pc ls (v.toList ++ [x, y, z, w]) S') := e_callV (by decide) rfl rfl
theorem g_1_0 {k : aK} {pc : Nat} {ls : aL} {r : List aV} {S : aS} : wGet (some (8, 0)) k pc ls (.inr (.inr 1) :: r) S = k pc ls (.inr (.inr 2) :: r) S := e_getR (by decide) rfl rfl
theorem g_1_1 {k : aK} {pc : Nat} {ls : aL} {r : List aV} {S : aS} : wGet (some (8, 1)) k pc ls (.inr (.inr 1) :: r) S = k pc ls (.inl (S.1 1 1) :: r) S := e_getI (by decide) rfl rfl
theorem p_1_1 {k : aK} {pc : Nat} {ls : aL} {r : List aV} {S : aS} {v : Int} : wPut (some (8, 1)) k pc ls (.inl v :: .inr (.inr 1) :: r) S = k pc ls r (upI S 1 1 v) := e_putI (by decide) rfl rfl
theorem cv_1_0 {k : aK} {pc : Nat} {ls : aL} {S : aS} {sp : aSp} {as : List aV} : wCallo (some 8) sp true (some (.inr (.inr 1) :: as, [])) k pc ls S = sp (.inr (.inr 1) :: as) S (fun v S' => k pc ls (v.toList ++ []) S') := e_callV (by decide) rfl rfl
theorem cv_1_1 {k : aK} {pc : Nat} {ls : aL} {x : aV} {S : aS} {sp : aSp} {as : List aV} : wCallo (some 8) sp true (some (.inr (.inr 1) :: as, [x])) k pc ls S = sp (.inr (.inr 1) :: as) S (fun v S' => k pc ls (v.toList ++ [x]) S') := e_callV (by decide) rfl rfl
theorem cv_1_2 {k : aK} {pc : Nat} {ls : aL} {x y : aV} {S : aS} {sp : aSp} {as : List aV} : wCallo (some 8) sp true (some (.inr (.inr 1) :: as, [x, y])) k pc ls S = sp (.inr (.inr 1) :: as) S (fun v S' => k pc ls (v.toList ++ [x, y]) S') := e_callV (by decide) rfl rfl
theorem cv_1_3 {k : aK} {pc : Nat} {ls : aL} {x y z : aV} {S : aS} {sp : aSp} {as : List aV} : wCallo (some 8) sp true (some (.inr (.inr 1) :: as, [x, y, z])) k pc ls S = sp (.inr (.inr 1) :: as) S (fun v S' => k pc ls (v.toList ++ [x, y, z]) S') := e_callV (by decide) rfl rfl
theorem cv_1_4 {k : aK} {pc : Nat} {ls : aL} {x y z w : aV} {S : aS} {sp : aSp} {as : List aV} : wCallo (some 8) sp true (some (.inr (.inr 1) :: as, [x, y, z, w])) k pc ls S = sp (.inr (.inr 1) :: as) S (fun v S' => k pc ls (v.toList ++ [x, y, z, w]) S') := e_callV (by decide) rfl rfl
theorem l_2 {k : aK} {pc : Nat} {ls : aL} {r : List aV} {S : aS} {a : Int} : wAld (fun t => t == 0) k pc ls (.inl a :: .inr (.inr 2) :: r) S = (0 ≤ a ∧ a < 40 ∧ k pc ls (.inl (S.1 2 a.toNat) :: r) S) := e_ald (by decide) rfl rfl
theorem s_2 {k : aK} {pc : Nat} {ls : aL} {r : List aV} {S : aS} {a v : Int} : wAst k pc ls (.inl v :: .inl a :: .inr (.inr 2) :: r) S = (0 ≤ a ∧ a < 40 ∧ k pc ls r (upI S 2 a.toNat v)) := e_ast (by decide) rfl rfl
theorem n_2 {k : aK} {pc : Nat} {ls : aL} {r : List aV} {S : aS} : wAln k pc ls (.inr (.inr 2) :: r) S = k pc ls (.inl 40 :: r) S := e_aln (by decide) (by decide) (by decide) rfl
theorem g_3_0 {k : aK} {pc : Nat} {ls : aL} {r : List aV} {S : aS} : wGet (some (0, 0)) k pc ls (.inr (.inr 3) :: r) S = k pc ls (.inr (.inr 4) :: r) S := e_getR (by decide) rfl rfl
theorem g_3_1 {k : aK} {pc : Nat} {ls : aL} {r : List aV} {S : aS} : wGet (some (0, 1)) k pc ls (.inr (.inr 3) :: r) S = k pc ls (.inr (.inr 5) :: r) S := e_getR (by decide) rfl rfl
theorem g_3_2 {k : aK} {pc : Nat} {ls : aL} {r : List aV} {S : aS} : wGet (some (0, 2)) k pc ls (.inr (.inr 3) :: r) S = k pc ls (.inr (.inr 6) :: r) S := e_getR (by decide) rfl rfl
theorem g_3_3 {k : aK} {pc : Nat} {ls : aL} {r : List aV} {S : aS} : wGet (some (0, 3)) k pc ls (.inr (.inr 3) :: r) S = k pc ls (.inr (.inr 7) :: r) S := e_getR (by decide) rfl rfl
theorem g_3_4 {k : aK} {pc : Nat} {ls : aL} {r : List aV} {S : aS} : wGet (some (0, 4)) k pc ls (.inr (.inr 3) :: r) S = k pc ls (.inr (.inr 8) :: r) S := e_getR (by decide) rfl rfl
theorem g_3_5 {k : aK} {pc : Nat} {ls : aL} {r : List aV} {S : aS} : wGet (some (0, 5)) k pc ls (.inr (.inr 3) :: r) S = k pc ls (.inr (.inr 9) :: r) S := e_getR (by decide) rfl rfl
theorem g_3_6 {k : aK} {pc : Nat} {ls : aL} {r : List aV} {S : aS} : wGet (some (0, 6)) k pc ls (.inr (.inr 3) :: r) S = k pc ls (.inr (.inr 10) :: r) S := e_getR (by decide) rfl rfl
theorem g_3_7 {k : aK} {pc : Nat} {ls : aL} {r : List aV} {S : aS} : wGet (some (0, 7)) k pc ls (.inr (.inr 3) :: r) S = k pc ls (.inl (S.1 3 7) :: r) S := e_getI (by decide) rfl rfl
theorem p_3_7 {k : aK} {pc : Nat} {ls : aL} {r : List aV} {S : aS} {v : Int} : wPut (some (0, 7)) k pc ls (.inl v :: .inr (.inr 3) :: r) S = k pc ls r (upI S 3 7 v) := e_putI (by decide) rfl rfl
theorem g_3_8 {k : aK} {pc : Nat} {ls : aL} {r : List aV} {S : aS} : wGet (some (0, 8)) k pc ls (.inr (.inr 3) :: r) S = k pc ls (.inl (S.1 3 8) :: r) S := e_getI (by decide) rfl rfl
theorem p_3_8 {k : aK} {pc : Nat} {ls : aL} {r : List aV} {S : aS} {v : Int} : wPut (some (0, 8)) k pc ls (.inl v :: .inr (.inr 3) :: r) S = k pc ls r (upI S 3 8 v) := e_putI (by decide) rfl rfl
theorem cv_3_0 {k : aK} {pc : Nat} {ls : aL} {S : aS} {sp : aSp} {as : List aV} : wCallo (some 0) sp true (some (.inr (.inr 3) :: as, [])) k pc ls S = sp (.inr (.inr 3) :: as) S (fun v S' => k pc ls (v.toList ++ []) S') := e_callV (by decide) rfl rfl
theorem cv_3_1 {k : aK} {pc : Nat} {ls : aL} {x : aV} {S : aS} {sp : aSp} {as : List aV} : wCallo (some 0) sp true (some (.inr (.inr 3) :: as, [x])) k pc ls S = sp (.inr (.inr 3) :: as) S (fun v S' => k pc ls (v.toList ++ [x]) S') := e_callV (by decide) rfl rfl
theorem cv_3_2 {k : aK} {pc : Nat} {ls : aL} {x y : aV} {S : aS} {sp : aSp} {as : List aV} : wCallo (some 0) sp true (some (.inr (.inr 3) :: as, [x, y])) k pc ls S = sp (.inr (.inr 3) :: as) S (fun v S' => k pc ls (v.toList ++ [x, y]) S') := e_callV (by decide) rfl rfl
theorem cv_3_3 {k : aK} {pc : Nat} {ls : aL} {x y z : aV} {S : aS} {sp : aSp} {as : List aV} : wCallo (some 0) sp true (some (.inr (.inr 3) :: as, [x, y, z])) k pc ls S = sp (.inr (.inr 3) :: as) S (fun v S' => k pc ls (v.toList ++ [x, y, z]) S') := e_callV (by decide) rfl rfl
theorem cv_3_4 {k : aK} {pc : Nat} {ls : aL} {x y z w : aV} {S : aS} {sp : aSp} {as : List aV} : wCallo (some 0) sp true (some (.inr (.inr 3) :: as, [x, y, z, w])) k pc ls S = sp (.inr (.inr 3) :: as) S (fun v S' => k pc ls (v.toList ++ [x, y, z, w]) S') := e_callV (by decide) rfl rfl
theorem l_4 {k : aK} {pc : Nat} {ls : aL} {r : List aV} {S : aS} {a : Int} : wAld (fun t => t == 0) k pc ls (.inl a :: .inr (.inr 4) :: r) S = (0 ≤ a ∧ a < 30 ∧ k pc ls (.inl (S.1 4 a.toNat) :: r) S) := e_ald (by decide) rfl rfl
theorem s_4 {k : aK} {pc : Nat} {ls : aL} {r : List aV} {S : aS} {a v : Int} : wAst k pc ls (.inl v :: .inl a :: .inr (.inr 4) :: r) S = (0 ≤ a ∧ a < 30 ∧ k pc ls r (upI S 4 a.toNat v)) := e_ast (by decide) rfl rfl
theorem n_4 {k : aK} {pc : Nat} {ls : aL} {r : List aV} {S : aS} : wAln k pc ls (.inr (.inr 4) :: r) S = k pc ls (.inl 30 :: r) S := e_aln (by decide) (by decide) (by decide) rfl
theorem l_5 {k : aK} {pc : Nat} {ls : aL} {r : List aV} {S : aS} {a : Int} : wAld (fun t => t == 0) k pc ls (.inl a :: .inr (.inr 5) :: r) S = (0 ≤ a ∧ a < 30 ∧ k pc ls (.inl (S.1 5 a.toNat) :: r) S) := e_ald (by decide) rfl rfl
theorem s_5 {k : aK} {pc : Nat} {ls : aL} {r : List aV} {S : aS} {a v : Int} : wAst k pc ls (.inl v :: .inl a :: .inr (.inr 5) :: r) S = (0 ≤ a ∧ a < 30 ∧ k pc ls r (upI S 5 a.toNat v)) := e_ast (by decide) rfl rfl
theorem n_5 {k : aK} {pc : Nat} {ls : aL} {r : List aV} {S : aS} : wAln k pc ls (.inr (.inr 5) :: r) S = k pc ls (.inl 30 :: r) S := e_aln (by decide) (by decide) (by decide) rfl
theorem l_6 {k : aK} {pc : Nat} {ls : aL} {r : List aV} {S : aS} {a : Int} : wAld (fun t => t == 0) k pc ls (.inl a :: .inr (.inr 6) :: r) S = (0 ≤ a ∧ a < 30 ∧ k pc ls (.inl (S.1 6 a.toNat) :: r) S) := e_ald (by decide) rfl rfl
theorem s_6 {k : aK} {pc : Nat} {ls : aL} {r : List aV} {S : aS} {a v : Int} : wAst k pc ls (.inl v :: .inl a :: .inr (.inr 6) :: r) S = (0 ≤ a ∧ a < 30 ∧ k pc ls r (upI S 6 a.toNat v)) := e_ast (by decide) rfl rfl
theorem n_6 {k : aK} {pc : Nat} {ls : aL} {r : List aV} {S : aS} : wAln k pc ls (.inr (.inr 6) :: r) S = k pc ls (.inl 30 :: r) S := e_aln (by decide) (by decide) (by decide) rfl
theorem l_7 {k : aK} {pc : Nat} {ls : aL} {r : List aV} {S : aS} {a : Int} : wAld (fun t => t == 0) k pc ls (.inl a :: .inr (.inr 7) :: r) S = (0 ≤ a ∧ a < 30 ∧ k pc ls (.inl (S.1 7 a.toNat) :: r) S) := e_ald (by decide) rfl rfl
theorem s_7 {k : aK} {pc : Nat} {ls : aL} {r : List aV} {S : aS} {a v : Int} : wAst k pc ls (.inl v :: .inl a :: .inr (.inr 7) :: r) S = (0 ≤ a ∧ a < 30 ∧ k pc ls r (upI S 7 a.toNat v)) := e_ast (by decide) rfl rfl
theorem n_7 {k : aK} {pc : Nat} {ls : aL} {r : List aV} {S : aS} : wAln k pc ls (.inr (.inr 7) :: r) S = k pc ls (.inl 30 :: r) S := e_aln (by decide) (by decide) (by decide) rfl
theorem l_8 {k : aK} {pc : Nat} {ls : aL} {r : List aV} {S : aS} {a : Int} : wAld (fun t => t == 0) k pc ls (.inl a :: .inr (.inr 8) :: r) S = (0 ≤ a ∧ a < 30 ∧ k pc ls (.inl (S.1 8 a.toNat) :: r) S) := e_ald (by decide) rfl rfl
theorem s_8 {k : aK} {pc : Nat} {ls : aL} {r : List aV} {S : aS} {a v : Int} : wAst k pc ls (.inl v :: .inl a :: .inr (.inr 8) :: r) S = (0 ≤ a ∧ a < 30 ∧ k pc ls r (upI S 8 a.toNat v)) := e_ast (by decide) rfl rfl
theorem n_8 {k : aK} {pc : Nat} {ls : aL} {r : List aV} {S : aS} : wAln k pc ls (.inr (.inr 8) :: r) S = k pc ls (.inl 30 :: r) S := e_aln (by decide) (by decide) (by decide) rfl
theorem l_9 {k : aK} {pc : Nat} {ls : aL} {r : List aV} {S : aS} {a : Int} : wAld (fun t => t == 0) k pc ls (.inl a :: .inr (.inr 9) :: r) S = (0 ≤ a ∧ a < 60 ∧ k pc ls (.inl (S.1 9 a.toNat) :: r) S) := e_ald (by decide) rfl rfl
theorem s_9 {k : aK} {pc : Nat} {ls : aL} {r : List aV} {S : aS} {a v : Int} : wAst k pc ls (.inl v :: .inl a :: .inr (.inr 9) :: r) S = (0 ≤ a ∧ a < 60 ∧ k pc ls r (upI S 9 a.toNat v)) := e_ast (by decide) rfl rfl
theorem n_9 {k : aK} {pc : Nat} {ls : aL} {r : List aV} {S : aS} : wAln k pc ls (.inr (.inr 9) :: r) S = k pc ls (.inl 60 :: r) S := e_aln (by decide) (by decide) (by decide) rfl
theorem l_10 {k : aK} {pc : Nat} {ls : aL} {r : List aV} {S : aS} {a : Int} : wAld (fun t => t == 0) k pc ls (.inl a :: .inr (.inr 10) :: r) S = (0 ≤ a ∧ a < 60 ∧ k pc ls (.inl (S.1 10 a.toNat) :: r) S) := e_ald (by decide) rfl rfl
theorem s_10 {k : aK} {pc : Nat} {ls : aL} {r : List aV} {S : aS} {a v : Int} : wAst k pc ls (.inl v :: .inl a :: .inr (.inr 10) :: r) S = (0 ≤ a ∧ a < 60 ∧ k pc ls r (upI S 10 a.toNat v)) := e_ast (by decide) rfl rfl
theorem n_10 {k : aK} {pc : Nat} {ls : aL} {r : List aV} {S : aS} : wAln k pc ls (.inr (.inr 10) :: r) S = k pc ls (.inl 60 :: r) S := e_aln (by decide) (by decide) (by decide) rfl
theorem g_11_0 {k : aK} {pc : Nat} {ls : aL} {r : List aV} {S : aS} : wGet (some (5, 0)) k pc ls (.inr (.inr 11) :: r) S = k pc ls (.inr (.inr 12) :: r) S := e_getR (by decide) rfl rfl
theorem g_11_1 {k : aK} {pc : Nat} {ls : aL} {r : List aV} {S : aS} : wGet (some (5, 1)) k pc ls (.inr (.inr 11) :: r) S = k pc ls (.inr (.inr 13) :: r) S := e_getR (by decide) rfl rfl
theorem g_11_2 {k : aK} {pc : Nat} {ls : aL} {r : List aV} {S : aS} : wGet (some (5, 2)) k pc ls (.inr (.inr 11) :: r) S = k pc ls (.inl (S.1 11 2) :: r) S := e_getI (by decide) rfl rfl
theorem p_11_2 {k : aK} {pc : Nat} {ls : aL} {r : List aV} {S : aS} {v : Int} : wPut (some (5, 2)) k pc ls (.inl v :: .inr (.inr 11) :: r) S = k pc ls r (upI S 11 2 v) := e_putI (by decide) rfl rfl
theorem cv_11_0 {k : aK} {pc : Nat} {ls : aL} {S : aS} {sp : aSp} {as : List aV} : wCallo (some 5) sp true (some (.inr (.inr 11) :: as, [])) k pc ls S = sp (.inr (.inr 11) :: as) S (fun v S' => k pc ls (v.toList ++ []) S') := e_callV (by decide) rfl rfl
theorem cv_11_1 {k : aK} {pc : Nat} {ls : aL} {x : aV} {S : aS} {sp : aSp} {as : List aV} : wCallo (some 5) sp true (some (.inr (.inr 11) :: as, [x])) k pc ls S = sp (.inr (.inr 11) :: as) S (fun v S' => k pc ls (v.toList ++ [x]) S') := e_callV (by decide) rfl rfl
theorem cv_11_2 {k : aK} {pc : Nat} {ls : aL} {x y : aV} {S : aS} {sp : aSp} {as : List aV} : wCallo (some 5) sp true (some (.inr (.inr 11) :: as, [x, y])) k pc ls S = sp (.inr (.inr 11) :: as) S (fun v S' => k pc ls (v.toList ++ [x, y]) S') := e_callV (by decide) rfl rfl
theorem cv_11_3 {k : aK} {pc : Nat} {ls : aL} {x y z : aV} {S : aS} {sp : aSp} {as : List aV} : wCallo (some 5) sp true (some (.inr (.inr 11) :: as, [x, y, z])) k pc ls S = sp (.inr (.inr 11) :: as) S (fun v S' => k pc ls (v.toList ++ [x, y, z]) S') := e_callV (by decide) rfl rfl
theorem cv_11_4 {k : aK} {pc : Nat} {ls : aL} {x y z w : aV} {S : aS} {sp : aSp} {as : List aV} : wCallo (some 5) sp true (some (.inr (.inr 11) :: as, [x, y, z, w])) k pc ls S = sp (.inr (.inr 11) :: as) S (fun v S' => k pc ls (v.toList ++ [x, y, z, w]) S') := e_callV (by decide) rfl rfl
theorem l_12 {k : aK} {pc : Nat} {ls : aL} {r : List aV} {S : aS} {a : Int} : wAll k pc ls (.inl a :: .inr (.inr 12) :: r) S = (0 ≤ a ∧ a < 10 ∧ k pc ls (.inr (.inl (S.2 12 a.toNat)) :: r) S) := e_all (by decide) rfl rfl
theorem s_12 {k : aK} {pc : Nat} {ls : aL} {r : List aV} {S : aS} {a v : Int} : wLst k pc ls (.inr (.inl v) :: .inl a :: .inr (.inr 12) :: r) S = (0 ≤ a ∧ a < 10 ∧ k pc ls r (upL S 12 a.toNat v)) := e_lst (by decide) rfl rfl
theorem n_12 {k : aK} {pc : Nat} {ls : aL} {r : List aV} {S : aS} : wAln k pc ls (.inr (.inr 12) :: r) S = k pc ls (.inl 10 :: r) S := e_aln (by decide) (by decide) (by decide) rfl
theorem l_13 {k : aK} {pc : Nat} {ls : aL} {r : List aV} {S : aS} {a : Int} : wAll k pc ls (.inl a :: .inr (.inr 13) :: r) S = (0 ≤ a ∧ a < 10 ∧ k pc ls (.inr (.inl (S.2 13 a.toNat)) :: r) S) := e_all (by decide) rfl rfl
theorem s_13 {k : aK} {pc : Nat} {ls : aL} {r : List aV} {S : aS} {a v : Int} : wLst k pc ls (.inr (.inl v) :: .inl a :: .inr (.inr 13) :: r) S = (0 ≤ a ∧ a < 10 ∧ k pc ls r (upL S 13 a.toNat v)) := e_lst (by decide) rfl rfl
theorem n_13 {k : aK} {pc : Nat} {ls : aL} {r : List aV} {S : aS} : wAln k pc ls (.inr (.inr 13) :: r) S = k pc ls (.inl 10 :: r) S := e_aln (by decide) (by decide) (by decide) rfl
theorem g_14_0 {k : aK} {pc : Nat} {ls : aL} {r : List aV} {S : aS} : wGet (some (2, 0)) k pc ls (.inr (.inr 14) :: r) S = k pc ls (.inr (.inr 15) :: r) S := e_getR (by decide) rfl rfl
theorem g_14_1 {k : aK} {pc : Nat} {ls : aL} {r : List aV} {S : aS} : wGet (some (2, 1)) k pc ls (.inr (.inr 14) :: r) S = k pc ls (.inr (.inr 16) :: r) S := e_getR (by decide) rfl rfl
theorem g_14_2 {k : aK} {pc : Nat} {ls : aL} {r : List aV} {S : aS} : wGet (some (2, 2)) k pc ls (.inr (.inr 14) :: r) S = k pc ls (.inr (.inr 17) :: r) S := e_getR (by decide) rfl rfl
theorem g_14_3 {k : aK} {pc : Nat} {ls : aL} {r : List aV} {S : aS} : wGet (some (2, 3)) k pc ls (.inr (.inr 14) :: r) S = k pc ls (.inr (.inr 18) :: r) S := e_getR (by decide) rfl rfl
theorem g_14_4 {k : aK} {pc : Nat} {ls : aL} {r : List aV} {S : aS} : wGet (some (2, 4)) k pc ls (.inr (.inr 14) :: r) S = k pc ls (.inl (S.1 14 4) :: r) S := e_getI (by decide) rfl rfl
theorem p_14_4 {k : aK} {pc : Nat} {ls : aL} {r : List aV} {S : aS} {v : Int} : wPut (some (2, 4)) k pc ls (.inl v :: .inr (.inr 14) :: r) S = k pc ls r (upI S 14 4 v) := e_putI (by decide) rfl rfl
theorem cv_14_0 {k : aK} {pc : Nat} {ls : aL} {S : aS} {sp : aSp} {as : List aV} : wCallo (some 2) sp true (some (.inr (.inr 14) :: as, [])) k pc ls S = sp (.inr (.inr 14) :: as) S (fun v S' => k pc ls (v.toList ++ []) S') := e_callV (by decide) rfl rfl
theorem cv_14_1 {k : aK} {pc : Nat} {ls : aL} {x : aV} {S : aS} {sp : aSp} {as : List aV} : wCallo (some 2) sp true (some (.inr (.inr 14) :: as, [x])) k pc ls S = sp (.inr (.inr 14) :: as) S (fun v S' => k pc ls (v.toList ++ [x]) S') := e_callV (by decide) rfl rfl
theorem cv_14_2 {k : aK} {pc : Nat} {ls : aL} {x y : aV} {S : aS} {sp : aSp} {as : List aV} : wCallo (some 2) sp true (some (.inr (.inr 14) :: as, [x, y])) k pc ls S = sp (.inr (.inr 14) :: as) S (fun v S' => k pc ls (v.toList ++ [x, y]) S') := e_callV (by decide) rfl rfl
theorem cv_14_3 {k : aK} {pc : Nat} {ls : aL} {x y z : aV} {S : aS} {sp : aSp} {as : List aV} : wCallo (some 2) sp true (some (.inr (.inr 14) :: as, [x, y, z])) k pc ls S = sp (.inr (.inr 14) :: as) S (fun v S' => k pc ls (v.toList ++ [x, y, z]) S') := e_callV (by decide) rfl rfl
theorem cv_14_4 {k : aK} {pc : Nat} {ls : aL} {x y z w : aV} {S : aS} {sp : aSp} {as : List aV} : wCallo (some 2) sp true (some (.inr (.inr 14) :: as, [x, y, z, w])) k pc ls S = sp (.inr (.inr 14) :: as) S (fun v S' => k pc ls (v.toList ++ [x, y, z, w]) S') := e_callV (by decide) rfl rfl
theorem l_15 {k : aK} {pc : Nat} {ls : aL} {r : List aV} {S : aS} {a : Int} : wAld (fun t => t == 0) k pc ls (.inl a :: .inr (.inr 15) :: r) S = (0 ≤ a ∧ a < 12 ∧ k pc ls (.inl (S.1 15 a.toNat) :: r) S) := e_ald (by decide) rfl rfl
theorem s_15 {k : aK} {pc : Nat} {ls : aL} {r : List aV} {S : aS} {a v : Int} : wAst k pc ls (.inl v :: .inl a :: .inr (.inr 15) :: r) S = (0 ≤ a ∧ a < 12 ∧ k pc ls r (upI S 15 a.toNat v)) := e_ast (by decide) rfl rfl
theorem n_15 {k : aK} {pc : Nat} {ls : aL} {r : List aV} {S : aS} : wAln k pc ls (.inr (.inr 15) :: r) S = k pc ls (.inl 12 :: r) S := e_aln (by decide) (by decide) (by decide) rfl
theorem l_16 {k : aK} {pc : Nat} {ls : aL} {r : List aV} {S : aS} {a : Int} : wAld (fun t => t == 0) k pc ls (.inl a :: .inr (.inr 16) :: r) S = (0 ≤ a ∧ a < 60 ∧ k pc ls (.inl (S.1 16 a.toNat) :: r) S) := e_ald (by decide) rfl rfl
theorem s_16 {k : aK} {pc : Nat} {ls : aL} {r : List aV} {S : aS} {a v : Int} : wAst k pc ls (.inl v :: .inl a :: .inr (.inr 16) :: r) S = (0 ≤ a ∧ a < 60 ∧ k pc ls r (upI S 16 a.toNat v)) := e_ast (by decide) rfl rfl
theorem n_16 {k : aK} {pc : Nat} {ls : aL} {r : List aV} {S : aS} : wAln k pc ls (.inr (.inr 16) :: r) S = k pc ls (.inl 60 :: r) S := e_aln (by decide) (by decide) (by decide) rfl
theorem l_17 {k : aK} {pc : Nat} {ls : aL} {r : List aV} {S : aS} {a : Int} : wAld (fun t => t == 0) k pc ls (.inl a :: .inr (.inr 17) :: r) S = (0 ≤ a ∧ a < 60 ∧ k pc ls (.inl (S.1 17 a.toNat) :: r) S) := e_ald (by decide) rfl rfl
theorem s_17 {k : aK} {pc : Nat} {ls : aL} {r : List aV} {S : aS} {a v : Int} : wAst k pc ls (.inl v :: .inl a :: .inr (.inr 17) :: r) S = (0 ≤ a ∧ a < 60 ∧ k pc ls r (upI S 17 a.toNat v)) := e_ast (by decide) rfl rfl
theorem n_17 {k : aK} {pc : Nat} {ls : aL} {r : List aV} {S : aS} : wAln k pc ls (.inr (.inr 17) :: r) S = k pc ls (.inl 60 :: r) S := e_aln (by decide) (by decide) (by decide) rfl
theorem g_18_0 {k : aK} {pc : Nat} {ls : aL} {r : List aV} {S : aS} : wGet (some (10, 0)) k pc ls (.inr (.inr 18) :: r) S = k pc ls (.inr (.inr 11) :: r) S := e_getR (by decide) rfl rfl
theorem g_18_1 {k : aK} {pc : Nat} {ls : aL} {r : List aV} {S : aS} : wGet (some (10, 1)) k pc ls (.inr (.inr 18) :: r) S = k pc ls (.inl (S.1 18 1) :: r) S := e_getI (by decide) rfl rfl
theorem p_18_1 {k : aK} {pc : Nat} {ls : aL} {r : List aV} {S : aS} {v : Int} : wPut (some (10, 1)) k pc ls (.inl v :: .inr (.inr 18) :: r) S = k pc ls r (upI S 18 1 v) := e_putI (by decide) rfl rfl
theorem g_18_2 {k : aK} {pc : Nat} {ls : aL} {r : List aV} {S : aS} : wGet (some (10, 2)) k pc ls (.inr (.inr 18) :: r) S = k pc ls (.inr (.inr 19) :: r) S := e_getR (by decide) rfl rfl
theorem g_18_3 {k : aK} {pc : Nat} {ls : aL} {r : List aV} {S : aS} : wGet (some (10, 3)) k pc ls (.inr (.inr 18) :: r) S = k pc ls (.inr (.inr 80) :: r) S := e_getR (by decide) rfl rfl
theorem cv_18_0 {k : aK} {pc : Nat} {ls : aL} {S : aS} {sp : aSp} {as : List aV} : wCallo (some 10) sp true (some (.inr (.inr 18) :: as, [])) k pc ls S = sp (.inr (.inr 18) :: as) S (fun v S' => k pc ls (v.toList ++ []) S') := e_callV (by decide) rfl rfl
theorem cv_18_1 {k : aK} {pc : Nat} {ls : aL} {x : aV} {S : aS} {sp : aSp} {as : List aV} : wCallo (some 10) sp true (some (.inr (.inr 18) :: as, [x])) k pc ls S = sp (.inr (.inr 18) :: as) S (fun v S' => k pc ls (v.toList ++ [x]) S') := e_callV (by decide) rfl rfl
theorem cv_18_2 {k : aK} {pc : Nat} {ls : aL} {x y : aV} {S : aS} {sp : aSp} {as : List aV} : wCallo (some 10) sp true (some (.inr (.inr 18) :: as, [x, y])) k pc ls S = sp (.inr (.inr 18) :: as) S (fun v S' => k pc ls (v.toList ++ [x, y]) S') := e_callV (by decide) rfl rfl
theorem cv_18_3 {k : aK} {pc : Nat} {ls : aL} {x y z : aV} {S : aS} {sp : aSp} {as : List aV} : wCallo (some 10) sp true (some (.inr (.inr 18) :: as, [x, y, z])) k pc ls S = sp (.inr (.inr 18) :: as) S (fun v S' => k pc ls (v.toList ++ [x, y, z]) S') := e_callV (by decide) rfl rfl
theorem cv_18_4 {k : aK} {pc : Nat} {ls : aL} {x y z w : aV} {S : aS} {sp : aSp} {as : List aV} : wCallo (some 10) sp true (some (.inr (.inr 18) :: as, [x, y, z, w])) k pc ls S = sp (.inr (.inr 18) :: as) S (fun v S' => k pc ls (v.toList ++ [x, y, z, w]) S') := e_callV (by decide) rfl rfl
theorem l_19 {k : aK} {pc : Nat} {ls : aL} {r : List aV} {S : aS} {a : Int} : wAlr k pc ls (.inl a :: .inr (.inr 19) :: r) S = (0 ≤ a ∧ a < 60 ∧ k pc ls (.inr (.inr (20 + a.toNat)) :: r) S) := e_alr (by decide) (by decide) rfl rfl
theorem n_19 {k : aK} {pc : Nat} {ls : aL} {r : List aV} {S : aS} : wAln k pc ls (.inr (.inr 19) :: r) S = k pc ls (.inl 60 :: r) S := e_aln (by decide) (by decide) (by decide) rfl
theorem l_80 {k : aK} {pc : Nat} {ls : aL} {r : List aV} {S : aS} {a : Int} : wAld (fun t => t == 0) k pc ls (.inl a :: .inr (.inr 80) :: r) S = (0 ≤ a ∧ a < 60 ∧ k pc ls (.inl (S.1 80 a.toNat) :: r) S) := e_ald (by decide) rfl rfl
theorem s_80 {k : aK} {pc : Nat} {ls : aL} {r : List aV} {S : aS} {a v : Int} : wAst k pc ls (.inl v :: .inl a :: .inr (.inr 80) :: r) S = (0 ≤ a ∧ a < 60 ∧ k pc ls r (upI S 80 a.toNat v)) := e_ast (by decide) rfl rfl
theorem n_80 {k : aK} {pc : Nat} {ls : aL} {r : List aV} {S : aS} : wAln k pc ls (.inr (.inr 80) :: r) S = k pc ls (.inl 60 :: r) S := e_aln (by decide) (by decide) (by decide) rfl
theorem g_81_0 {k : aK} {pc : Nat} {ls : aL} {r : List aV} {S : aS} : wGet (some (7, 0)) k pc ls (.inr (.inr 81) :: r) S = k pc ls (.inr (.inr 82) :: r) S := e_getR (by decide) rfl rfl
theorem g_81_1 {k : aK} {pc : Nat} {ls : aL} {r : List aV} {S : aS} : wGet (some (7, 1)) k pc ls (.inr (.inr 81) :: r) S = k pc ls (.inr (.inr 83) :: r) S := e_getR (by decide) rfl rfl
theorem g_81_2 {k : aK} {pc : Nat} {ls : aL} {r : List aV} {S : aS} : wGet (some (7, 2)) k pc ls (.inr (.inr 81) :: r) S = k pc ls (.inr (.inr 84) :: r) S := e_getR (by decide) rfl rfl
theorem g_81_3 {k : aK} {pc : Nat} {ls : aL} {r : List aV} {S : aS} : wGet (some (7, 3)) k pc ls (.inr (.inr 81) :: r) S = k pc ls (.inr (.inr 85) :: r) S := e_getR (by decide) rfl rfl
theorem g_81_4 {k : aK} {pc : Nat} {ls : aL} {r : List aV} {S : aS} : wGet (some (7, 4)) k pc ls (.inr (.inr 81) :: r) S = k pc ls (.inl (S.1 81 4) :: r) S := e_getI (by decide) rfl rfl
theorem p_81_4 {k : aK} {pc : Nat} {ls : aL} {r : List aV} {S : aS} {v : Int} : wPut (some (7, 4)) k pc ls (.inl v :: .inr (.inr 81) :: r) S = k pc ls r (upI S 81 4 v) := e_putI (by decide) rfl rfl
theorem cv_81_0 {k : aK} {pc : Nat} {ls : aL} {S : aS} {sp : aSp} {as : List aV} : wCallo (some 7) sp true (some (.inr (.inr 81) :: as, [])) k pc ls S = sp (.inr (.inr 81) :: as) S (fun v S' => k pc ls (v.toList ++ []) S') := e_callV (by decide) rfl rfl
theorem cv_81_1 {k : aK} {pc : Nat} {ls : aL} {x : aV} {S : aS} {sp : aSp} {as : List aV} : wCallo (some 7) sp true (some (.inr (.inr 81) :: as, [x])) k pc ls S = sp (.inr (.inr 81) :: as) S (fun v S' => k pc ls (v.toList ++ [x]) S') := e_callV (by decide) rfl rfl
theorem cv_81_2 {k : aK} {pc : Nat} {ls : aL} {x y : aV} {S : aS} {sp : aSp} {as : List aV} : wCallo (some 7) sp true (some (.inr (.inr 81) :: as, [x, y])) k pc ls S = sp (.inr (.inr 81) :: as) S (fun v S' => k pc ls (v.toList ++ [x, y]) S') := e_callV (by decide) rfl rfl
theorem cv_81_3 {k : aK} {pc : Nat} {ls : aL} {x y z : aV} {S : aS} {sp : aSp} {as : List aV} : wCallo (some 7) sp true (some (.inr (.inr 81) :: as, [x, y, z])) k pc ls S = sp (.inr (.inr 81) :: as) S (fun v S' => k pc ls (v.toList ++ [x, y, z]) S') := e_callV (by decide) rfl rfl
theorem cv_81_4 {k : aK} {pc : Nat} {ls : aL} {x y z w : aV} {S : aS} {sp : aSp} {as : List aV} : wCallo (some 7) sp true (some (.inr (.inr 81) :: as, [x, y, z, w])) k pc ls S = sp (.inr (.inr 81) :: as) S (fun v S' => k pc ls (v.toList ++ [x, y, z, w]) S') := e_callV (by decide) rfl rfl
theorem l_82 {k : aK} {pc : Nat} {ls : aL} {r : List aV} {S : aS} {a : Int} : wAld (fun t => t == 0) k pc ls (.inl a :: .inr (.inr 82) :: r) S = (0 ≤ a ∧ a < 120 ∧ k pc ls (.inl (S.1 82 a.toNat) :: r) S) := e_ald (by decide) rfl rfl
theorem s_82 {k : aK} {pc : Nat} {ls : aL} {r : List aV} {S : aS} {a v : Int} : wAst k pc ls (.inl v :: .inl a :: .inr (.inr 82) :: r) S = (0 ≤ a ∧ a < 120 ∧ k pc ls r (upI S 82 a.toNat v)) := e_ast (by decide) rfl rfl
theorem n_82 {k : aK} {pc : Nat} {ls : aL} {r : List aV} {S : aS} : wAln k pc ls (.inr (.inr 82) :: r) S = k pc ls (.inl 120 :: r) S := e_aln (by decide) (by decide) (by decide) rfl
theorem l_83 {k : aK} {pc : Nat} {ls : aL} {r : List aV} {S : aS} {a : Int} : wAld (fun t => t == 0) k pc ls (.inl a :: .inr (.inr 83) :: r) S = (0 ≤ a ∧ a < 120 ∧ k pc ls (.inl (S.1 83 a.toNat) :: r) S) := e_ald (by decide) rfl rfl
theorem s_83 {k : aK} {pc : Nat} {ls : aL} {r : List aV} {S : aS} {a v : Int} : wAst k pc ls (.inl v :: .inl a :: .inr (.inr 83) :: r) S = (0 ≤ a ∧ a < 120 ∧ k pc ls r (upI S 83 a.toNat v)) := e_ast (by decide) rfl rfl
theorem n_83 {k : aK} {pc : Nat} {ls : aL} {r : List aV} {S : aS} : wAln k pc ls (.inr (.inr 83) :: r) S = k pc ls (.inl 120 :: r) S := e_aln (by decide) (by decide) (by decide) rfl
theorem l_84 {k : aK} {pc : Nat} {ls : aL} {r : List aV} {S : aS} {a : Int} : wAld (fun t => t == 0) k pc ls (.inl a :: .inr (.inr 84) :: r) S = (0 ≤ a ∧ a < 120 ∧ k pc ls (.inl (S.1 84 a.toNat) :: r) S) := e_ald (by decide) rfl rfl
theorem s_84 {k : aK} {pc : Nat} {ls : aL} {r : List aV} {S : aS} {a v : Int} : wAst k pc ls (.inl v :: .inl a :: .inr (.inr 84) :: r) S = (0 ≤ a ∧ a < 120 ∧ k pc ls r (upI S 84 a.toNat v)) := e_ast (by decide) rfl rfl
theorem n_84 {k : aK} {pc : Nat} {ls : aL} {r : List aV} {S : aS} : wAln k pc ls (.inr (.inr 84) :: r) S = k pc ls (.inl 120 :: r) S := e_aln (by decide) (by decide) (by decide) rfl
theorem g_85_0 {k : aK} {pc : Nat} {ls : aL} {r : List aV} {S : aS} : wGet (some (10, 0)) k pc ls (.inr (.inr 85) :: r) S = k pc ls (.inr (.inr 11) :: r) S := e_getR (by decide) rfl rfl
theorem g_85_1 {k : aK} {pc : Nat} {ls : aL} {r : List aV} {S : aS} : wGet (some (10, 1)) k pc ls (.inr (.inr 85) :: r) S = k pc ls (.inl (S.1 85 1) :: r) S := e_getI (by decide) rfl rfl
theorem p_85_1 {k : aK} {pc : Nat} {ls : aL} {r : List aV} {S : aS} {v : Int} : wPut (some (10, 1)) k pc ls (.inl v :: .inr (.inr 85) :: r) S = k pc ls r (upI S 85 1 v) := e_putI (by decide) rfl rfl
theorem g_85_2 {k : aK} {pc : Nat} {ls : aL} {r : List aV} {S : aS} : wGet (some (10, 2)) k pc ls (.inr (.inr 85) :: r) S = k pc ls (.inr (.inr 86) :: r) S := e_getR (by decide) rfl rfl
theorem g_85_3 {k : aK} {pc : Nat} {ls : aL} {r : List aV} {S : aS} : wGet (some (10, 3)) k pc ls (.inr (.inr 85) :: r) S = k pc ls (.inr (.inr 207) :: r) S := e_getR (by decide) rfl rfl
theorem cv_85_0 {k : aK} {pc : Nat} {ls : aL} {S : aS} {sp : aSp} {as : List aV} : wCallo (some 10) sp true (some (.inr (.inr 85) :: as, [])) k pc ls S = sp (.inr (.inr 85) :: as) S (fun v S' => k pc ls (v.toList ++ []) S') := e_callV (by decide) rfl rfl
theorem cv_85_1 {k : aK} {pc : Nat} {ls : aL} {x : aV} {S : aS} {sp : aSp} {as : List aV} : wCallo (some 10) sp true (some (.inr (.inr 85) :: as, [x])) k pc ls S = sp (.inr (.inr 85) :: as) S (fun v S' => k pc ls (v.toList ++ [x]) S') := e_callV (by decide) rfl rfl
theorem cv_85_2 {k : aK} {pc : Nat} {ls : aL} {x y : aV} {S : aS} {sp : aSp} {as : List aV} : wCallo (some 10) sp true (some (.inr (.inr 85) :: as, [x, y])) k pc ls S = sp (.inr (.inr 85) :: as) S (fun v S' => k pc ls (v.toList ++ [x, y]) S') := e_callV (by decide) rfl rfl
theorem cv_85_3 {k : aK} {pc : Nat} {ls : aL} {x y z : aV} {S : aS} {sp : aSp} {as : List aV} : wCallo (some 10) sp true (some (.inr (.inr 85) :: as, [x, y, z])) k pc ls S = sp (.inr (.inr 85) :: as) S (fun v S' => k pc ls (v.toList ++ [x, y, z]) S') := e_callV (by decide) rfl rfl
theorem cv_85_4 {k : aK} {pc : Nat} {ls : aL} {x y z w : aV} {S : aS} {sp : aSp} {as : List aV} : wCallo (some 10) sp true (some (.inr (.inr 85) :: as, [x, y, z, w])) k pc ls S = sp (.inr (.inr 85) :: as) S (fun v S' => k pc ls (v.toList ++ [x, y, z, w]) S') := e_callV (by decide) rfl rfl
theorem l_86 {k : aK} {pc : Nat} {ls : aL} {r : List aV} {S : aS} {a : Int} : wAlr k pc ls (.inl a :: .inr (.inr 86) :: r) S = (0 ≤ a ∧ a < 120 ∧ k pc ls (.inr (.inr (87 + a.toNat)) :: r) S) := e_alr (by decide) (by decide) rfl rfl
theorem n_86 {k : aK} {pc : Nat} {ls : aL} {r : List aV} {S : aS} : wAln k pc ls (.inr (.inr 86) :: r) S = k pc ls (.inl 120 :: r) S := e_aln (by decide) (by decide) (by decide) rfl
theorem l_207 {k : aK} {pc : Nat} {ls : aL} {r : List aV} {S : aS} {a : Int} : wAld (fun t => t == 0) k pc ls (.inl a :: .inr (.inr 207) :: r) S = (0 ≤ a ∧ a < 120 ∧ k pc ls (.inl (S.1 207 a.toNat) :: r) S) := e_ald (by decide) rfl rfl
theorem s_207 {k : aK} {pc : Nat} {ls : aL} {r : List aV} {S : aS} {a v : Int} : wAst k pc ls (.inl v :: .inl a :: .inr (.inr 207) :: r) S = (0 ≤ a ∧ a < 120 ∧ k pc ls r (upI S 207 a.toNat v)) := e_ast (by decide) rfl rfl
theorem n_207 {k : aK} {pc : Nat} {ls : aL} {r : List aV} {S : aS} : wAln k pc ls (.inr (.inr 207) :: r) S = k pc ls (.inl 120 :: r) S := e_aln (by decide) (by decide) (by decide) rfl
theorem g_208_0 {k : aK} {pc : Nat} {ls : aL} {r : List aV} {S : aS} : wGet (some (6, 0)) k pc ls (.inr (.inr 208) :: r) S = k pc ls (.inr (.inr 209) :: r) S := e_getR (by decide) rfl rfl
theorem g_208_1 {k : aK} {pc : Nat} {ls : aL} {r : List aV} {S : aS} : wGet (some (6, 1)) k pc ls (.inr (.inr 208) :: r) S = k pc ls (.inr (.inr 210) :: r) S := e_getR (by decide) rfl rfl
theorem cv_208_0 {k : aK} {pc : Nat} {ls : aL} {S : aS} {sp : aSp} {as : List aV} : wCallo (some 6) sp true (some (.inr (.inr 208) :: as, [])) k pc ls S = sp (.inr (.inr 208) :: as) S (fun v S' => k pc ls (v.toList ++ []) S') := e_callV (by decide) rfl rfl
theorem cv_208_1 {k : aK} {pc : Nat} {ls : aL} {x : aV} {S : aS} {sp : aSp} {as : List aV} : wCallo (some 6) sp true (some (.inr (.inr 208) :: as, [x])) k pc ls S = sp (.inr (.inr 208) :: as) S (fun v S' => k pc ls (v.toList ++ [x]) S') := e_callV (by decide) rfl rfl
theorem cv_208_2 {k : aK} {pc : Nat} {ls : aL} {x y : aV} {S : aS} {sp : aSp} {as : List aV} : wCallo (some 6) sp true (some (.inr (.inr 208) :: as, [x, y])) k pc ls S = sp (.inr (.inr 208) :: as) S (fun v S' => k pc ls (v.toList ++ [x, y]) S') := e_callV (by decide) rfl rfl
theorem cv_208_3 {k : aK} {pc : Nat} {ls : aL} {x y z : aV} {S : aS} {sp : aSp} {as : List aV} : wCallo (some 6) sp true (some (.inr (.inr 208) :: as, [x, y, z])) k pc ls S = sp (.inr (.inr 208) :: as) S (fun v S' => k pc ls (v.toList ++ [x, y, z]) S') := e_callV (by decide) rfl rfl
theorem cv_208_4 {k : aK} {pc : Nat} {ls : aL} {x y z w : aV} {S : aS} {sp : aSp} {as : List aV} : wCallo (some 6) sp true (some (.inr (.inr 208) :: as, [x, y, z, w])) k pc ls S = sp (.inr (.inr 208) :: as) S (fun v S' => k pc ls (v.toList ++ [x, y, z, w]) S') := e_callV (by decide) rfl rfl
theorem l_209 {k : aK} {pc : Nat} {ls : aL} {r : List aV} {S : aS} {a : Int} : wAld (fun t => t == 0) k pc ls (.inl a :: .inr (.inr 209) :: r) S = (0 ≤ a ∧ a < 40 ∧ k pc ls (.inl (S.1 209 a.toNat) :: r) S) := e_ald (by decide) rfl rfl
theorem s_209 {k : aK} {pc : Nat} {ls : aL} {r : List aV} {S : aS} {a v : Int} : wAst k pc ls (.inl v :: .inl a :: .inr (.inr 209) :: r) S = (0 ≤ a ∧ a < 40 ∧ k pc ls r (upI S 209 a.toNat v)) := e_ast (by decide) rfl rfl
theorem n_209 {k : aK} {pc : Nat} {ls : aL} {r : List aV} {S : aS} : wAln k pc ls (.inr (.inr 209) :: r) S = k pc ls (.inl 40 :: r) S := e_aln (by decide) (by decide) (by decide) rfl
theorem l_210 {k : aK} {pc : Nat} {ls : aL} {r : List aV} {S : aS} {a : Int} : wAld (fun t => t == 0) k pc ls (.inl a :: .inr (.inr 210) :: r) S = (0 ≤ a ∧ a < 40 ∧ k pc ls (.inl (S.1 210 a.toNat) :: r) S) := e_ald (by decide) rfl rfl
theorem s_210 {k : aK} {pc : Nat} {ls : aL} {r : List aV} {S : aS} {a v : Int} : wAst k pc ls (.inl v :: .inl a :: .inr (.inr 210) :: r) S = (0 ≤ a ∧ a < 40 ∧ k pc ls r (upI S 210 a.toNat v)) := e_ast (by decide) rfl rfl
theorem n_210 {k : aK} {pc : Nat} {ls : aL} {r : List aV} {S : aS} : wAln k pc ls (.inr (.inr 210) :: r) S = k pc ls (.inl 40 :: r) S := e_aln (by decide) (by decide) (by decide) rfl
theorem g_211_0 {k : aK} {pc : Nat} {ls : aL} {r : List aV} {S : aS} : wGet (some (9, 0)) k pc ls (.inr (.inr 211) :: r) S = k pc ls (.inr (.inr 3) :: r) S := e_getR (by decide) rfl rfl
theorem g_211_1 {k : aK} {pc : Nat} {ls : aL} {r : List aV} {S : aS} : wGet (some (9, 1)) k pc ls (.inr (.inr 211) :: r) S = k pc ls (.inr (.inr 81) :: r) S := e_getR (by decide) rfl rfl
theorem g_211_2 {k : aK} {pc : Nat} {ls : aL} {r : List aV} {S : aS} : wGet (some (9, 2)) k pc ls (.inr (.inr 211) :: r) S = k pc ls (.inr (.inr 208) :: r) S := e_getR (by decide) rfl rfl
theorem g_211_3 {k : aK} {pc : Nat} {ls : aL} {r : List aV} {S : aS} : wGet (some (9, 3)) k pc ls (.inr (.inr 211) :: r) S = k pc ls (.inr (.inr 212) :: r) S := e_getR (by decide) rfl rfl
theorem g_211_4 {k : aK} {pc : Nat} {ls : aL} {r : List aV} {S : aS} : wGet (some (9, 4)) k pc ls (.inr (.inr 211) :: r) S = k pc ls (.inr (.inr 213) :: r) S := e_getR (by decide) rfl rfl
theorem g_211_5 {k : aK} {pc : Nat} {ls : aL} {r : List aV} {S : aS} : wGet (some (9, 5)) k pc ls (.inr (.inr 211) :: r) S = k pc ls (.inr (.inr 214) :: r) S := e_getR (by decide) rfl rfl
theorem g_211_6 {k : aK} {pc : Nat} {ls : aL} {r : List aV} {S : aS} : wGet (some (9, 6)) k pc ls (.inr (.inr 211) :: r) S = k pc ls (.inr (.inr 215) :: r) S := e_getR (by decide) rfl rfl
theorem g_211_7 {k : aK} {pc : Nat} {ls : aL} {r : List aV} {S : aS} : wGet (some (9, 7)) k pc ls (.inr (.inr 211) :: r) S = k pc ls (.inr (.inr 216) :: r) S := e_getR (by decide) rfl rfl
theorem g_211_8 {k : aK} {pc : Nat} {ls : aL} {r : List aV} {S : aS} : wGet (some (9, 8)) k pc ls (.inr (.inr 211) :: r) S = k pc ls (.inr (.inr 217) :: r) S := e_getR (by decide) rfl rfl
theorem g_211_9 {k : aK} {pc : Nat} {ls : aL} {r : List aV} {S : aS} : wGet (some (9, 9)) k pc ls (.inr (.inr 211) :: r) S = k pc ls (.inr (.inr 218) :: r) S := e_getR (by decide) rfl rfl
theorem cv_211_0 {k : aK} {pc : Nat} {ls : aL} {S : aS} {sp : aSp} {as : List aV} : wCallo (some 9) sp true (some (.inr (.inr 211) :: as, [])) k pc ls S = sp (.inr (.inr 211) :: as) S (fun v S' => k pc ls (v.toList ++ []) S') := e_callV (by decide) rfl rfl
theorem cv_211_1 {k : aK} {pc : Nat} {ls : aL} {x : aV} {S : aS} {sp : aSp} {as : List aV} : wCallo (some 9) sp true (some (.inr (.inr 211) :: as, [x])) k pc ls S = sp (.inr (.inr 211) :: as) S (fun v S' => k pc ls (v.toList ++ [x]) S') := e_callV (by decide) rfl rfl
theorem cv_211_2 {k : aK} {pc : Nat} {ls : aL} {x y : aV} {S : aS} {sp : aSp} {as : List aV} : wCallo (some 9) sp true (some (.inr (.inr 211) :: as, [x, y])) k pc ls S = sp (.inr (.inr 211) :: as) S (fun v S' => k pc ls (v.toList ++ [x, y]) S') := e_callV (by decide) rfl rfl
theorem cv_211_3 {k : aK} {pc : Nat} {ls : aL} {x y z : aV} {S : aS} {sp : aSp} {as : List aV} : wCallo (some 9) sp true (some (.inr (.inr 211) :: as, [x, y, z])) k pc ls S = sp (.inr (.inr 211) :: as) S (fun v S' => k pc ls (v.toList ++ [x, y, z]) S') := e_callV (by decide) rfl rfl
theorem cv_211_4 {k : aK} {pc : Nat} {ls : aL} {x y z w : aV} {S : aS} {sp : aSp} {as : List aV} : wCallo (some 9) sp true (some (.inr (.inr 211) :: as, [x, y, z, w])) k pc ls S = sp (.inr (.inr 211) :: as) S (fun v S' => k pc ls (v.toList ++ [x, y, z, w]) S') := e_callV (by decide) rfl rfl
theorem l_212 {k : aK} {pc : Nat} {ls : aL} {r : List aV} {S : aS} {a : Int} : wAld (fun t => t == 0) k pc ls (.inl a :: .inr (.inr 212) :: r) S = (0 ≤ a ∧ a < 40 ∧ k pc ls (.inl (S.1 212 a.toNat) :: r) S) := e_ald (by decide) rfl rfl
theorem s_212 {k : aK} {pc : Nat} {ls : aL} {r : List aV} {S : aS} {a v : Int} : wAst k pc ls (.inl v :: .inl a :: .inr (.inr 212) :: r) S = (0 ≤ a ∧ a < 40 ∧ k pc ls r (upI S 212 a.toNat v)) := e_ast (by decide) rfl rfl
theorem n_212 {k : aK} {pc : Nat} {ls : aL} {r : List aV} {S : aS} : wAln k pc ls (.inr (.inr 212) :: r) S = k pc ls (.inl 40 :: r) S := e_aln (by decide) (by decide) (by decide) rfl
theorem l_213 {k : aK} {pc : Nat} {ls : aL} {r : List aV} {S : aS} {a : Int} : wAld (fun t => t == 0) k pc ls (.inl a :: .inr (.inr 213) :: r) S = (0 ≤ a ∧ a < 40 ∧ k pc ls (.inl (S.1 213 a.toNat) :: r) S) := e_ald (by decide) rfl rfl
theorem s_213 {k : aK} {pc : Nat} {ls : aL} {r : List aV} {S : aS} {a v : Int} : wAst k pc ls (.inl v :: .inl a :: .inr (.inr 213) :: r) S = (0 ≤ a ∧ a < 40 ∧ k pc ls r (upI S 213 a.toNat v)) := e_ast (by decide) rfl rfl
theorem n_213 {k : aK} {pc : Nat} {ls : aL} {r : List aV} {S : aS} : wAln k pc ls (.inr (.inr 213) :: r) S = k pc ls (.inl 40 :: r) S := e_aln (by decide) (by decide) (by decide) rfl
theorem l_214 {k : aK} {pc : Nat} {ls : aL} {r : List aV} {S : aS} {a : Int} : wAld (fun t => t == 0) k pc ls (.inl a :: .inr (.inr 214) :: r) S = (0 ≤ a ∧ a < 40 ∧ k pc ls (.inl (S.1 214 a.toNat) :: r) S) := e_ald (by decide) rfl rfl
theorem s_214 {k : aK} {pc : Nat} {ls : aL} {r : List aV} {S : aS} {a v : Int} : wAst k pc ls (.inl v :: .inl a :: .inr (.inr 214) :: r) S = (0 ≤ a ∧ a < 40 ∧ k pc ls r (upI S 214 a.toNat v)) := e_ast (by decide) rfl rfl
theorem n_214 {k : aK} {pc : Nat} {ls : aL} {r : List aV} {S : aS} : wAln k pc ls (.inr (.inr 214) :: r) S = k pc ls (.inl 40 :: r) S := e_aln (by decide) (by decide) (by decide) rfl
theorem l_215 {k : aK} {pc : Nat} {ls : aL} {r : List aV} {S : aS} {a : Int} : wAld (fun t => t == 0) k pc ls (.inl a :: .inr (.inr 215) :: r) S = (0 ≤ a ∧ a < 40 ∧ k pc ls (.inl (S.1 215 a.toNat) :: r) S) := e_ald (by decide) rfl rfl
theorem s_215 {k : aK} {pc : Nat} {ls : aL} {r : List aV} {S : aS} {a v : Int} : wAst k pc ls (.inl v :: .inl a :: .inr (.inr 215) :: r) S = (0 ≤ a ∧ a < 40 ∧ k pc ls r (upI S 215 a.toNat v)) := e_ast (by decide) rfl rfl
theorem n_215 {k : aK} {pc : Nat} {ls : aL} {r : List aV} {S : aS} : wAln k pc ls (.inr (.inr 215) :: r) S = k pc ls (.inl 40 :: r) S := e_aln (by decide) (by decide) (by decide) rfl
theorem l_216 {k : aK} {pc : Nat} {ls : aL} {r : List aV} {S : aS} {a : Int} : wAld (fun t => t == 0) k pc ls (.inl a :: .inr (.inr 216) :: r) S = (0 ≤ a ∧ a < 40 ∧ k pc ls (.inl (S.1 216 a.toNat) :: r) S) := e_ald (by decide) rfl rfl
theorem s_216 {k : aK} {pc : Nat} {ls : aL} {r : List aV} {S : aS} {a v : Int} : wAst k pc ls (.inl v :: .inl a :: .inr (.inr 216) :: r) S = (0 ≤ a ∧ a < 40 ∧ k pc ls r (upI S 216 a.toNat v)) := e_ast (by decide) rfl rfl
theorem n_216 {k : aK} {pc : Nat} {ls : aL} {r : List aV} {S : aS} : wAln k pc ls (.inr (.inr 216) :: r) S = k pc ls (.inl 40 :: r) S := e_aln (by decide) (by decide) (by decide) rfl
theorem l_217 {k : aK} {pc : Nat} {ls : aL} {r : List aV} {S : aS} {a : Int} : wAld (fun t => t == 0) k pc ls (.inl a :: .inr (.inr 217) :: r) S = (0 ≤ a ∧ a < 40 ∧ k pc ls (.inl (S.1 217 a.toNat) :: r) S) := e_ald (by decide) rfl rfl
theorem s_217 {k : aK} {pc : Nat} {ls : aL} {r : List aV} {S : aS} {a v : Int} : wAst k pc ls (.inl v :: .inl a :: .inr (.inr 217) :: r) S = (0 ≤ a ∧ a < 40 ∧ k pc ls r (upI S 217 a.toNat v)) := e_ast (by decide) rfl rfl
theorem n_217 {k : aK} {pc : Nat} {ls : aL} {r : List aV} {S : aS} : wAln k pc ls (.inr (.inr 217) :: r) S = k pc ls (.inl 40 :: r) S := e_aln (by decide) (by decide) (by decide) rfl
theorem l_218 {k : aK} {pc : Nat} {ls : aL} {r : List aV} {S : aS} {a : Int} : wAld (fun t => t == 0) k pc ls (.inl a :: .inr (.inr 218) :: r) S = (0 ≤ a ∧ a < 40 ∧ k pc ls (.inl (S.1 218 a.toNat) :: r) S) := e_ald (by decide) rfl rfl
theorem s_218 {k : aK} {pc : Nat} {ls : aL} {r : List aV} {S : aS} {a v : Int} : wAst k pc ls (.inl v :: .inl a :: .inr (.inr 218) :: r) S = (0 ≤ a ∧ a < 40 ∧ k pc ls r (upI S 218 a.toNat v)) := e_ast (by decide) rfl rfl
theorem n_218 {k : aK} {pc : Nat} {ls : aL} {r : List aV} {S : aS} : wAln k pc ls (.inr (.inr 218) :: r) S = k pc ls (.inl 40 :: r) S := e_aln (by decide) (by decide) (by decide) rfl
theorem g_219_0 {k : aK} {pc : Nat} {ls : aL} {r : List aV} {S : aS} : wGet (some (3, 0)) k pc ls (.inr (.inr 219) :: r) S = k pc ls (.inr (.inr 220) :: r) S := e_getR (by decide) rfl rfl
theorem g_219_1 {k : aK} {pc : Nat} {ls : aL} {r : List aV} {S : aS} : wGet (some (3, 1)) k pc ls (.inr (.inr 219) :: r) S = k pc ls (.inr (.inr 221) :: r) S := e_getR (by decide) rfl rfl
theorem g_219_2 {k : aK} {pc : Nat} {ls : aL} {r : List aV} {S : aS} : wGet (some (3, 2)) k pc ls (.inr (.inr 219) :: r) S = k pc ls (.inl (S.1 219 2) :: r) S := e_getI (by decide) rfl rfl
theorem p_219_2 {k : aK} {pc : Nat} {ls : aL} {r : List aV} {S : aS} {v : Int} : wPut (some (3, 2)) k pc ls (.inl v :: .inr (.inr 219) :: r) S = k pc ls r (upI S 219 2 v) := e_putI (by decide) rfl rfl
theorem cv_219_0 {k : aK} {pc : Nat} {ls : aL} {S : aS} {sp : aSp} {as : List aV} : wCallo (some 3) sp true (some (.inr (.inr 219) :: as, [])) k pc ls S = sp (.inr (.inr 219) :: as) S (fun v S' => k pc ls (v.toList ++ []) S') := e_callV (by decide) rfl rfl
theorem cv_219_1 {k : aK} {pc : Nat} {ls : aL} {x : aV} {S : aS} {sp : aSp} {as : List aV} : wCallo (some 3) sp true (some (.inr (.inr 219) :: as, [x])) k pc ls S = sp (.inr (.inr 219) :: as) S (fun v S' => k pc ls (v.toList ++ [x]) S') := e_callV (by decide) rfl rfl
theorem cv_219_2 {k : aK} {pc : Nat} {ls : aL} {x y : aV} {S : aS} {sp : aSp} {as : List aV} : wCallo (some 3) sp true (some (.inr (.inr 219) :: as, [x, y])) k pc ls S = sp (.inr (.inr 219) :: as) S (fun v S' => k pc ls (v.toList ++ [x, y]) S') := e_callV (by decide) rfl rfl
theorem cv_219_3 {k : aK} {pc : Nat} {ls : aL} {x y z : aV} {S : aS} {sp : aSp} {as : List aV} : wCallo (some 3) sp true (some (.inr (.inr 219) :: as, [x, y, z])) k pc ls S = sp (.inr (.inr 219) :: as) S (fun v S' => k pc ls (v.toList ++ [x, y, z]) S') := e_callV (by decide) rfl rfl
theorem cv_219_4 {k : aK} {pc : Nat} {ls : aL} {x y z w : aV} {S : aS} {sp : aSp} {as : List aV} : wCallo (some 3) sp true (some (.inr (.inr 219) :: as, [x, y, z, w])) k pc ls S = sp (.inr (.inr 219) :: as) S (fun v S' => k pc ls (v.toList ++ [x, y, z, w]) S') := e_callV (by decide) rfl rfl
theorem l_220 {k : aK} {pc : Nat} {ls : aL} {r : List aV} {S : aS} {a : Int} : wAld (fun t => t == 0) k pc ls (.inl a :: .inr (.inr 220) :: r) S = (0 ≤ a ∧ a < 20 ∧ k pc ls (.inl (S.1 220 a.toNat) :: r) S) := e_ald (by decide) rfl rfl
theorem s_220 {k : aK} {pc : Nat} {ls : aL} {r : List aV} {S : aS} {a v : Int} : wAst k pc ls (.inl v :: .inl a :: .inr (.inr 220) :: r) S = (0 ≤ a ∧ a < 20 ∧ k pc ls r (upI S 220 a.toNat v)) := e_ast (by decide) rfl rfl
theorem n_220 {k : aK} {pc : Nat} {ls : aL} {r : List aV} {S : aS} : wAln k pc ls (.inr (.inr 220) :: r) S = k pc ls (.inl 20 :: r) S := e_aln (by decide) (by decide) (by decide) rfl
theorem l_221 {k : aK} {pc : Nat} {ls : aL} {r : List aV} {S : aS} {a : Int} : wAld (fun t => t == 0) k pc ls (.inl a :: .inr (.inr 221) :: r) S = (0 ≤ a ∧ a < 20 ∧ k pc ls (.inl (S.1 221 a.toNat) :: r) S) := e_ald (by decide) rfl rfl
theorem s_221 {k : aK} {pc : Nat} {ls : aL} {r : List aV} {S : aS} {a v : Int} : wAst k pc ls (.inl v :: .inl a :: .inr (.inr 221) :: r) S = (0 ≤ a ∧ a < 20 ∧ k pc ls r (upI S 221 a.toNat v)) := e_ast (by decide) rfl rfl
theorem n_221 {k : aK} {pc : Nat} {ls : aL} {r : List aV} {S : aS} : wAln k pc ls (.inr (.inr 221) :: r) S = k pc ls (.inl 20 :: r) S := e_aln (by decide) (by decide) (by decide) rfl
theorem g_222_0 {k : aK} {pc : Nat} {ls : aL} {r : List aV} {S : aS} : wGet (some (1, 0)) k pc ls (.inr (.inr 222) :: r) S = k pc ls (.inr (.inr 81) :: r) S := e_getR (by decide) rfl rfl
theorem g_222_1 {k : aK} {pc : Nat} {ls : aL} {r : List aV} {S : aS} : wGet (some (1, 1)) k pc ls (.inr (.inr 222) :: r) S = k pc ls (.inr (.inr 223) :: r) S := e_getR (by decide) rfl rfl
theorem g_222_2 {k : aK} {pc : Nat} {ls : aL} {r : List aV} {S : aS} : wGet (some (1, 2)) k pc ls (.inr (.inr 222) :: r) S = k pc ls (.inr (.inr 224) :: r) S := e_getR (by decide) rfl rfl
theorem g_222_3 {k : aK} {pc : Nat} {ls : aL} {r : List aV} {S : aS} : wGet (some (1, 3)) k pc ls (.inr (.inr 222) :: r) S = k pc ls (.inr (.inr 233) :: r) S := e_getR (by decide) rfl rfl
theorem g_222_4 {k : aK} {pc : Nat} {ls : aL} {r : List aV} {S : aS} : wGet (some (1, 4)) k pc ls (.inr (.inr 222) :: r) S = k pc ls (.inl (S.1 222 4) :: r) S := e_getI (by decide) rfl rfl
theorem p_222_4 {k : aK} {pc : Nat} {ls : aL} {r : List aV} {S : aS} {v : Int} : wPut (some (1, 4)) k pc ls (.inl v :: .inr (.inr 222) :: r) S = k pc ls r (upI S 222 4 v) := e_putI (by decide) rfl rfl
theorem cv_222_0 {k : aK} {pc : Nat} {ls : aL} {S : aS} {sp : aSp} {as : List aV} : wCallo (some 1) sp true (some (.inr (.inr 222) :: as, [])) k pc ls S = sp (.inr (.inr 222) :: as) S (fun v S' => k pc ls (v.toList ++ []) S') := e_callV (by decide) rfl rfl
theorem cv_222_1 {k : aK} {pc : Nat} {ls : aL} {x : aV} {S : aS} {sp : aSp} {as : List aV} : wCallo (some 1) sp true (some (.inr (.inr 222) :: as, [x])) k pc ls S = sp (.inr (.inr 222) :: as) S (fun v S' => k pc ls (v.toList ++ [x]) S') := e_callV (by decide) rfl rfl
theorem cv_222_2 {k : aK} {pc : Nat} {ls : aL} {x y : aV} {S : aS} {sp : aSp} {as : List aV} : wCallo (some 1) sp true (some (.inr (.inr 222) :: as, [x, y])) k pc ls S = sp (.inr (.inr 222) :: as) S (fun v S' => k pc ls (v.toList ++ [x, y]) S') := e_callV (by decide) rfl rfl
theorem cv_222_3 {k : aK} {pc : Nat} {ls : aL} {x y z : aV} {S : aS} {sp : aSp} {as : List aV} : wCallo (some 1) sp true (some (.inr (.inr 222) :: as, [x, y, z])) k pc ls S = sp (.inr (.inr 222) :: as) S (fun v S' => k pc ls (v.toList ++ [x, y, z]) S') := e_callV (by decide) rfl rfl
theorem cv_222_4 {k : aK} {pc : Nat} {ls : aL} {x y z w : aV} {S : aS} {sp : aSp} {as : List aV} : wCallo (some 1) sp true (some (.inr (.inr 222) :: as, [x, y, z, w])) k pc ls S = sp (.inr (.inr 222) :: as) S (fun v S' => k pc ls (v.toList ++ [x, y, z, w]) S') := e_callV (by decide) rfl rfl
theorem l_223 {k : aK} {pc : Nat} {ls : aL} {r : List aV} {S : aS} {a : Int} : wAld (fun t => t == 0) k pc ls (.inl a :: .inr (.inr 223) :: r) S = (0 ≤ a ∧ a < 8 ∧ k pc ls (.inl (S.1 223 a.toNat) :: r) S) := e_ald (by decide) rfl rfl
theorem s_223 {k : aK} {pc : Nat} {ls : aL} {r : List aV} {S : aS} {a v : Int} : wAst k pc ls (.inl v :: .inl a :: .inr (.inr 223) :: r) S = (0 ≤ a ∧ a < 8 ∧ k pc ls r (upI S 223 a.toNat v)) := e_ast (by decide) rfl rfl
theorem n_223 {k : aK} {pc : Nat} {ls : aL} {r : List aV} {S : aS} : wAln k pc ls (.inr (.inr 223) :: r) S = k pc ls (.inl 8 :: r) S := e_aln (by decide) (by decide) (by decide) rfl
theorem l_224 {k : aK} {pc : Nat} {ls : aL} {r : List aV} {S : aS} {a : Int} : wAlr k pc ls (.inl a :: .inr (.inr 224) :: r) S = (0 ≤ a ∧ a < 8 ∧ k pc ls (.inr (.inr (225 + a.toNat)) :: r) S) := e_alr (by decide) (by decide) rfl rfl
theorem n_224 {k : aK} {pc : Nat} {ls : aL} {r : List aV} {S : aS} : wAln k pc ls (.inr (.inr 224) :: r) S = k pc ls (.inl 8 :: r) S := e_aln (by decide) (by decide) (by decide) rfl
theorem l_233 {k : aK} {pc : Nat} {ls : aL} {r : List aV} {S : aS} {a : Int} : wAlr k pc ls (.inl a :: .inr (.inr 233) :: r) S = (0 ≤ a ∧ a < 8 ∧ k pc ls (.inr (.inr (234 + a.toNat)) :: r) S) := e_alr (by decide) (by decide) rfl rfl
theorem n_233 {k : aK} {pc : Nat} {ls : aL} {r : List aV} {S : aS} : wAln k pc ls (.inr (.inr 233) :: r) S = k pc ls (.inl 8 :: r) S := e_aln (by decide) (by decide) (by decide) rfl
theorem g_242_0 {k : aK} {pc : Nat} {ls : aL} {r : List aV} {S : aS} : wGet (some (4, 0)) k pc ls (.inr (.inr 242) :: r) S = k pc ls (.inr (.inr 14) :: r) S := e_getR (by decide) rfl rfl
theorem g_242_1 {k : aK} {pc : Nat} {ls : aL} {r : List aV} {S : aS} : wGet (some (4, 1)) k pc ls (.inr (.inr 242) :: r) S = k pc ls (.inr (.inr 81) :: r) S := e_getR (by decide) rfl rfl
theorem g_242_2 {k : aK} {pc : Nat} {ls : aL} {r : List aV} {S : aS} : wGet (some (4, 2)) k pc ls (.inr (.inr 242) :: r) S = k pc ls (.inr (.inr 208) :: r) S := e_getR (by decide) rfl rfl
theorem g_242_3 {k : aK} {pc : Nat} {ls : aL} {r : List aV} {S : aS} : wGet (some (4, 3)) k pc ls (.inr (.inr 242) :: r) S = k pc ls (.inr (.inr 211) :: r) S := e_getR (by decide) rfl rfl
theorem g_242_4 {k : aK} {pc : Nat} {ls : aL} {r : List aV} {S : aS} : wGet (some (4, 4)) k pc ls (.inr (.inr 242) :: r) S = k pc ls (.inr (.inr 219) :: r) S := e_getR (by decide) rfl rfl
theorem g_242_5 {k : aK} {pc : Nat} {ls : aL} {r : List aV} {S : aS} : wGet (some (4, 5)) k pc ls (.inr (.inr 242) :: r) S = k pc ls (.inr (.inr 243) :: r) S := e_getR (by decide) rfl rfl
theorem g_242_6 {k : aK} {pc : Nat} {ls : aL} {r : List aV} {S : aS} : wGet (some (4, 6)) k pc ls (.inr (.inr 242) :: r) S = k pc ls (.inr (.inr 244) :: r) S := e_getR (by decide) rfl rfl
theorem g_242_7 {k : aK} {pc : Nat} {ls : aL} {r : List aV} {S : aS} : wGet (some (4, 7)) k pc ls (.inr (.inr 242) :: r) S = k pc ls (.inl (S.1 242 7) :: r) S := e_getI (by decide) rfl rfl
theorem p_242_7 {k : aK} {pc : Nat} {ls : aL} {r : List aV} {S : aS} {v : Int} : wPut (some (4, 7)) k pc ls (.inl v :: .inr (.inr 242) :: r) S = k pc ls r (upI S 242 7 v) := e_putI (by decide) rfl rfl
theorem cv_242_0 {k : aK} {pc : Nat} {ls : aL} {S : aS} {sp : aSp} {as : List aV} : wCallo (some 4) sp true (some (.inr (.inr 242) :: as, [])) k pc ls S = sp (.inr (.inr 242) :: as) S (fun v S' => k pc ls (v.toList ++ []) S') := e_callV (by decide) rfl rfl
theorem cv_242_1 {k : aK} {pc : Nat} {ls : aL} {x : aV} {S : aS} {sp : aSp} {as : List aV} : wCallo (some 4) sp true (some (.inr (.inr 242) :: as, [x])) k pc ls S = sp (.inr (.inr 242) :: as) S (fun v S' => k pc ls (v.toList ++ [x]) S') := e_callV (by decide) rfl rfl
theorem cv_242_2 {k : aK} {pc : Nat} {ls : aL} {x y : aV} {S : aS} {sp : aSp} {as : List aV} : wCallo (some 4) sp true (some (.inr (.inr 242) :: as, [x, y])) k pc ls S = sp (.inr (.inr 242) :: as) S (fun v S' => k pc ls (v.toList ++ [x, y]) S') := e_callV (by decide) rfl rfl
theorem cv_242_3 {k : aK} {pc : Nat} {ls : aL} {x y z : aV} {S : aS} {sp : aSp} {as : List aV} : wCallo (some 4) sp true (some (.inr (.inr 242) :: as, [x, y, z])) k pc ls S = sp (.inr (.inr 242) :: as) S (fun v S' => k pc ls (v.toList ++ [x, y, z]) S') := e_callV (by decide) rfl rfl
theorem cv_242_4 {k : aK} {pc : Nat} {ls : aL} {x y z w : aV} {S : aS} {sp : aSp} {as : List aV} : wCallo (some 4) sp true (some (.inr (.inr 242) :: as, [x, y, z, w])) k pc ls S = sp (.inr (.inr 242) :: as) S (fun v S' => k pc ls (v.toList ++ [x, y, z, w]) S') := e_callV (by decide) rfl rfl
theorem l_243 {k : aK} {pc : Nat} {ls : aL} {r : List aV} {S : aS} {a : Int} : wAld (fun t => t == 1 || t == 2) k pc ls (.inl a :: .inr (.inr 243) :: r) S = (0 ≤ a ∧ a < 8000 ∧ k pc ls (.inl (S.1 243 a.toNat) :: r) S) := e_ald (by decide) rfl rfl
theorem s_243 {k : aK} {pc : Nat} {ls : aL} {r : List aV} {S : aS} {a v : Int} : wBst k pc ls (.inl v :: .inl a :: .inr (.inr 243) :: r) S = (0 ≤ a ∧ a < 8000 ∧ k pc ls r (upI S 243 a.toNat (narB v))) := e_bst (by decide) rfl rfl
theorem n_243 {k : aK} {pc : Nat} {ls : aL} {r : List aV} {S : aS} : wAln k pc ls (.inr (.inr 243) :: r) S = k pc ls (.inl 8000 :: r) S := e_aln (by decide) (by decide) (by decide) rfl
theorem l_244 {k : aK} {pc : Nat} {ls : aL} {r : List aV} {S : aS} {a : Int} : wAld (fun t => t == 0) k pc ls (.inl a :: .inr (.inr 244) :: r) S = (0 ≤ a ∧ a < 40 ∧ k pc ls (.inl (S.1 244 a.toNat) :: r) S) := e_ald (by decide) rfl rfl
theorem s_244 {k : aK} {pc : Nat} {ls : aL} {r : List aV} {S : aS} {a v : Int} : wAst k pc ls (.inl v :: .inl a :: .inr (.inr 244) :: r) S = (0 ≤ a ∧ a < 40 ∧ k pc ls r (upI S 244 a.toNat v)) := e_ast (by decide) rfl rfl
theorem n_244 {k : aK} {pc : Nat} {ls : aL} {r : List aV} {S : aS} : wAln k pc ls (.inr (.inr 244) :: r) S = k pc ls (.inl 40 :: r) S := e_aln (by decide) (by decide) (by decide) rfl
theorem g_245_0 {k : aK} {pc : Nat} {ls : aL} {r : List aV} {S : aS} : wGet (some (12, 0)) k pc ls (.inr (.inr 245) :: r) S = k pc ls (.inr (.inr 246) :: r) S := e_getR (by decide) rfl rfl
theorem g_245_1 {k : aK} {pc : Nat} {ls : aL} {r : List aV} {S : aS} : wGet (some (12, 1)) k pc ls (.inr (.inr 245) :: r) S = k pc ls (.inr (.inr 247) :: r) S := e_getR (by decide) rfl rfl
theorem g_245_2 {k : aK} {pc : Nat} {ls : aL} {r : List aV} {S : aS} : wGet (some (12, 2)) k pc ls (.inr (.inr 245) :: r) S = k pc ls (.inl (S.1 245 2) :: r) S := e_getI (by decide) rfl rfl
theorem p_245_2 {k : aK} {pc : Nat} {ls : aL} {r : List aV} {S : aS} {v : Int} : wPut (some (12, 2)) k pc ls (.inl v :: .inr (.inr 245) :: r) S = k pc ls r (upI S 245 2 v) := e_putI (by decide) rfl rfl
theorem g_245_3 {k : aK} {pc : Nat} {ls : aL} {r : List aV} {S : aS} : wGet (some (12, 3)) k pc ls (.inr (.inr 245) :: r) S = k pc ls (.inl (S.1 245 3) :: r) S := e_getI (by decide) rfl rfl
theorem p_245_3 {k : aK} {pc : Nat} {ls : aL} {r : List aV} {S : aS} {v : Int} : wPut (some (12, 3)) k pc ls (.inl v :: .inr (.inr 245) :: r) S = k pc ls r (upI S 245 3 v) := e_putI (by decide) rfl rfl
theorem g_245_4 {k : aK} {pc : Nat} {ls : aL} {r : List aV} {S : aS} : wGet (some (12, 4)) k pc ls (.inr (.inr 245) :: r) S = k pc ls (.inl (S.1 245 4) :: r) S := e_getI (by decide) rfl rfl
theorem p_245_4 {k : aK} {pc : Nat} {ls : aL} {r : List aV} {S : aS} {v : Int} : wPut (some (12, 4)) k pc ls (.inl v :: .inr (.inr 245) :: r) S = k pc ls r (upI S 245 4 v) := e_putI (by decide) rfl rfl
theorem g_245_5 {k : aK} {pc : Nat} {ls : aL} {r : List aV} {S : aS} : wGet (some (12, 5)) k pc ls (.inr (.inr 245) :: r) S = k pc ls (.inr (.inr 248) :: r) S := e_getR (by decide) rfl rfl
theorem g_245_6 {k : aK} {pc : Nat} {ls : aL} {r : List aV} {S : aS} : wGet (some (12, 6)) k pc ls (.inr (.inr 245) :: r) S = k pc ls (.inr (.inr 249) :: r) S := e_getR (by decide) rfl rfl
theorem g_245_7 {k : aK} {pc : Nat} {ls : aL} {r : List aV} {S : aS} : wGet (some (12, 7)) k pc ls (.inr (.inr 245) :: r) S = k pc ls (.inr (.inr 250) :: r) S := e_getR (by decide) rfl rfl
theorem g_245_8 {k : aK} {pc : Nat} {ls : aL} {r : List aV} {S : aS} : wGet (some (12, 8)) k pc ls (.inr (.inr 245) :: r) S = k pc ls (.inr (.inr 251) :: r) S := e_getR (by decide) rfl rfl
theorem g_245_9 {k : aK} {pc : Nat} {ls : aL} {r : List aV} {S : aS} : wGet (some (12, 9)) k pc ls (.inr (.inr 245) :: r) S = k pc ls (.inr (.inr 252) :: r) S := e_getR (by decide) rfl rfl
theorem g_245_10 {k : aK} {pc : Nat} {ls : aL} {r : List aV} {S : aS} : wGet (some (12, 10)) k pc ls (.inr (.inr 245) :: r) S = k pc ls (.inr (.inr 253) :: r) S := e_getR (by decide) rfl rfl
theorem g_245_11 {k : aK} {pc : Nat} {ls : aL} {r : List aV} {S : aS} : wGet (some (12, 11)) k pc ls (.inr (.inr 245) :: r) S = k pc ls (.inr (.inr 254) :: r) S := e_getR (by decide) rfl rfl
theorem g_245_12 {k : aK} {pc : Nat} {ls : aL} {r : List aV} {S : aS} : wGet (some (12, 12)) k pc ls (.inr (.inr 245) :: r) S = k pc ls (.inl (S.1 245 12) :: r) S := e_getI (by decide) rfl rfl
theorem p_245_12 {k : aK} {pc : Nat} {ls : aL} {r : List aV} {S : aS} {v : Int} : wPut (some (12, 12)) k pc ls (.inl v :: .inr (.inr 245) :: r) S = k pc ls r (upI S 245 12 v) := e_putI (by decide) rfl rfl
theorem g_245_13 {k : aK} {pc : Nat} {ls : aL} {r : List aV} {S : aS} : wGet (some (12, 13)) k pc ls (.inr (.inr 245) :: r) S = k pc ls (.inl (S.1 245 13) :: r) S := e_getI (by decide) rfl rfl
theorem p_245_13 {k : aK} {pc : Nat} {ls : aL} {r : List aV} {S : aS} {v : Int} : wPut (some (12, 13)) k pc ls (.inl v :: .inr (.inr 245) :: r) S = k pc ls r (upI S 245 13 v) := e_putI (by decide) rfl rfl
theorem g_245_14 {k : aK} {pc : Nat} {ls : aL} {r : List aV} {S : aS} : wGet (some (12, 14)) k pc ls (.inr (.inr 245) :: r) S = k pc ls (.inl (S.1 245 14) :: r) S := e_getI (by decide) rfl rfl
theorem p_245_14 {k : aK} {pc : Nat} {ls : aL} {r : List aV} {S : aS} {v : Int} : wPut (some (12, 14)) k pc ls (.inl v :: .inr (.inr 245) :: r) S = k pc ls r (upI S 245 14 v) := e_putI (by decide) rfl rfl
theorem g_245_15 {k : aK} {pc : Nat} {ls : aL} {r : List aV} {S : aS} : wGet (some (12, 15)) k pc ls (.inr (.inr 245) :: r) S = k pc ls (.inr (.inr 255) :: r) S := e_getR (by decide) rfl rfl
theorem g_245_16 {k : aK} {pc : Nat} {ls : aL} {r : List aV} {S : aS} : wGet (some (12, 16)) k pc ls (.inr (.inr 245) :: r) S = k pc ls (.inr (.inr 256) :: r) S := e_getR (by decide) rfl rfl
theorem g_245_17 {k : aK} {pc : Nat} {ls : aL} {r : List aV} {S : aS} : wGet (some (12, 17)) k pc ls (.inr (.inr 245) :: r) S = k pc ls (.inr (.inr 257) :: r) S := e_getR (by decide) rfl rfl
theorem g_245_18 {k : aK} {pc : Nat} {ls : aL} {r : List aV} {S : aS} : wGet (some (12, 18)) k pc ls (.inr (.inr 245) :: r) S = k pc ls (.inr (.inr 258) :: r) S := e_getR (by decide) rfl rfl
theorem g_245_19 {k : aK} {pc : Nat} {ls : aL} {r : List aV} {S : aS} : wGet (some (12, 19)) k pc ls (.inr (.inr 245) :: r) S = k pc ls (.inr (.inr 259) :: r) S := e_getR (by decide) rfl rfl
theorem g_245_20 {k : aK} {pc : Nat} {ls : aL} {r : List aV} {S : aS} : wGet (some (12, 20)) k pc ls (.inr (.inr 245) :: r) S = k pc ls (.inr (.inr 260) :: r) S := e_getR (by decide) rfl rfl
theorem g_245_21 {k : aK} {pc : Nat} {ls : aL} {r : List aV} {S : aS} : wGet (some (12, 21)) k pc ls (.inr (.inr 245) :: r) S = k pc ls (.inr (.inr 261) :: r) S := e_getR (by decide) rfl rfl
theorem g_245_22 {k : aK} {pc : Nat} {ls : aL} {r : List aV} {S : aS} : wGet (some (12, 22)) k pc ls (.inr (.inr 245) :: r) S = k pc ls (.inr (.inr 262) :: r) S := e_getR (by decide) rfl rfl
theorem g_245_23 {k : aK} {pc : Nat} {ls : aL} {r : List aV} {S : aS} : wGet (some (12, 23)) k pc ls (.inr (.inr 245) :: r) S = k pc ls (.inr (.inr 263) :: r) S := e_getR (by decide) rfl rfl
theorem g_245_24 {k : aK} {pc : Nat} {ls : aL} {r : List aV} {S : aS} : wGet (some (12, 24)) k pc ls (.inr (.inr 245) :: r) S = k pc ls (.inr (.inr 264) :: r) S := e_getR (by decide) rfl rfl
theorem g_245_25 {k : aK} {pc : Nat} {ls : aL} {r : List aV} {S : aS} : wGet (some (12, 25)) k pc ls (.inr (.inr 245) :: r) S = k pc ls (.inr (.inr 265) :: r) S := e_getR (by decide) rfl rfl
theorem g_245_26 {k : aK} {pc : Nat} {ls : aL} {r : List aV} {S : aS} : wGet (some (12, 26)) k pc ls (.inr (.inr 245) :: r) S = k pc ls (.inr (.inr 266) :: r) S := e_getR (by decide) rfl rfl
theorem g_245_27 {k : aK} {pc : Nat} {ls : aL} {r : List aV} {S : aS} : wGet (some (12, 27)) k pc ls (.inr (.inr 245) :: r) S = k pc ls (.inr (.inr 267) :: r) S := e_getR (by decide) rfl rfl
theorem g_245_28 {k : aK} {pc : Nat} {ls : aL} {r : List aV} {S : aS} : wGet (some (12, 28)) k pc ls (.inr (.inr 245) :: r) S = k pc ls (.inr (.inr 268) :: r) S := e_getR (by decide) rfl rfl
theorem g_245_29 {k : aK} {pc : Nat} {ls : aL} {r : List aV} {S : aS} : wGet (some (12, 29)) k pc ls (.inr (.inr 245) :: r) S = k pc ls (.inl (S.1 245 29) :: r) S := e_getI (by decide) rfl rfl
theorem p_245_29 {k : aK} {pc : Nat} {ls : aL} {r : List aV} {S : aS} {v : Int} : wPut (some (12, 29)) k pc ls (.inl v :: .inr (.inr 245) :: r) S = k pc ls r (upI S 245 29 v) := e_putI (by decide) rfl rfl
theorem g_245_30 {k : aK} {pc : Nat} {ls : aL} {r : List aV} {S : aS} : wGet (some (12, 30)) k pc ls (.inr (.inr 245) :: r) S = k pc ls (.inr (.inr 269) :: r) S := e_getR (by decide) rfl rfl
theorem g_245_31 {k : aK} {pc : Nat} {ls : aL} {r : List aV} {S : aS} : wGet (some (12, 31)) k pc ls (.inr (.inr 245) :: r) S = k pc ls (.inr (.inr 270) :: r) S := e_getR (by decide) rfl rfl
theorem g_245_32 {k : aK} {pc : Nat} {ls : aL} {r : List aV} {S : aS} : wGet (some (12, 32)) k pc ls (.inr (.inr 245) :: r) S = k pc ls (.inl (S.1 245 32) :: r) S := e_getI (by decide) rfl rfl
theorem p_245_32 {k : aK} {pc : Nat} {ls : aL} {r : List aV} {S : aS} {v : Int} : wPut (some (12, 32)) k pc ls (.inl v :: .inr (.inr 245) :: r) S = k pc ls r (upI S 245 32 v) := e_putI (by decide) rfl rfl
theorem g_245_33 {k : aK} {pc : Nat} {ls : aL} {r : List aV} {S : aS} : wGet (some (12, 33)) k pc ls (.inr (.inr 245) :: r) S = k pc ls (.inl (S.1 245 33) :: r) S := e_getI (by decide) rfl rfl
theorem p_245_33 {k : aK} {pc : Nat} {ls : aL} {r : List aV} {S : aS} {v : Int} : wPut (some (12, 33)) k pc ls (.inl v :: .inr (.inr 245) :: r) S = k pc ls r (upI S 245 33 v) := e_putI (by decide) rfl rfl
theorem g_245_34 {k : aK} {pc : Nat} {ls : aL} {r : List aV} {S : aS} : wGet (some (12, 34)) k pc ls (.inr (.inr 245) :: r) S = k pc ls (.inl (S.1 245 34) :: r) S := e_getI (by decide) rfl rfl
theorem p_245_34 {k : aK} {pc : Nat} {ls : aL} {r : List aV} {S : aS} {v : Int} : wPut (some (12, 34)) k pc ls (.inl v :: .inr (.inr 245) :: r) S = k pc ls r (upI S 245 34 v) := e_putI (by decide) rfl rfl
theorem g_245_35 {k : aK} {pc : Nat} {ls : aL} {r : List aV} {S : aS} : wGet (some (12, 35)) k pc ls (.inr (.inr 245) :: r) S = k pc ls (.inl (S.1 245 35) :: r) S := e_getI (by decide) rfl rfl
theorem p_245_35 {k : aK} {pc : Nat} {ls : aL} {r : List aV} {S : aS} {v : Int} : wPut (some (12, 35)) k pc ls (.inl v :: .inr (.inr 245) :: r) S = k pc ls r (upI S 245 35 v) := e_putI (by decide) rfl rfl
theorem g_245_36 {k : aK} {pc : Nat} {ls : aL} {r : List aV} {S : aS} : wGet (some (12, 36)) k pc ls (.inr (.inr 245) :: r) S = k pc ls (.inl (S.1 245 36) :: r) S := e_getI (by decide) rfl rfl
theorem p_245_36 {k : aK} {pc : Nat} {ls : aL} {r : List aV} {S : aS} {v : Int} : wPut (some (12, 36)) k pc ls (.inl v :: .inr (.inr 245) :: r) S = k pc ls r (upI S 245 36 v) := e_putI (by decide) rfl rfl
theorem g_245_37 {k : aK} {pc : Nat} {ls : aL} {r : List aV} {S : aS} : wGet (some (12, 37)) k pc ls (.inr (.inr 245) :: r) S = k pc ls (.inl (S.1 245 37) :: r) S := e_getI (by decide) rfl rfl
theorem p_245_37 {k : aK} {pc : Nat} {ls : aL} {r : List aV} {S : aS} {v : Int} : wPut (some (12, 37)) k pc ls (.inl v :: .inr (.inr 245) :: r) S = k pc ls r (upI S 245 37 v) := e_putI (by decide) rfl rfl
theorem g_245_38 {k : aK} {pc : Nat} {ls : aL} {r : List aV} {S : aS} : wGet (some (12, 38)) k pc ls (.inr (.inr 245) :: r) S = k pc ls (.inr (.inr 271) :: r) S := e_getR (by decide) rfl rfl
theorem g_245_39 {k : aK} {pc : Nat} {ls : aL} {r : List aV} {S : aS} : wGet (some (12, 39)) k pc ls (.inr (.inr 245) :: r) S = k pc ls (.inr (.inr 272) :: r) S := e_getR (by decide) rfl rfl
theorem g_245_40 {k : aK} {pc : Nat} {ls : aL} {r : List aV} {S : aS} : wGet (some (12, 40)) k pc ls (.inr (.inr 245) :: r) S = k pc ls (.inr (.inr 273) :: r) S := e_getR (by decide) rfl rfl
theorem g_245_41 {k : aK} {pc : Nat} {ls : aL} {r : List aV} {S : aS} : wGet (some (12, 41)) k pc ls (.inr (.inr 245) :: r) S = k pc ls (.inr (.inr 274) :: r) S := e_getR (by decide) rfl rfl
theorem g_245_42 {k : aK} {pc : Nat} {ls : aL} {r : List aV} {S : aS} : wGet (some (12, 42)) k pc ls (.inr (.inr 245) :: r) S = k pc ls (.inl (S.1 245 42) :: r) S := e_getI (by decide) rfl rfl
theorem p_245_42 {k : aK} {pc : Nat} {ls : aL} {r : List aV} {S : aS} {v : Int} : wPut (some (12, 42)) k pc ls (.inl v :: .inr (.inr 245) :: r) S = k pc ls r (upI S 245 42 v) := e_putI (by decide) rfl rfl
theorem g_245_43 {k : aK} {pc : Nat} {ls : aL} {r : List aV} {S : aS} : wGet (some (12, 43)) k pc ls (.inr (.inr 245) :: r) S = k pc ls (.inr (.inr 275) :: r) S := e_getR (by decide) rfl rfl
theorem cv_245_0 {k : aK} {pc : Nat} {ls : aL} {S : aS} {sp : aSp} {as : List aV} : wCallo (some 12) sp true (some (.inr (.inr 245) :: as, [])) k pc ls S = sp (.inr (.inr 245) :: as) S (fun v S' => k pc ls (v.toList ++ []) S') := e_callV (by decide) rfl rfl
theorem cv_245_1 {k : aK} {pc : Nat} {ls : aL} {x : aV} {S : aS} {sp : aSp} {as : List aV} : wCallo (some 12) sp true (some (.inr (.inr 245) :: as, [x])) k pc ls S = sp (.inr (.inr 245) :: as) S (fun v S' => k pc ls (v.toList ++ [x]) S') := e_callV (by decide) rfl rfl
theorem cv_245_2 {k : aK} {pc : Nat} {ls : aL} {x y : aV} {S : aS} {sp : aSp} {as : List aV} : wCallo (some 12) sp true (some (.inr (.inr 245) :: as, [x, y])) k pc ls S = sp (.inr (.inr 245) :: as) S (fun v S' => k pc ls (v.toList ++ [x, y]) S') := e_callV (by decide) rfl rfl
theorem cv_245_3 {k : aK} {pc : Nat} {ls : aL} {x y z : aV} {S : aS} {sp : aSp} {as : List aV} : wCallo (some 12) sp true (some (.inr (.inr 245) :: as, [x, y, z])) k pc ls S = sp (.inr (.inr 245) :: as) S (fun v S' => k pc ls (v.toList ++ [x, y, z]) S') := e_callV (by decide) rfl rfl
theorem cv_245_4 {k : aK} {pc : Nat} {ls : aL} {x y z w : aV} {S : aS} {sp : aSp} {as : List aV} : wCallo (some 12) sp true (some (.inr (.inr 245) :: as, [x, y, z, w])) k pc ls S = sp (.inr (.inr 245) :: as) S (fun v S' => k pc ls (v.toList ++ [x, y, z, w]) S') := e_callV (by decide) rfl rfl
theorem l_246 {k : aK} {pc : Nat} {ls : aL} {r : List aV} {S : aS} {a : Int} : wAld (fun t => t == 1 || t == 2) k pc ls (.inl a :: .inr (.inr 246) :: r) S = (0 ≤ a ∧ a < 40 ∧ k pc ls (.inl (S.1 246 a.toNat) :: r) S) := e_ald (by decide) rfl rfl
theorem s_246 {k : aK} {pc : Nat} {ls : aL} {r : List aV} {S : aS} {a v : Int} : wBst k pc ls (.inl v :: .inl a :: .inr (.inr 246) :: r) S = (0 ≤ a ∧ a < 40 ∧ k pc ls r (upI S 246 a.toNat (narB v))) := e_bst (by decide) rfl rfl
theorem n_246 {k : aK} {pc : Nat} {ls : aL} {r : List aV} {S : aS} : wAln k pc ls (.inr (.inr 246) :: r) S = k pc ls (.inl 40 :: r) S := e_aln (by decide) (by decide) (by decide) rfl
theorem l_247 {k : aK} {pc : Nat} {ls : aL} {r : List aV} {S : aS} {a : Int} : wAld (fun t => t == 1 || t == 2) k pc ls (.inl a :: .inr (.inr 247) :: r) S = (0 ≤ a ∧ a < 40 ∧ k pc ls (.inl (S.1 247 a.toNat) :: r) S) := e_ald (by decide) rfl rfl
theorem s_247 {k : aK} {pc : Nat} {ls : aL} {r : List aV} {S : aS} {a v : Int} : wBst k pc ls (.inl v :: .inl a :: .inr (.inr 247) :: r) S = (0 ≤ a ∧ a < 40 ∧ k pc ls r (upI S 247 a.toNat (narB v))) := e_bst (by decide) rfl rfl
theorem n_247 {k : aK} {pc : Nat} {ls : aL} {r : List aV} {S : aS} : wAln k pc ls (.inr (.inr 247) :: r) S = k pc ls (.inl 40 :: r) S := e_aln (by decide) (by decide) (by decide) rfl
theorem l_248 {k : aK} {pc : Nat} {ls : aL} {r : List aV} {S : aS} {a : Int} : wAld (fun t => t == 0) k pc ls (.inl a :: .inr (.inr 248) :: r) S = (0 ≤ a ∧ a < 30 ∧ k pc ls (.inl (S.1 248 a.toNat) :: r) S) := e_ald (by decide) rfl rfl
theorem s_248 {k : aK} {pc : Nat} {ls : aL} {r : List aV} {S : aS} {a v : Int} : wAst k pc ls (.inl v :: .inl a :: .inr (.inr 248) :: r) S = (0 ≤ a ∧ a < 30 ∧ k pc ls r (upI S 248 a.toNat v)) := e_ast (by decide) rfl rfl
theorem n_248 {k : aK} {pc : Nat} {ls : aL} {r : List aV} {S : aS} : wAln k pc ls (.inr (.inr 248) :: r) S = k pc ls (.inl 30 :: r) S := e_aln (by decide) (by decide) (by decide) rfl
theorem l_249 {k : aK} {pc : Nat} {ls : aL} {r : List aV} {S : aS} {a : Int} : wAld (fun t => t == 0) k pc ls (.inl a :: .inr (.inr 249) :: r) S = (0 ≤ a ∧ a < 30 ∧ k pc ls (.inl (S.1 249 a.toNat) :: r) S) := e_ald (by decide) rfl rfl
theorem s_249 {k : aK} {pc : Nat} {ls : aL} {r : List aV} {S : aS} {a v : Int} : wAst k pc ls (.inl v :: .inl a :: .inr (.inr 249) :: r) S = (0 ≤ a ∧ a < 30 ∧ k pc ls r (upI S 249 a.toNat v)) := e_ast (by decide) rfl rfl
theorem n_249 {k : aK} {pc : Nat} {ls : aL} {r : List aV} {S : aS} : wAln k pc ls (.inr (.inr 249) :: r) S = k pc ls (.inl 30 :: r) S := e_aln (by decide) (by decide) (by decide) rfl
theorem l_250 {k : aK} {pc : Nat} {ls : aL} {r : List aV} {S : aS} {a : Int} : wAld (fun t => t == 0) k pc ls (.inl a :: .inr (.inr 250) :: r) S = (0 ≤ a ∧ a < 30 ∧ k pc ls (.inl (S.1 250 a.toNat) :: r) S) := e_ald (by decide) rfl rfl
theorem s_250 {k : aK} {pc : Nat} {ls : aL} {r : List aV} {S : aS} {a v : Int} : wAst k pc ls (.inl v :: .inl a :: .inr (.inr 250) :: r) S = (0 ≤ a ∧ a < 30 ∧ k pc ls r (upI S 250 a.toNat v)) := e_ast (by decide) rfl rfl
theorem n_250 {k : aK} {pc : Nat} {ls : aL} {r : List aV} {S : aS} : wAln k pc ls (.inr (.inr 250) :: r) S = k pc ls (.inl 30 :: r) S := e_aln (by decide) (by decide) (by decide) rfl
theorem l_251 {k : aK} {pc : Nat} {ls : aL} {r : List aV} {S : aS} {a : Int} : wAld (fun t => t == 0) k pc ls (.inl a :: .inr (.inr 251) :: r) S = (0 ≤ a ∧ a < 30 ∧ k pc ls (.inl (S.1 251 a.toNat) :: r) S) := e_ald (by decide) rfl rfl
theorem s_251 {k : aK} {pc : Nat} {ls : aL} {r : List aV} {S : aS} {a v : Int} : wAst k pc ls (.inl v :: .inl a :: .inr (.inr 251) :: r) S = (0 ≤ a ∧ a < 30 ∧ k pc ls r (upI S 251 a.toNat v)) := e_ast (by decide) rfl rfl
theorem n_251 {k : aK} {pc : Nat} {ls : aL} {r : List aV} {S : aS} : wAln k pc ls (.inr (.inr 251) :: r) S = k pc ls (.inl 30 :: r) S := e_aln (by decide) (by decide) (by decide) rfl
theorem l_252 {k : aK} {pc : Nat} {ls : aL} {r : List aV} {S : aS} {a : Int} : wAld (fun t => t == 0) k pc ls (.inl a :: .inr (.inr 252) :: r) S = (0 ≤ a ∧ a < 60 ∧ k pc ls (.inl (S.1 252 a.toNat) :: r) S) := e_ald (by decide) rfl rfl
theorem s_252 {k : aK} {pc : Nat} {ls : aL} {r : List aV} {S : aS} {a v : Int} : wAst k pc ls (.inl v :: .inl a :: .inr (.inr 252) :: r) S = (0 ≤ a ∧ a < 60 ∧ k pc ls r (upI S 252 a.toNat v)) := e_ast (by decide) rfl rfl
theorem n_252 {k : aK} {pc : Nat} {ls : aL} {r : List aV} {S : aS} : wAln k pc ls (.inr (.inr 252) :: r) S = k pc ls (.inl 60 :: r) S := e_aln (by decide) (by decide) (by decide) rfl
theorem l_253 {k : aK} {pc : Nat} {ls : aL} {r : List aV} {S : aS} {a : Int} : wAld (fun t => t == 0) k pc ls (.inl a :: .inr (.inr 253) :: r) S = (0 ≤ a ∧ a < 60 ∧ k pc ls (.inl (S.1 253 a.toNat) :: r) S) := e_ald (by decide) rfl rfl
theorem s_253 {k : aK} {pc : Nat} {ls : aL} {r : List aV} {S : aS} {a v : Int} : wAst k pc ls (.inl v :: .inl a :: .inr (.inr 253) :: r) S = (0 ≤ a ∧ a < 60 ∧ k pc ls r (upI S 253 a.toNat v)) := e_ast (by decide) rfl rfl
theorem n_253 {k : aK} {pc : Nat} {ls : aL} {r : List aV} {S : aS} : wAln k pc ls (.inr (.inr 253) :: r) S = k pc ls (.inl 60 :: r) S := e_aln (by decide) (by decide) (by decide) rfl
theorem l_254 {k : aK} {pc : Nat} {ls : aL} {r : List aV} {S : aS} {a : Int} : wAld (fun t => t == 1 || t == 2) k pc ls (.inl a :: .inr (.inr 254) :: r) S = (0 ≤ a ∧ a < 900 ∧ k pc ls (.inl (S.1 254 a.toNat) :: r) S) := e_ald (by decide) rfl rfl
theorem s_254 {k : aK} {pc : Nat} {ls : aL} {r : List aV} {S : aS} {a v : Int} : wBst k pc ls (.inl v :: .inl a :: .inr (.inr 254) :: r) S = (0 ≤ a ∧ a < 900 ∧ k pc ls r (upI S 254 a.toNat (narZ v))) := e_zst (by decide) rfl rfl
theorem n_254 {k : aK} {pc : Nat} {ls : aL} {r : List aV} {S : aS} : wAln k pc ls (.inr (.inr 254) :: r) S = k pc ls (.inl 900 :: r) S := e_aln (by decide) (by decide) (by decide) rfl
theorem l_255 {k : aK} {pc : Nat} {ls : aL} {r : List aV} {S : aS} {a : Int} : wAld (fun t => t == 0) k pc ls (.inl a :: .inr (.inr 255) :: r) S = (0 ≤ a ∧ a < 120 ∧ k pc ls (.inl (S.1 255 a.toNat) :: r) S) := e_ald (by decide) rfl rfl
theorem s_255 {k : aK} {pc : Nat} {ls : aL} {r : List aV} {S : aS} {a v : Int} : wAst k pc ls (.inl v :: .inl a :: .inr (.inr 255) :: r) S = (0 ≤ a ∧ a < 120 ∧ k pc ls r (upI S 255 a.toNat v)) := e_ast (by decide) rfl rfl
theorem n_255 {k : aK} {pc : Nat} {ls : aL} {r : List aV} {S : aS} : wAln k pc ls (.inr (.inr 255) :: r) S = k pc ls (.inl 120 :: r) S := e_aln (by decide) (by decide) (by decide) rfl
theorem l_256 {k : aK} {pc : Nat} {ls : aL} {r : List aV} {S : aS} {a : Int} : wAld (fun t => t == 0) k pc ls (.inl a :: .inr (.inr 256) :: r) S = (0 ≤ a ∧ a < 120 ∧ k pc ls (.inl (S.1 256 a.toNat) :: r) S) := e_ald (by decide) rfl rfl
theorem s_256 {k : aK} {pc : Nat} {ls : aL} {r : List aV} {S : aS} {a v : Int} : wAst k pc ls (.inl v :: .inl a :: .inr (.inr 256) :: r) S = (0 ≤ a ∧ a < 120 ∧ k pc ls r (upI S 256 a.toNat v)) := e_ast (by decide) rfl rfl
theorem n_256 {k : aK} {pc : Nat} {ls : aL} {r : List aV} {S : aS} : wAln k pc ls (.inr (.inr 256) :: r) S = k pc ls (.inl 120 :: r) S := e_aln (by decide) (by decide) (by decide) rfl
theorem l_257 {k : aK} {pc : Nat} {ls : aL} {r : List aV} {S : aS} {a : Int} : wAld (fun t => t == 0) k pc ls (.inl a :: .inr (.inr 257) :: r) S = (0 ≤ a ∧ a < 120 ∧ k pc ls (.inl (S.1 257 a.toNat) :: r) S) := e_ald (by decide) rfl rfl
theorem s_257 {k : aK} {pc : Nat} {ls : aL} {r : List aV} {S : aS} {a v : Int} : wAst k pc ls (.inl v :: .inl a :: .inr (.inr 257) :: r) S = (0 ≤ a ∧ a < 120 ∧ k pc ls r (upI S 257 a.toNat v)) := e_ast (by decide) rfl rfl
theorem n_257 {k : aK} {pc : Nat} {ls : aL} {r : List aV} {S : aS} : wAln k pc ls (.inr (.inr 257) :: r) S = k pc ls (.inl 120 :: r) S := e_aln (by decide) (by decide) (by decide) rfl
theorem l_258 {k : aK} {pc : Nat} {ls : aL} {r : List aV} {S : aS} {a : Int} : wAll k pc ls (.inl a :: .inr (.inr 258) :: r) S = (0 ≤ a ∧ a < 120 ∧ k pc ls (.inr (.inl (S.2 258 a.toNat)) :: r) S) := e_all (by decide) rfl rfl
theorem s_258 {k : aK} {pc : Nat} {ls : aL} {r : List aV} {S : aS} {a v : Int} : wLst k pc ls (.inr (.inl v) :: .inl a :: .inr (.inr 258) :: r) S = (0 ≤ a ∧ a < 120 ∧ k pc ls r (upL S 258 a.toNat v)) := e_lst (by decide) rfl rfl
theorem n_258 {k : aK} {pc : Nat} {ls : aL} {r : List aV} {S : aS} : wAln k pc ls (.inr (.inr 258) :: r) S = k pc ls (.inl 120 :: r) S := e_aln (by decide) (by decide) (by decide) rfl
theorem l_259 {k : aK} {pc : Nat} {ls : aL} {r : List aV} {S : aS} {a : Int} : wAld (fun t => t == 1 || t == 2) k pc ls (.inl a :: .inr (.inr 259) :: r) S = (0 ≤ a ∧ a < 7200 ∧ k pc ls (.inl (S.1 259 a.toNat) :: r) S) := e_ald (by decide) rfl rfl
theorem s_259 {k : aK} {pc : Nat} {ls : aL} {r : List aV} {S : aS} {a v : Int} : wBst k pc ls (.inl v :: .inl a :: .inr (.inr 259) :: r) S = (0 ≤ a ∧ a < 7200 ∧ k pc ls r (upI S 259 a.toNat (narB v))) := e_bst (by decide) rfl rfl
theorem n_259 {k : aK} {pc : Nat} {ls : aL} {r : List aV} {S : aS} : wAln k pc ls (.inr (.inr 259) :: r) S = k pc ls (.inl 7200 :: r) S := e_aln (by decide) (by decide) (by decide) rfl
theorem l_260 {k : aK} {pc : Nat} {ls : aL} {r : List aV} {S : aS} {a : Int} : wAld (fun t => t == 0) k pc ls (.inl a :: .inr (.inr 260) :: r) S = (0 ≤ a ∧ a < 12 ∧ k pc ls (.inl (S.1 260 a.toNat) :: r) S) := e_ald (by decide) rfl rfl
theorem s_260 {k : aK} {pc : Nat} {ls : aL} {r : List aV} {S : aS} {a v : Int} : wAst k pc ls (.inl v :: .inl a :: .inr (.inr 260) :: r) S = (0 ≤ a ∧ a < 12 ∧ k pc ls r (upI S 260 a.toNat v)) := e_ast (by decide) rfl rfl
theorem n_260 {k : aK} {pc : Nat} {ls : aL} {r : List aV} {S : aS} : wAln k pc ls (.inr (.inr 260) :: r) S = k pc ls (.inl 12 :: r) S := e_aln (by decide) (by decide) (by decide) rfl
theorem l_261 {k : aK} {pc : Nat} {ls : aL} {r : List aV} {S : aS} {a : Int} : wAld (fun t => t == 0) k pc ls (.inl a :: .inr (.inr 261) :: r) S = (0 ≤ a ∧ a < 60 ∧ k pc ls (.inl (S.1 261 a.toNat) :: r) S) := e_ald (by decide) rfl rfl
theorem s_261 {k : aK} {pc : Nat} {ls : aL} {r : List aV} {S : aS} {a v : Int} : wAst k pc ls (.inl v :: .inl a :: .inr (.inr 261) :: r) S = (0 ≤ a ∧ a < 60 ∧ k pc ls r (upI S 261 a.toNat v)) := e_ast (by decide) rfl rfl
theorem n_261 {k : aK} {pc : Nat} {ls : aL} {r : List aV} {S : aS} : wAln k pc ls (.inr (.inr 261) :: r) S = k pc ls (.inl 60 :: r) S := e_aln (by decide) (by decide) (by decide) rfl
theorem l_262 {k : aK} {pc : Nat} {ls : aL} {r : List aV} {S : aS} {a : Int} : wAld (fun t => t == 0) k pc ls (.inl a :: .inr (.inr 262) :: r) S = (0 ≤ a ∧ a < 60 ∧ k pc ls (.inl (S.1 262 a.toNat) :: r) S) := e_ald (by decide) rfl rfl
theorem s_262 {k : aK} {pc : Nat} {ls : aL} {r : List aV} {S : aS} {a v : Int} : wAst k pc ls (.inl v :: .inl a :: .inr (.inr 262) :: r) S = (0 ≤ a ∧ a < 60 ∧ k pc ls r (upI S 262 a.toNat v)) := e_ast (by decide) rfl rfl
theorem n_262 {k : aK} {pc : Nat} {ls : aL} {r : List aV} {S : aS} : wAln k pc ls (.inr (.inr 262) :: r) S = k pc ls (.inl 60 :: r) S := e_aln (by decide) (by decide) (by decide) rfl
theorem l_263 {k : aK} {pc : Nat} {ls : aL} {r : List aV} {S : aS} {a : Int} : wAll k pc ls (.inl a :: .inr (.inr 263) :: r) S = (0 ≤ a ∧ a < 60 ∧ k pc ls (.inr (.inl (S.2 263 a.toNat)) :: r) S) := e_all (by decide) rfl rfl
theorem s_263 {k : aK} {pc : Nat} {ls : aL} {r : List aV} {S : aS} {a v : Int} : wLst k pc ls (.inr (.inl v) :: .inl a :: .inr (.inr 263) :: r) S = (0 ≤ a ∧ a < 60 ∧ k pc ls r (upL S 263 a.toNat v)) := e_lst (by decide) rfl rfl
theorem n_263 {k : aK} {pc : Nat} {ls : aL} {r : List aV} {S : aS} : wAln k pc ls (.inr (.inr 263) :: r) S = k pc ls (.inl 60 :: r) S := e_aln (by decide) (by decide) (by decide) rfl
theorem l_264 {k : aK} {pc : Nat} {ls : aL} {r : List aV} {S : aS} {a : Int} : wAll k pc ls (.inl a :: .inr (.inr 264) :: r) S = (0 ≤ a ∧ a < 10 ∧ k pc ls (.inr (.inl (S.2 264 a.toNat)) :: r) S) := e_all (by decide) rfl rfl
theorem s_264 {k : aK} {pc : Nat} {ls : aL} {r : List aV} {S : aS} {a v : Int} : wLst k pc ls (.inr (.inl v) :: .inl a :: .inr (.inr 264) :: r) S = (0 ≤ a ∧ a < 10 ∧ k pc ls r (upL S 264 a.toNat v)) := e_lst (by decide) rfl rfl
theorem n_264 {k : aK} {pc : Nat} {ls : aL} {r : List aV} {S : aS} : wAln k pc ls (.inr (.inr 264) :: r) S = k pc ls (.inl 10 :: r) S := e_aln (by decide) (by decide) (by decide) rfl
theorem l_265 {k : aK} {pc : Nat} {ls : aL} {r : List aV} {S : aS} {a : Int} : wAll k pc ls (.inl a :: .inr (.inr 265) :: r) S = (0 ≤ a ∧ a < 10 ∧ k pc ls (.inr (.inl (S.2 265 a.toNat)) :: r) S) := e_all (by decide) rfl rfl
theorem s_265 {k : aK} {pc : Nat} {ls : aL} {r : List aV} {S : aS} {a v : Int} : wLst k pc ls (.inr (.inl v) :: .inl a :: .inr (.inr 265) :: r) S = (0 ≤ a ∧ a < 10 ∧ k pc ls r (upL S 265 a.toNat v)) := e_lst (by decide) rfl rfl
theorem n_265 {k : aK} {pc : Nat} {ls : aL} {r : List aV} {S : aS} : wAln k pc ls (.inr (.inr 265) :: r) S = k pc ls (.inl 10 :: r) S := e_aln (by decide) (by decide) (by decide) rfl
theorem l_266 {k : aK} {pc : Nat} {ls : aL} {r : List aV} {S : aS} {a : Int} : wAld (fun t => t == 1 || t == 2) k pc ls (.inl a :: .inr (.inr 266) :: r) S = (0 ≤ a ∧ a < 40 ∧ k pc ls (.inl (S.1 266 a.toNat) :: r) S) := e_ald (by decide) rfl rfl
theorem s_266 {k : aK} {pc : Nat} {ls : aL} {r : List aV} {S : aS} {a v : Int} : wBst k pc ls (.inl v :: .inl a :: .inr (.inr 266) :: r) S = (0 ≤ a ∧ a < 40 ∧ k pc ls r (upI S 266 a.toNat (narZ v))) := e_zst (by decide) rfl rfl
theorem n_266 {k : aK} {pc : Nat} {ls : aL} {r : List aV} {S : aS} : wAln k pc ls (.inr (.inr 266) :: r) S = k pc ls (.inl 40 :: r) S := e_aln (by decide) (by decide) (by decide) rfl
theorem l_267 {k : aK} {pc : Nat} {ls : aL} {r : List aV} {S : aS} {a : Int} : wAld (fun t => t == 0) k pc ls (.inl a :: .inr (.inr 267) :: r) S = (0 ≤ a ∧ a < 40 ∧ k pc ls (.inl (S.1 267 a.toNat) :: r) S) := e_ald (by decide) rfl rfl
theorem s_267 {k : aK} {pc : Nat} {ls : aL} {r : List aV} {S : aS} {a v : Int} : wAst k pc ls (.inl v :: .inl a :: .inr (.inr 267) :: r) S = (0 ≤ a ∧ a < 40 ∧ k pc ls r (upI S 267 a.toNat v)) := e_ast (by decide) rfl rfl
theorem n_267 {k : aK} {pc : Nat} {ls : aL} {r : List aV} {S : aS} : wAln k pc ls (.inr (.inr 267) :: r) S = k pc ls (.inl 40 :: r) S := e_aln (by decide) (by decide) (by decide) rfl
theorem l_268 {k : aK} {pc : Nat} {ls : aL} {r : List aV} {S : aS} {a : Int} : wAld (fun t => t == 0) k pc ls (.inl a :: .inr (.inr 268) :: r) S = (0 ≤ a ∧ a < 40 ∧ k pc ls (.inl (S.1 268 a.toNat) :: r) S) := e_ald (by decide) rfl rfl
theorem s_268 {k : aK} {pc : Nat} {ls : aL} {r : List aV} {S : aS} {a v : Int} : wAst k pc ls (.inl v :: .inl a :: .inr (.inr 268) :: r) S = (0 ≤ a ∧ a < 40 ∧ k pc ls r (upI S 268 a.toNat v)) := e_ast (by decide) rfl rfl
theorem n_268 {k : aK} {pc : Nat} {ls : aL} {r : List aV} {S : aS} : wAln k pc ls (.inr (.inr 268) :: r) S = k pc ls (.inl 40 :: r) S := e_aln (by decide) (by decide) (by decide) rfl
theorem l_269 {k : aK} {pc : Nat} {ls : aL} {r : List aV} {S : aS} {a : Int} : wAld (fun t => t == 0) k pc ls (.inl a :: .inr (.inr 269) :: r) S = (0 ≤ a ∧ a < 20 ∧ k pc ls (.inl (S.1 269 a.toNat) :: r) S) := e_ald (by decide) rfl rfl
theorem s_269 {k : aK} {pc : Nat} {ls : aL} {r : List aV} {S : aS} {a v : Int} : wAst k pc ls (.inl v :: .inl a :: .inr (.inr 269) :: r) S = (0 ≤ a ∧ a < 20 ∧ k pc ls r (upI S 269 a.toNat v)) := e_ast (by decide) rfl rfl
theorem n_269 {k : aK} {pc : Nat} {ls : aL} {r : List aV} {S : aS} : wAln k pc ls (.inr (.inr 269) :: r) S = k pc ls (.inl 20 :: r) S := e_aln (by decide) (by decide) (by decide) rfl
theorem l_270 {k : aK} {pc : Nat} {ls : aL} {r : List aV} {S : aS} {a : Int} : wAld (fun t => t == 0) k pc ls (.inl a :: .inr (.inr 270) :: r) S = (0 ≤ a ∧ a < 20 ∧ k pc ls (.inl (S.1 270 a.toNat) :: r) S) := e_ald (by decide) rfl rfl
theorem s_270 {k : aK} {pc : Nat} {ls : aL} {r : List aV} {S : aS} {a v : Int} : wAst k pc ls (.inl v :: .inl a :: .inr (.inr 270) :: r) S = (0 ≤ a ∧ a < 20 ∧ k pc ls r (upI S 270 a.toNat v)) := e_ast (by decide) rfl rfl
theorem n_270 {k : aK} {pc : Nat} {ls : aL} {r : List aV} {S : aS} : wAln k pc ls (.inr (.inr 270) :: r) S = k pc ls (.inl 20 :: r) S := e_aln (by decide) (by decide) (by decide) rfl
theorem l_271 {k : aK} {pc : Nat} {ls : aL} {r : List aV} {S : aS} {a : Int} : wAld (fun t => t == 0) k pc ls (.inl a :: .inr (.inr 271) :: r) S = (0 ≤ a ∧ a < 8 ∧ k pc ls (.inl (S.1 271 a.toNat) :: r) S) := e_ald (by decide) rfl rfl
theorem s_271 {k : aK} {pc : Nat} {ls : aL} {r : List aV} {S : aS} {a v : Int} : wAst k pc ls (.inl v :: .inl a :: .inr (.inr 271) :: r) S = (0 ≤ a ∧ a < 8 ∧ k pc ls r (upI S 271 a.toNat v)) := e_ast (by decide) rfl rfl
theorem n_271 {k : aK} {pc : Nat} {ls : aL} {r : List aV} {S : aS} : wAln k pc ls (.inr (.inr 271) :: r) S = k pc ls (.inl 8 :: r) S := e_aln (by decide) (by decide) (by decide) rfl
theorem l_272 {k : aK} {pc : Nat} {ls : aL} {r : List aV} {S : aS} {a : Int} : wAld (fun t => t == 0) k pc ls (.inl a :: .inr (.inr 272) :: r) S = (0 ≤ a ∧ a < 960 ∧ k pc ls (.inl (S.1 272 a.toNat) :: r) S) := e_ald (by decide) rfl rfl
theorem s_272 {k : aK} {pc : Nat} {ls : aL} {r : List aV} {S : aS} {a v : Int} : wAst k pc ls (.inl v :: .inl a :: .inr (.inr 272) :: r) S = (0 ≤ a ∧ a < 960 ∧ k pc ls r (upI S 272 a.toNat v)) := e_ast (by decide) rfl rfl
theorem n_272 {k : aK} {pc : Nat} {ls : aL} {r : List aV} {S : aS} : wAln k pc ls (.inr (.inr 272) :: r) S = k pc ls (.inl 960 :: r) S := e_aln (by decide) (by decide) (by decide) rfl
theorem l_273 {k : aK} {pc : Nat} {ls : aL} {r : List aV} {S : aS} {a : Int} : wAld (fun t => t == 0) k pc ls (.inl a :: .inr (.inr 273) :: r) S = (0 ≤ a ∧ a < 960 ∧ k pc ls (.inl (S.1 273 a.toNat) :: r) S) := e_ald (by decide) rfl rfl
theorem s_273 {k : aK} {pc : Nat} {ls : aL} {r : List aV} {S : aS} {a v : Int} : wAst k pc ls (.inl v :: .inl a :: .inr (.inr 273) :: r) S = (0 ≤ a ∧ a < 960 ∧ k pc ls r (upI S 273 a.toNat v)) := e_ast (by decide) rfl rfl
theorem n_273 {k : aK} {pc : Nat} {ls : aL} {r : List aV} {S : aS} : wAln k pc ls (.inr (.inr 273) :: r) S = k pc ls (.inl 960 :: r) S := e_aln (by decide) (by decide) (by decide) rfl
theorem l_274 {k : aK} {pc : Nat} {ls : aL} {r : List aV} {S : aS} {a : Int} : wAld (fun t => t == 1 || t == 2) k pc ls (.inl a :: .inr (.inr 274) :: r) S = (0 ≤ a ∧ a < 20000 ∧ k pc ls (.inl (S.1 274 a.toNat) :: r) S) := e_ald (by decide) rfl rfl
theorem s_274 {k : aK} {pc : Nat} {ls : aL} {r : List aV} {S : aS} {a v : Int} : wBst k pc ls (.inl v :: .inl a :: .inr (.inr 274) :: r) S = (0 ≤ a ∧ a < 20000 ∧ k pc ls r (upI S 274 a.toNat (narB v))) := e_bst (by decide) rfl rfl
theorem n_274 {k : aK} {pc : Nat} {ls : aL} {r : List aV} {S : aS} : wAln k pc ls (.inr (.inr 274) :: r) S = k pc ls (.inl 20000 :: r) S := e_aln (by decide) (by decide) (by decide) rfl
theorem l_275 {k : aK} {pc : Nat} {ls : aL} {r : List aV} {S : aS} {a : Int} : wAld (fun t => t == 0) k pc ls (.inl a :: .inr (.inr 275) :: r) S = (0 ≤ a ∧ a < 40 ∧ k pc ls (.inl (S.1 275 a.toNat) :: r) S) := e_ald (by decide) rfl rfl
theorem s_275 {k : aK} {pc : Nat} {ls : aL} {r : List aV} {S : aS} {a v : Int} : wAst k pc ls (.inl v :: .inl a :: .inr (.inr 275) :: r) S = (0 ≤ a ∧ a < 40 ∧ k pc ls r (upI S 275 a.toNat v)) := e_ast (by decide) rfl rfl
theorem n_275 {k : aK} {pc : Nat} {ls : aL} {r : List aV} {S : aS} : wAln k pc ls (.inr (.inr 275) :: r) S = k pc ls (.inl 40 :: r) S := e_aln (by decide) (by decide) (by decide) rfl
