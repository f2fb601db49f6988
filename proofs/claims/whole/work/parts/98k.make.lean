/-! CONSTRUCTORS: the world in the making: n cells are there, phi says which references are set -/
def va_AOA (ty : FieldType) (U : State) : Prop := (Cond.arrayOver (.array ty)).before #[] U = true
theorem va_AOA.use {ty : FieldType} {A : Array Value} {U : State} (h : va_AOA ty U) : (Cond.arrayOver (.array ty)).before A U = true := h
theorem va_AOA.moved {ty : FieldType} {u U : State} (hvm : u.vm.Alike U.vm) (h : va_AOA ty u) : va_AOA ty U := Jvm.Stand.arrayOver_alikeB hvm h
def cFv (B0 : Nat) (φ : Nat → Nat → Bool) (S : aS) (i k : Nat) : Option Nat → Value
  | some r => if φ i k = true then .ref (B0 + r) else .null
  | none => .int (Int32.ofInt (S.1 i k))
def cEl (cy : Nat → ClassId) (B0 : Nat) (φ : Nat → Nat → Bool) (S : aS) (i : Nat) : aC → va_E
  | .inl (c, fs) => .inr (c, fs.mapIdx (cFv B0 φ S i))
  | .inr x => aE cy (fun j => B0 + j) S i (.inr x)
def cWd (cy : Nat → ClassId) (B0 n : Nat) (φ : Nat → Nat → Bool) (S : aS) : va_W := (List.range n).map fun i => (B0 + i, cEl cy B0 φ S i (LY i))
def bA (B0 : Nat) : Nat → Prop := fun q => B0 ≤ q
section CW
variable {cy : Nat → ClassId} {B0 n : Nat} {φ φ' : Nat → Nat → Bool} {S S' : aS} {D : va_G} {H0 H H1 : Heap} {locs : List Loc}
theorem cWd_get {i : Nat} (h : i < n) : (cWd cy B0 n φ S)[i]? = some (B0 + i, cEl cy B0 φ S i (LY i)) := by
  simp [cWd, h]
theorem cWd_inv {k : Nat} {q : Nat × va_E} (h : (cWd cy B0 n φ S)[k]? = some q) : k < n ∧ q = (B0 + k, cEl cy B0 φ S k (LY k)) := by
  by_cases hk : k < n
  · rw [cWd_get hk] at h
    exact ⟨hk, (Option.some.inj h).symm⟩
  · have : (cWd cy B0 n φ S)[k]? = none := by simp [cWd]; omega
    rw [this] at h
    cases h
theorem cWd_D : va_D (bA B0) (cWd cy B0 n φ S) := by
  refine ⟨fun i j p q hi hj hpq => ?_, fun k q hq => ?_⟩
  · obtain ⟨_, rfl⟩ := cWd_inv hi
    obtain ⟨_, rfl⟩ := cWd_inv hj
    have : B0 + i = B0 + j := hpq
    omega
  · obtain ⟨_, rfl⟩ := cWd_inv hq
    show B0 ≤ B0 + k
    omega
def cX (D : va_G) (cy : Nat → ClassId) (B0 n : Nat) (φ : Nat → Nat → Bool) (S : aS) (H0 H : Heap) (locs : List Loc) : Prop := H.size = B0 + n ∧ va_P D vwCl (cWd cy B0 n φ S) H ∧ va_S (bA B0) H0 H locs
theorem cX_grow {M : Nat} (hX : cX D cy B0 n φ S H0 H locs) (z : H1.size = H.size + M) (ho : ∀ q, q < H.size → H1[q]? = H[q]?) (hat : ∀ k, n ≤ k → k < n + M → va_at D vwCl (B0 + k, cEl cy B0 φ S k (LY k)) H1) : cX D cy B0 (n + M) φ S H0 H1 locs := by
  obtain ⟨x1, x2, x3⟩ := hX
  refine ⟨by omega, fun k q hq => ?_, by have := x3.1; omega, fun q h1 h2 => ?_, x3.2.2⟩
  · obtain ⟨hk, rfl⟩ := cWd_inv hq
    by_cases h : k < n
    · exact (x2 k _ (cWd_get h)).kept (ho _ (by show B0 + k < H.size; omega))
    · exact hat k (by omega) hk
  · rw [ho q (Nat.lt_of_lt_of_le h1 x3.1)]
    exact x3.2.1 q h1 h2
theorem cX_c (hX : cX D cy B0 n φ S H0 H locs) (h : ∀ a, a < n → cEl cy B0 φ S a (LY a) = cEl cy B0 φ' S' a (LY a)) : cX D cy B0 n φ' S' H0 H locs := by
  obtain ⟨x1, x2, x3⟩ := hX
  refine ⟨x1, fun k q hq => ?_, x3⟩
  obtain ⟨hk, rfl⟩ := cWd_inv hq
  rw [← h k hk]
  exact x2 k _ (cWd_get hk)
theorem mIdx_c {f g : Nat → Option Nat → Value} {fs : List (Option Nat)} (h : ∀ k x, fs[k]? = some x → f k x = g k x) : fs.mapIdx f = fs.mapIdx g := by
  apply List.ext_getElem?
  intro k
  rw [List.getElem?_mapIdx, List.getElem?_mapIdx]
  cases e : fs[k]? with
  | none => rfl
  | some x => exact congrArg some (h k x e)
theorem cEl_c {a : Nat} (h : ∀ c fs, LY a = .inl (c, fs) → ∀ k r, fs[k]? = some (some r) → φ a k = φ' a k) : cEl cy B0 φ S a (LY a) = cEl cy B0 φ' S a (LY a) := by
  cases e : LY a with
  | inl x =>
    obtain ⟨c, fs⟩ := x
    have := h c fs e
    show Sum.inr (c, fs.mapIdx (cFv B0 φ S a)) = Sum.inr (c, fs.mapIdx (cFv B0 φ' S a))
    rw [mIdx_c (f := cFv B0 φ S a) (g := cFv B0 φ' S a) (fun k x hx => by
      cases x with
      | none => rfl
      | some r =>
        show (if φ a k = true then _ else _) = (if φ' a k = true then _ else _)
        rw [this k r hx])]
  | inr x => rfl
/-- an object with all its references set -/
def stO (φ : Nat → Nat → Bool) (i : Nat) : Nat → Nat → Bool := fun a b => if a = i then true else φ a b
def upB (φ : Nat → Nat → Bool) (i k : Nat) : Nat → Nat → Bool := fun a b => if a = i ∧ b = k then true else φ a b
theorem stO_o {i a : Nat} (h : ¬ a = i) : stO φ i a = φ a := funext fun _ => if_neg h
theorem stO_i {i k : Nat} : stO φ i i k = true := if_pos rfl
theorem upB_o {i k a : Nat} (h : ¬ a = i) : upB φ i k a = φ a := funext fun _ => if_neg (fun z => h z.1)
theorem upB_n {i k b : Nat} (h : ¬ b = k) : upB φ i k i b = φ i b := if_neg (fun z => h z.2)
theorem upB_i {i k : Nat} : upB φ i k i k = true := if_pos ⟨rfl, rfl⟩
theorem cX_O {i ci : Nat} {fs : List (Option Nat)} (hX : cX D cy B0 n φ S H0 H locs) (hLY : LY i = .inl (ci, fs)) (h : ∀ k r, fs[k]? = some (some r) → φ i k = true) (hi : ∀ k, φ' i k = true) (ho : ∀ a, ¬ a = i → φ a = φ' a) : cX D cy B0 n φ' S H0 H locs := by
  refine cX_c hX (fun a _ => cEl_c (fun c fs' e k r hk => ?_))
  by_cases q : a = i
  · subst q
    rw [hLY] at e
    cases e
    rw [h k r hk, hi]
  · rw [ho a q]
end CW
theorem ofI_0 : Int32.ofInt 0 = 0 := by decide
theorem ofL_0 : Int64.ofInt 0 = 0 := by decide
theorem outC (c : ClassId) (N h0 : Nat) : ∀ i : Nat, Jvm.Free.Multi.outerC c N h0 i = arrV c N (fun j => va_rf (if j < i then some (h0 + 1 + j) else none))
  | 0 => by
    show ({ cls := c, slots := Array.replicate N .null, vm := .none } : Cell) = _
    rw [arrV_new]
    refine congrArg (arrV c N) (funext fun j => ?_)
    rw [if_neg (by omega)]
    rfl
  | i + 1 => by
    show (Jvm.Free.Multi.outerC c N h0 i).setSlot i (.ref (h0 + 1 + i)) = _
    rw [outC c N h0 i, arrV_store]
    refine congrArg (arrV c N) (funext fun j => ?_)
    by_cases e : j = i
    · subst e
      simp [updV, va_rf]
    · by_cases h : j < i
      · simp [updV, e, h, Nat.lt_succ_of_lt h]
      · simp [updV, e, h, show ¬ j < i + 1 by omega]
theorem arrV_c {c : ClassId} {N : Nat} {f g : Nat → Value} (h : ∀ j, j < N → f j = g j) : arrV c N f = arrV c N g := by
  unfold arrV
  congr 2
  funext j
  exact h j.1 j.2
section CR
variable {p : Program} {l : Launch} {e : Env} {R : Room} {s : State} {m : MethodId} {args : Array Value} {below : List Frame} {meth : Method} {c : Code} {H : Heap} {locs : List Loc} {cells slots : Nat} {Q : State → Prop}
variable {cc : ByteArray} {pc : Nat} {ls : Array Slot} {rest : List Value} {D : va_G} {cy : Nat → ClassId} {B0 n : Nat} {φ : Nat → Nat → Bool} {S : aS} {H0 : Heap}
theorem cr_new (hexec : p.tables.exec = Jvm.exec) (hb : c.code = cc) {own C : String} {T : u_T} {N ci index : Nat} (hts : ∀ w ∈ gw, w.before args s = true) (hin : ∀ w ∈ u_ws C T N, w ∈ gw) (ty : Nat → FieldType) (hty : ∀ k, k < N → parseFieldDescriptor (T k).2.2.1 = some (ty k)) (hown : s.vm.findClass own = some m.cls) (hcl : Cond.classLink own index C ∈ gw) (hinst : Cond.instantiable C N ∈ gw) (hini : Cond.initialized C ∈ gw) (hK : aKK D cy s) (hX : cX D cy B0 n φ S H0 H locs) (hc : vwCl[ci]? = some (C, T, N)) {fs : List (Option Nat)} (hLY : LY n = .inl (ci, fs)) (hl : fs.length = N) (hφ : ∀ k, φ n k = false) (hS : ∀ k, S.1 n k = 0) (hd : ∀ j, j < N → defaultValue (ty j) = (match fs[j]? with | some (some _) => .null | _ => .int 0)) (hcells : cells + 1 ≤ R.cells) (hslots : slots + N ≤ R.slots) (hdg : decode cc pc = .ok (.new index, 3))
    (kk : ∀ H1 : Heap, cX D cy B0 (n + 1) φ S H0 H1 locs → W p l e R s m args below meth c H1 locs (cells + 1) (slots + N) Q (F0 m (pc + 3) ls (.ref (B0 + n) :: rest))) : W p l e R s m args below meth c H locs cells slots Q (F0 m pc ls rest) := by
  have hKn := hK.1.1 ci _ hc
  refine W.newcK hexec hb hown (hts _ hcl) (hts _ hinst) (hts _ hini) rfl hdg hcells hslots hKn.2.1 hX.1 fun H1 kC hkC e1 z1 o1 => ?_
  refine kk H1 (cX_grow (M := 1) hX (by rw [z1, hX.1]) (fun q hq => o1 q (by rw [← hX.1]; exact hq)) (fun k h1 h2 => ?_))
  have hk : k = n := by omega
  subst hk
  rw [hLY]
  refine ⟨_, hc, (u_born ty hts hin hKn hkC e1 hty).to (fun j hj => ?_)⟩
  show defaultValue (ty j) = vp_V (fs.mapIdx (cFv B0 φ S k)) j
  rw [hd j hj]
  unfold vp_V
  rw [List.getD_eq_getElem?_getD, List.getElem?_mapIdx]
  cases e : fs[j]? with
  | none => exact absurd e (by rw [List.getElem?_eq_none_iff]; omega)
  | some x =>
    cases x with
    | none =>
      show Value.int 0 = .int (Int32.ofInt (S.1 k j))
      rw [hS, ofI_0]
    | some r =>
      show Value.null = (if φ k j = true then Value.ref (B0 + r) else .null)
      rw [hφ]; rfl
theorem cr_newa (hexec : p.tables.exec = Jvm.exec) (hb : c.code = cc) {atype : ArrayType} (harr : Cond.arrayClass (newarray.typeOf atype) ∈ gw) (hts : ∀ w ∈ gw, w.before args s = true) (hK : aKK D cy s) (hX : cX D cy B0 n φ S H0 H locs) {t N b : Nat} (hLY : LY n = .inr (t, N, b)) (hty : (aTys cy)[t]? = some (cy t, newarray.typeOf atype)) (hS : S.1 n = fun _ => 0) (hS2 : S.2 n = fun _ => 0) {k : Int32} (hn : ¬ k < 0) (hN : k.toNatClampNeg = N) (hdv : (t < 3 ∧ defaultValue (newarray.typeOf atype) = .int 0) ∨ (t = 3 ∧ defaultValue (newarray.typeOf atype) = .long 0)) (hbytes : N * componentBytes (newarray.typeOf atype) ≤ 536870912) (hcells : cells + 1 ≤ R.cells) (hslots : slots + N ≤ R.slots) (hdg : decode cc pc = .ok (.newarray atype, 2))
    (kk : ∀ H1 : Heap, cX D cy B0 (n + 1) φ S H0 H1 locs → W p l e R s m args below meth c H1 locs (cells + 1) (slots + N) Q (F0 m (pc + 2) ls (.ref (B0 + n) :: rest))) : W p l e R s m args below meth c H locs cells slots Q (F0 m pc ls (.int k :: rest)) := by
  refine va_newaK hexec hb (hts _ harr) rfl hdg rfl hn hN hbytes hcells hslots hX.1 fun H1 cA e1 z1 o1 hAr hNm => ?_
  have hc : cA = cy t := by
    have h1 : va_RA s (cy t) (newarray.typeOf atype) := (hK.1.2 t _ hty).2
    have h2 : s.vm.findClass ("[" ++ (newarray.typeOf atype).toString) = some (cy t) := by cases atype <;> exact h1
    exact Option.some.inj (hNm.symm.trans h2)
  subst hc
  refine kk H1 (cX_grow (M := 1) hX (by rw [z1, hX.1]) (fun q hq => o1 q (by rw [← hX.1]; exact hq)) (fun k h1 h2 => ?_))
  have hk : k = n := by omega
  subst hk
  rw [hLY]
  rcases hdv with ⟨h3, hd⟩ | ⟨rfl, hd⟩
  · have e2 : cEl cy B0 φ S k (.inr (t, N, b)) = .inl (cy t, N, .inl (fun j => Int32.ofInt (S.1 k j))) := by
      show aE cy _ S k (.inr (t, N, b)) = _
      simp only [aE]
      rw [if_neg (by omega), if_pos h3]
    rw [e2]
    show H1[B0 + k]? = some (arrV (cy t) N (fun j => .int (Int32.ofInt (S.1 k j))))
    rw [e1, hd, hS]
    rfl
  · have e2 : cEl cy B0 φ S k (.inr (3, N, b)) = .inl (cy 3, N, .inr (.inl (fun j => Int64.ofInt (S.2 k j)))) := rfl
    rw [e2]
    show H1[B0 + k]? = some (arrV (cy 3) N (fun j => .long (Int64.ofInt (S.2 k j))))
    rw [e1, hd, hS2]
    rfl
theorem cr_mna (hexec : p.tables.exec = Jvm.exec) (hb : c.code = cc) {own : String} {index : Nat} {ty : FieldType} (hown : s.vm.findClass own = some m.cls) (hclink : Cond.classLink own index ("[" ++ (FieldType.array ty).toString) ∈ gw) (hover : va_AOA ty s) (harr : Cond.arrayClass ty ∈ gw) (hts : ∀ w ∈ gw, w.before args s = true) (hK : aKK D cy s) (hX : cX D cy B0 n φ S H0 H locs) {t0 t N M : Nat} (hLY : LY n = .inr (t0, N, n + 1)) (ht0 : t0 = 4 ∨ t0 = 5) (hty0 : (aTys cy)[t0]? = some (cy t0, .array ty)) (hrow : ∀ j, j < N → LY (n + 1 + j) = .inr (t, M, 0)) (ht : (t = 0 ∧ ty = .int) ∨ (t = 3 ∧ ty = .long)) (hty : (aTys cy)[t]? = some (cy t, ty)) (hS : ∀ a, n ≤ a → S.1 a = (fun _ => 0) ∧ S.2 a = fun _ => 0) {a b : Int32} (ha : ¬ a < 0) (hb' : ¬ b < 0) (hN : a.toNatClampNeg = N) (hM : b.toNatClampNeg = M) (hb1 : N * 4 ≤ 536870912) (hb2 : M * componentBytes ty ≤ 536870912) (hb3 : M ≤ 536870912) (hcells : cells + (1 + N) ≤ R.cells) (hslots : slots + (N + N * M) ≤ R.slots) (hdg : decode cc pc = .ok (.multianewarray index 2, 4))
    (kk : ∀ H1 : Heap, cX D cy B0 (n + (1 + N)) φ S H0 H1 locs → W p l e R s m args below meth c H1 locs (cells + 1 + N) (slots + N + N * M) Q (F0 m (pc + 4) ls (.ref (B0 + n) :: rest))) : W p l e R s m args below meth c H locs cells slots Q (F0 m pc ls (.int b :: .int a :: rest)) := by
  subst hN
  subst hM
  have hdf : fits ty (defaultValue ty) = true ∧ (defaultValue ty).isDefault = true := by
    rcases ht with ⟨_, rfl⟩ | ⟨_, rfl⟩ <;> exact ⟨rfl, rfl⟩
  intro T hT Xs
  obtain ⟨vm₁, cA, comp, -, fA, fC, hO, -, X', step⟩ := Xs.multianewarray2F hexec hown (hts _ hclink) (va_AOA.use hover) (hts _ harr) (g := F0 m pc ls (.int b :: .int a :: rest)) rfl (by rw [hb]; exact hdg) rfl ha hb' hb1 hb2 hb3 hdf.1 hdf.2 hcells hslots
  have hcA : cA = cy t0 := by
    have h1 : va_RA s (cy t0) (.array ty) := (hK.1.2 t0 _ hty0).2
    exact Option.some.inj (fA.symm.trans h1)
  have hcC : comp = cy t := by
    have h1 : va_RA s (cy t) ty := (hK.1.2 t _ hty).2
    rcases ht with ⟨_, rfl⟩ | ⟨_, rfl⟩ <;> exact Option.some.inj (fC.symm.trans h1)
  subst hcA
  subst hcC
  have hTh : (T.setVm vm₁).heap = H := hT
  obtain ⟨f1, f2, -, -⟩ := Jvm.Free.Multi.fill_facts (T.setVm vm₁) (cy t0) (cy t) a.toNatClampNeg b.toNatClampNeg (defaultValue ty) a.toNatClampNeg
  have hold := fun (q : Nat) (hq : q < H.size) => Jvm.Free.Multi.fill_old (T.setVm vm₁) (cy t0) (cy t) a.toNatClampNeg b.toNatClampNeg (defaultValue ty) (a := q) (by rw [hTh]; exact hq) a.toNatClampNeg
  have hrow' := fun (j : Nat) (hj : j < a.toNatClampNeg) => Jvm.Free.Multi.fill_inner (T.setVm vm₁) (cy t0) (cy t) a.toNatClampNeg b.toNatClampNeg (defaultValue ty) a.toNatClampNeg j hj
  generalize Jvm.Free.Multi.fill (T.setVm vm₁) (cy t0) (cy t) a.toNatClampNeg b.toNatClampNeg (defaultValue ty) a.toNatClampNeg = F at X' step f1 f2 hold hrow'
  rw [hTh] at f1 f2 hold hrow'
  have hsz := hX.1
  obtain ⟨t2, a1, b1⟩ := kk F.heap (cX_grow (M := 1 + a.toNatClampNeg) hX (by rw [f1]; omega) hold (fun k h1 h2 => by
    by_cases hk : k = n
    · subst hk
      rw [hLY]
      have e2 : cEl cy B0 φ S k (.inr (t0, a.toNatClampNeg, k + 1)) = .inl (cy t0, a.toNatClampNeg, .inr (.inr (.inr (.inr fun j => some (B0 + (k + 1 + j)))))) := by
        show aE cy _ S k (.inr (t0, a.toNatClampNeg, k + 1)) = _
        simp only [aE]
        rw [if_neg (by omega), if_neg (by omega)]
      rw [e2]
      show F.heap[B0 + k]? = some (arrV (cy t0) a.toNatClampNeg (fun j => va_rf (some (B0 + (k + 1 + j)))))
      rw [← hsz, f2, outC]
      exact congrArg some (arrV_c fun j hj => by
        rw [if_pos hj, hsz, show B0 + k + 1 + j = B0 + (k + 1 + j) from by omega])
    · obtain ⟨j, rfl⟩ : ∃ j, k = n + 1 + j := ⟨k - (n + 1), by omega⟩
      rw [hrow j (by omega)]
      have hh := hrow' j (by omega)
      rw [hsz, show B0 + n + 1 + j = B0 + (n + 1 + j) from by omega] at hh
      obtain ⟨s1, s2⟩ := hS (n + 1 + j) (by omega)
      have hin : Jvm.Free.Multi.innerC (cy t) b.toNatClampNeg (defaultValue ty) = arrV (cy t) b.toNatClampNeg (fun _ => defaultValue ty) := by
        rw [← arrV_new]; rfl
      rw [hin] at hh
      rcases ht with ⟨rfl, rfl⟩ | ⟨rfl, rfl⟩
      · show F.heap[B0 + (n + 1 + j)]? = some (arrV (cy 0) b.toNatClampNeg (fun i => .int (Int32.ofInt (S.1 (n + 1 + j) i))))
        rw [hh, s1]
        rfl
      · show F.heap[B0 + (n + 1 + j)]? = some (arrV (cy 3) b.toNatClampNeg (fun i => .long (Int64.ofInt (S.2 (n + 1 + j) i))))
        rw [hh, s2]
        rfl)) F rfl X'
  refine ⟨t2, step t2 ?_, b1⟩
  have e : T.heap.size = B0 + n := by rw [hT, hsz]
  rw [e]
  exact a1
theorem cr_put (hexec : p.tables.exec = Jvm.exec) (hb : c.code = cc) {own C : String} {T : u_T} {N ci index : Nat} (hts : ∀ w ∈ gw, w.before args s = true) (hin : ∀ w ∈ u_ws C T N, w ∈ gw) (ty0 : Nat → FieldType) (hty : ∀ k, k < N → parseFieldDescriptor (T k).2.2.1 = some (ty0 k)) (hnm : ∀ a, a < N → ∀ b, b < N → a ≠ b → (T a).2.1 ≠ (T b).2.1) (hown : s.vm.findClass own = some m.cls) (hK : aKK D cy s) (hX : cX D cy B0 n φ S H0 H locs) {i : Nat} (hi' : i < n) {fs : List (Option Nat)} (hLY : LY i = .inl (ci, fs)) (hc : vwCl[ci]? = some (C, T, N)) (k : Nat) (hk : k < N) (hlen : fs.length = N) (hlink : Cond.fieldLink own index (T k).1 (T k).2.1 (T k).2.2.1 ∈ gw) (hfin : (T k).2.2.2 = true) (hin2 : meth.name = "<init>") (hdecl : (T k).1 = own) {ty : FieldType} {v : Value} (hd : parseFieldDescriptor (T k).2.2.1 = some ty) (hn : narrow ty v = v) (hfit : fits ty v = true) {φ' : Nat → Nat → Bool} {S' : aS} (hv : ∀ j, j < N → updV (vp_V (fs.mapIdx (cFv B0 φ S i))) k v j = vp_V (fs.mapIdx (cFv B0 φ' S' i)) j) (ho : ∀ j, j < n → ¬ j = i → cEl cy B0 φ S j (LY j) = cEl cy B0 φ' S' j (LY j)) (hdg : decode cc pc = .ok (.putfield index, 3))
    (kk : ∀ (H1 : Heap) (locs1 : List Loc), cX D cy B0 n φ' S' H0 H1 locs1 → W p l e R s m args below meth c H1 locs1 cells slots Q (F0 m (pc + 3) ls rest)) : W p l e R s m args below meth c H locs cells slots Q (F0 m pc ls (v :: .ref (B0 + i) :: rest)) := by
  have hap := va_apart (own := own) (fun w hw => hts w hw) hin ty0 hty hnm hK.1 hc
  obtain ⟨x1, x2, x3⟩ := hX
  have hat := x2 i _ (cWd_get hi')
  rw [hLY] at hat
  obtain ⟨r, h1, cell, q1, q2, q3, q4⟩ := hat
  have hr : r = (C, T, N) := Option.some.inj (h1.symm.trans hc)
  subst hr
  obtain ⟨hSl, hfc, kC, hkC, hkind⟩ := hK.1.1 ci _ hc
  obtain ⟨cf, kf, fi, f, hi, hsl⟩ := hSl k hk
  have hlay := hts _ (hin _ (u_in_lay hk))
  unfold u_lay at hlay
  rw [if_pos hfin] at hlay
  have hst := (u_facts hfc hkC (u_lays hts hin hk) hi).1
  have hcf : m.cls = cf := by
    obtain ⟨_, _, c', _, _, _, -, -, hf', -, -, -, hown2, -⟩ := Cond.laysFinal_spec hlay
    have e1 : c' = cf := by have := hi.symm.trans hf'; simp at this; exact this.1.symm
    rw [hdecl] at hown2
    rw [← e1]; exact Option.some.inj (hown.symm.trans hown2)
  have h6 := u_fits hfc hkC hkind (Or.inr hlay) hi hd hn hfit
  refine W.putFinK hexec hb hown (hts _ hlink) hi hst hcf hin2 (by rw [q2]; exact h6) q1 q3 (by rw [hsl]; exact k2_hasslot (q4 k hk)) rfl rfl hdg fun H' e1 e2 e3 => ?_
  rw [hsl] at e1 ⊢
  refine kk H' _ ⟨by rw [e2, x1], fun j q hq => ?_, x3.put e2 e3 (show B0 ≤ B0 + i by omega)⟩
  obtain ⟨hj, rfl⟩ := cWd_inv hq
  by_cases hji : j = i
  · subst hji
    rw [hLY]
    exact ⟨_, hc, t_OB.to (V := updV (vp_V (fs.mapIdx (cFv B0 φ S j))) k v) ⟨_, e1, q2, q3, t_set q4 hap hk v⟩ hv⟩
  · rw [← ho j hj hji]
    exact (x2 j _ (cWd_get hj)).kept (e3 _ (by show B0 + j ≠ B0 + i; omega))
theorem cr_putr (hexec : p.tables.exec = Jvm.exec) (hb : c.code = cc) {own C : String} {T : u_T} {N ci index : Nat} (hts : ∀ w ∈ gw, w.before args s = true) (hin : ∀ w ∈ u_ws C T N, w ∈ gw) (ty0 : Nat → FieldType) (hty : ∀ k, k < N → parseFieldDescriptor (T k).2.2.1 = some (ty0 k)) (hnm : ∀ a, a < N → ∀ b, b < N → a ≠ b → (T a).2.1 ≠ (T b).2.1) (hown : s.vm.findClass own = some m.cls) (hK : aKK D cy s) (hX : cX D cy B0 n φ S H0 H locs) {i r : Nat} (hi' : i < n) {fs : List (Option Nat)} (hLY : LY i = .inl (ci, fs)) (hc : vwCl[ci]? = some (C, T, N)) (k : Nat) (hk : k < N) (hlen : fs.length = N) (hr : fs[k]? = some (some r)) (hlink : Cond.fieldLink own index (T k).1 (T k).2.1 (T k).2.2.1 ∈ gw) (hfin : (T k).2.2.2 = true) (hin2 : meth.name = "<init>") (hdecl : (T k).1 = own) {ty : FieldType} (hd : parseFieldDescriptor (T k).2.2.1 = some ty) (hn : narrow ty (.ref (B0 + r)) = .ref (B0 + r)) (hfit : fits ty (.ref (B0 + r)) = true) (hdg : decode cc pc = .ok (.putfield index, 3))
    (kk : ∀ (H1 : Heap) (locs1 : List Loc), cX D cy B0 n (upB φ i k) S H0 H1 locs1 → W p l e R s m args below meth c H1 locs1 cells slots Q (F0 m (pc + 3) ls rest)) : W p l e R s m args below meth c H locs cells slots Q (F0 m pc ls (.ref (B0 + r) :: .ref (B0 + i) :: rest)) := by
  refine cr_put hexec hb hts hin ty0 hty hnm hown hK hX hi' hLY hc k hk hlen hlink hfin hin2 hdecl hd hn hfit (fun j hj => ?_) (fun j _ hji => cEl_c (fun c fs' _ b _ _ => by rw [upB_o hji])) hdg kk
  unfold updV vp_V
  rw [List.getD_eq_getElem?_getD, List.getD_eq_getElem?_getD, List.getElem?_mapIdx, List.getElem?_mapIdx]
  by_cases q : j = k
  · subst q
    rw [if_pos rfl, hr]
    show _ = (if upB φ i j i j = true then Value.ref (B0 + r) else .null)
    rw [upB_i]; rfl
  · rw [if_neg q]
    cases e : fs[j]? with
    | none => rfl
    | some x =>
      cases x with
      | none => rfl
      | some r' =>
        show (if φ i j = true then Value.ref (B0 + r') else .null) = (if upB φ i k i j = true then Value.ref (B0 + r') else .null)
        rw [upB_n q]
theorem cr_puti (hexec : p.tables.exec = Jvm.exec) (hb : c.code = cc) {own C : String} {T : u_T} {N ci index : Nat} (hts : ∀ w ∈ gw, w.before args s = true) (hin : ∀ w ∈ u_ws C T N, w ∈ gw) (ty0 : Nat → FieldType) (hty : ∀ k, k < N → parseFieldDescriptor (T k).2.2.1 = some (ty0 k)) (hnm : ∀ a, a < N → ∀ b, b < N → a ≠ b → (T a).2.1 ≠ (T b).2.1) (hown : s.vm.findClass own = some m.cls) (hK : aKK D cy s) (hX : cX D cy B0 n φ S H0 H locs) {i : Nat} {x : Int} (hi' : i < n) {fs : List (Option Nat)} (hLY : LY i = .inl (ci, fs)) (hc : vwCl[ci]? = some (C, T, N)) (k : Nat) (hk : k < N) (hlen : fs.length = N) (hr : fs[k]? = some none) (hlink : Cond.fieldLink own index (T k).1 (T k).2.1 (T k).2.2.1 ∈ gw) (hfin : (T k).2.2.2 = true) (hin2 : meth.name = "<init>") (hdecl : (T k).1 = own) {ty : FieldType} (hd : parseFieldDescriptor (T k).2.2.1 = some ty) (hn : narrow ty (.int (Int32.ofInt x)) = .int (Int32.ofInt x)) (hfit : fits ty (.int (Int32.ofInt x)) = true) (hdg : decode cc pc = .ok (.putfield index, 3))
    (kk : ∀ (H1 : Heap) (locs1 : List Loc), cX D cy B0 n φ (upI S i k x) H0 H1 locs1 → W p l e R s m args below meth c H1 locs1 cells slots Q (F0 m (pc + 3) ls rest)) : W p l e R s m args below meth c H locs cells slots Q (F0 m pc ls (.int (Int32.ofInt x) :: .ref (B0 + i) :: rest)) := by
  refine cr_put hexec hb hts hin ty0 hty hnm hown hK hX hi' hLY hc k hk hlen hlink hfin hin2 hdecl hd hn hfit (fun j hj => ?_) (fun j _ hji => ?_) hdg kk
  · unfold updV vp_V
    rw [List.getD_eq_getElem?_getD, List.getD_eq_getElem?_getD, List.getElem?_mapIdx, List.getElem?_mapIdx]
    by_cases q : j = k
    · subst q
      rw [if_pos rfl, hr]
      show _ = Value.int (Int32.ofInt ((upI S i j x).1 i j))
      rw [up_hit]
    · rw [if_neg q]
      cases e : fs[j]? with
      | none => rfl
      | some y =>
        cases y with
        | none =>
          show Value.int (Int32.ofInt (S.1 i j)) = Value.int (Int32.ofInt ((upI S i k x).1 i j))
          rw [up_cell q]
        | some r' => rfl
  · cases e : LY j with
    | inl y =>
      obtain ⟨c', fs'⟩ := y
      show Sum.inr (c', fs'.mapIdx (cFv B0 φ S j)) = Sum.inr (c', fs'.mapIdx (cFv B0 φ (upI S i k x) j))
      rw [mIdx_c (f := cFv B0 φ S j) (g := cFv B0 φ (upI S i k x) j) (fun b y _ => by
        cases y with
        | none =>
          show Value.int (Int32.ofInt (S.1 j b)) = Value.int (Int32.ofInt ((upI S i k x).1 j b))
          rw [up_obj hji]
        | some r => rfl)]
    | inr y => exact (aE_upI (fun z => hji z) (.inr y)).symm
theorem cr_get (hexec : p.tables.exec = Jvm.exec) (hb : c.code = cc) {own C : String} {T : u_T} {N ci index : Nat} (hts : ∀ w ∈ gw, w.before args s = true) (hin : ∀ w ∈ u_ws C T N, w ∈ gw) (hown : s.vm.findClass own = some m.cls) (hK : aKK D cy s) (hX : cX D cy B0 n φ S H0 H locs) {i r : Nat} (hi' : i < n) {fs : List (Option Nat)} (hLY : LY i = .inl (ci, fs)) (hc : vwCl[ci]? = some (C, T, N)) (k : Nat) (hk : k < N) (hr : fs[k]? = some (some r)) (hφ : φ i k = true) (hlink : Cond.fieldLink own index (T k).1 (T k).2.1 (T k).2.2.1 ∈ gw) (hdg : decode cc pc = .ok (.getfield index, 3))
    (kk : W p l e R s m args below meth c H locs cells slots Q (F0 m (pc + 3) ls (.ref (B0 + r) :: rest))) : W p l e R s m args below meth c H locs cells slots Q (F0 m pc ls (.ref (B0 + i) :: rest)) := by
  have he : (cWd cy B0 n φ S)[i]? = some (B0 + i, .inr (ci, fs.mapIdx (cFv B0 φ S i))) := by
    rw [cWd_get hi', hLY]; rfl
  refine va_get (v := .ref (B0 + r)) hexec hb hts hin hown hK.1 hX.2.1 i he hc k hk (hts _ hlink) (fun _ h => h) ?_ hdg kk
  rw [List.getElem?_mapIdx, hr]
  show some (if φ i k = true then Value.ref (B0 + r) else .null) = _
  rw [hφ]; rfl
end CR
/-- the links to private constructors, and the arrays of arrays -/
def cNl : List (Nat × MethodName) := [(9, ⟨"SlipHouse$Tape", "<init>", "()V"⟩), (18, ⟨"SlipHouse$Books", "<init>", "()V"⟩), (25, ⟨"SlipHouse$Rules", "<init>", "()V"⟩), (64, ⟨"SlipHouse$Pointers", "<init>", "()V"⟩)]
def cNs (U : State) : Prop := (∀ q ∈ cNl, va_Nw (.methodLinkNest "SlipHouse" q.1 q.2 "SlipHouse") U) ∧ va_AOA .int U ∧ va_AOA .long U
theorem cNs.warm {s U : State} (h : cNs s) (hW : s.WarmedH U.vm) : cNs U := ⟨fun q hq => (h.1 q hq).warmM hW, h.2.1.moved hW.alike, h.2.2.moved hW.alike⟩
theorem cNs.same {u U : State} (h : cNs u) (hv : u.vm = U.vm) : cNs U := ⟨fun q hq => (h.1 q hq).same rfl hv, h.2.1.moved (by rw [hv]; exact Vm.Alike.refl _), h.2.2.moved (by rw [hv]; exact Vm.Alike.refl _)⟩
def cWb (D : va_G) (cy : Nat → ClassId) (B0 n : Nat) (φ : Nat → Nat → Bool) (S : aS) (U : State) : Prop := U.heap.size = B0 + n ∧ va_P D vwCl (cWd cy B0 n φ S) U.heap ∧ aKK D cy U ∧ cNs U
def cMt (l : Launch) (Y : aM) (mc ms i : Nat) (as : List aV) (n n' : Nat) (φ φ' : Nat → Nat → Bool) (S S' : aS) : Prop := ∀ (D : va_G) (cy : Nat → ClassId) (B0 : Nat), Met l Y.1 (aWs Y) ({ frames := Y.2.2.2.2.1, cells := mc, slots := ms, locals := Y.2.2.2.2.2 }) (va_Pc (.ref (B0 + i) :: as.map (mv (fun j => B0 + j))) (cWb D cy B0 n φ S)) (va_Qv (fun _ : Unit => True) (fun _ t => t.heap.size = B0 + n' ∧ va_P D vwCl (cWd cy B0 n' φ' S') t.heap) (bA B0)) mc ms (bA B0)
theorem cMt_of {l : Launch} {Y : aM} {mc ms i : Nat} {as : List aV} {n n' : Nat} {φ φ' : Nat → Nat → Bool} {S S' : aS} (hpl : plainName Y.1.cls = true) (hni : Y.1.name = "<init>") (hrt : Y.2.2.2.1 = none) (hlen : aLn (.inr (.inr i) :: as) ≤ Y.2.2.1)
    (h : ∀ (D : va_G) (cy : Nat → ClassId) (B0 : Nat) (p : Program) (e : Env) (R : Room) (s : State) (m : MethodId) (args : Array Value) (below : List Frame) (meth : Method) (c : Code) (jl : Array Slot), p.tables.exec = Jvm.exec → c.code = Y.2.1 → meth.sig.returnType = none → c.maxLocals = Y.2.2.1 → s.vm.findClass Y.1.cls = some m.cls → (∀ w ∈ gw, w.before args s = true) → meth.name = "<init>" → meth.locks = false → aKK D cy s → cNs s → cX D cy B0 n φ S s.heap s.heap [] → lv_has jl Y.2.2.1 (mL (fun j => B0 + j) (aAr 0 (.inr (.inr i) :: as))) → (Y.2.2.2.2.1 ≤ R.frames ∧ Y.2.2.2.2.2 ≤ R.locals ∧ mc ≤ R.cells ∧ ms ≤ R.slots) → W p l e R s m args below meth c s.heap [] 0 0 (MQ below (va_Qv (fun _ : Unit => True) (fun _ t => t.heap.size = B0 + n' ∧ va_P D vwCl (cWd cy B0 n' φ' S') t.heap) (bA B0)) args s mc ms (bA B0)) (F0 m 0 jl [])) : cMt l Y mc ms i as n n' φ φ' S S' := by
  intro D cy B0
  refine Met.ofW (cc := Y.2.1) (maxL := Y.2.2.1) (ret := Y.2.2.2.1) hpl rfl ?_
  intro p e s m args below meth c s₁ B hml hv
  obtain ⟨rfl, hsz, hP, hK, hN⟩ := hv
  have hts := atoms_spec (ws := aWs Y) B.pre
  have hown : s.vm.findClass Y.1.cls = some m.cls := findClass_of_methodNamed B.named
  have hin : meth.name = "<init>" := ((name_of_methodNamed B.named B.method).1).trans hni
  have hl := lv_entry ((Value.ref (B0 + i) :: as.map (mv (fun j => B0 + j)))) (n := Y.2.2.1) (by
    have := aLn_eq (fun j => B0 + j) (.inr (.inr i) :: as)
    have e : (((.inr (.inr i) :: as) : List aV).map (mv (fun j => B0 + j))) = Value.ref (B0 + i) :: as.map (mv (fun j => B0 + j)) := rfl
    rw [← e, this]; exact hlen)
  rw [lg_entry_eq]
  have eq0 : (((.inr (.inr i) :: as) : List aV).map (mv (fun j => B0 + j))) = Value.ref (B0 + i) :: as.map (mv (fun j => B0 + j)) := rfl
  have hl2 := hl
  rw [show lv_args 0 (Value.ref (B0 + i) :: as.map (mv (fun j => B0 + j))) = mL (fun j => B0 + j) (aAr 0 (.inr (.inr i) :: as)) from by rw [← eq0]; exact aAr_eq _ _ _] at hl2
  exact h D cy B0 p e _ s m _ below meth c _ B.exec B.bytes (B.returns.trans hrt) hml hown (fun w hw => hts w (List.mem_cons_of_mem _ hw)) hin B.notSynchronized hK hN ⟨hsz, hP, va_S.rf⟩ hl2 ⟨Nat.le_refl _, Nat.le_refl _, Nat.le_refl _, Nat.le_refl _⟩
section CR2
variable {p : Program} {l : Launch} {e : Env} {R : Room} {s : State} {m : MethodId} {args : Array Value} {below : List Frame} {meth : Method} {c : Code} {H : Heap} {locs : List Loc} {cells slots : Nat} {Q : State → Prop}
variable {cc : ByteArray} {pc : Nat} {ls : Array Slot} {rest : List Value} {D : va_G} {cy : Nat → ClassId} {B0 n n' : Nat} {φ φ' : Nat → Nat → Bool} {S S' : aS} {H0 : Heap}
theorem cr_ret (hexec : p.tables.exec = Jvm.exec) (hb : c.code = cc) (hr : meth.sig.returnType = none) (hX : cX D cy B0 n φ S s.heap H locs) (hlocks : meth.locks = false) (hdg : decode cc pc = .ok (.return_, 1)) {mc ms : Nat} (h1 : cells ≤ mc) (h2 : slots ≤ ms) : W p l e R s m args below meth c H locs cells slots (MQ below (va_Qv (fun _ : Unit => True) (fun _ t => t.heap.size = B0 + n ∧ va_P D vwCl (cWd cy B0 n φ S) t.heap) (bA B0)) args s mc ms (bA B0)) (F0 m pc ls []) := by
  refine W.widen h1 h2 ?_
  exact W.vret hexec hb hr (fun t ht _ => ⟨⟨(), rfl, trivial, by rw [ht]; exact hX.1, by rw [ht]; exact hX.2.1⟩, hX.2.2.F ht⟩) hX.2.2.2.2 hdg hlocks
theorem cr_obj (hexec : p.tables.exec = Jvm.exec) (hb : c.code = cc) {own : String} {idx nL a : Nat} (hown : s.vm.findClass own = some m.cls) (hts : ∀ w ∈ gw, w.before args s = true) (hlink : Cond.methodLink own idx Lib.objectInit ∈ gw) (hinst : Cond.instanceMethod Lib.objectInit ∈ gw) (hcode : Cond.code Lib.objectInit ⟨#[0xb1]⟩ 1 none ∈ gw) (hml : c.maxLocals = nL) (hls : ls.size = nL) (hd : decode cc pc = .ok (.invokespecial idx, 3)) (hf : 1 ≤ R.frames) (hl : 12 ≤ R.locals)
    (kk : W p l e R s m args below meth c H locs cells slots Q (F0 m (pc + 3) ls [])) : W p l e R s m args below meth c H locs cells slots Q (F0 m pc ls [.ref a]) :=
  W.objInit (g := F0 m pc ls [.ref a]) hexec hb hown (hts _ hlink) (hts _ hinst) (hts _ hcode) rfl (hls.trans hml.symm) rfl hd hf (by show 2 * 0 + 0 + 12 ≤ R.locals; omega) kk
theorem cr_run {mc ms i nL : Nat} {free : Addr → Prop} {st0 : List Value} {a : Array Value} (hX : cX D cy B0 n φ S H0 H locs) (hr : va_Run p l e R s m args below meth c H locs cells slots mc ms (F0 m pc ls st0) rest (va_Qv (fun _ : Unit => True) (fun _ t => t.heap.size = B0 + n' ∧ va_P D vwCl (cWd cy B0 n' φ' S') t.heap) (bA B0) a) (bA B0))
    (kk : ∀ (H1 : Heap) (locs1 : List Loc), cX D cy B0 n' φ' S' H0 H1 locs1 → W p l e R s m args below meth c H1 locs1 (cells + mc) (slots + ms) Q (F0 m (pc + 3) ls rest)) : W p l e R s m args below meth c H locs cells slots Q (F0 m pc ls st0) :=
  va_callv hr hX.2.2 (fun _ _ h => h) (fun _ h => h) (fun u t H1 locs1 ht _ _ hB _ _ hS => kk H1 locs1 ⟨by rw [← ht]; exact hB.1, by rw [← ht]; exact hB.2, hS⟩)
theorem cr_init {Y' : aM} {own : String} {idx mc ms i nL nA : Nat} {as : List aV} (hM : cMt l Y' mc ms i as n n' φ φ' S S') (hexec : p.tables.exec = Jvm.exec) (hb : c.code = cc) (hml : c.maxLocals = nL) (hls : ls.size = nL) (hown : s.vm.findClass own = some m.cls) (hts : ∀ w ∈ gw, w.before args s = true) (hK : aKK D cy s) (hN : cNs s) (hX : cX D cy B0 n φ S H0 H locs) (hrt : Y'.2.2.2.1 = none) (hg : Cond.code Y'.1 Y'.2.1 Y'.2.2.1 Y'.2.2.2.1 ∈ gw) (hini : Cond.initialized Y'.1.cls ∈ gw) (hlink : Cond.methodLink own idx Y'.1 ∈ gw) (hinst : Cond.instanceMethod Y'.1 ∈ gw) (hni : Y'.1.name = "<init>") (hd : Y'.1.cls ≠ "java/lang/invoke/MethodHandle" ∧ Y'.1.cls ≠ "java/lang/invoke/VarHandle" ∧ (parseMethodDescriptor Y'.1.desc).map (fun d => d.parameters.length) = some nA) (hnA : as.length = nA) (hR : Y'.2.2.2.2.1 + 1 ≤ R.frames ∧ 8 + (Y'.2.2.1 + 11) + Y'.2.2.2.2.2 ≤ R.locals) (hst : (rest.map fun v => v.category).sum ≤ 8) (hcs : cells + mc ≤ R.cells ∧ slots + ms ≤ R.slots) (hdg : decode cc pc = .ok (.invokespecial idx, 3))
    (kk : ∀ (H1 : Heap) (locs1 : List Loc), cX D cy B0 n' φ' S' H0 H1 locs1 → W p l e R s m args below meth c H1 locs1 (cells + mc) (slots + ms) Q (F0 m (pc + 3) ls rest)) : W p l e R s m args below meth c H locs cells slots Q (F0 m pc ls ((as.map (mv (fun j => B0 + j))).reverse ++ .ref (B0 + i) :: rest)) := by
  refine cr_run (i := 0) (nL := 0) (free := fun _ => True) hX (va_runI (As := as.map (mv (fun j => B0 + j))) ⟨hexec, hb, hml, hown, hts⟩ (hM D cy B0) (cwI nA hts (goodY hg) (by rw [← hrt]; rfl) rfl rfl (hts _ hini) (hts _ hlink) (hts _ hinst) hni hd hR) ⟨fun a U g mk q => ?_, fun U hU hW => ?_⟩ rfl (by rw [List.length_map]; exact hnA) hls rfl (lv_room hst) hdg hcs) kk
  · obtain ⟨q0, q1, q2, q3, q4⟩ := q
    exact ⟨q0, q1, q2, ⟨va_K.moved (u := U) (U := U.calling g mk a) (Vm.Alike.refl U.vm) q3.1, q3.2.same (U := U.calling g mk a) rfl⟩, q4.same (U := U.calling g mk a) rfl⟩
  · exact ⟨rfl, by rw [hU]; exact hX.1, by rw [hU]; exact hX.2.1, ⟨va_K.moved hW.alike hK.1, hK.2.warm hW⟩, hN.warm hW⟩
theorem cr_initN {Y' : aM} {own host : String} {idx mc ms i nL nA : Nat} {as : List aV} (hM : cMt l Y' mc ms i as n n' φ φ' S S') (hexec : p.tables.exec = Jvm.exec) (hb : c.code = cc) (hml : c.maxLocals = nL) (hls : ls.size = nL) (hown : s.vm.findClass own = some m.cls) (hts : ∀ w ∈ gw, w.before args s = true) (hK : aKK D cy s) (hN : cNs s) (hX : cX D cy B0 n φ S H0 H locs) (hrt : Y'.2.2.2.1 = none) (hg : Cond.code Y'.1 Y'.2.1 Y'.2.2.1 Y'.2.2.2.1 ∈ gw) (hini : Cond.initialized Y'.1.cls ∈ gw) (hlink : va_Nw (.methodLinkNest own idx Y'.1 host) s) (hinst : Cond.instanceMethod Y'.1 ∈ gw) (hni : Y'.1.name = "<init>") (hd : Y'.1.cls ≠ "java/lang/invoke/MethodHandle" ∧ Y'.1.cls ≠ "java/lang/invoke/VarHandle" ∧ (parseMethodDescriptor Y'.1.desc).map (fun d => d.parameters.length) = some nA) (hnA : as.length = nA) (hR : Y'.2.2.2.2.1 + 1 ≤ R.frames ∧ 8 + (Y'.2.2.1 + 11) + Y'.2.2.2.2.2 ≤ R.locals) (hst : (rest.map fun v => v.category).sum ≤ 8) (hcs : cells + mc ≤ R.cells ∧ slots + ms ≤ R.slots) (hdg : decode cc pc = .ok (.invokespecial idx, 3))
    (kk : ∀ (H1 : Heap) (locs1 : List Loc), cX D cy B0 n' φ' S' H0 H1 locs1 → W p l e R s m args below meth c H1 locs1 (cells + mc) (slots + ms) Q (F0 m (pc + 3) ls rest)) : W p l e R s m args below meth c H locs cells slots Q (F0 m pc ls ((as.map (mv (fun j => B0 + j))).reverse ++ .ref (B0 + i) :: rest)) := by
  refine cr_run (i := 0) (nL := 0) (free := fun _ => True) hX (va_runIN (As := as.map (mv (fun j => B0 + j))) ⟨hexec, hb, hml, hown, hts⟩ (hM D cy B0) ⟨va_cnB nA hts (goodY hg) (by rw [← hrt]; rfl) rfl rfl hlink (hts _ hini) hd hR, hni, hts _ hinst⟩ ⟨fun a U g mk q => ?_, fun U hU hW => ?_⟩ rfl (by rw [List.length_map]; exact hnA) hls rfl (lv_room hst) hdg hcs) kk
  · obtain ⟨q0, q1, q2, q3, q4⟩ := q
    exact ⟨q0, q1, q2, ⟨va_K.moved (u := U) (U := U.calling g mk a) (Vm.Alike.refl U.vm) q3.1, q3.2.same (U := U.calling g mk a) rfl⟩, q4.same (U := U.calling g mk a) rfl⟩
  · exact ⟨rfl, by rw [hU]; exact hX.1, by rw [hU]; exact hX.2.1, ⟨va_K.moved hW.alike hK.1, hK.2.warm hW⟩, hN.warm hW⟩
end CR2

