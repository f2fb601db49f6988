def fOK (own : String) (idx ci f : Nat) : Prop := ∃ (C : String) (T : u_T) (N : Nat), vwCl[ci]? = some (C, T, N) ∧ f < N ∧ (∀ w ∈ u_ws C T N, w ∈ gw) ∧ (Cond.fieldLink own idx (T f).1 (T f).2.1 (T f).2.2.1 ∈ gw ∨ ∃ host, (own, idx, (T f).1, (T f).2.1, (T f).2.2.1, host) ∈ aNl)
def fPk (ci f : Nat) : Prop := ∃ (C : String) (T : u_T) (N : Nat) (ty0 : Nat → FieldType), vwCl[ci]? = some (C, T, N) ∧ (T f).2.2.2 = false ∧ parseFieldDescriptor (T f).2.2.1 = some .int ∧ (∀ k, k < N → parseFieldDescriptor (T k).2.2.1 = some (ty0 k)) ∧ (∀ a, a < N → ∀ b, b < N → a ≠ b → (T a).2.1 ≠ (T b).2.1)
def cOK (l : Launch) (Y : aM) (idx : Nat) (cr : Option Nat) (n : Nat) (sp : aSp) : Prop := ∃ Y' : aM, aOK l Y' sp ∧ GoodIn gw (aWs Y') ∧ Cond.methodLink Y.1.cls idx Y'.1 ∈ gw ∧ Cond.initialized Y'.1.cls ∈ gw ∧
  (Y'.1.cls ≠ "java/lang/invoke/MethodHandle" ∧ Y'.1.cls ≠ "java/lang/invoke/VarHandle" ∧ (parseMethodDescriptor Y'.1.desc).map (fun d => d.parameters.length) = some (if cr.isSome then n - 1 else n)) ∧
  Y'.2.2.2.2.1 + 1 ≤ Y.2.2.2.2.1 ∧ 8 + (Y'.2.2.1 + 11) + Y'.2.2.2.2.2 ≤ Y.2.2.2.2.2 ∧
  match cr with
    | some ci => 0 < n ∧ (∃ T N, vwCl[ci]? = some (Y'.1.cls, T, N)) ∧ Cond.instanceMethod Y'.1 ∈ gw ∧ Cond.selects Y'.1.cls Y'.1 Y'.1 ∈ gw
    | none => Cond.static Y'.1 ∈ gw
def spMx : aSp := fun as S Q => match as with
  | [.inl a, .inl b] => Q (some (.inl (max a b))) S
  | _ => False
def spMn : aSp := fun as S Q => match as with
  | [.inl a, .inl b] => Q (some (.inl (min a b))) S
  | _ => False
/-- the JDK's own max and min -/
def mOK (Y : aM) (idx : Nat) (cr : Option Nat) (n : Nat) (sp : aSp) : Prop := cr = none ∧ n = 2 ∧ 1 ≤ Y.2.2.2.2.1 ∧ 21 ≤ Y.2.2.2.2.2 ∧ Cond.initialized "java/lang/Math" ∈ gw ∧
  ((Cond.methodLink Y.1.cls idx Lib.Math.max.name ∈ gw ∧ Cond.static Lib.Math.max.name ∈ gw ∧ Cond.code Lib.Math.max.name Lib.Math.max.code 2 (some .int) ∈ gw ∧ sp = spMx) ∨
   (Cond.methodLink Y.1.cls idx Lib.Math.min.name ∈ gw ∧ Cond.static Lib.Math.min.name ∈ gw ∧ Cond.code Lib.Math.min.name Lib.Math.min.code 2 (some .int) ∈ gw ∧ sp = spMn))
def tOK (l : Launch) (Y : aM) (tb : aTb) : Prop :=
  (∀ idx ci f, tb.1 idx = some (ci, f) → fOK Y.1.cls idx ci f) ∧ (∀ idx ci f, tb.2.1 idx = some (ci, f) → fOK Y.1.cls idx ci f ∧ fPk ci f) ∧
  (∀ idx cr n sp, tb.2.2.1 idx = some (cr, n, sp) → cOK l Y idx cr n sp ∨ mOK Y idx cr n sp) ∧ (∀ idx x, tb.2.2.2 idx = some x → ∃ v : Int64, x = v.toInt ∧ Cond.constantLong Y.1.cls idx v ∈ gw)
def aKt (l : Launch) (Y : aM) (p : Program) (e : Env) (R : Room) (s : State) (m : MethodId) (args : Array Value) (below : List Frame) (meth : Method) (c : Code) (cells slots : Nat) (Z : State → Prop) (D : va_G) (cy : Nat → ClassId) (ad : Nat → Nat) (A : Nat → Prop) (k : aK) : Prop :=
  ∀ pc ls stk S, k pc ls stk S → aIn ls stk S → ∀ (H : Heap) (locs : List Loc) (jl : Array Slot), aHp D cy ad A S s.heap H locs → lv_has jl Y.2.2.1 (mL ad ls) → W p l e R s m args below meth c H locs cells slots Z (F0 m pc jl (stk.map (mv ad)))
theorem aIn.push {ls : aL} {stk : List aV} {S : aS} {v : aV} (h : aIn ls stk S) (hv : aOk v) : aIn ls (v :: stk) S :=
  ⟨h.1, h.2.1, fun w hw => (List.mem_cons.mp hw).elim (fun q => q ▸ hv) (h.2.2 w)⟩
theorem aIn.popd {ls : aL} {stk : List aV} {S : aS} {v : aV} (h : aIn ls (v :: stk) S) : aIn ls stk S := ⟨h.1, h.2.1, fun w hw => h.2.2 w (List.mem_cons_of_mem _ hw)⟩
theorem aIn.top {ls : aL} {stk : List aV} {S : aS} {v : aV} (h : aIn ls (v :: stk) S) : aOk v := h.2.2 v List.mem_cons_self
theorem aIn.set {ls : aL} {stk : List aV} {S : aS} {v : aV} {i : Nat} (h : aIn ls stk S) (hv : aOk v) : aIn (lset i v ls) stk S :=
  ⟨h.1, fun q hq => (lset_mem hq).elim (fun e => by rw [e]; exact hv) (fun hq => h.2.1 q hq), h.2.2⟩
theorem aIn.get {ls : aL} {stk : List aV} {S : aS} {v : aV} {i : Nat} (h : aIn ls stk S) (hg : lget ls i = some v) : aOk v := h.2.1 (i, v) (lget_mem hg)
section SOUND
variable {l : Launch} {Y : aM} {p : Program} {e : Env} {R : Room} {s : State} {m : MethodId} {args : Array Value} {below : List Frame} {meth : Method} {c : Code} {cells slots : Nat} {Z : State → Prop} {D : va_G} {cy : Nat → ClassId} {ad : Nat → Nat} {A : Nat → Prop}
variable {k : aK} {pc : Nat} {ls : aL} {stk : List aV} {S : aS} {H : Heap} {locs : List Loc} {jl : Array Slot}
theorem s_ld (hx : p.tables.exec = Jvm.exec) (hb : c.code = Y.2.1) (hk : aKt l Y p e R s m args below meth c cells slots Z D cy ad A k) (hi : aIn ls stk S) (hH : aHp D cy ad A S s.heap H locs) (hl : lv_has jl Y.2.2.1 (mL ad ls)) {ty i pc' : Nat} (h : wLd ty i k pc' ls stk S)
    (hrow : ∀ v : aV, (ty = 0 → ∃ a, v = .inl a) → (ty = 1 → ∃ a, v = .inr (.inl a)) → (ty = 2 → ∃ a, v = .inr (.inr a)) → ty < 3 → jl[i]? = some (.val (mv ad v)) → W p l e R s m args below meth c H locs cells slots Z (F0 m pc' jl (mv ad v :: stk.map (mv ad))) → W p l e R s m args below meth c H locs cells slots Z (F0 m pc jl (stk.map (mv ad)))) :
    W p l e R s m args below meth c H locs cells slots Z (F0 m pc jl (stk.map (mv ad))) := by
  unfold wLd at h
  split at h
  · rename_i a hg
    exact hrow (.inl a) (fun _ => ⟨a, rfl⟩) (fun q => by cases q) (fun q => by cases q) (by decide) (has_get hl hg) (hk _ _ _ _ h (hi.push (hi.get hg)) H locs jl hH hl)
  · rename_i a hg
    exact hrow (.inr (.inl a)) (fun q => by cases q) (fun _ => ⟨a, rfl⟩) (fun q => by cases q) (by decide) (has_get hl hg) (hk _ _ _ _ h (hi.push (hi.get hg)) H locs jl hH hl)
  · rename_i a hg
    exact hrow (.inr (.inr a)) (fun q => by cases q) (fun q => by cases q) (fun _ => ⟨a, rfl⟩) (by decide) (has_get hl hg) (hk _ _ _ _ h (hi.push (hi.get hg)) H locs jl hH hl)
  · exact h.elim
theorem s_iload (hx : p.tables.exec = Jvm.exec) (hb : c.code = Y.2.1) (hk : aKt l Y p e R s m args below meth c cells slots Z D cy ad A k) (hi : aIn ls stk S) (hH : aHp D cy ad A S s.heap H locs) (hl : lv_has jl Y.2.2.1 (mL ad ls)) {i : Nat} (h : wLd 0 i k (pc + 2) ls stk S) (hd : decode Y.2.1 pc = .ok (.iload i, 2)) : W p l e R s m args below meth c H locs cells slots Z (F0 m pc jl (stk.map (mv ad))) :=
  s_ld hx hb hk hi hH hl h fun v h0 _ _ _ hg hw => by obtain ⟨a, rfl⟩ := h0 rfl; exact lv_iload hx hb hd hg hw
theorem s_iload_n (hx : p.tables.exec = Jvm.exec) (hb : c.code = Y.2.1) (hk : aKt l Y p e R s m args below meth c cells slots Z D cy ad A k) (hi : aIn ls stk S) (hH : aHp D cy ad A S s.heap H locs) (hl : lv_has jl Y.2.2.1 (mL ad ls)) {i : Fin 4} (h : wLd 0 i k (pc + 1) ls stk S) (hd : decode Y.2.1 pc = .ok (.iload_n i, 1)) : W p l e R s m args below meth c H locs cells slots Z (F0 m pc jl (stk.map (mv ad))) :=
  s_ld hx hb hk hi hH hl h fun v h0 _ _ _ hg hw => by obtain ⟨a, rfl⟩ := h0 rfl; exact lv_iload_n hx hb hd rfl hg hw
theorem s_lload (hx : p.tables.exec = Jvm.exec) (hb : c.code = Y.2.1) (hk : aKt l Y p e R s m args below meth c cells slots Z D cy ad A k) (hi : aIn ls stk S) (hH : aHp D cy ad A S s.heap H locs) (hl : lv_has jl Y.2.2.1 (mL ad ls)) {i : Nat} (h : wLd 1 i k (pc + 2) ls stk S) (hd : decode Y.2.1 pc = .ok (.lload i, 2)) : W p l e R s m args below meth c H locs cells slots Z (F0 m pc jl (stk.map (mv ad))) :=
  s_ld hx hb hk hi hH hl h fun v _ h0 _ _ hg hw => by obtain ⟨a, rfl⟩ := h0 rfl; exact lv_lload hx hb hd hg hw
theorem s_lload_n (hx : p.tables.exec = Jvm.exec) (hb : c.code = Y.2.1) (hk : aKt l Y p e R s m args below meth c cells slots Z D cy ad A k) (hi : aIn ls stk S) (hH : aHp D cy ad A S s.heap H locs) (hl : lv_has jl Y.2.2.1 (mL ad ls)) {i : Fin 4} (h : wLd 1 i k (pc + 1) ls stk S) (hd : decode Y.2.1 pc = .ok (.lload_n i, 1)) : W p l e R s m args below meth c H locs cells slots Z (F0 m pc jl (stk.map (mv ad))) :=
  s_ld hx hb hk hi hH hl h fun v _ h0 _ _ hg hw => by obtain ⟨a, rfl⟩ := h0 rfl; exact lv_lload_n hx hb hd rfl hg hw
theorem s_aload (hx : p.tables.exec = Jvm.exec) (hb : c.code = Y.2.1) (hk : aKt l Y p e R s m args below meth c cells slots Z D cy ad A k) (hi : aIn ls stk S) (hH : aHp D cy ad A S s.heap H locs) (hl : lv_has jl Y.2.2.1 (mL ad ls)) {i : Nat} (h : wLd 2 i k (pc + 2) ls stk S) (hd : decode Y.2.1 pc = .ok (.aload i, 2)) : W p l e R s m args below meth c H locs cells slots Z (F0 m pc jl (stk.map (mv ad))) :=
  s_ld hx hb hk hi hH hl h fun v _ _ h0 _ hg hw => by obtain ⟨a, rfl⟩ := h0 rfl; exact lv_aload hx hb hd hg hw
theorem s_aload_n (hx : p.tables.exec = Jvm.exec) (hb : c.code = Y.2.1) (hk : aKt l Y p e R s m args below meth c cells slots Z D cy ad A k) (hi : aIn ls stk S) (hH : aHp D cy ad A S s.heap H locs) (hl : lv_has jl Y.2.2.1 (mL ad ls)) {i : Fin 4} (h : wLd 2 i k (pc + 1) ls stk S) (hd : decode Y.2.1 pc = .ok (.aload_n i, 1)) : W p l e R s m args below meth c H locs cells slots Z (F0 m pc jl (stk.map (mv ad))) :=
  s_ld hx hb hk hi hH hl h fun v _ _ h0 _ hg hw => by obtain ⟨a, rfl⟩ := h0 rfl; exact lv_aload_n hx hb hd rfl hg hw
end SOUND
