/-! THE LAW: its machine; the script is the reference 276 -/
def tb0 : aTb := (fun _ => none, fun _ => none, fun _ => none, fun _ => none)
theorem tb0_ok (l : Launch) : tOK l mLaw tb0 := by
  unfold tOK
  refine ⟨fun _ _ _ h => ?_, fun _ _ _ h => ?_, fun _ _ _ _ h => ?_, fun _ _ h => ?_⟩ <;> exact absurd h (by simp [tb0])
def wSd (L : Nat) (xs : Nat → Int) (k : aK) (pc : Nat) (ls : aL) (stk : List aV) (S : aS) : Prop := match stk with
  | .inl j :: .inr (.inr r) :: t => r = 276 ∧ 0 ≤ j ∧ j < L ∧ k pc ls (.inl (xs j.toNat) :: t) S
  | _ => False
def wSn (L : Nat) (k : aK) (pc : Nat) (ls : aL) (stk : List aV) (S : aS) : Prop := match stk with
  | .inr (.inr r) :: t => r = 276 ∧ k pc ls (.inl (L : Int) :: t) S
  | _ => False
def wCl (co : Option (Option Nat × Nat × aSp)) (k : aK) (pc : Nat) (ls : aL) (stk : List aV) (S : aS) : Prop := match co with
  | some (some ci, n, sp) => match pop n [] stk with
    | some (.inr (.inr b) :: as, r) => few r = true ∧ b < aN ∧ lyC b = some ci ∧ ∃ Q0 : Option aV → aS → Prop, sp (.inr (.inr b) :: as) S Q0 ∧ ∀ v T, Q0 v T → k pc ls (v.toList ++ r) T
    | _ => False
  | _ => False
def wsL (L : Nat) (xs : Nat → Int) (k : aK) (i : Instr) (len : Nat) (pc : Nat) (ls : aL) (stk : List aV) (S : aS) : Prop := match i, len with
  | .iaload, 1 => wSd L xs k (pc + 1) ls stk S
  | .arraylength, 1 => wSn L k (pc + 1) ls stk S
  | .invokevirtual j, 3 => wCl (tbC j) k (pc + 3) ls stk S
  | i, len => ws1 tb0 4 (some .boolean) (fun _ _ => False) k i len pc ls stk S
def adL (B0 b : Nat) : Nat → Nat := fun j => if j = 276 then b else B0 + j
theorem adL_s {B0 b : Nat} : adL B0 b 276 = b := if_pos rfl
theorem adL_o {B0 b j : Nat} (h : ¬ j = 276) : adL B0 b j = B0 + j := if_neg h
section SL
variable {l : Launch} {Y : aM} {p : Program} {e : Env} {R : Room} {s : State} {m : MethodId} {args : Array Value} {below : List Frame} {meth : Method} {c : Code} {cells slots : Nat} {Z : State → Prop} {D : va_G} {cy : Nat → ClassId} {ad : Nat → Nat} {A : Nat → Prop}
variable {k : aK} {pc : Nat} {ls : aL} {stk : List aV} {S : aS} {H : Heap} {locs : List Loc} {jl : Array Slot}
theorem s_callL (hx : p.tables.exec = Jvm.exec) (hb : c.code = Y.2.1) (hk : aKt l Y p e R s m args below meth c cells slots Z D cy ad A k) (hi : aIn ls stk S) (hH : aHp D cy ad A S s.heap H locs) (hl : lv_has jl Y.2.2.1 (mL ad ls)) (hKK : aKK D cy s) (hown : s.vm.findClass Y.1.cls = some m.cls) (hts : ∀ w ∈ gw, w.before args s = true) (hA : ∀ q, s.heap.size ≤ q → A q) (hml : c.maxLocals = Y.2.2.1) (hR : Y.2.2.2.2.1 ≤ R.frames ∧ Y.2.2.2.2.2 ≤ R.locals ∧ cells ≤ R.cells ∧ slots ≤ R.slots) {idx : Nat} {co : Option (Option Nat × Nat × aSp)} (hco : ∀ cr n sp, co = some (cr, n, sp) → cOK l Y idx cr n sp) (h : wCl co k (pc + 3) ls stk S) (hd : decode Y.2.1 pc = .ok (.invokevirtual idx, 3)) : W p l e R s m args below meth c H locs cells slots Z (F0 m pc jl (stk.map (mv ad))) := by
  have hK := hKK.1
  unfold wCl at h
  split at h
  · rename_i ci n sp
    obtain ⟨Y', hok, hG, hlink, hini, hd1, hfr, hlo, hcr⟩ := hco (some ci) n sp rfl
    split at h
    · rename_i b as' r hp
      obtain ⟨hfew, hbN, hbC, Q0, hsp, hq0⟩ := h
      obtain ⟨xs, hstk, hxl, has⟩ := pop_spec n [] stk _ r hp
      rw [List.append_nil] at has
      have hir : aIn ls r S := ⟨hi.1, hi.2.1, fun w hw => hi.2.2 w (by rw [hstk]; exact List.mem_append_right _ hw)⟩
      have has' : ∀ v ∈ (Sum.inr (Sum.inr b) :: as' : List aV), aOk v := fun w hw => hi.2.2 w (by rw [hstk]; exact List.mem_append_left _ (by rw [has] at hw; exact List.mem_reverse.mp hw))
      have hM := hok _ S _ hsp hi.1 has' D cy ad H.size
      have hfb : FrameBlind (va_Pc ((Sum.inr (Sum.inr b) :: as' : List aV).map (mv ad)) (fun U => U.heap.size = H.size ∧ va_P D vwCl (aW cy ad S) U.heap ∧ aKK D cy U ∧ va_D (fun _ => True) (aW cy ad S))) := fun a U g mk q => by
        obtain ⟨q0, q1, qP, qK, qD⟩ := q
        exact ⟨q0, q1, qP, ⟨va_K.moved (u := U) (U := U.calling g mk a) (Vm.Alike.refl U.vm) qK.1, qK.2.same (U := U.calling g mk a) rfl⟩, qD⟩
      have hpre : ∀ U : State, U.heap = H → s.WarmedH U.vm → (fun U : State => U.heap.size = H.size ∧ va_P D vwCl (aW cy ad S) U.heap ∧ aKK D cy U ∧ va_D (fun _ => True) (aW cy ad S)) U := fun U hU hW => ⟨by rw [hU], by rw [hU]; exact hH.1, ⟨va_K.moved hW.alike hK, hKK.2.warm hW⟩, hH.2.1.weaken (fun _ _ _ _ => trivial)⟩
      have hRoom : (aRm Y').frames + 1 ≤ R.frames ∧ 8 + (Y'.2.2.1 + 11) + (aRm Y').locals ≤ R.locals := ⟨Nat.le_trans hfr hR.1, Nat.le_trans hlo hR.2.1⟩
      have hstm : stk.map (mv ad) = ((Sum.inr (Sum.inr b) :: as' : List aV).map (mv ad)).reverse ++ r.map (mv ad) := by rw [hstk, has, List.map_append, ← List.map_reverse, List.reverse_reverse]
      obtain ⟨hn, ⟨CT, CN, hcl⟩, hinst, hsel⟩ := hcr
      obtain ⟨fs, hLY⟩ := ly_obj hbC
      have he : (aW cy ad S)[b]? = some (ad b, .inr (ci, fs.mapIdx (aFv ad S b))) := by rw [aW_get hbN, hLY]; rfl
      have hlen : as'.length + 1 = n := by
        have h1 : (Sum.inr (Sum.inr b) :: as' : List aV).length = xs.length := by rw [has, List.length_reverse]
        simpa [hxl] using h1
      have hB := callB_of (R := R) (own := Y.1.cls) (index := idx) (y := Y'.1) (bytes := Y'.2.1) (maxL := Y'.2.2.1) (ret := Y'.2.2.2.1) (mc := 0) (ms := 0) (rm := aRm Y') (n - 1) hts hG rfl rfl rfl (hts _ hini) (hts _ hlink) hd1 hRoom
      refine s_run hx hb hk hi hH hl hA hK hir hq0 (a := (Value.ref (ad b) :: as'.map (mv ad)).toArray) (va_runV (As := as'.map (mv ad)) ⟨hx, hb, hml, hown, hts⟩ hM ⟨hB, hts _ hinst, hts _ hsel⟩ ⟨hfb, va_recv hK hH.1 hcl he, fun U hU hW => ⟨rfl, hpre U hU hW⟩⟩ rfl ?_ hl.1 ?_ (lv_room (few_sum hfew)) hd ⟨hR.2.2.1, hR.2.2.2⟩)
      · rw [List.length_map]; omega
      · show stk.map (mv ad) = _
        rw [hstm]
        simp [mv]
    · exact h.elim
  · exact h.elim
end SL
/-- what the law stands on -/
def cLx (p : Program) (s : State) (m : MethodId) (meth : Method) (c : Code) (b B0 L : Nat) (xs : Nat → Int32) (D : va_G) (cy : Nat → ClassId) : Prop := p.tables.exec = Jvm.exec ∧ c.code = cL_law ∧ c.maxLocals = 4 ∧ s.vm.findClass RL = some m.cls ∧ (∀ w ∈ gw, w.before #[Value.ref b] s = true) ∧ aKK D cy s ∧ s.heap.size = B0 ∧ va_X b L xs s s.heap ∧ b < B0 ∧ meth.sig.returnType = ret ∧ meth.locks = false ∧ L ≤ 3072
section SL2
variable {l : Launch} {p : Program} {e : Env} {s : State} {m : MethodId} {below : List Frame} {meth : Method} {c : Code} {b B0 L : Nat} {xs : Nat → Int32} {D : va_G} {cy : Nat → ClassId} {Z : State → Prop}
theorem wsL_ok (hc : cLx p s m meth c b B0 L xs D cy) {k : aK} (hk : aKt l mLaw p e room_1 s m #[Value.ref b] below meth c 600000 7302250 Z D cy (adL B0 b) (bA B0) k) {pc : Nat} {ls : aL} {stk : List aV} {S : aS} {H : Heap} {locs : List Loc} {jl : Array Slot} (hi : aIn ls stk S) (hH : aHp D cy (adL B0 b) (bA B0) S s.heap H locs) (hl : lv_has jl 4 (mL (adL B0 b) ls)) {i : Instr} {len : Nat} (h : wsL L (fun j => (xs j).toInt) k i len pc ls stk S) (hd : decode cL_law pc = .ok (i, len)) : W p l e room_1 s m #[Value.ref b] below meth c H locs 600000 7302250 Z (F0 m pc jl (stk.map (mv (adL B0 b)))) := by
  obtain ⟨hx, hb, hml, hown, hts, hK, hB, hX, hbl, hr, hlk, hL⟩ := hc
  have hA : ∀ q, s.heap.size ≤ q → bA B0 q := fun q hq => by show B0 ≤ q; omega
  have hbA : ¬ bA B0 b := fun z => by have : B0 ≤ b := z; omega
  have hR : mLaw.2.2.2.2.1 ≤ room_1.frames ∧ mLaw.2.2.2.2.2 ≤ room_1.locals ∧ 600000 ≤ room_1.cells ∧ 7302250 ≤ room_1.slots := ⟨Nat.le_refl _, Nat.le_refl _, Nat.le_refl _, Nat.le_refl _⟩
  unfold wsL at h
  split at h
  · unfold wSd at h
    split at h
    · rename_i j r t
      obtain ⟨rfl, h0, h1, h2⟩ := h
      have hj : inI j := hi.top
      have hw := hk _ _ _ _ h2 (hi.popd.popd.push (v := .inl _) (inI_toInt _)) H locs jl hH hl
      have e1 : (adL B0 b 276) = b := adL_s
      show W p l e room_1 s m #[Value.ref b] below meth c H locs 600000 7302250 Z (F0 m pc jl (.int (Int32.ofInt j) :: .ref (adL B0 b 276) :: t.map (mv (adL B0 b))))
      rw [e1]
      refine va_sld hx hb hX (by omega) hbA hH.2.2 (vp_in_j hj h0 h1) hd ?_
      rw [toN hj h0]
      have e2 : Value.int (xs j.toNat) = mv (adL B0 b) (.inl (xs j.toNat).toInt) := (mv_int _ _).symm
      rw [e2]
      exact hw
    · exact h.elim
  · unfold wSn at h
    split at h
    · rename_i r t
      obtain ⟨rfl, h2⟩ := h
      have hw := hk _ _ _ _ h2 (hi.popd.push (v := .inl _) (show inI (L : Int) by unfold inI; omega)) H locs jl hH hl
      have e1 : (adL B0 b 276) = b := adL_s
      show W p l e room_1 s m #[Value.ref b] below meth c H locs 600000 7302250 Z (F0 m pc jl (.ref (adL B0 b 276) :: t.map (mv (adL B0 b))))
      rw [e1]
      refine va_slen hx hb hX (by omega) hbA hH.2.2 hd ?_
      have e2 : Value.int (Int32.ofNat L) = mv (adL B0 b) (.inl (L : Int)) := by
        show _ = Value.int (Int32.ofInt (L : Int))
        rw [Int32.ofInt_eq_ofNat]
      rw [e2]
      exact hw
    · exact h.elim
  · rename_i j
    exact s_callL (Y := mLaw) hx hb hk hi hH hl hK hown hts hA hml hR (fun cr n sp hh => tbC_ok l j cr n sp hh) h hd
  · exact ws1_ok (Y := mLaw) (tb := tb0) (Q := fun _ _ => False) hx hb hk hi hH hl hK hown hts (tb0_ok l) (fun v S H locs pc jl i hQ => hQ.elim) hA hml hR h hd
/-- the law at a place -/
def kL (p : Program) (l : Launch) (e : Env) (s : State) (m : MethodId) (below : List Frame) (meth : Method) (c : Code) (b B0 : Nat) (D : va_G) (cy : Nat → ClassId) (Z : State → Prop) : aK := fun pc ls stk S => aIn ls stk S → ∀ (H : Heap) (locs : List Loc) (jl : Array Slot), aHp D cy (adL B0 b) (bA B0) S s.heap H locs → lv_has jl 4 (mL (adL B0 b) ls) → W p l e room_1 s m #[Value.ref b] below meth c H locs 600000 7302250 Z (F0 m pc jl (stk.map (mv (adL B0 b))))
def wpL (L : Nat) (xs : Nat → Int) (cut : Nat → Bool) (G : aK) : Nat → aK
  | 0 => G
  | n + 1 => fun pc ls stk S => wpC (cut pc) (G pc ls stk S) (decode cL_law pc) (fun i len => wsL L xs (wpL L xs cut G n) i len pc ls stk S)
theorem wpL_1 (hc : cLx p s m meth c b B0 L xs D cy) {k : aK} (hk : aKt l mLaw p e room_1 s m #[Value.ref b] below meth c 600000 7302250 Z D cy (adL B0 b) (bA B0) k) {cu : Bool} {pc : Nat} {ls : aL} {stk : List aV} {S : aS} (h : wpC cu (kL p l e s m below meth c b B0 D cy Z pc ls stk S) (decode cL_law pc) (fun i len => wsL L (fun j => (xs j).toInt) k i len pc ls stk S)) : kL p l e s m below meth c b B0 D cy Z pc ls stk S := by
  intro hi H locs jl hH hl
  cases cu with
  | true => exact h hi H locs jl hH hl
  | false =>
    cases hd : decode cL_law pc with
    | error x =>
      rw [hd] at h
      exact False.elim h
    | ok x =>
      obtain ⟨i, len⟩ := x
      rw [hd] at h
      exact wsL_ok hc hk hi hH hl h hd
theorem wpL_ok (hc : cLx p s m meth c b B0 L xs D cy) (cut : Nat → Bool) : ∀ (n pc : Nat) (ls : aL) (stk : List aV) (S : aS), wpL L (fun j => (xs j).toInt) cut (kL p l e s m below meth c b B0 D cy Z) n pc ls stk S → kL p l e s m below meth c b B0 D cy Z pc ls stk S := by
  intro n
  induction n with
  | zero => intro pc ls stk S h; exact h
  | succ n ih =>
    intro pc ls stk S h
    have h' : wpC (cut pc) (kL p l e s m below meth c b B0 D cy Z pc ls stk S) (decode cL_law pc) (fun i len => wsL L (fun j => (xs j).toInt) (wpL L (fun j => (xs j).toInt) cut (kL p l e s m below meth c b B0 D cy Z) n) i len pc ls stk S) := h
    exact wpL_1 hc (fun pc ls stk S h hi H locs jl hH hl => ih pc ls stk S h hi H locs jl hH hl) h'
/-- one step from a place that may be a cut -/
theorem wpL_go (hc : cLx p s m meth c b B0 L xs D cy) (cut : Nat → Bool) (n : Nat) {pc : Nat} {ls : aL} {stk : List aV} {S : aS} {i : Instr} {len : Nat} (hd : decode cL_law pc = .ok (i, len)) (h : wsL L (fun j => (xs j).toInt) (wpL L (fun j => (xs j).toInt) cut (kL p l e s m below meth c b B0 D cy Z) n) i len pc ls stk S) : kL p l e s m below meth c b B0 D cy Z pc ls stk S := fun hi H locs jl hH hl => wsL_ok hc (fun pc ls stk S h hi H locs jl hH hl => wpL_ok hc cut n pc ls stk S h hi H locs jl hH hl) hi hH hl h hd
end SL2
def wClo (ci : Nat) (sp : aSp) (po : Option (List aV × List aV)) (k : aK) (pc : Nat) (ls : aL) (S : aS) : Prop := match po with
  | some (.inr (.inr b) :: as, r) => few r = true ∧ b < aN ∧ lyC b = some ci ∧ ∃ Q0 : Option aV → aS → Prop, sp (.inr (.inr b) :: as) S Q0 ∧ ∀ v T, Q0 v T → k pc ls (v.toList ++ r) T
  | _ => False
section EVL
variable {L : Nat} {xs : Nat → Int} {cut : Nat → Bool} {G k : aK} {n pc i j len : Nat} {ls : aL} {stk r : List aV} {S : aS} {a b v : Int} {x : aV}
theorem wpL_s : wpL L xs cut G (n + 1) pc ls stk S = wpC (cut pc) (G pc ls stk S) (decode cL_law pc) (fun i len => wsL L xs (wpL L xs cut G n) i len pc ls stk S) := propext Iff.rfl
theorem l_iaload : wsL L xs k .iaload 1 pc ls (.inl a :: .inr (.inr 276) :: r) S = (0 ≤ a ∧ a < L ∧ k (pc + 1) ls (.inl (xs a.toNat) :: r) S) := propext ⟨fun h => h.2, fun h => ⟨rfl, h⟩⟩
theorem l_alen : wsL L xs k .arraylength 1 pc ls (.inr (.inr 276) :: r) S = k (pc + 1) ls (.inl (L : Int) :: r) S := propext ⟨fun h => h.2, fun h => ⟨rfl, h⟩⟩
theorem l_call {j : Nat} : wsL L xs k (.invokevirtual j) 3 pc ls stk S = wCl (tbC j) k (pc + 3) ls stk S := propext Iff.rfl
theorem l_aload_n {j : Fin 4} : wsL L xs k (.aload_n j) 1 pc ls stk S = wLd 2 j k (pc + 1) ls stk S := propext Iff.rfl
theorem l_iload_n {j : Fin 4} : wsL L xs k (.iload_n j) 1 pc ls stk S = wLd 0 j k (pc + 1) ls stk S := propext Iff.rfl
theorem l_iconst {n : Int} : wsL L xs k (.iconst n) 1 pc ls stk S = k (pc + 1) ls (.inl (wI n) :: stk) S := propext Iff.rfl
theorem l_bipush {n : Int} : wsL L xs k (.bipush n) 2 pc ls stk S = k (pc + 2) ls (.inl ((Int8.ofInt n).toInt32).toInt :: stk) S := propext Iff.rfl
theorem l_iadd : wsL L xs k .iadd 1 pc ls stk S = wI2 (fun a b => wI (a + b)) k (pc + 1) ls stk S := propext Iff.rfl
theorem l_isub : wsL L xs k .isub 1 pc ls stk S = wI2 (fun a b => wI (a - b)) k (pc + 1) ls stk S := propext Iff.rfl
theorem l_iand : wsL L xs k .iand 1 pc ls stk S = wI2 bAnd k (pc + 1) ls stk S := propext Iff.rfl
theorem l_if_icmp {c : Jvm.ClassFile.Cond} {off : Int} : wsL L xs k (.if_icmp c off) 3 pc ls stk S = wIc (cN c) (jt pc off) k pc ls stk S := propext Iff.rfl
theorem l_goto {off : Int} : wsL L xs k (.goto off) 3 pc ls stk S = wJ k pc off ls stk S := propext Iff.rfl
theorem l_iinc {j : Nat} {n : Int} : wsL L xs k (.iinc j n) 3 pc ls stk S = wInc 4 j n k (pc + 3) ls stk S := propext Iff.rfl
theorem l_tsw {d lo hi : Int} {os : Array Int} : wsL L xs k (.tableswitch d lo hi os) len pc ls stk S = wTsw d lo hi os.toList k pc ls stk S := propext Iff.rfl
theorem l_cl {ci n : Nat} {sp : aSp} : wCl (some (some ci, n, sp)) k pc ls stk S = wClo ci sp (pop n [] stk) k pc ls S := propext Iff.rfl
theorem l_clo {ci b : Nat} {sp : aSp} {as : List aV} (h1 : b < aN) (h2 : lyC b = some ci) (h3 : few r = true) : wClo ci sp (some (.inr (.inr b) :: as, r)) k pc ls S = ∃ Q0 : Option aV → aS → Prop, sp (.inr (.inr b) :: as) S Q0 ∧ ∀ v T, Q0 v T → k pc ls (v.toList ++ r) T := propext ⟨fun h => h.2.2.2, fun h => ⟨h3, h1, h2, h⟩⟩
theorem l_c0 {sp : aSp} {as : List aV} : wClo 11 sp (some (.inr (.inr 0) :: as, [])) k pc ls S = ∃ Q0 : Option aV → aS → Prop, sp (.inr (.inr 0) :: as) S Q0 ∧ ∀ v T, Q0 v T → k pc ls (v.toList ++ []) T := l_clo (by decide) rfl rfl
theorem l_c1 {sp : aSp} {as : List aV} : wClo 12 sp (some (.inr (.inr 245) :: as, [x])) k pc ls S = ∃ Q0 : Option aV → aS → Prop, sp (.inr (.inr 245) :: as) S Q0 ∧ ∀ v T, Q0 v T → k pc ls (v.toList ++ [x]) T := l_clo (by decide) rfl rfl
end EVL
/-- the answer is a number -/
def ityp (Q : Option aV → aS → Prop) : Option aV → aS → Prop := fun v T => (∃ a, v = some (.inl a)) ∧ Q v T
theorem ityp_i {Q : Option aV → aS → Prop} {a : Int} {T : aS} : ityp Q (some (.inl a)) T = Q (some (.inl a)) T := propext ⟨fun h => h.2, fun h => ⟨⟨a, rfl⟩, h⟩⟩

