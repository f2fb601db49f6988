theorem few_sum {ad : Nat → Nat} {r : List aV} (h : few r = true) : ((r.map (mv ad)).map fun v => v.category).sum ≤ 8 := by
  have hc : ∀ v : aV, (mv ad v).category ≤ 2 := fun v => by rw [mv_cat]; split <;> omega
  unfold few at h
  split at h
  · simp
  · rename_i a; have := hc a; simp; omega
  · rename_i a b; have := hc a; have := hc b; simp; omega
  · rename_i a b c; have := hc a; have := hc b; have := hc c; simp; omega
  · rename_i a b c d; have := hc a; have := hc b; have := hc c; have := hc d; simp; omega
  · cases h
theorem pop_spec : ∀ (n : Nat) (acc stk as r : List aV), pop n acc stk = some (as, r) → ∃ xs, stk = xs ++ r ∧ xs.length = n ∧ as = xs.reverse ++ acc
  | 0, acc, stk, as, r, h => by
    cases h
    exact ⟨[], rfl, rfl, rfl⟩
  | n + 1, acc, v :: stk, as, r, h => by
    obtain ⟨xs, h1, h2, h3⟩ := pop_spec n (v :: acc) stk as r h
    exact ⟨v :: xs, by rw [h1]; rfl, by simp [h2], by rw [h3]; simp⟩
  | n + 1, acc, [], as, r, h => by cases h
section SOUND4
variable {l : Launch} {Y : aM} {p : Program} {e : Env} {R : Room} {s : State} {m : MethodId} {args : Array Value} {below : List Frame} {meth : Method} {c : Code} {cells slots : Nat} {Z : State → Prop} {D : va_G} {cy : Nat → ClassId} {ad : Nat → Nat} {A : Nat → Prop}
variable {k : aK} {pc : Nat} {ls : aL} {stk : List aV} {S : aS} {H : Heap} {locs : List Loc} {jl : Array Slot}
theorem s_run (hx : p.tables.exec = Jvm.exec) (hb : c.code = Y.2.1) (hk : aKt l Y p e R s m args below meth c cells slots Z D cy ad A k) (hi : aIn ls stk S) (hH : aHp D cy ad A S s.heap H locs) (hl : lv_has jl Y.2.2.1 (mL ad ls)) (hA : ∀ q, s.heap.size ≤ q → A q) (hKs : va_K D vwCl (aTys cy) s) {Q' : Option aV → aS → Prop} {r : List aV} {st0 : List Value} (hir : aIn ls r S) (hQ' : ∀ v S', Q' v S' → k (pc + 3) ls (v.toList ++ r) S') {a : Array Value}
    (hr : va_Run p l e R s m args below meth c H locs cells slots 0 0 (F0 m pc jl st0) (r.map (mv ad)) ((fun _ st oc t => (∃ (v : Option aV) (S' : aS), oc = .returned (v.map (mv ad)) ∧ Q' v S' ∧ aRg S' ∧ (∀ w, v = some w → aOk w) ∧ va_P D vwCl (aW cy ad S') t.heap ∧ va_K D vwCl (aTys cy) t ∧ va_D (va_A (aW cy ad S) H.size) (aW cy ad S')) ∧ va_F (va_A (aW cy ad S) H.size) st t : Array Value → State → Outcome → State → Prop) a) (va_A (aW cy ad S) H.size)) : W p l e R s m args below meth c H locs cells slots Z (F0 m pc jl st0) := by
  intro T hT X
  obtain ⟨v, st₀, t, T', L, h0, X', hL, e1, e2, ⟨⟨v', S', hv, hQ, hRg, hvok, hP1, hK1, hD1⟩, hz, hk1⟩, st⟩ := hr T hT X
  cases hv
  rw [h0] at hz hk1
  have hF : ∀ q, va_A (aW cy ad S) H.size q → A q := by
    intro q h
    rcases h with ⟨k2, e2, h⟩ | h
    · exact hH.2.1.2 k2 _ h
    · exact hA q (Nat.le_trans hH.2.2.1 h)
  have hw := hk _ _ _ _ (hQ' _ _ hQ) (show aIn ls (v'.toList ++ r) S' from ⟨hRg, hir.2.1, fun w hw => (List.mem_append.mp hw).elim (fun h => hvok w (by cases v' with | none => simp at h | some x => simp at h; rw [h])) (fun h => hir.2.2 w h)⟩) T'.heap (locs ++ L) jl
    ⟨by rw [e1]; exact hP1, hD1.weaken (fun _ q _ h => hF q.1 h), Nat.le_trans hH.2.2.1 (by rw [e1]; exact hz), fun q h1 h2 => by rw [e1, hk1 q (Nat.lt_of_lt_of_le h1 hH.2.2.1) (fun z => h2 (hF q z))]; exact hH.2.2.2.1 q h1 h2, fun q hq => by
      rcases List.mem_append.mp hq with h | h
      · exact hH.2.2.2.2 q h
      · exact hF _ (hL q h)⟩ hl
  obtain ⟨t2, a1, b1⟩ := hw T' rfl X'
  refine ⟨t2, st t2 ?_, b1⟩
  have hst : (v'.map (mv ad)).toList ++ r.map (mv ad) = (v'.toList ++ r).map (mv ad) := by cases v' <;> simp
  show Steps p.tables e below (T'.setTop (F0 m (pc + 3) jl ((v'.map (mv ad)).toList ++ r.map (mv ad)))) t2
  rw [hst]
  exact a1
theorem s_call (hx : p.tables.exec = Jvm.exec) (hb : c.code = Y.2.1) (hk : aKt l Y p e R s m args below meth c cells slots Z D cy ad A k) (hi : aIn ls stk S) (hH : aHp D cy ad A S s.heap H locs) (hl : lv_has jl Y.2.2.1 (mL ad ls)) (hKK : aKK D cy s) (hown : s.vm.findClass Y.1.cls = some m.cls) (hts : ∀ w ∈ gw, w.before args s = true) (hA : ∀ q, s.heap.size ≤ q → A q) (hml : c.maxLocals = Y.2.2.1) (hR : Y.2.2.2.2.1 ≤ R.frames ∧ Y.2.2.2.2.2 ≤ R.locals ∧ cells ≤ R.cells ∧ slots ≤ R.slots) {idx : Nat} {co : Option (Option Nat × Nat × aSp)} (hco : ∀ cr n sp, co = some (cr, n, sp) → cOK l Y idx cr n sp) {vt : Bool} (h : wCall co vt k (pc + 3) ls stk S) (hd : decode Y.2.1 pc = .ok (if vt then .invokevirtual idx else .invokestatic idx, 3)) : W p l e R s m args below meth c H locs cells slots Z (F0 m pc jl (stk.map (mv ad))) := by
  have hK := hKK.1
  unfold wCall at h
  split at h
  · rename_i cr n sp
    obtain ⟨Y', hok, hG, hlink, hini, hd1, hfr, hlo, hcr⟩ := hco cr n sp rfl
    split at h
    · rename_i as r hp
      obtain ⟨hfew, hrc, hsp⟩ := h
      obtain ⟨xs, hstk, hxl, has⟩ := pop_spec n [] stk as r hp
      rw [List.append_nil] at has
      have hir : aIn ls r S := ⟨hi.1, hi.2.1, fun w hw => hi.2.2 w (by rw [hstk]; exact List.mem_append_right _ hw)⟩
      have has' : ∀ v ∈ as, aOk v := fun w hw => hi.2.2 w (by rw [hstk]; exact List.mem_append_left _ (by rw [has] at hw; exact List.mem_reverse.mp hw))
      have hM := hok as S _ hsp hi.1 has' D cy ad H.size
      have hfb : FrameBlind (va_Pc (as.map (mv ad)) (fun U => U.heap.size = H.size ∧ va_P D vwCl (aW cy ad S) U.heap ∧ aKK D cy U ∧ va_D (fun _ => True) (aW cy ad S))) := fun a U g mk q => by
        obtain ⟨q0, q1, qP, qK, qD⟩ := q
        exact ⟨q0, q1, qP, ⟨va_K.moved (u := U) (U := U.calling g mk a) (Vm.Alike.refl U.vm) qK.1, qK.2.same (U := U.calling g mk a) rfl⟩, qD⟩
      have hpre : ∀ U : State, U.heap = H → s.WarmedH U.vm → (fun U : State => U.heap.size = H.size ∧ va_P D vwCl (aW cy ad S) U.heap ∧ aKK D cy U ∧ va_D (fun _ => True) (aW cy ad S)) U := fun U hU hW => ⟨by rw [hU], by rw [hU]; exact hH.1, ⟨va_K.moved hW.alike hK, hKK.2.warm hW⟩, hH.2.1.weaken (fun _ _ _ _ => trivial)⟩
      have hRoom : (aRm Y').frames + 1 ≤ R.frames ∧ 8 + (Y'.2.2.1 + 11) + (aRm Y').locals ≤ R.locals := ⟨Nat.le_trans hfr hR.1, Nat.le_trans hlo hR.2.1⟩
      have hstm : stk.map (mv ad) = (as.map (mv ad)).reverse ++ r.map (mv ad) := by rw [hstk, has, List.map_append, ← List.map_reverse, List.reverse_reverse]
      split at hrc
      · rename_i ci b as'
        obtain ⟨hbN, hbC⟩ := hrc
        obtain ⟨hn, ⟨CT, CN, hcl⟩, hinst, hsel⟩ := hcr
        obtain ⟨fs, hLY⟩ := ly_obj hbC
        have he : (aW cy ad S)[b]? = some (ad b, .inr (ci, fs.mapIdx (aFv ad S b))) := by rw [aW_get hbN, hLY]; rfl
        have hlen : as'.length + 1 = n := by
          have h1 : (Sum.inr (Sum.inr b) :: as' : List aV).length = xs.length := by rw [has, List.length_reverse]
          simpa [hxl] using h1
        have hB := callB_of (R := R) (own := Y.1.cls) (index := idx) (y := Y'.1) (bytes := Y'.2.1) (maxL := Y'.2.2.1) (ret := Y'.2.2.2.1) (mc := 0) (ms := 0) (rm := aRm Y') (n - 1) hts hG rfl rfl rfl (hts _ hini) (hts _ hlink) hd1 hRoom
        refine s_run hx hb hk hi hH hl hA hK hir (fun v S' hq => hq) (a := (Value.ref (ad b) :: as'.map (mv ad)).toArray) (va_runV (As := as'.map (mv ad)) ⟨hx, hb, hml, hown, hts⟩ hM ⟨hB, hts _ hinst, hts _ hsel⟩ ⟨hfb, va_recv hK hH.1 hcl he, fun U hU hW => ⟨rfl, hpre U hU hW⟩⟩ rfl ?_ hl.1 ?_ (lv_room (few_sum hfew)) hd ⟨hR.2.2.1, hR.2.2.2⟩)
        · rw [List.length_map]; omega
        · show stk.map (mv ad) = _
          rw [hstm]
          simp [mv]
      · have hst : Cond.static Y'.1 ∈ gw := hcr
        have hB := callB_of (R := R) (own := Y.1.cls) (index := idx) (y := Y'.1) (bytes := Y'.2.1) (maxL := Y'.2.2.1) (ret := Y'.2.2.2.1) (mc := 0) (ms := 0) (rm := aRm Y') n hts hG rfl rfl rfl (hts _ hini) (hts _ hlink) hd1 hRoom
        refine s_run hx hb hk hi hH hl hA hK hir (fun v S' hq => hq) (a := (as.map (mv ad)).toArray) (va_runS (As := as.map (mv ad)) ⟨hx, hb, hml, hown, hts⟩ hM ⟨hB, hts _ hst⟩ ⟨hfb, fun U hU hW => ⟨rfl, hpre U hU hW⟩⟩ rfl ?_ hl.1 hstm (lv_room (few_sum hfew)) hd ⟨hR.2.2.1, hR.2.2.2⟩)
        · rw [List.length_map, has, List.length_reverse, hxl]
      · exact hrc.elim
    · exact h.elim
  · exact h.elim
theorem s_callM (hx : p.tables.exec = Jvm.exec) (hb : c.code = Y.2.1) (hk : aKt l Y p e R s m args below meth c cells slots Z D cy ad A k) (hi : aIn ls stk S) (hH : aHp D cy ad A S s.heap H locs) (hl : lv_has jl Y.2.2.1 (mL ad ls)) (hKK : aKK D cy s) (hown : s.vm.findClass Y.1.cls = some m.cls) (hts : ∀ w ∈ gw, w.before args s = true) (hml : c.maxLocals = Y.2.2.1) (hR : Y.2.2.2.2.1 ≤ R.frames ∧ Y.2.2.2.2.2 ≤ R.locals ∧ cells ≤ R.cells ∧ slots ≤ R.slots) {idx n : Nat} {cr : Option Nat} {sp : aSp} (hco : mOK Y idx cr n sp) {vt : Bool} (h : wCall (some (cr, n, sp)) vt k (pc + 3) ls stk S) (hd : decode Y.2.1 pc = .ok (if vt then .invokevirtual idx else .invokestatic idx, 3)) : W p l e R s m args below meth c H locs cells slots Z (F0 m pc jl (stk.map (mv ad))) := by
  have hK := hKK.1
  obtain ⟨rfl, rfl, hf, hlo, hini, hcase⟩ := hco
  rcases stk with _ | ⟨b, _ | ⟨a, r⟩⟩
  · exact False.elim h
  · exact False.elim h
  · cases vt with
    | true =>
      have h : few r = true ∧ False ∧ sp [a, b] S (fun v S' => k (pc + 3) ls (v.toList ++ r) S') := h
      exact h.2.1.elim
    | false =>
      have h : few r = true ∧ True ∧ sp [a, b] S (fun v S' => k (pc + 3) ls (v.toList ++ r) S') := h
      obtain ⟨hfew, -, hsp⟩ := h
      have hsum := few_sum (ad := ad) hfew
      have hml' : c.maxLocals = jl.size := hml.trans hl.1.symm
      rcases hcase with ⟨w1, w2, w3, rfl⟩ | ⟨w1, w2, w3, rfl⟩
      · rcases a with a | a | a <;> rcases b with b | b | b <;> first | exact False.elim hsp | skip
        have ha := hi.popd.top
        have hb' := hi.top
        have hmx : inI (max a b) := by unfold aOk inI at *; omega
        refine va_mmax hx hb hml' hown (hts _ w1) (hts _ w2) (hts _ hini) (hts _ w3) (by omega) (by omega) hR.2.2.1 hR.2.2.2 hd ?_
        have e : (if Int32.ofInt a < Int32.ofInt b then Int32.ofInt b else Int32.ofInt a) = Int32.ofInt (max a b) := by
          by_cases hlt : a < b
          · rw [if_pos ((c_lt ha hb').mpr hlt), Int.max_eq_right (by omega)]
          · rw [if_neg (fun q => hlt ((c_lt ha hb').mp q)), Int.max_eq_left (by omega)]
        rw [e]
        exact hk _ _ _ _ hsp (hi.popd.popd.push (v := .inl (max a b)) hmx) H locs jl hH hl
      · rcases a with a | a | a <;> rcases b with b | b | b <;> first | exact False.elim hsp | skip
        have ha := hi.popd.top
        have hb' := hi.top
        have hmx : inI (min a b) := by unfold aOk inI at *; omega
        refine va_mmin hx hb hml' hown (hts _ w1) (hts _ w2) (hts _ hini) (hts _ w3) (by omega) (by omega) hR.2.2.1 hR.2.2.2 hd ?_
        have e : (if Int32.ofInt b < Int32.ofInt a then Int32.ofInt b else Int32.ofInt a) = Int32.ofInt (min a b) := by
          by_cases hlt : b < a
          · rw [if_pos ((c_lt hb' ha).mpr hlt), Int.min_eq_right (by omega)]
          · rw [if_neg (fun q => hlt ((c_lt hb' ha).mp q)), Int.min_eq_left (by omega)]
        rw [e]
        exact hk _ _ _ _ hsp (hi.popd.popd.push (v := .inl (min a b)) hmx) H locs jl hH hl
theorem s_callB (hx : p.tables.exec = Jvm.exec) (hb : c.code = Y.2.1) (hk : aKt l Y p e R s m args below meth c cells slots Z D cy ad A k) (hi : aIn ls stk S) (hH : aHp D cy ad A S s.heap H locs) (hl : lv_has jl Y.2.2.1 (mL ad ls)) (hKK : aKK D cy s) (hown : s.vm.findClass Y.1.cls = some m.cls) (hts : ∀ w ∈ gw, w.before args s = true) (hA : ∀ q, s.heap.size ≤ q → A q) (hml : c.maxLocals = Y.2.2.1) (hR : Y.2.2.2.2.1 ≤ R.frames ∧ Y.2.2.2.2.2 ≤ R.locals ∧ cells ≤ R.cells ∧ slots ≤ R.slots) {idx : Nat} {co : Option (Option Nat × Nat × aSp)} (hco : ∀ cr n sp, co = some (cr, n, sp) → cOK l Y idx cr n sp ∨ mOK Y idx cr n sp) {vt : Bool} (h : wCall co vt k (pc + 3) ls stk S) (hd : decode Y.2.1 pc = .ok (if vt then .invokevirtual idx else .invokestatic idx, 3)) : W p l e R s m args below meth c H locs cells slots Z (F0 m pc jl (stk.map (mv ad))) := by
  have hK := hKK.1
  rcases co with _ | ⟨cr, n, sp⟩
  · exact False.elim h
  · rcases hco cr n sp rfl with h1 | h1
    · exact s_call hx hb hk hi hH hl hKK hown hts hA hml hR (fun _ _ _ e => by cases e; exact h1) h hd
    · exact s_callM hx hb hk hi hH hl hKK hown hts hml hR h1 h hd
theorem s_ret {Q : Option aV → aS → Prop} (hE : aEnd Y Q p l e R s m args below meth c cells slots Z D cy ad A) (hi : aIn ls stk S) (hH : aHp D cy ad A S s.heap H locs) {i : Instr} (v : Option aV) (hst : stk = v.toList) (hQ : Q v S) (hr : aRet i Y.2.2.2.1 v) (hd : decode Y.2.1 pc = .ok (i, 1)) : W p l e R s m args below meth c H locs cells slots Z (F0 m pc jl (stk.map (mv ad))) := by
  rw [hst]
  exact hE v S H locs pc jl i hQ hi.1 (fun w hw => hi.2.2 w (by rw [hst, hw]; exact List.mem_cons_self)) hH hd hr
end SOUND4
