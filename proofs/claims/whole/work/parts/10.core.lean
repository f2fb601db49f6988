/-! a method's contract out of its way from the entry -/
theorem aAr_eq (ad : Nat → Nat) : ∀ (as : List aV) (n : Nat), lv_args n (as.map (mv ad)) = mL ad (aAr n as)
  | [], _ => rfl
  | .inl a :: r, n => by
    show (n, mv ad (.inl a)) :: lv_args (n + 1) (r.map (mv ad)) = _
    rw [aAr_eq ad r (n + 1)]; rfl
  | .inr (.inl a) :: r, n => by
    show (n, mv ad (.inr (.inl a))) :: lv_args (n + 2) (r.map (mv ad)) = _
    rw [aAr_eq ad r (n + 2)]; rfl
  | .inr (.inr a) :: r, n => by
    show (n, mv ad (.inr (.inr a))) :: lv_args (n + 1) (r.map (mv ad)) = _
    rw [aAr_eq ad r (n + 1)]; rfl
theorem aLn_eq (ad : Nat → Nat) : ∀ (as : List aV), (lg_sl (as.map (mv ad))).length = aLn as
  | [] => rfl
  | .inl a :: r => by
    show (lg_sl (r.map (mv ad))).length + 1 = _
    rw [aLn_eq ad r]; rfl
  | .inr (.inl a) :: r => by
    show (lg_sl (r.map (mv ad))).length + 2 = _
    rw [aLn_eq ad r]; rfl
  | .inr (.inr a) :: r => by
    show (lg_sl (r.map (mv ad))).length + 1 = _
    rw [aLn_eq ad r]; rfl
theorem aAr_ok : ∀ (as : List aV) (n : Nat), (∀ v ∈ as, aOk v) → ∀ q ∈ aAr n as, aOk q.2
  | [], _, _, q, hq => by cases hq
  | .inl a :: r, n, h, q, hq => by
    rcases List.mem_cons.mp hq with e | e
    · rw [e]; exact h _ List.mem_cons_self
    · exact aAr_ok r _ (fun v hv => h v (List.mem_cons_of_mem _ hv)) q e
  | .inr (.inl a) :: r, n, h, q, hq => by
    rcases List.mem_cons.mp hq with e | e
    · rw [e]; exact h _ List.mem_cons_self
    · exact aAr_ok r _ (fun v hv => h v (List.mem_cons_of_mem _ hv)) q e
  | .inr (.inr a) :: r, n, h, q, hq => by
    rcases List.mem_cons.mp hq with e | e
    · rw [e]; exact h _ List.mem_cons_self
    · exact aAr_ok r _ (fun v hv => h v (List.mem_cons_of_mem _ hv)) q e
theorem aOK_of {l : Launch} {Y : aM} {sp : aSp} (hpl : plainName Y.1.cls = true) (h : ∀ as S Q, sp as S Q → aLn as ≤ Y.2.2.1 ∧ aGo l Y Q 0 (aAr 0 as) [] S) : aOK l Y sp := by
  intro as S Q hsp hRg has D cy ad sz
  obtain ⟨hlen, hgo⟩ := h as S Q hsp
  refine Met.ofW (cc := Y.2.1) (maxL := Y.2.2.1) (ret := Y.2.2.2.1) hpl rfl ?_
  intro p e s m args below meth c s₁ B hml hv
  obtain ⟨rfl, hsz, hP, hK, hD0⟩ := hv
  have hx := B.exec
  have hb := B.bytes
  have hr := B.returns
  have hts := atoms_spec (ws := aWs Y) B.pre
  have hown : s.vm.findClass Y.1.cls = some m.cls := findClass_of_methodNamed B.named
  have hlocks := B.notSynchronized
  subst hsz
  have hD := hD0.self (sz := s.heap.size)
  have hA : ∀ q : Nat, s.heap.size ≤ q → va_A (aW cy ad S) s.heap.size q := fun q h => Or.inr h
  have hl := lv_entry (as.map (mv ad)) (n := Y.2.2.1) (by rw [aLn_eq]; exact hlen)
  rw [aAr_eq] at hl
  rw [lg_entry_eq]
  have hE : aEnd Y Q p l e (headSpec (aWs Y) (aRm Y)).room s m (as.map (mv ad)).toArray below meth c 0 0 (MQ below (fun _ st oc t => (∃ (v : Option aV) (S' : aS), oc = .returned (v.map (mv ad)) ∧ Q v S' ∧ aRg S' ∧ (∀ w, v = some w → aOk w) ∧ va_P D vwCl (aW cy ad S') t.heap ∧ va_K D vwCl (aTys cy) t ∧ va_D (va_A (aW cy ad S) s.heap.size) (aW cy ad S')) ∧ va_F (va_A (aW cy ad S) s.heap.size) st t) (as.map (mv ad)).toArray s 0 0 (va_A (aW cy ad S) s.heap.size)) D cy ad (va_A (aW cy ad S) s.heap.size) := by
    intro v S' H locs pc jl i hQ hRg' hok hH hd hret
    have hq : ∀ t : State, t.heap = H → s.WarmedH t.vm → ((∃ (v0 : Option aV) (S1 : aS), Outcome.returned (v.map (mv ad)) = .returned (v0.map (mv ad)) ∧ Q v0 S1 ∧ aRg S1 ∧ (∀ w, v0 = some w → aOk w) ∧ va_P D vwCl (aW cy ad S1) t.heap ∧ va_K D vwCl (aTys cy) t ∧ va_D (va_A (aW cy ad S) s.heap.size) (aW cy ad S1)) ∧ va_F (va_A (aW cy ad S) s.heap.size) s t) := fun t ht hW =>
      ⟨⟨v, S', rfl, hQ, hRg', hok, by rw [ht]; exact hH.1, va_K.moved hW.alike hK.1, hH.2.1⟩, hH.2.2.F ht⟩
    unfold aRet at hret
    split at hret
    · rename_i a he
      exact W.iret hx hb (hr.trans he) hq hH.2.2.2.2 hd hlocks
    · rename_i a he
      refine W.zret hx hb (hr.trans he) ?_ hq hH.2.2.2.2 hd hlocks
      rcases hret with rfl | rfl <;> rfl
    · rename_i a he
      exact W.lret hx hb (hr.trans he) hq hH.2.2.2.2 hd hlocks
    · rename_i he
      exact W.vret hx hb (hr.trans he) hq hH.2.2.2.2 hd hlocks
    · exact hret.elim
  exact hgo ⟨hRg, aAr_ok as 0 has, fun v hv => by cases hv⟩ p e (headSpec (aWs Y) (aRm Y)).room s m _ below meth c 0 0 _ D cy ad (va_A (aW cy ad S) s.heap.size)
    ⟨hx, hb, hml, hown, fun w hw => hts w (List.mem_cons_of_mem _ hw), Nat.le_refl _, Nat.le_refl _, Nat.le_refl _, Nat.le_refl _⟩ hK hA hE s.heap [] _ ⟨hP, hD, va_S.rf⟩ hl
/-! calls -/
def cF (own : String) (idx : Nat) (Y' : aM) (cr : Option Nat) (n : Nat) : Prop := Cond.methodLink own idx Y'.1 ∈ gw ∧ Cond.initialized Y'.1.cls ∈ gw ∧
  (Y'.1.cls ≠ "java/lang/invoke/MethodHandle" ∧ Y'.1.cls ≠ "java/lang/invoke/VarHandle" ∧ (parseMethodDescriptor Y'.1.desc).map (fun d => d.parameters.length) = some (if cr.isSome then n - 1 else n)) ∧
  match cr with
    | some ci => 0 < n ∧ (∃ T N, vwCl[ci]? = some (Y'.1.cls, T, N)) ∧ Cond.instanceMethod Y'.1 ∈ gw ∧ Cond.selects Y'.1.cls Y'.1 Y'.1 ∈ gw
    | none => Cond.static Y'.1 ∈ gw
theorem gw_in {w : Cond} (h : w ∈ lw_tbl) (hg : goodWord w = true) : w ∈ gw := List.mem_filter.mpr ⟨h, hg⟩
theorem goodY {Y : aM} (h : Cond.code Y.1 Y.2.1 Y.2.2.1 Y.2.2.2.1 ∈ gw) : GoodIn gw (aWs Y) := by
  intro w hw
  have hm : w ∈ gw := by
    rcases List.mem_cons.mp hw with e | e
    · rw [e]; exact h
    · exact e
  exact ⟨hm, good_of_word (List.mem_filter.mp hm).2⟩
theorem cOK_of {l : Launch} {Y Y' : aM} {sp : aSp} {idx n : Nat} {cr : Option Nat} (hok : aOK l Y' sp) (hg : Cond.code Y'.1 Y'.2.1 Y'.2.2.1 Y'.2.2.2.1 ∈ gw) (hf : cF Y.1.cls idx Y' cr n) (h1 : Y'.2.2.2.2.1 + 1 ≤ Y.2.2.2.2.1) (h2 : 8 + (Y'.2.2.1 + 11) + Y'.2.2.2.2.2 ≤ Y.2.2.2.2.2) : cOK l Y idx cr n sp ∨ mOK Y idx cr n sp :=
  .inl ⟨Y', hok, goodY hg, hf.1, hf.2.1, hf.2.2.1, h1, h2, hf.2.2.2⟩
theorem mem_by {α : Type} {ws big : List α} (ps : List Nat) (h : ws = ps.filterMap (fun i => big[i]?)) : ∀ w ∈ ws, w ∈ big := by
  intro w hw
  rw [h] at hw
  obtain ⟨i, -, hi⟩ := List.mem_filterMap.mp hw
  exact List.mem_of_getElem? hi
def lk {β : Type} : List (Nat × β) → Nat → Option β
  | [], _ => none
  | (k, v) :: r, j => if j = k then some v else lk r j
theorem lk_mem {β : Type} : ∀ {l : List (Nat × β)} {j : Nat} {v : β}, lk l j = some v → (j, v) ∈ l
  | (k, w) :: r, j, v, h => by
    unfold lk at h
    split at h
    · rename_i e
      cases h; subst e; exact List.mem_cons_self
    · exact List.mem_cons_of_mem _ (lk_mem h)
theorem all_nil {α : Type} {P : α → Prop} : ∀ e ∈ ([] : List α), P e := fun _ h => absurd h List.not_mem_nil
theorem all_cons {α : Type} {P : α → Prop} {a : α} {l : List α} (h : P a) (t : ∀ e ∈ l, P e) : ∀ e ∈ a :: l, P e := List.forall_mem_cons.mpr ⟨h, t⟩
theorem in_0 {w : Cond} (h : w ∈ k2_sels lw_privs) (hg : goodWord w = true) : w ∈ gw := gw_in (List.mem_append_left _ h) hg
theorem in_1 {w : Cond} (h : w ∈ tables_1_1) (hg : goodWord w = true) : w ∈ gw := gw_in (List.mem_append_right _ (List.mem_append_left _ h)) hg
theorem in_2 {w : Cond} (h : w ∈ tables_1_2) (hg : goodWord w = true) : w ∈ gw := gw_in (List.mem_append_right _ (List.mem_append_right _ (List.mem_append_left _ h))) hg
theorem in_3 {w : Cond} (h : w ∈ tables_1_3) (hg : goodWord w = true) : w ∈ gw := gw_in (List.mem_append_right _ (List.mem_append_right _ (List.mem_append_right _ (List.mem_append_left _ h)))) hg
theorem in_4 {w : Cond} (h : w ∈ tables_1_4) (hg : goodWord w = true) : w ∈ gw := gw_in (List.mem_append_right _ (List.mem_append_right _ (List.mem_append_right _ (List.mem_append_right _ (List.mem_append_left _ h))))) hg
theorem in_5 {w : Cond} (h : w ∈ tables_1_5) (hg : goodWord w = true) : w ∈ gw := gw_in (List.mem_append_right _ (List.mem_append_right _ (List.mem_append_right _ (List.mem_append_right _ (List.mem_append_right _ (List.mem_append_left _ h)))))) hg
theorem in_6 {w : Cond} (h : w ∈ tables_1_6) (hg : goodWord w = true) : w ∈ gw := gw_in (List.mem_append_right _ (List.mem_append_right _ (List.mem_append_right _ (List.mem_append_right _ (List.mem_append_right _ (List.mem_append_right _ h)))))) hg
