theorem inI_wI (x : Int) : inI (wI x) := inI_toInt _
theorem inL_wL (x : Int) : inL (wL x) := inL_toInt _
theorem of_wI (x : Int) : Int32.ofInt (wI x) = Int32.ofInt x := by unfold wI; exact Int32.ofInt_toInt _
theorem of_wL (x : Int) : Int64.ofInt (wL x) = Int64.ofInt x := by unfold wL; exact Int64.ofInt_toInt _
theorem of_toI (x : Int32) : Int32.ofInt x.toInt = x := by simp
theorem of_toL (x : Int64) : Int64.ofInt x.toInt = x := by simp
theorem c_eq {a b : Int} (ha : inI a) (hb : inI b) : Int32.ofInt a = Int32.ofInt b ↔ a = b := by
  rw [← Int32.toInt_inj, ofI_toInt ha, ofI_toInt hb]
theorem c_lt {a b : Int} (ha : inI a) (hb : inI b) : Int32.ofInt a < Int32.ofInt b ↔ a < b := by
  rw [Int32.lt_iff_toInt_lt, ofI_toInt ha, ofI_toInt hb]
theorem c_le {a b : Int} (ha : inI a) (hb : inI b) : Int32.ofInt a ≤ Int32.ofInt b ↔ a ≤ b := by
  rw [Int32.le_iff_toInt_le, ofI_toInt ha, ofI_toInt hb]
theorem inI_0 : inI 0 := by unfold inI; omega
theorem c_eq0 {a : Int} (ha : inI a) : Int32.ofInt a = 0 ↔ a = 0 := c_eq ha inI_0
theorem c_lt0 {a : Int} (ha : inI a) : Int32.ofInt a < 0 ↔ a < 0 := c_lt ha inI_0
theorem c_le0 {a : Int} (ha : inI a) : Int32.ofInt a ≤ 0 ↔ a ≤ 0 := c_le ha inI_0
theorem c_gt0 {a : Int} (ha : inI a) : 0 < Int32.ofInt a ↔ 0 < a := c_lt inI_0 ha
theorem c_ge0 {a : Int} (ha : inI a) : 0 ≤ Int32.ofInt a ↔ 0 ≤ a := c_le inI_0 ha
theorem o_add (a b : Int) : Int32.ofInt a + Int32.ofInt b = Int32.ofInt (wI (a + b)) := by rw [of_wI, Int32.ofInt_add]
theorem o_sub (a b : Int) : Int32.ofInt a - Int32.ofInt b = Int32.ofInt (wI (a - b)) := by rw [of_wI, Int32.ofInt_sub]
theorem o_mul (a b : Int) : Int32.ofInt a * Int32.ofInt b = Int32.ofInt (wI (a * b)) := by rw [of_wI, Int32.ofInt_mul]
theorem o_lsub (a b : Int) : Int64.ofInt a - Int64.ofInt b = Int64.ofInt (wL (a - b)) := by rw [of_wL, Int64.ofInt_sub]
theorem o_div {a b : Int} (ha : inI a) (hb : inI b) : Int32.ofInt a / Int32.ofInt b = Int32.ofInt (wI (a.tdiv b)) := by
  rw [of_wI, ← Int32.toInt_inj, Int32.toInt_div, ofI_toInt ha, ofI_toInt hb, Int32.toInt_ofInt]
theorem o_rem {a b : Int} (ha : inI a) (hb : inI b) : Int32.ofInt a - Int32.ofInt a / Int32.ofInt b * Int32.ofInt b = Int32.ofInt (wI (a.tmod b)) := by
  rw [o_div ha hb, of_wI, of_wI, ← Int32.ofInt_mul, ← Int32.ofInt_sub]
  congr 1
  have := Int.tmod_add_mul_tdiv a b
  have h2 : b * a.tdiv b = a.tdiv b * b := Int.mul_comm _ _
  omega
theorem o_cmp {a b : Int} (ha : inL a) (hb : inL b) : lg_cmp (Int64.ofInt a) (Int64.ofInt b) = Int32.ofInt (lCmp a b) := by
  unfold lg_cmp lCmp
  simp only [gt_iff_lt, Int64.lt_iff_toInt_lt, ← Int64.toInt_inj, ofL_toInt ha, ofL_toInt hb]
  split
  · rfl
  · split <;> rfl
theorem inI_lCmp (a b : Int) : inI (lCmp a b) := by
  unfold lCmp inI
  split
  · omega
  · split <;> omega
theorem jt_eq {pc : Nat} {off : Int} {t : Nat} (h : jt pc off = some t) : (pc : Int) + off = (t : Int) := by
  unfold jt at h
  split at h
  · cases h
    omega
  · cases h
section SOUND2
variable {l : Launch} {Y : aM} {p : Program} {e : Env} {R : Room} {s : State} {m : MethodId} {args : Array Value} {below : List Frame} {meth : Method} {c : Code} {cells slots : Nat} {Z : State → Prop} {D : va_G} {cy : Nat → ClassId} {ad : Nat → Nat} {A : Nat → Prop}
variable {k : aK} {pc : Nat} {ls : aL} {stk : List aV} {S : aS} {H : Heap} {locs : List Loc} {jl : Array Slot}
theorem s_st1 (hx : p.tables.exec = Jvm.exec) (hb : c.code = Y.2.1) (hk : aKt l Y p e R s m args below meth c cells slots Z D cy ad A k) (hi : aIn ls stk S) (hH : aHp D cy ad A S s.heap H locs) (hl : lv_has jl Y.2.2.1 (mL ad ls)) {ty i pc' : Nat} (hty : ty ≠ 1) (h : wSt Y.2.2.1 ty i k pc' ls stk S)
    (hrow : ∀ (v : aV) (r : List aV), stk = v :: r → isL v = false → (ty = 0 → ∃ a, v = .inl a) → (ty = 2 → ∃ a, v = .inr (.inr a)) → ty < 3 → i < Y.2.2.1 → (∀ jl' : Array Slot, lv_has jl' Y.2.2.1 ((i, mv ad v) :: (mL ad ls).filter (fun q => !(q.1 == i) && !(q.1 + 1 == i && q.2.category == 2))) → W p l e R s m args below meth c H locs cells slots Z (F0 m pc' jl' (r.map (mv ad)))) → W p l e R s m args below meth c H locs cells slots Z (F0 m pc jl (mv ad v :: r.map (mv ad)))) : W p l e R s m args below meth c H locs cells slots Z (F0 m pc jl (stk.map (mv ad))) := by
  unfold wSt at h
  split at h
  · rename_i a r
    exact hrow (.inl a) r rfl rfl (fun _ => ⟨a, rfl⟩) (fun q => by cases q) (by decide) h.1 (fun jl' hh => hk _ _ _ _ h.2 (hi.popd.set hi.top) H locs jl' hH (has_set1 rfl hh))
  · exact absurd rfl hty
  · rename_i a r
    exact hrow (.inr (.inr a)) r rfl rfl (fun q => by cases q) (fun _ => ⟨a, rfl⟩) (by decide) h.1 (fun jl' hh => hk _ _ _ _ h.2 (hi.popd.set hi.top) H locs jl' hH (has_set1 rfl hh))
  · exact h.elim
theorem s_istore (hx : p.tables.exec = Jvm.exec) (hb : c.code = Y.2.1) (hk : aKt l Y p e R s m args below meth c cells slots Z D cy ad A k) (hi : aIn ls stk S) (hH : aHp D cy ad A S s.heap H locs) (hl : lv_has jl Y.2.2.1 (mL ad ls)) {i : Nat} (h : wSt Y.2.2.1 0 i k (pc + 2) ls stk S) (hd : decode Y.2.1 pc = .ok (.istore i, 2)) : W p l e R s m args below meth c H locs cells slots Z (F0 m pc jl (stk.map (mv ad))) :=
  s_st1 hx hb hk hi hH hl (by decide) h fun v r he _ h0 h2 _ hn hw => by subst he; obtain ⟨a, rfl⟩ := h0 rfl; exact lv_istore hx hb hd hl hn rfl hw
theorem s_istore_n (hx : p.tables.exec = Jvm.exec) (hb : c.code = Y.2.1) (hk : aKt l Y p e R s m args below meth c cells slots Z D cy ad A k) (hi : aIn ls stk S) (hH : aHp D cy ad A S s.heap H locs) (hl : lv_has jl Y.2.2.1 (mL ad ls)) {i : Fin 4} (h : wSt Y.2.2.1 0 i k (pc + 1) ls stk S) (hd : decode Y.2.1 pc = .ok (.istore_n i, 1)) : W p l e R s m args below meth c H locs cells slots Z (F0 m pc jl (stk.map (mv ad))) :=
  s_st1 hx hb hk hi hH hl (by decide) h fun v r he _ h0 h2 _ hn hw => by subst he; obtain ⟨a, rfl⟩ := h0 rfl; exact lv_istore_n hx hb hd rfl hl hn rfl hw
theorem s_astore (hx : p.tables.exec = Jvm.exec) (hb : c.code = Y.2.1) (hk : aKt l Y p e R s m args below meth c cells slots Z D cy ad A k) (hi : aIn ls stk S) (hH : aHp D cy ad A S s.heap H locs) (hl : lv_has jl Y.2.2.1 (mL ad ls)) {i : Nat} (h : wSt Y.2.2.1 2 i k (pc + 2) ls stk S) (hd : decode Y.2.1 pc = .ok (.astore i, 2)) : W p l e R s m args below meth c H locs cells slots Z (F0 m pc jl (stk.map (mv ad))) :=
  s_st1 hx hb hk hi hH hl (by decide) h fun v r he _ h0 h2 _ hn hw => by subst he; obtain ⟨a, rfl⟩ := h2 rfl; exact lv_astore hx hb hd hl hn rfl hw
theorem s_astore_n (hx : p.tables.exec = Jvm.exec) (hb : c.code = Y.2.1) (hk : aKt l Y p e R s m args below meth c cells slots Z D cy ad A k) (hi : aIn ls stk S) (hH : aHp D cy ad A S s.heap H locs) (hl : lv_has jl Y.2.2.1 (mL ad ls)) {i : Fin 4} (h : wSt Y.2.2.1 2 i k (pc + 1) ls stk S) (hd : decode Y.2.1 pc = .ok (.astore_n i, 1)) : W p l e R s m args below meth c H locs cells slots Z (F0 m pc jl (stk.map (mv ad))) :=
  s_st1 hx hb hk hi hH hl (by decide) h fun v r he _ h0 h2 _ hn hw => by subst he; obtain ⟨a, rfl⟩ := h2 rfl; exact lv_astore_n hx hb hd rfl hl hn rfl hw
theorem s_lstore (hx : p.tables.exec = Jvm.exec) (hb : c.code = Y.2.1) (hk : aKt l Y p e R s m args below meth c cells slots Z D cy ad A k) (hi : aIn ls stk S) (hH : aHp D cy ad A S s.heap H locs) (hl : lv_has jl Y.2.2.1 (mL ad ls)) {i : Nat} (h : wSt Y.2.2.1 1 i k (pc + 2) ls stk S) (hd : decode Y.2.1 pc = .ok (.lstore i, 2)) : W p l e R s m args below meth c H locs cells slots Z (F0 m pc jl (stk.map (mv ad))) := by
  unfold wSt at h
  split at h
  · rename_i q; cases q
  · rename_i a r _
    exact lv_lstore hx hb hd hl h.1 rfl (fun jl' hh => hk _ _ _ _ h.2 (hi.popd.set hi.top) H locs jl' hH (has_set2 rfl hh))
  · rename_i q; cases q
  · exact h.elim
theorem s_lstore_n (hx : p.tables.exec = Jvm.exec) (hb : c.code = Y.2.1) (hk : aKt l Y p e R s m args below meth c cells slots Z D cy ad A k) (hi : aIn ls stk S) (hH : aHp D cy ad A S s.heap H locs) (hl : lv_has jl Y.2.2.1 (mL ad ls)) {i : Fin 4} (h : wSt Y.2.2.1 1 i k (pc + 1) ls stk S) (hd : decode Y.2.1 pc = .ok (.lstore_n i, 1)) : W p l e R s m args below meth c H locs cells slots Z (F0 m pc jl (stk.map (mv ad))) := by
  unfold wSt at h
  split at h
  · rename_i q; cases q
  · rename_i a r _
    exact lv_lstore_n hx hb hd rfl hl h.1 rfl (fun jl' hh => hk _ _ _ _ h.2 (hi.popd.set hi.top) H locs jl' hH (has_set2 rfl hh))
  · rename_i q; cases q
  · exact h.elim
theorem s_push (hx : p.tables.exec = Jvm.exec) (hb : c.code = Y.2.1) (hk : aKt l Y p e R s m args below meth c cells slots Z D cy ad A k) (hi : aIn ls stk S) (hH : aHp D cy ad A S s.heap H locs) (hl : lv_has jl Y.2.2.1 (mL ad ls)) {pc' : Nat} (v : aV) (hv : aOk v) (h : k pc' ls (v :: stk) S) (hrow : W p l e R s m args below meth c H locs cells slots Z (F0 m pc' jl (mv ad v :: stk.map (mv ad))) → W p l e R s m args below meth c H locs cells slots Z (F0 m pc jl (stk.map (mv ad)))) : W p l e R s m args below meth c H locs cells slots Z (F0 m pc jl (stk.map (mv ad))) :=
  hrow (hk _ _ _ _ h (hi.push hv) H locs jl hH hl)
theorem s_i2 (hx : p.tables.exec = Jvm.exec) (hb : c.code = Y.2.1) (hk : aKt l Y p e R s m args below meth c cells slots Z D cy ad A k) (hi : aIn ls stk S) (hH : aHp D cy ad A S s.heap H locs) (hl : lv_has jl Y.2.2.1 (mL ad ls)) {f : Int → Int → Int} {pc' : Nat} (h : wI2 f k pc' ls stk S) (hf : ∀ a b, inI (f a b))
    (hrow : ∀ (a b : Int) (r : List Value), inI a → inI b → W p l e R s m args below meth c H locs cells slots Z (F0 m pc' jl (.int (Int32.ofInt (f a b)) :: r)) → W p l e R s m args below meth c H locs cells slots Z (F0 m pc jl (.int (Int32.ofInt b) :: .int (Int32.ofInt a) :: r))) : W p l e R s m args below meth c H locs cells slots Z (F0 m pc jl (stk.map (mv ad))) := by
  unfold wI2 at h
  split at h
  · rename_i b a r
    exact hrow a b _ hi.popd.top hi.top (hk _ _ _ _ h (hi.popd.popd.push (hf a b)) H locs jl hH hl)
  · exact h.elim
theorem s_d2 (hx : p.tables.exec = Jvm.exec) (hb : c.code = Y.2.1) (hk : aKt l Y p e R s m args below meth c cells slots Z D cy ad A k) (hi : aIn ls stk S) (hH : aHp D cy ad A S s.heap H locs) (hl : lv_has jl Y.2.2.1 (mL ad ls)) {f : Int → Int → Int} {pc' : Nat} (h : wD2 f k pc' ls stk S) (hf : ∀ a b, inI (f a b))
    (hrow : ∀ (a b : Int) (r : List Value), inI a → inI b → b ≠ 0 → W p l e R s m args below meth c H locs cells slots Z (F0 m pc' jl (.int (Int32.ofInt (f a b)) :: r)) → W p l e R s m args below meth c H locs cells slots Z (F0 m pc jl (.int (Int32.ofInt b) :: .int (Int32.ofInt a) :: r))) : W p l e R s m args below meth c H locs cells slots Z (F0 m pc jl (stk.map (mv ad))) := by
  unfold wD2 at h
  split at h
  · rename_i b a r
    exact hrow a b _ hi.popd.top hi.top h.1 (hk _ _ _ _ h.2 (hi.popd.popd.push (hf a b)) H locs jl hH hl)
  · exact h.elim
theorem s_l2 (hx : p.tables.exec = Jvm.exec) (hb : c.code = Y.2.1) (hk : aKt l Y p e R s m args below meth c cells slots Z D cy ad A k) (hi : aIn ls stk S) (hH : aHp D cy ad A S s.heap H locs) (hl : lv_has jl Y.2.2.1 (mL ad ls)) {f : Int → Int → Int} {pc' : Nat} (h : wL2 f k pc' ls stk S) (hf : ∀ a b, inL (f a b))
    (hrow : ∀ (a b : Int) (r : List Value), inL a → inL b → W p l e R s m args below meth c H locs cells slots Z (F0 m pc' jl (.long (Int64.ofInt (f a b)) :: r)) → W p l e R s m args below meth c H locs cells slots Z (F0 m pc jl (.long (Int64.ofInt b) :: .long (Int64.ofInt a) :: r))) : W p l e R s m args below meth c H locs cells slots Z (F0 m pc jl (stk.map (mv ad))) := by
  unfold wL2 at h
  split at h
  · rename_i b a r
    exact hrow a b _ hi.popd.top hi.top (hk _ _ _ _ h (hi.popd.popd.push (hf a b)) H locs jl hH hl)
  · exact h.elim
theorem s_li2 (hx : p.tables.exec = Jvm.exec) (hb : c.code = Y.2.1) (hk : aKt l Y p e R s m args below meth c cells slots Z D cy ad A k) (hi : aIn ls stk S) (hH : aHp D cy ad A S s.heap H locs) (hl : lv_has jl Y.2.2.1 (mL ad ls)) {f : Int → Int → Int} {pc' : Nat} (h : wLI2 f k pc' ls stk S) (hf : ∀ a b, inL (f a b))
    (hrow : ∀ (a b : Int) (r : List Value), inL a → inI b → W p l e R s m args below meth c H locs cells slots Z (F0 m pc' jl (.long (Int64.ofInt (f a b)) :: r)) → W p l e R s m args below meth c H locs cells slots Z (F0 m pc jl (.int (Int32.ofInt b) :: .long (Int64.ofInt a) :: r))) : W p l e R s m args below meth c H locs cells slots Z (F0 m pc jl (stk.map (mv ad))) := by
  unfold wLI2 at h
  split at h
  · rename_i b a r
    exact hrow a b _ hi.popd.top hi.top (hk _ _ _ _ h (hi.popd.popd.push (hf a b)) H locs jl hH hl)
  · exact h.elim
theorem s_lcmp (hx : p.tables.exec = Jvm.exec) (hb : c.code = Y.2.1) (hk : aKt l Y p e R s m args below meth c cells slots Z D cy ad A k) (hi : aIn ls stk S) (hH : aHp D cy ad A S s.heap H locs) (hl : lv_has jl Y.2.2.1 (mL ad ls)) (h : wCmp k (pc + 1) ls stk S) (hd : decode Y.2.1 pc = .ok (.lcmp, 1)) : W p l e R s m args below meth c H locs cells slots Z (F0 m pc jl (stk.map (mv ad))) := by
  unfold wCmp at h
  split at h
  · rename_i b a r
    refine W.lcmp hx hb hd ?_
    rw [o_cmp hi.popd.top hi.top]
    exact hk _ _ _ _ h (hi.popd.popd.push (inI_lCmp a b)) H locs jl hH hl
  · exact h.elim
theorem s_i2l (hx : p.tables.exec = Jvm.exec) (hb : c.code = Y.2.1) (hk : aKt l Y p e R s m args below meth c cells slots Z D cy ad A k) (hi : aIn ls stk S) (hH : aHp D cy ad A S s.heap H locs) (hl : lv_has jl Y.2.2.1 (mL ad ls)) (h : wI2L k (pc + 1) ls stk S) (hd : decode Y.2.1 pc = .ok (.i2l, 1)) : W p l e R s m args below meth c H locs cells slots Z (F0 m pc jl (stk.map (mv ad))) := by
  unfold wI2L at h
  split at h
  · rename_i a r
    have h1 : inI a := hi.top
    refine lv_i2l (v := Int64.ofInt a) hx hb hd ?_ (hk _ _ _ _ h (hi.popd.push (v := .inr (.inl a)) (show inL a by unfold inI at h1; unfold inL; omega)) H locs jl hH hl)
    rw [← Int64.toInt_inj, Int32.toInt_toInt64, ofI_toInt h1, ofL_toInt (by unfold inI at h1; unfold inL; omega)]
  · exact h.elim
theorem s_l2i (hx : p.tables.exec = Jvm.exec) (hb : c.code = Y.2.1) (hk : aKt l Y p e R s m args below meth c cells slots Z D cy ad A k) (hi : aIn ls stk S) (hH : aHp D cy ad A S s.heap H locs) (hl : lv_has jl Y.2.2.1 (mL ad ls)) (h : wL2I k (pc + 1) ls stk S) (hd : decode Y.2.1 pc = .ok (.l2i, 1)) : W p l e R s m args below meth c H locs cells slots Z (F0 m pc jl (stk.map (mv ad))) := by
  unfold wL2I at h
  split at h
  · rename_i a r
    have h1 : inL a := hi.top
    refine lv_l2i (v := Int32.ofInt (wI a)) hx hb hd ?_ (hk _ _ _ _ h (hi.popd.push (v := .inl (wI a)) (inI_wI a)) H locs jl hH hl)
    rw [of_wI, ← Int32.toInt_inj, Int64.toInt_toInt32, ofL_toInt h1, Int32.toInt_ofInt]
  · exact h.elim
theorem s_i2b (hx : p.tables.exec = Jvm.exec) (hb : c.code = Y.2.1) (hk : aKt l Y p e R s m args below meth c cells slots Z D cy ad A k) (hi : aIn ls stk S) (hH : aHp D cy ad A S s.heap H locs) (hl : lv_has jl Y.2.2.1 (mL ad ls)) (h : wI2B k (pc + 1) ls stk S) (hd : decode Y.2.1 pc = .ok (.i2b, 1)) : W p l e R s m args below meth c H locs cells slots Z (F0 m pc jl (stk.map (mv ad))) := by
  unfold wI2B at h
  split at h
  · rename_i a r
    exact lv_i2b (v := Int32.ofInt ((Int32.ofInt a).toInt8.toInt32).toInt) hx hb hd (by rw [of_toI]) (hk _ _ _ _ h (hi.popd.push (v := .inl _) (inI_toInt _)) H locs jl hH hl)
  · exact h.elim
theorem s_dup (hx : p.tables.exec = Jvm.exec) (hb : c.code = Y.2.1) (hk : aKt l Y p e R s m args below meth c cells slots Z D cy ad A k) (hi : aIn ls stk S) (hH : aHp D cy ad A S s.heap H locs) (hl : lv_has jl Y.2.2.1 (mL ad ls)) (h : wDup k (pc + 1) ls stk S) (hd : decode Y.2.1 pc = .ok (.dup, 1)) : W p l e R s m args below meth c H locs cells slots Z (F0 m pc jl (stk.map (mv ad))) := by
  unfold wDup at h
  split at h
  · exact lv_dup hx hb hd rfl (hk _ _ _ _ h (hi.push hi.top) H locs jl hH hl)
  · exact lv_dup hx hb hd rfl (hk _ _ _ _ h (hi.push hi.top) H locs jl hH hl)
  · exact h.elim
theorem s_dup2 (hx : p.tables.exec = Jvm.exec) (hb : c.code = Y.2.1) (hk : aKt l Y p e R s m args below meth c cells slots Z D cy ad A k) (hi : aIn ls stk S) (hH : aHp D cy ad A S s.heap H locs) (hl : lv_has jl Y.2.2.1 (mL ad ls)) (h : wDup2 k (pc + 1) ls stk S) (hd : decode Y.2.1 pc = .ok (.dup2, 1)) : W p l e R s m args below meth c H locs cells slots Z (F0 m pc jl (stk.map (mv ad))) := by
  unfold wDup2 at h
  split at h
  · exact lv_dup2_11 hx hb hd rfl rfl (hk _ _ _ _ h ((hi.push hi.popd.top).push hi.top) H locs jl hH hl)
  · exact h.elim
theorem s_pop (hx : p.tables.exec = Jvm.exec) (hb : c.code = Y.2.1) (hk : aKt l Y p e R s m args below meth c cells slots Z D cy ad A k) (hi : aIn ls stk S) (hH : aHp D cy ad A S s.heap H locs) (hl : lv_has jl Y.2.2.1 (mL ad ls)) (h : wPop k (pc + 1) ls stk S) (hd : decode Y.2.1 pc = .ok (.pop, 1)) : W p l e R s m args below meth c H locs cells slots Z (F0 m pc jl (stk.map (mv ad))) := by
  unfold wPop at h
  split at h
  · exact lv_pop hx hb hd rfl (hk _ _ _ _ h hi.popd H locs jl hH hl)
  · exact h.elim
theorem s_iinc (hx : p.tables.exec = Jvm.exec) (hb : c.code = Y.2.1) (hk : aKt l Y p e R s m args below meth c cells slots Z D cy ad A k) (hi : aIn ls stk S) (hH : aHp D cy ad A S s.heap H locs) (hl : lv_has jl Y.2.2.1 (mL ad ls)) {i : Nat} {n : Int} (h : wInc Y.2.2.1 i n k (pc + 3) ls stk S) (hd : decode Y.2.1 pc = .ok (.iinc i n, 3)) : W p l e R s m args below meth c H locs cells slots Z (F0 m pc jl (stk.map (mv ad))) := by
  unfold wInc at h
  split at h
  · rename_i a hg
    have hm : (i, mv ad (.inl a)) ∈ mL ad ls := List.mem_map.mpr ⟨_, lget_mem hg, rfl⟩
    obtain ⟨q, hq⟩ := List.getElem?_of_mem hm
    exact lv_iinc (v := Int32.ofInt (wI (a + n))) hx hb hd hl hq (by rw [o_add]) h.1 rfl (fun jl' hh => hk _ _ _ _ h.2 (hi.set (inI_wI _)) H locs jl' hH (has_set1 (v := .inl (wI (a + n))) rfl hh))
  · exact h.elim
theorem s_J (hx : p.tables.exec = Jvm.exec) (hb : c.code = Y.2.1) (hk : aKt l Y p e R s m args below meth c cells slots Z D cy ad A k) (hi : aIn ls stk S) (hH : aHp D cy ad A S s.heap H locs) (hl : lv_has jl Y.2.2.1 (mL ad ls)) {off : Int} (h : wJ k pc off ls stk S) : ∃ t : Nat, (pc : Int) + off = (t : Int) ∧ W p l e R s m args below meth c H locs cells slots Z (F0 m t jl (stk.map (mv ad))) := by
  unfold wJ at h
  split at h
  · rename_i t ht
    exact ⟨t, jt_eq ht, hk _ _ _ _ h hi H locs jl hH hl⟩
  · exact h.elim
theorem s_goto (hx : p.tables.exec = Jvm.exec) (hb : c.code = Y.2.1) (hk : aKt l Y p e R s m args below meth c cells slots Z D cy ad A k) (hi : aIn ls stk S) (hH : aHp D cy ad A S s.heap H locs) (hl : lv_has jl Y.2.2.1 (mL ad ls)) {off : Int} (h : wJ k pc off ls stk S) (hd : decode Y.2.1 pc = .ok (.goto off, 3)) : W p l e R s m args below meth c H locs cells slots Z (F0 m pc jl (stk.map (mv ad))) := by
  obtain ⟨t, ht, hw⟩ := s_J hx hb hk hi hH hl h
  exact lv_goto hx hb hd ht hw
theorem s_if (hx : p.tables.exec = Jvm.exec) (hb : c.code = Y.2.1) (hk : aKt l Y p e R s m args below meth c cells slots Z D cy ad A k) (hi : aIn ls stk S) (hH : aHp D cy ad A S s.heap H locs) (hl : lv_has jl Y.2.2.1 (mL ad ls)) {cd : Jvm.ClassFile.Cond} {off : Int} (h : wIf (cN cd) (jt pc off) k pc ls stk S) (hd : decode Y.2.1 pc = .ok (.ifCond cd off, 3)) : W p l e R s m args below meth c H locs cells slots Z (F0 m pc jl (stk.map (mv ad))) := by
  have hK : ∀ (t : Nat) (r : List aV), aIn ls r S → k t ls r S → W p l e R s m args below meth c H locs cells slots Z (F0 m t jl (r.map (mv ad))) := fun t r hi' hw => hk _ _ _ _ hw hi' H locs jl hH hl
  generalize hj : jt pc off = jo at h
  rcases stk with _ | ⟨a | a | a, r⟩ <;> rcases jo with _ | t <;> cases cd <;> first | exact False.elim h | skip
  · have h : (a = 0 → k t ls r S) ∧ (¬ a = 0 → k (pc + 3) ls r S) := h
    exact lv_if_eq hx hb hd (jt_eq hj) (fun q => hK t r hi.popd (h.1 ((c_eq0 hi.top).mp q))) (fun q => hK (pc + 3) r hi.popd (h.2 (fun z => q ((c_eq0 hi.top).mpr z))))
  · have h : (¬ a = 0 → k t ls r S) ∧ (a = 0 → k (pc + 3) ls r S) := h
    exact lv_if_ne hx hb hd (jt_eq hj) (fun q => hK t r hi.popd (h.1 (fun z => q ((c_eq0 hi.top).mpr z)))) (fun q => hK (pc + 3) r hi.popd (h.2 ((c_eq0 hi.top).mp q)))
  · have h : (a < 0 → k t ls r S) ∧ (¬ a < 0 → k (pc + 3) ls r S) := h
    exact lv_if_lt hx hb hd (jt_eq hj) (fun q => hK t r hi.popd (h.1 ((c_lt0 hi.top).mp q))) (fun q => hK (pc + 3) r hi.popd (h.2 (fun z => q ((c_lt0 hi.top).mpr z))))
  · have h : (0 ≤ a → k t ls r S) ∧ (¬ 0 ≤ a → k (pc + 3) ls r S) := h
    exact lv_if_ge hx hb hd (jt_eq hj) (fun q => hK t r hi.popd (h.1 ((c_ge0 hi.top).mp q))) (fun q => hK (pc + 3) r hi.popd (h.2 (fun z => q ((c_ge0 hi.top).mpr z))))
  · have h : (0 < a → k t ls r S) ∧ (¬ 0 < a → k (pc + 3) ls r S) := h
    exact lv_if_gt hx hb hd (jt_eq hj) (fun q => hK t r hi.popd (h.1 ((c_gt0 hi.top).mp q))) (fun q => hK (pc + 3) r hi.popd (h.2 (fun z => q ((c_gt0 hi.top).mpr z))))
  · have h : (a ≤ 0 → k t ls r S) ∧ (¬ a ≤ 0 → k (pc + 3) ls r S) := h
    exact lv_if_le hx hb hd (jt_eq hj) (fun q => hK t r hi.popd (h.1 ((c_le0 hi.top).mp q))) (fun q => hK (pc + 3) r hi.popd (h.2 (fun z => q ((c_le0 hi.top).mpr z))))
theorem s_ic (hx : p.tables.exec = Jvm.exec) (hb : c.code = Y.2.1) (hk : aKt l Y p e R s m args below meth c cells slots Z D cy ad A k) (hi : aIn ls stk S) (hH : aHp D cy ad A S s.heap H locs) (hl : lv_has jl Y.2.2.1 (mL ad ls)) {cd : Jvm.ClassFile.Cond} {off : Int} (h : wIc (cN cd) (jt pc off) k pc ls stk S) (hd : decode Y.2.1 pc = .ok (.if_icmp cd off, 3)) : W p l e R s m args below meth c H locs cells slots Z (F0 m pc jl (stk.map (mv ad))) := by
  have hK : ∀ (t : Nat) (r : List aV), aIn ls r S → k t ls r S → W p l e R s m args below meth c H locs cells slots Z (F0 m t jl (r.map (mv ad))) := fun t r hi' hw => hk _ _ _ _ hw hi' H locs jl hH hl
  generalize hj : jt pc off = jo at h
  rcases stk with _ | ⟨b | b | b, _ | ⟨a | a | a, r⟩⟩ <;> rcases jo with _ | t <;> cases cd <;> first | exact False.elim h | skip
  · have h : (a = b → k t ls r S) ∧ (¬ a = b → k (pc + 3) ls r S) := h
    exact lv_icmp_eq hx hb hd (jt_eq hj) (fun q => hK t r hi.popd.popd (h.1 ((c_eq hi.popd.top hi.top).mp q))) (fun q => hK (pc + 3) r hi.popd.popd (h.2 (fun z => q ((c_eq hi.popd.top hi.top).mpr z))))
  · have h : (¬ a = b → k t ls r S) ∧ (a = b → k (pc + 3) ls r S) := h
    exact lv_icmp_ne hx hb hd (jt_eq hj) (fun q => hK t r hi.popd.popd (h.1 (fun z => q ((c_eq hi.popd.top hi.top).mpr z)))) (fun q => hK (pc + 3) r hi.popd.popd (h.2 ((c_eq hi.popd.top hi.top).mp q)))
  · have h : (a < b → k t ls r S) ∧ (¬ a < b → k (pc + 3) ls r S) := h
    exact lv_icmp_lt hx hb hd (jt_eq hj) (fun q => hK t r hi.popd.popd (h.1 ((c_lt hi.popd.top hi.top).mp q))) (fun q => hK (pc + 3) r hi.popd.popd (h.2 (fun z => q ((c_lt hi.popd.top hi.top).mpr z))))
  · have h : (b ≤ a → k t ls r S) ∧ (¬ b ≤ a → k (pc + 3) ls r S) := h
    exact lv_icmp_ge hx hb hd (jt_eq hj) (fun q => hK t r hi.popd.popd (h.1 ((c_le hi.top hi.popd.top).mp q))) (fun q => hK (pc + 3) r hi.popd.popd (h.2 (fun z => q ((c_le hi.top hi.popd.top).mpr z))))
  · have h : (b < a → k t ls r S) ∧ (¬ b < a → k (pc + 3) ls r S) := h
    exact lv_icmp_gt hx hb hd (jt_eq hj) (fun q => hK t r hi.popd.popd (h.1 ((c_lt hi.top hi.popd.top).mp q))) (fun q => hK (pc + 3) r hi.popd.popd (h.2 (fun z => q ((c_lt hi.top hi.popd.top).mpr z))))
  · have h : (a ≤ b → k t ls r S) ∧ (¬ a ≤ b → k (pc + 3) ls r S) := h
    exact lv_icmp_le hx hb hd (jt_eq hj) (fun q => hK t r hi.popd.popd (h.1 ((c_le hi.popd.top hi.top).mp q))) (fun q => hK (pc + 3) r hi.popd.popd (h.2 (fun z => q ((c_le hi.popd.top hi.top).mpr z))))
theorem s_J2 (hx : p.tables.exec = Jvm.exec) (hb : c.code = Y.2.1) (hk : aKt l Y p e R s m args below meth c cells slots Z D cy ad A k) (hi : aIn ls stk S) (hH : aHp D cy ad A S s.heap H locs) (hl : lv_has jl Y.2.2.1 (mL ad ls)) {off : Int} {r : List aV} (hr : aIn ls r S) (h : wJ k pc off ls r S) : ∃ t : Nat, (pc : Int) + off = (t : Int) ∧ W p l e R s m args below meth c H locs cells slots Z (F0 m t jl (r.map (mv ad))) := by
  unfold wJ at h
  split at h
  · rename_i t ht
    exact ⟨t, jt_eq ht, hk _ _ _ _ h hr H locs jl hH hl⟩
  · exact h.elim
theorem tsw_spec {a : Int} {r : List aV} : ∀ (os : List Int) (v : Int), tsw k pc a ls r S v os → ∀ (n : Nat) (off : Int), os[n]? = some off → a = v + n → wJ k pc off ls r S
  | [], _, _, _, _, h, _ => by simp at h
  | o :: os, v, h, 0, off, h1, h2 => by
    simp at h1
    subst h1
    exact h.1 (by simpa using h2)
  | o :: os, v, h, n + 1, off, h1, h2 => tsw_spec os (v + 1) h.2 n off (by simpa using h1) (by rw [h2]; push_cast; omega)
theorem s_tsw (hx : p.tables.exec = Jvm.exec) (hb : c.code = Y.2.1) (hk : aKt l Y p e R s m args below meth c cells slots Z D cy ad A k) (hi : aIn ls stk S) (hH : aHp D cy ad A S s.heap H locs) (hl : lv_has jl Y.2.2.1 (mL ad ls)) {d lo hi' : Int} {offs : Array Int} {len : Nat} (h : wTsw d lo hi' offs.toList k pc ls stk S) (hd : decode Y.2.1 pc = .ok (.tableswitch d lo hi' offs, len)) : W p l e R s m args below meth c H locs cells slots Z (F0 m pc jl (stk.map (mv ad))) := by
  rcases stk with _ | ⟨a | a | a, r⟩
  · exact False.elim h
  · have h : (hi' - lo < (offs.toList.length : Int)) ∧ (a < lo ∨ hi' < a → wJ k pc d ls r S) ∧ tsw k pc a ls r S lo offs.toList := h
    have ha : (Int32.ofInt a).toInt = a := ofI_toInt hi.top
    by_cases hc : a < lo ∨ hi' < a
    · obtain ⟨t, ht, hw⟩ := s_J2 hx hb hk hi hH hl hi.popd (h.2.1 hc)
      exact lv_tableOut hx hb hd (by rw [ha]; exact hc) ht hw
    · have hlt : (a - lo).toNat < offs.toList.length := by omega
      have hg : offs.toList[(a - lo).toNat]? = some (offs.toList[(a - lo).toNat]) := List.getElem?_eq_getElem hlt
      obtain ⟨t, ht, hw⟩ := s_J2 hx hb hk hi hH hl hi.popd (tsw_spec _ _ h.2.2 (a - lo).toNat _ hg (by omega))
      exact lv_tableIn hx hb hd (by rw [ha]; omega) (by rw [ha]; omega) (by rw [ha, ← Array.getElem?_toList]; exact hg) ht hw
  · exact False.elim h
  · exact False.elim h
end SOUND2
