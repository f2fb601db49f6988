theorem inI_narB (a : Int) : inI (narB a) := inI_toInt _
theorem inI_narZ (a : Int) : inI (narZ a) := inI_toInt _
theorem toN {j : Int} (h : inI j) (h0 : 0 ≤ j) : (Int32.ofInt j).toNatClampNeg = j.toNat := by
  rw [Int32.toNatClampNeg, ofI_toInt h]
theorem vp_in_j {j : Int} {n : Nat} (h : inI j) (h0 : 0 ≤ j) (h1 : j < n) : vp_in (Int32.ofInt j) n := by
  intro q
  rw [toN h h0, c_lt0 h] at q
  omega
theorem ly_obj {a ci : Nat} (h : lyC a = some ci) : ∃ fs, LY a = .inl (ci, fs) := by
  unfold lyC at h
  split at h
  · rename_i c fs he
    cases h
    exact ⟨fs, he⟩
  · cases h
theorem ly_arr {a : Nat} (h : lyT a ≠ 9) : LY a = .inr (lyT a, lyN a, lyB a) := by
  unfold lyT at h
  unfold lyT lyN lyB
  split at h
  · exact absurd rfl h
  · rename_i he
    rw [he]
theorem mIdx_set {ad : Nat → Nat} {S : aS} {a f : Nat} {v : Int} {fs : List (Option Nat)} (hf : fs[f]? = some none) : fs.mapIdx (aFv ad (upI S a f v) a) = (fs.mapIdx (aFv ad S a)).set f (.int (Int32.ofInt v)) := by
  apply List.ext_getElem?
  intro j
  rw [List.getElem?_set, List.getElem?_mapIdx, List.getElem?_mapIdx, List.length_mapIdx]
  by_cases h : f = j
  · subst h
    have hl : f < fs.length := (List.getElem?_eq_some_iff.mp hf).1
    rw [if_pos rfl, if_pos hl, hf]
    simp [aFv, upI, up2]
  · rw [if_neg h]
    cases fs[j]? with
    | none => rfl
    | some x =>
      show some _ = some _
      rw [aFv_upI (fun q => h q.2.symm)]
section SOUND3
variable {l : Launch} {Y : aM} {p : Program} {e : Env} {R : Room} {s : State} {m : MethodId} {args : Array Value} {below : List Frame} {meth : Method} {c : Code} {cells slots : Nat} {Z : State → Prop} {D : va_G} {cy : Nat → ClassId} {ad : Nat → Nat} {A : Nat → Prop}
variable {k : aK} {pc : Nat} {ls : aL} {stk : List aV} {S : aS} {H : Heap} {locs : List Loc} {jl : Array Slot}
theorem lsw_spec {a d : Int} {r : List aV} : ∀ (ps : List (Int × Int)), lsw k pc a ls r S d ps → wJ k pc (Op.lookupswitch.offset ps d a) ls r S
  | [], h => h
  | (v, o) :: os, h => by
    rw [Op.lookupswitch.offset_cons]
    by_cases hv : v = a
    · rw [if_pos hv]; exact h.1 hv.symm
    · rw [if_neg hv]; exact lsw_spec os (h.2 (fun q => hv q.symm))
theorem s_lsw (hx : p.tables.exec = Jvm.exec) (hb : c.code = Y.2.1) (hk : aKt l Y p e R s m args below meth c cells slots Z D cy ad A k) (hi : aIn ls stk S) (hH : aHp D cy ad A S s.heap H locs) (hl : lv_has jl Y.2.2.1 (mL ad ls)) {d : Int} {ps : Array (Int × Int)} {len : Nat} (h : wLsw d ps k pc ls stk S) (hd : decode Y.2.1 pc = .ok (.lookupswitch d ps, len)) : W p l e R s m args below meth c H locs cells slots Z (F0 m pc jl (stk.map (mv ad))) := by
  rcases stk with _ | ⟨a | a | a, r⟩
  · exact False.elim h
  · have h : (ps.toList.zip (ps.toList.drop 1)).all (fun (a, next) => a.1 < next.1) = true ∧ lsw k pc a ls r S d ps.toList := h
    have ha : (Int32.ofInt a).toInt = a := ofI_toInt hi.top
    obtain ⟨t, ht, hw⟩ := s_J2 hx hb hk hi hH hl hi.popd (lsw_spec _ h.2)
    exact lv_lookup hx hb hd h.1 (by rw [ha]) ht hw
  · exact False.elim h
  · exact False.elim h
theorem s_get (hx : p.tables.exec = Jvm.exec) (hb : c.code = Y.2.1) (hk : aKt l Y p e R s m args below meth c cells slots Z D cy ad A k) (hi : aIn ls stk S) (hH : aHp D cy ad A S s.heap H locs) (hl : lv_has jl Y.2.2.1 (mL ad ls)) (hKK : aKK D cy s) (hown : s.vm.findClass Y.1.cls = some m.cls) (hts : ∀ w ∈ gw, w.before args s = true) {idx : Nat} {fo : Option (Nat × Nat)} (hfo : ∀ ci f, fo = some (ci, f) → fOK Y.1.cls idx ci f) (h : wGet fo k (pc + 3) ls stk S) (hd : decode Y.2.1 pc = .ok (.getfield idx, 3)) : W p l e R s m args below meth c H locs cells slots Z (F0 m pc jl (stk.map (mv ad))) := by
  have hK := hKK.1
  unfold wGet at h
  split at h
  · rename_i ci f a r
    obtain ⟨haN, hC, h⟩ := h
    obtain ⟨C, T, N, hcl, hf, hin, hlink⟩ := hfo ci f rfl
    obtain ⟨fs, hLY⟩ := ly_obj hC
    have hgo : ∀ v : aV, aOk v → k (pc + 3) ls (v :: r) S → (fs.mapIdx (aFv ad S a))[f]? = some (mv ad v) → W p l e R s m args below meth c H locs cells slots Z (F0 m pc jl (.ref (ad a) :: r.map (mv ad))) := by
      intro v hv hkk hfs
      have he : (aW cy ad S)[a]? = some (ad a, .inr (ci, fs.mapIdx (aFv ad S a))) := by rw [aW_get haN, hLY]; rfl
      have hw := hk _ _ _ _ hkk (hi.popd.push hv) H locs jl hH hl
      rcases hlink with hlink | ⟨host, hlink⟩
      · exact va_get hx hb hts hin hown hK hH.1 a he hcl f hf (hts _ hlink) (fun _ h9 => h9) hfs hd hw
      · exact va_getN hx hb hts hin hown hK hH.1 a he hcl f hf (va_Nw.use rfl (hKK.2 _ hlink)) (fun _ h9 => h9) hfs hd hw
    have hFl : lyF a f = fs[f]? := by unfold lyF; rw [hLY]
    split at h
    · rename_i b hb'
      rw [hFl] at hb'
      exact hgo (.inr (.inr b)) trivial h (by rw [List.getElem?_mapIdx, hb']; rfl)
    · rename_i hb'
      rw [hFl] at hb'
      exact hgo (.inl (S.1 a f)) (hi.1.1 a f) h (by rw [List.getElem?_mapIdx, hb']; rfl)
    · exact h.elim
  · exact h.elim
theorem s_put (hx : p.tables.exec = Jvm.exec) (hb : c.code = Y.2.1) (hk : aKt l Y p e R s m args below meth c cells slots Z D cy ad A k) (hi : aIn ls stk S) (hH : aHp D cy ad A S s.heap H locs) (hl : lv_has jl Y.2.2.1 (mL ad ls)) (hKK : aKK D cy s) (hown : s.vm.findClass Y.1.cls = some m.cls) (hts : ∀ w ∈ gw, w.before args s = true) {idx : Nat} {fo : Option (Nat × Nat)} (hfo : ∀ ci f, fo = some (ci, f) → fOK Y.1.cls idx ci f ∧ fPk ci f) (h : wPut fo k (pc + 3) ls stk S) (hd : decode Y.2.1 pc = .ok (.putfield idx, 3)) : W p l e R s m args below meth c H locs cells slots Z (F0 m pc jl (stk.map (mv ad))) := by
  have hK := hKK.1
  unfold wPut at h
  split at h
  · rename_i ci f v a r
    obtain ⟨haN, hC, h⟩ := h
    obtain ⟨⟨C, T, N, hcl, hf, hin, hlink⟩, C', T', N', ty0, hcl', hfin, hpd, hty, hnm⟩ := hfo ci f rfl
    rw [hcl] at hcl'
    cases hcl'
    obtain ⟨fs, hLY⟩ := ly_obj hC
    have hFl : lyF a f = fs[f]? := by unfold lyF; rw [hLY]
    split at h
    · rename_i hb'
      rw [hFl] at hb'
      have he : (aW cy ad S)[a]? = some (ad a, .inr (ci, fs.mapIdx (aFv ad S a))) := by rw [aW_get haN, hLY]; rfl
      have hlen : f < (fs.mapIdx (aFv ad S a)).length := by rw [List.length_mapIdx]; exact (List.getElem?_eq_some_iff.mp hb').1
      have hset : (aW cy ad S).set a (ad a, .inr (ci, (fs.mapIdx (aFv ad S a)).set f (.int (Int32.ofInt v)))) = aW cy ad (upI S a f v) := by
        refine aW_set haN ?_ (fun j hj => aE_upI hj _)
        rw [hLY]
        show Sum.inr (ci, _) = _
        rw [mIdx_set hb']
      have hw : ∀ (H1 : Heap) (locs1 : List Loc), va_P D vwCl ((aW cy ad S).set a (ad a, .inr (ci, (fs.mapIdx (aFv ad S a)).set f (.int (Int32.ofInt v))))) H1 → va_D A ((aW cy ad S).set a (ad a, .inr (ci, (fs.mapIdx (aFv ad S a)).set f (.int (Int32.ofInt v))))) → va_S A s.heap H1 locs1 → W p l e R s m args below meth c H1 locs1 cells slots Z (F0 m (pc + 3) jl (r.map (mv ad))) := by
        intro H1 locs1 g1 g2 g3
        rw [hset] at g1 g2
        have hi' := hi.popd.popd
        exact hk _ _ _ _ h ⟨hi'.1.upI hi.top, hi'.2⟩ H1 locs1 jl ⟨g1, g2, g3⟩ hl
      rcases hlink with hlink | ⟨host, hlink⟩
      · exact va_put hx hb hts hin ty0 hty hnm hown hK hH.1 hH.2.1 hH.2.2 a he hcl f hf (hts _ hlink) (fun _ h9 => h9) hfin hpd rfl rfl hlen hd hw
      · exact va_putN hx hb hts hin ty0 hty hnm hown hK hH.1 hH.2.1 hH.2.2 a he hcl f hf (va_Nw.use rfl (hKK.2 _ hlink)) (fun _ h9 => h9) hfin hpd rfl rfl hlen hd hw
    · exact h.elim
  · exact h.elim
theorem aE_i {a : Nat} (h : lyT a < 3) : aE cy ad S a (LY a) = .inl (cy (lyT a), lyN a, .inl (fun j => Int32.ofInt (S.1 a j))) := by
  rw [ly_arr (by omega)]
  show Sum.inl (_, _, ite _ _ _) = _
  rw [if_neg (by omega), if_pos h]
theorem aE_l {a : Nat} (h : lyT a = 3) : aE cy ad S a (LY a) = .inl (cy 3, lyN a, .inr (.inl (fun j => Int64.ofInt (S.2 a j)))) := by
  rw [ly_arr (by omega)]
  show Sum.inl (_, _, ite _ _ _) = _
  rw [if_pos h, h]
theorem aE_r {a : Nat} (h : lyT a = 4 ∨ lyT a = 5) : aE cy ad S a (LY a) = .inl (cy (lyT a), lyN a, .inr (.inr (.inr (.inr fun j => some (ad (lyB a + j)))))) := by
  rw [ly_arr (by omega)]
  show Sum.inl (_, _, ite _ _ _) = _
  rw [if_neg (by omega), if_neg (by omega)]
theorem s_iald (hx : p.tables.exec = Jvm.exec) (hb : c.code = Y.2.1) (hk : aKt l Y p e R s m args below meth c cells slots Z D cy ad A k) (hi : aIn ls stk S) (hH : aHp D cy ad A S s.heap H locs) (hl : lv_has jl Y.2.2.1 (mL ad ls)) (hKK : aKK D cy s) (hown : s.vm.findClass Y.1.cls = some m.cls) (hts : ∀ w ∈ gw, w.before args s = true) (h : wAld (fun t => t == 0) k (pc + 1) ls stk S) (hd : decode Y.2.1 pc = .ok (.iaload, 1)) : W p l e R s m args below meth c H locs cells slots Z (F0 m pc jl (stk.map (mv ad))) := by
  have hK := hKK.1
  unfold wAld at h
  split at h
  · rename_i j a r
    obtain ⟨haN, ht, h0, h1, h⟩ := h
    have ht : lyT a = 0 := by simpa using ht
    have hw := hk _ _ _ _ h (hi.popd.popd.push (v := .inl _) (hi.1.1 a j.toNat)) H locs jl hH hl
    refine va_iald (cA := cy 0) (n := lyN a) (f := fun j => Int32.ofInt (S.1 a j)) hx hb hK hH.1 a 0 ?_ rfl (vp_in_j hi.top h0 h1) hd ?_
    · rw [aW_get haN, aE_i (by omega), ht]
    · rw [toN hi.top h0]; exact hw
  · exact h.elim
theorem s_bald (hx : p.tables.exec = Jvm.exec) (hb : c.code = Y.2.1) (hk : aKt l Y p e R s m args below meth c cells slots Z D cy ad A k) (hi : aIn ls stk S) (hH : aHp D cy ad A S s.heap H locs) (hl : lv_has jl Y.2.2.1 (mL ad ls)) (hKK : aKK D cy s) (hown : s.vm.findClass Y.1.cls = some m.cls) (hts : ∀ w ∈ gw, w.before args s = true) (h : wAld (fun t => t == 1 || t == 2) k (pc + 1) ls stk S) (hd : decode Y.2.1 pc = .ok (.baload, 1)) : W p l e R s m args below meth c H locs cells slots Z (F0 m pc jl (stk.map (mv ad))) := by
  have hK := hKK.1
  unfold wAld at h
  split at h
  · rename_i j a r
    obtain ⟨haN, ht, h0, h1, h⟩ := h
    have ht : lyT a = 1 ∨ lyT a = 2 := by simpa using ht
    have hw := hk _ _ _ _ h (hi.popd.popd.push (v := .inl _) (hi.1.1 a j.toNat)) H locs jl hH hl
    rcases ht with ht | ht
    · refine va_bald (cA := cy 1) (n := lyN a) (f := fun j => Int32.ofInt (S.1 a j)) hx hb hK hH.1 a 1 ?_ rfl (vp_in_j hi.top h0 h1) hd ?_
      · rw [aW_get haN, aE_i (by omega), ht]
      · rw [toN hi.top h0]; exact hw
    · refine va_zald (cA := cy 2) (n := lyN a) (f := fun j => Int32.ofInt (S.1 a j)) hx hb hK hH.1 a 2 ?_ rfl (vp_in_j hi.top h0 h1) hd ?_
      · rw [aW_get haN, aE_i (by omega), ht]
      · rw [toN hi.top h0]; exact hw
  · exact h.elim
theorem s_lald (hx : p.tables.exec = Jvm.exec) (hb : c.code = Y.2.1) (hk : aKt l Y p e R s m args below meth c cells slots Z D cy ad A k) (hi : aIn ls stk S) (hH : aHp D cy ad A S s.heap H locs) (hl : lv_has jl Y.2.2.1 (mL ad ls)) (hKK : aKK D cy s) (hown : s.vm.findClass Y.1.cls = some m.cls) (hts : ∀ w ∈ gw, w.before args s = true) (h : wAll k (pc + 1) ls stk S) (hd : decode Y.2.1 pc = .ok (.laload, 1)) : W p l e R s m args below meth c H locs cells slots Z (F0 m pc jl (stk.map (mv ad))) := by
  have hK := hKK.1
  unfold wAll at h
  split at h
  · rename_i j a r
    obtain ⟨haN, ht, h0, h1, h⟩ := h
    have hw := hk _ _ _ _ h (hi.popd.popd.push (v := .inr (.inl _)) (hi.1.2 a j.toNat)) H locs jl hH hl
    refine va_lald (cA := cy 3) (n := lyN a) (f := fun j => Int64.ofInt (S.2 a j)) hx hb hK hH.1 a 3 ?_ rfl (vp_in_j hi.top h0 h1) hd ?_
    · rw [aW_get haN, aE_l ht]
    · rw [toN hi.top h0]; exact hw
  · exact h.elim
theorem s_aald (hx : p.tables.exec = Jvm.exec) (hb : c.code = Y.2.1) (hk : aKt l Y p e R s m args below meth c cells slots Z D cy ad A k) (hi : aIn ls stk S) (hH : aHp D cy ad A S s.heap H locs) (hl : lv_has jl Y.2.2.1 (mL ad ls)) (hKK : aKK D cy s) (hown : s.vm.findClass Y.1.cls = some m.cls) (hts : ∀ w ∈ gw, w.before args s = true) (h : wAlr k (pc + 1) ls stk S) (hd : decode Y.2.1 pc = .ok (.aaload, 1)) : W p l e R s m args below meth c H locs cells slots Z (F0 m pc jl (stk.map (mv ad))) := by
  have hK := hKK.1
  unfold wAlr at h
  split at h
  · rename_i j a r
    obtain ⟨haN, ht, h0, h1, h⟩ := h
    have hw := hk _ _ _ _ h (hi.popd.popd.push (v := .inr (.inr _)) trivial) H locs jl hH hl
    have he : (aW cy ad S)[a]? = some (ad a, .inl (cy (lyT a), lyN a, .inr (.inr (.inr (.inr fun j => some (ad (lyB a + j))))))) := by rw [aW_get haN, aE_r ht]
    have hin := vp_in_j hi.top h0 h1
    have hlt : (Int32.ofInt j).toNatClampNeg < lyN a := Nat.not_le.mp fun q => hin (Or.inr q)
    rcases ht with ht | ht
    · rw [ht] at he
      exact W.aald (v := va_rf (some (ad (lyB a + (Int32.ofInt j).toNatClampNeg)))) (ty := .array .int) hx hb (hH.1 a _ he) ((hK.2 4 (cy 4, .array .int) rfl).1 (lyN a) (fun j => va_rf (some (ad (lyB a + j))))) rfl (fun q => by cases q) (by show ¬ (Int32.ofInt j < 0 ∨ (arrV _ _ _).slots.size ≤ _); rw [arrV_size]; exact hin) (by show (arrV _ _ _).slots[_]? = _; rw [arrV_read _ _ hlt]) rfl rfl hd (by rw [toN hi.top h0]; exact hw)
    · rw [ht] at he
      exact W.aald (v := va_rf (some (ad (lyB a + (Int32.ofInt j).toNatClampNeg)))) (ty := .array .long) hx hb (hH.1 a _ he) ((hK.2 5 (cy 5, .array .long) rfl).1 (lyN a) (fun j => va_rf (some (ad (lyB a + j))))) rfl (fun q => by cases q) (by show ¬ (Int32.ofInt j < 0 ∨ (arrV _ _ _).slots.size ≤ _); rw [arrV_size]; exact hin) (by show (arrV _ _ _).slots[_]? = _; rw [arrV_read _ _ hlt]) rfl rfl hd (by rw [toN hi.top h0]; exact hw)
  · exact h.elim
theorem s_alen (hx : p.tables.exec = Jvm.exec) (hb : c.code = Y.2.1) (hk : aKt l Y p e R s m args below meth c cells slots Z D cy ad A k) (hi : aIn ls stk S) (hH : aHp D cy ad A S s.heap H locs) (hl : lv_has jl Y.2.2.1 (mL ad ls)) (hKK : aKK D cy s) (hown : s.vm.findClass Y.1.cls = some m.cls) (hts : ∀ w ∈ gw, w.before args s = true) (h : wAln k (pc + 1) ls stk S) (hd : decode Y.2.1 pc = .ok (.arraylength, 1)) : W p l e R s m args below meth c H locs cells slots Z (F0 m pc jl (stk.map (mv ad))) := by
  have hK := hKK.1
  unfold wAln at h
  split at h
  · rename_i a r
    obtain ⟨haN, ht, hN, h⟩ := h
    have hw := hk _ _ _ _ h (hi.popd.push (v := .inl _) (show inI (lyN a : Int) by unfold inI; omega)) H locs jl hH hl
    have he : ∃ x : vp_A, x.1 = lyN a ∧ (aW cy ad S)[a]? = some (ad a, .inl (cy (lyT a), x)) := by
      rw [aW_get haN, ly_arr (by omega)]
      exact ⟨_, rfl, rfl⟩
    obtain ⟨x, hx1, he⟩ := he
    have htt : ∃ ty, (aTys cy)[lyT a]? = some (cy (lyT a), ty) := by
      have h6 : lyT a = 0 ∨ lyT a = 1 ∨ lyT a = 2 ∨ lyT a = 3 ∨ lyT a = 4 ∨ lyT a = 5 := by omega
      rcases h6 with h6 | h6 | h6 | h6 | h6 | h6 <;> rw [h6] <;> exact ⟨_, rfl⟩
    obtain ⟨ty, htt⟩ := htt
    exact va_alen (v := Int32.ofInt (lyN a : Int)) hx hb hK hH.1 a (lyT a) he htt (by rw [hx1]; exact (Int32.ofInt_eq_ofNat).symm) hd hw
  · exact h.elim
theorem s_iast (hx : p.tables.exec = Jvm.exec) (hb : c.code = Y.2.1) (hk : aKt l Y p e R s m args below meth c cells slots Z D cy ad A k) (hi : aIn ls stk S) (hH : aHp D cy ad A S s.heap H locs) (hl : lv_has jl Y.2.2.1 (mL ad ls)) (hKK : aKK D cy s) (hown : s.vm.findClass Y.1.cls = some m.cls) (hts : ∀ w ∈ gw, w.before args s = true) (h : wAst k (pc + 1) ls stk S) (hd : decode Y.2.1 pc = .ok (.iastore, 1)) : W p l e R s m args below meth c H locs cells slots Z (F0 m pc jl (stk.map (mv ad))) := by
  have hK := hKK.1
  unfold wAst at h
  split at h
  · rename_i v j a r
    obtain ⟨haN, ht, h0, h1, h⟩ := h
    have he : (aW cy ad S)[a]? = some (ad a, .inl (cy 0, lyN a, .inl (fun j => Int32.ofInt (S.1 a j)))) := by rw [aW_get haN, aE_i (by omega), ht]
    have hset : (aW cy ad S).set a (ad a, .inl (cy 0, lyN a, .inl (upd (fun j => Int32.ofInt (S.1 a j)) (Int32.ofInt j).toNatClampNeg (Int32.ofInt v)))) = aW cy ad (upI S a j.toNat v) := by
      refine aW_set haN ?_ (fun j hj => aE_upI hj _)
      rw [aE_i (by omega), ht, toN hi.popd.top h0]
      congr 3
      congr 1
      funext q
      simp only [upI, up2, upd, true_and]
      split <;> rfl
    refine va_iast hx hb hK hH.1 hH.2.1 hH.2.2 a 0 he rfl (vp_in_j hi.popd.top h0 h1) hd (fun H1 locs1 g1 g2 g3 => ?_)
    rw [hset] at g1 g2
    have hi' := hi.popd.popd.popd
    exact hk _ _ _ _ h ⟨hi'.1.upI hi.top, hi'.2⟩ H1 locs1 jl ⟨g1, g2, g3⟩ hl
  · exact h.elim
theorem s_bast (hx : p.tables.exec = Jvm.exec) (hb : c.code = Y.2.1) (hk : aKt l Y p e R s m args below meth c cells slots Z D cy ad A k) (hi : aIn ls stk S) (hH : aHp D cy ad A S s.heap H locs) (hl : lv_has jl Y.2.2.1 (mL ad ls)) (hKK : aKK D cy s) (hown : s.vm.findClass Y.1.cls = some m.cls) (hts : ∀ w ∈ gw, w.before args s = true) (h : wBst k (pc + 1) ls stk S) (hd : decode Y.2.1 pc = .ok (.bastore, 1)) : W p l e R s m args below meth c H locs cells slots Z (F0 m pc jl (stk.map (mv ad))) := by
  have hK := hKK.1
  unfold wBst at h
  split at h
  · rename_i v j a r
    obtain ⟨haN, h0, h1, ⟨ht, h⟩ | ⟨ht, h⟩⟩ := h
    · have he : (aW cy ad S)[a]? = some (ad a, .inl (cy 1, lyN a, .inl (fun j => Int32.ofInt (S.1 a j)))) := by rw [aW_get haN, aE_i (by omega), ht]
      have hset : (aW cy ad S).set a (ad a, .inl (cy 1, lyN a, .inl (upd (fun j => Int32.ofInt (S.1 a j)) (Int32.ofInt j).toNatClampNeg (vp_nar .byte (Int32.ofInt v))))) = aW cy ad (upI S a j.toNat (narB v)) := by
        refine aW_set haN ?_ (fun j hj => aE_upI hj _)
        rw [aE_i (by omega), ht, toN hi.popd.top h0]
        congr 3
        congr 1
        funext q
        simp only [upI, up2, upd, true_and]
        split
        · unfold narB; rw [of_toI]
        · rfl
      refine va_bast hx hb hK hH.1 hH.2.1 hH.2.2 a 1 he rfl (vp_in_j hi.popd.top h0 h1) hd (fun H1 locs1 g1 g2 g3 => ?_)
      rw [hset] at g1 g2
      have hi' := hi.popd.popd.popd
      exact hk _ _ _ _ h ⟨hi'.1.upI (inI_narB v), hi'.2⟩ H1 locs1 jl ⟨g1, g2, g3⟩ hl
    · have he : (aW cy ad S)[a]? = some (ad a, .inl (cy 2, lyN a, .inl (fun j => Int32.ofInt (S.1 a j)))) := by rw [aW_get haN, aE_i (by omega), ht]
      have hset : (aW cy ad S).set a (ad a, .inl (cy 2, lyN a, .inl (upd (fun j => Int32.ofInt (S.1 a j)) (Int32.ofInt j).toNatClampNeg (vp_nar .boolean (Int32.ofInt v))))) = aW cy ad (upI S a j.toNat (narZ v)) := by
        refine aW_set haN ?_ (fun j hj => aE_upI hj _)
        rw [aE_i (by omega), ht, toN hi.popd.top h0]
        congr 3
        congr 1
        funext q
        simp only [upI, up2, upd, true_and]
        split
        · unfold narZ; rw [of_toI]
        · rfl
      refine va_zast hx hb hK hH.1 hH.2.1 hH.2.2 a 2 he rfl (vp_in_j hi.popd.top h0 h1) hd (fun H1 locs1 g1 g2 g3 => ?_)
      rw [hset] at g1 g2
      have hi' := hi.popd.popd.popd
      exact hk _ _ _ _ h ⟨hi'.1.upI (inI_narZ v), hi'.2⟩ H1 locs1 jl ⟨g1, g2, g3⟩ hl
  · exact h.elim
theorem s_last (hx : p.tables.exec = Jvm.exec) (hb : c.code = Y.2.1) (hk : aKt l Y p e R s m args below meth c cells slots Z D cy ad A k) (hi : aIn ls stk S) (hH : aHp D cy ad A S s.heap H locs) (hl : lv_has jl Y.2.2.1 (mL ad ls)) (hKK : aKK D cy s) (hown : s.vm.findClass Y.1.cls = some m.cls) (hts : ∀ w ∈ gw, w.before args s = true) (h : wLst k (pc + 1) ls stk S) (hd : decode Y.2.1 pc = .ok (.lastore, 1)) : W p l e R s m args below meth c H locs cells slots Z (F0 m pc jl (stk.map (mv ad))) := by
  have hK := hKK.1
  unfold wLst at h
  split at h
  · rename_i v j a r
    obtain ⟨haN, ht, h0, h1, h⟩ := h
    have he : (aW cy ad S)[a]? = some (ad a, .inl (cy 3, lyN a, .inr (.inl (fun j => Int64.ofInt (S.2 a j))))) := by rw [aW_get haN, aE_l ht]
    have hset : (aW cy ad S).set a (ad a, .inl (cy 3, lyN a, .inr (.inl (vp_updL (fun j => Int64.ofInt (S.2 a j)) (Int32.ofInt j).toNatClampNeg (Int64.ofInt v))))) = aW cy ad (upL S a j.toNat v) := by
      refine aW_set haN ?_ (fun j hj => aE_upL hj _)
      rw [aE_l ht, toN hi.popd.top h0]
      congr 4
      congr 1
      funext q
      simp only [upL, up2, vp_updL, true_and]
      split <;> rfl
    refine va_last hx hb hK hH.1 hH.2.1 hH.2.2 a 3 he rfl (vp_in_j hi.popd.top h0 h1) hd (fun H1 locs1 g1 g2 g3 => ?_)
    rw [hset] at g1 g2
    have hi' := hi.popd.popd.popd
    exact hk _ _ _ _ h ⟨hi'.1.upL hi.top, hi'.2⟩ H1 locs1 jl ⟨g1, g2, g3⟩ hl
  · exact h.elim
end SOUND3
