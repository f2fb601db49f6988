section SOUND5
variable {l : Launch} {Y : aM} {p : Program} {e : Env} {R : Room} {s : State} {m : MethodId} {args : Array Value} {below : List Frame} {meth : Method} {c : Code} {cells slots : Nat} {Z : State → Prop} {D : va_G} {cy : Nat → ClassId} {ad : Nat → Nat} {A : Nat → Prop}
variable {k : aK} {pc : Nat} {ls : aL} {stk : List aV} {S : aS} {H : Heap} {locs : List Loc} {jl : Array Slot}
set_option maxHeartbeats 4000000 in
theorem ws1_ok (hx : p.tables.exec = Jvm.exec) (hb : c.code = Y.2.1) (hk : aKt l Y p e R s m args below meth c cells slots Z D cy ad A k) (hi : aIn ls stk S) (hH : aHp D cy ad A S s.heap H locs) (hl : lv_has jl Y.2.2.1 (mL ad ls)) (hK : aKK D cy s) (hown : s.vm.findClass Y.1.cls = some m.cls) (hts : ∀ w ∈ gw, w.before args s = true) {Q : Option aV → aS → Prop} {tb : aTb} (htb : tOK l Y tb) (hE : aEnd Y Q p l e R s m args below meth c cells slots Z D cy ad A) (hA : ∀ q, s.heap.size ≤ q → A q) (hml : c.maxLocals = Y.2.2.1) (hR : Y.2.2.2.2.1 ≤ R.frames ∧ Y.2.2.2.2.2 ≤ R.locals ∧ cells ≤ R.cells ∧ slots ≤ R.slots) {i : Instr} {len : Nat} (h : ws1 tb Y.2.2.1 Y.2.2.2.1 Q k i len pc ls stk S) (hd : decode Y.2.1 pc = .ok (i, len)) : W p l e R s m args below meth c H locs cells slots Z (F0 m pc jl (stk.map (mv ad))) := by
  unfold ws1 at h
  split at h
  · exact s_aload_n hx hb hk hi hH hl h hd
  · exact s_aload hx hb hk hi hH hl h hd
  · exact s_iload_n hx hb hk hi hH hl h hd
  · exact s_iload hx hb hk hi hH hl h hd
  · exact s_lload_n hx hb hk hi hH hl h hd
  · exact s_lload hx hb hk hi hH hl h hd
  · exact s_istore_n hx hb hk hi hH hl h hd
  · exact s_istore hx hb hk hi hH hl h hd
  · exact s_lstore_n hx hb hk hi hH hl h hd
  · exact s_lstore hx hb hk hi hH hl h hd
  · exact s_astore_n hx hb hk hi hH hl h hd
  · exact s_astore hx hb hk hi hH hl h hd
  · exact s_push hx hb hk hi hH hl (.inl (wI _)) (inI_wI _) h (fun hw => lv_iconst hx hb hd (of_wI _).symm hw)
  · exact s_push hx hb hk hi hH hl (.inl _) (inI_toInt _) h (fun hw => lv_bipush hx hb hd (of_toI _).symm hw)
  · exact s_push hx hb hk hi hH hl (.inl _) (inI_toInt _) h (fun hw => lv_sipush hx hb hd (of_toI _).symm hw)
  · exact s_push hx hb hk hi hH hl (.inr (.inl _)) (inL_toInt _) h (fun hw => lv_lconst hx hb hd (of_toL _).symm hw)
  · split at h
    · rename_i x hx'
      obtain ⟨v, rfl, hc⟩ := htb.2.2.2 _ _ hx'
      exact s_push hx hb hk hi hH hl (.inr (.inl v.toInt)) (inL_toInt _) h (fun hw => lv_ldc2 hx hb hown (hts _ hc) hd (by rw [← of_toL v]; exact hw))
    · exact h.elim
  · exact s_i2 hx hb hk hi hH hl h (fun a b => inI_wI _) (fun a b r _ _ hw => lv_iadd hx hb hd (by rw [o_add]; exact hw))
  · exact s_i2 hx hb hk hi hH hl h (fun a b => inI_wI _) (fun a b r _ _ hw => lv_isub hx hb hd (by rw [o_sub]; exact hw))
  · exact s_i2 hx hb hk hi hH hl h (fun a b => inI_wI _) (fun a b r _ _ hw => lv_imul hx hb hd (by rw [o_mul]; exact hw))
  · exact s_d2 hx hb hk hi hH hl h (fun a b => inI_wI _) (fun a b r h1 h2 h3 hw => lv_idiv hx hb hd (fun q => h3 ((c_eq0 h2).mp q)) (by rw [o_div h1 h2]; exact hw))
  · exact s_d2 hx hb hk hi hH hl h (fun a b => inI_wI _) (fun a b r h1 h2 h3 hw => lv_irem hx hb hd (fun q => h3 ((c_eq0 h2).mp q)) (by rw [o_rem h1 h2]; exact hw))
  · refine s_i2 hx hb hk hi hH hl h (fun a b => inI_toInt _) (fun a b r _ _ hw => ?_)
    have e : Int32.ofInt (bAnd a b) = Int32.ofInt a &&& Int32.ofInt b := of_toI _
    rw [e] at hw
    exact lv_iand hx hb hd hw
  · refine s_i2 hx hb hk hi hH hl h (fun a b => inI_toInt _) (fun a b r _ _ hw => ?_)
    have e : Int32.ofInt (bOr a b) = Int32.ofInt a ||| Int32.ofInt b := of_toI _
    rw [e] at hw
    exact lv_ior hx hb hd hw
  · refine s_i2 hx hb hk hi hH hl h (fun a b => inI_toInt _) (fun a b r _ _ hw => ?_)
    have e : Int32.ofInt (bXor a b) = Int32.ofInt a ^^^ Int32.ofInt b := of_toI _
    rw [e] at hw
    exact lv_ixor hx hb hd hw
  · refine s_i2 hx hb hk hi hH hl h (fun a b => inI_toInt _) (fun a b r _ _ hw => ?_)
    have e : Int32.ofInt (bShl a b) = Int32.ofInt a <<< (Int32.ofInt b &&& 31) := of_toI _
    rw [e] at hw
    exact lv_ishl hx hb hd hw
  · refine s_i2 hx hb hk hi hH hl h (fun a b => inI_toInt _) (fun a b r _ _ hw => ?_)
    have e : Int32.ofInt (bShr a b) = Int32.ofInt a >>> (Int32.ofInt b &&& 31) := of_toI _
    rw [e] at hw
    exact lv_ishr hx hb hd hw
  · exact s_i2 hx hb hk hi hH hl h (fun a b => inI_toInt _) (fun a b r _ _ hw => lv_iushr hx hb hd (of_toI _).symm hw)
  · exact s_l2 hx hb hk hi hH hl h (fun a b => inL_wL _) (fun a b r _ _ hw => lv_lsub hx hb hd (by rw [o_lsub]; exact hw))
  · refine s_l2 hx hb hk hi hH hl h (fun a b => inL_toInt _) (fun a b r _ _ hw => ?_)
    have e : Int64.ofInt (lAnd a b) = Int64.ofInt a &&& Int64.ofInt b := of_toL _
    rw [e] at hw
    exact lv_land hx hb hd hw
  · refine s_l2 hx hb hk hi hH hl h (fun a b => inL_toInt _) (fun a b r _ _ hw => ?_)
    have e : Int64.ofInt (lOr a b) = Int64.ofInt a ||| Int64.ofInt b := of_toL _
    rw [e] at hw
    exact lv_lor hx hb hd hw
  · exact s_li2 hx hb hk hi hH hl h (fun a b => inL_toInt _) (fun a b r _ _ hw => lv_lshl hx hb hd (of_toL _).symm hw)
  · exact s_li2 hx hb hk hi hH hl h (fun a b => inL_toInt _) (fun a b r _ _ hw => lv_lushr hx hb hd (of_toL _).symm hw)
  · exact s_lcmp hx hb hk hi hH hl h hd
  · exact s_i2l hx hb hk hi hH hl h hd
  · exact s_l2i hx hb hk hi hH hl h hd
  · exact s_i2b hx hb hk hi hH hl h hd
  · exact s_dup hx hb hk hi hH hl h hd
  · exact s_dup2 hx hb hk hi hH hl h hd
  · exact s_pop hx hb hk hi hH hl h hd
  · exact s_iinc hx hb hk hi hH hl h hd
  · exact s_if hx hb hk hi hH hl h hd
  · exact s_ic hx hb hk hi hH hl h hd
  · exact s_goto hx hb hk hi hH hl h hd
  · exact s_tsw hx hb hk hi hH hl h hd
  · exact s_lsw hx hb hk hi hH hl h hd
  · exact s_get hx hb hk hi hH hl hK hown hts (fun ci f e => htb.1 _ ci f e) h hd
  · exact s_put hx hb hk hi hH hl hK hown hts (fun ci f e => htb.2.1 _ ci f e) h hd
  · exact s_iald hx hb hk hi hH hl hK hown hts h hd
  · exact s_bald hx hb hk hi hH hl hK hown hts h hd
  · exact s_lald hx hb hk hi hH hl hK hown hts h hd
  · exact s_aald hx hb hk hi hH hl hK hown hts h hd
  · exact s_alen hx hb hk hi hH hl hK hown hts h hd
  · exact s_iast hx hb hk hi hH hl hK hown hts h hd
  · exact s_bast hx hb hk hi hH hl hK hown hts h hd
  · exact s_last hx hb hk hi hH hl hK hown hts h hd
  · exact s_callB hx hb hk hi hH hl hK hown hts hA hml hR (fun cr n sp e => htb.2.2.1 _ cr n sp e) (vt := true) h hd
  · exact s_callB hx hb hk hi hH hl hK hown hts hA hml hR (fun cr n sp e => htb.2.2.1 _ cr n sp e) (vt := false) h hd
  · unfold wRi at h
    split at h
    · rename_i a he
      exact s_ret hE hi hH (some (.inl a)) rfl h (by rw [he]; trivial) hd
    · rename_i a he
      exact s_ret hE hi hH (some (.inl a)) rfl h.2 (by rw [he]; exact h.1) hd
    · exact h.elim
  · unfold wRl at h
    split at h
    · rename_i a he
      exact s_ret hE hi hH (some (.inr (.inl a))) rfl h (by rw [he]; trivial) hd
    · exact h.elim
  · unfold wRv at h
    split at h
    · rename_i he
      exact s_ret hE hi hH none rfl h (by rw [he]; trivial) hd
    · exact h.elim
  · exact h.elim
end SOUND5
/-- THE STEPS ARE SOUND: what the way says, the machine does -/
theorem wp_ok {l : Launch} {Y : aM} {tb : aTb} (htb : tOK l Y tb) (Q : Option aV → aS → Prop) (cut : Nat → Bool) : ∀ (n pc : Nat) (ls : aL) (stk : List aV) (S : aS), wp Y.2.1 tb Y.2.2.1 Y.2.2.2.1 Q cut (aGo l Y Q) n pc ls stk S → aGo l Y Q pc ls stk S := by
  intro n pc ls stk S h hi p e R s m args below meth c cells slots Z D cy ad A hC hK hA hE
  have key : ∀ n : Nat, aKt l Y p e R s m args below meth c cells slots Z D cy ad A (wp Y.2.1 tb Y.2.2.1 Y.2.2.2.1 Q cut (aGo l Y Q) n) := by
    intro n
    induction n with
    | zero =>
      intro pc ls stk S h hi H locs jl hH hl
      exact h hi p e R s m args below meth c cells slots Z D cy ad A hC hK hA hE H locs jl hH hl
    | succ n ih =>
      intro pc ls stk S h hi H locs jl hH hl
      unfold wp at h
      cases hc : cut pc with
      | true =>
        rw [hc] at h
        exact h hi p e R s m args below meth c cells slots Z D cy ad A hC hK hA hE H locs jl hH hl
      | false =>
        rw [hc] at h
        dsimp only [cond_false] at h
        obtain ⟨c1, c2, c3, c4, c5, c6⟩ := hC
        split at h
        · rename_i i len hd
          exact ws1_ok c1 c2 ih hi hH hl hK c4 c5 htb hE hA c3 c6 h hd
        · exact h.elim
  intro H locs jl hH hl
  exact key n pc ls stk S h hi H locs jl hH hl
/-- one step from a place that may be a cut, then the way -/
theorem wp_go {l : Launch} {Y : aM} {tb : aTb} (htb : tOK l Y tb) {Q : Option aV → aS → Prop} (cut : Nat → Bool) (n : Nat) {pc : Nat} {ls : aL} {stk : List aV} {S : aS} {i : Instr} {len : Nat} (hd : decode Y.2.1 pc = .ok (i, len)) (h : ws1 tb Y.2.2.1 Y.2.2.2.1 Q (wp Y.2.1 tb Y.2.2.1 Y.2.2.2.1 Q cut (aGo l Y Q) n) i len pc ls stk S) : aGo l Y Q pc ls stk S := by
  intro hi p e R s m args below meth c cells slots Z D cy ad A hC hK hA hE H locs jl hH hl
  have hC' := hC
  obtain ⟨c1, c2, c3, c4, c5, c6⟩ := hC'
  exact ws1_ok c1 c2 (fun pc ls stk S h hi => wp_ok htb Q cut n pc ls stk S h hi p e R s m args below meth c cells slots Z D cy ad A hC hK hA hE) hi hH hl hK c4 c5 htb hE hA c3 c6 h hd
theorem aGo_sub {l : Launch} {Y : aM} {Q : Option aV → aS → Prop} {pc : Nat} {ls ls' : aL} {stk : List aV} {S : aS} (h : aGo l Y Q pc ls' stk S) (hs : ∀ q ∈ ls', q ∈ ls) : aGo l Y Q pc ls stk S := by
  intro hi p e R s m args below meth c cells slots Z D cy ad A hC hK hA hE H locs jl hH hl
  refine h ⟨hi.1, fun q hq => hi.2.1 q (hs q hq), hi.2.2⟩ p e R s m args below meth c cells slots Z D cy ad A hC hK hA hE H locs jl hH (has_sub hl fun q hq => ?_)
  obtain ⟨q', h1, rfl⟩ := List.mem_map.mp hq
  exact List.mem_map.mpr ⟨q', hs _ h1, rfl⟩
/-- the ranges may be used -/
theorem aGo_in {l : Launch} {Y : aM} {Q : Option aV → aS → Prop} {pc : Nat} {ls : aL} {stk : List aV} {S : aS} (h : aIn ls stk S → aGo l Y Q pc ls stk S) : aGo l Y Q pc ls stk S := fun hi => h hi hi
/-- a method's entry -/
def aAr : Nat → List aV → aL
  | _, [] => []
  | n, .inl a :: r => (n, .inl a) :: aAr (n + 1) r
  | n, .inr (.inl a) :: r => (n, .inr (.inl a)) :: aAr (n + 2) r
  | n, .inr (.inr a) :: r => (n, .inr (.inr a)) :: aAr (n + 1) r
def aLn : List aV → Nat
  | [] => 0
  | .inl _ :: r => aLn r + 1
  | .inr (.inl _) :: r => aLn r + 2
  | .inr (.inr _) :: r => aLn r + 1
