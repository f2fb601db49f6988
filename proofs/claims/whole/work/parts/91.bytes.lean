/-! BYTES of both sides -/
theorem narB_v {x : Int} : narB x = (wI x).bmod 256 := by
  have e : narB x = ((Int32.ofInt x).toInt8.toInt32).toInt := rfl
  rw [e, Int8.toInt_toInt32, Int32.toInt_toInt8]
  rfl
theorem wI_inI {x : Int} : inI (wI x) := inI_toInt _
theorem narB_r {x : Int} : -128 ≤ narB x ∧ narB x ≤ 127 := by
  rw [narB_v, Int.bmod_def]
  split <;> omega
theorem narB_m {x : Int} (h : inI x) : narB x % 256 = x % 256 := by
  unfold inI at h
  rw [narB_v, wI_id h.1 h.2, Int.bmod_def]
  split <;> omega
theorem narB_id {x : Int} (h : -128 ≤ x ∧ x ≤ 127) : narB x = x := by
  rw [narB_v, wI_id (by omega) (by omega), Int.bmod_def]
  split <;> omega
theorem i32_nat {a : Int} : (Int32.ofInt a).toBitVec.toNat = (a % 4294967296).toNat := by
  show (BitVec.ofInt 32 a).toNat = _
  rw [BitVec.toNat_ofInt]
  rfl
theorem bAnd_255 {a : Int} : bAnd a 255 = a % 256 := by
  unfold bAnd
  rw [← Int32.toInt_toBitVec, Int32.toBitVec_and]
  have e : ((Int32.ofInt a).toBitVec &&& (Int32.ofInt 255).toBitVec).toNat = (a % 4294967296).toNat % 256 := by
    rw [BitVec.toNat_and, i32_nat, show (Int32.ofInt 255).toBitVec.toNat = 2 ^ 8 - 1 from by decide, Nat.and_two_pow_sub_one_eq_mod]
  rw [BitVec.toInt_eq_toNat_cond, e]
  split <;> omega
theorem bUshr_m {v : Int} {s : Int} {n : Nat} (hs : ((Int32.ofInt s).toUInt32 &&& Int32.toUInt32 31).toNat = n) (hn : n < 32) : bUshr v s % 256 = ((v % 4294967296).toNat / 2 ^ n : Nat) % 256 := by
  unfold bUshr
  have e : ((Int32.ofInt v).toUInt32 >>> ((Int32.ofInt s).toUInt32 &&& Int32.toUInt32 31)).toNat = (v % 4294967296).toNat / 2 ^ n := by
    rw [UInt32.toNat_shiftRight, hs, Nat.mod_eq_of_lt hn, Nat.shiftRight_eq_div_pow]
    congr 1
  have e2 : ∀ X : UInt32, X.toInt32.toInt % 256 = ((X.toNat : Nat) : Int) % 256 := fun X => by
    have h1 : X.toInt32.toInt = X.toInt32.toBitVec.toInt := (Int32.toInt_toBitVec _).symm
    have h2 : X.toInt32.toBitVec.toNat = X.toNat := rfl
    rw [h1, BitVec.toInt_eq_toNat_cond, h2]
    split <;> omega
  rw [e2, e]
theorem bShr_v {v : Int} {s : Int} {n : Nat} (h : inI v) (hs : (((Int32.ofInt s) &&& 31).toBitVec.smod 32).toNat = n) : bShr v s = v / 2 ^ n := by
  unfold bShr
  rw [← Int32.toInt_toBitVec, Int32.toBitVec_shiftRight]
  rw [BitVec.sshiftRight_eq', BitVec.toInt_sshiftRight, hs, Int32.toInt_toBitVec, ofI_toInt h, Int.shiftRight_eq_div_pow]
  rfl
theorem byte_eq {v s : Int} (h : inI v) (hs : s = 0 ∨ s = 8 ∨ s = 16 ∨ s = 24) : tpE (bAnd (bUshr v s) 255) (narB (narB (bShr v s))) := by
  have hb : inI (bShr v s) := inI_toInt _
  have h' := h
  unfold inI at h'
  refine ⟨narB_r, ?_⟩
  rw [bAnd_255, narB_m (by have := narB_r (x := bShr v s); unfold inI; omega), narB_m hb]
  rcases hs with rfl | rfl | rfl | rfl
  · rw [bUshr_m (n := 0) (by decide) (by decide), bShr_v (n := 0) h (by decide)]
    omega
  · rw [bUshr_m (n := 8) (by decide) (by decide), bShr_v (n := 8) h (by decide)]
    omega
  · rw [bUshr_m (n := 16) (by decide) (by decide), bShr_v (n := 16) h (by decide)]
    omega
  · rw [bUshr_m (n := 24) (by decide) (by decide), bShr_v (n := 24) h (by decide)]
    omega
/-! EQUAL ANSWERS: feed -/
theorem ad4_o {S : aS} {v : Int} {a b : Nat} (h : ¬ a = 2) (h2 : ¬ (a = 1 ∧ b = 1)) : (ad4 S v).1 a b = S.1 a b := by
  unfold ad4
  simp only [upI, up2, stA]
  rw [if_neg h2, if_neg h]
theorem ad4_b {S : aS} {v : Int} {j : Nat} : (ad4 S v).1 2 j = if S.1 1 1 ≤ (j : Int) ∧ (j : Int) < S.1 1 1 + 4 then bAnd (bUshr v (8 * 4 - 8 - 8 * ((j : Int) - S.1 1 1))) 255 else S.1 2 j := by
  unfold ad4
  rw [up_obj (by decide)]
  rfl
theorem ty4_o {S : aS} {v : Int} {a b : Nat} (h : ¬ a = 246) (h2 : ¬ (a = 245 ∧ b = 2)) : (ty4 S v).1 a b = S.1 a b := by
  unfold ty4
  simp only [upI, up2, stA]
  rw [if_neg h2, if_neg h]
theorem ty4_b {S : aS} {v : Int} {j : Nat} : (ty4 S v).1 246 j = if S.1 245 2 ≤ (j : Int) ∧ (j : Int) < S.1 245 2 + 4 then narB (narB (bShr v (8 * (4 - 1 - ((j : Int) - S.1 245 2))))) else S.1 246 j := by
  unfold ty4
  rw [up_obj (by decide)]
  rfl
/-- the tapes of two states -/
def tpR (C M : aS) : Prop := 0 ≤ C.1 1 1 ∧ M.1 245 2 = C.1 1 1 ∧ ∀ j : Nat, (j : Int) < C.1 1 1 → tpE (C.1 2 j) (M.1 246 j)
theorem tp_4 {C M : aS} {v : Int} (h : tpR C M) (hv : inI v) : tpR (ad4 C v) (ty4 M v) := by
  obtain ⟨h0, h1, h2⟩ := h
  refine ⟨by rw [ad4_1]; omega, by rw [ty4_1, ad4_1, h1], fun j hj => ?_⟩
  rw [ad4_1] at hj
  rw [ad4_b, ty4_b, h1]
  by_cases q : C.1 1 1 ≤ (j : Int) ∧ (j : Int) < C.1 1 1 + 4
  · rw [if_pos q, if_pos q, show 8 * (4 - 1 - ((j : Int) - C.1 1 1)) = 8 * 4 - 8 - 8 * ((j : Int) - C.1 1 1) from by omega]
    exact byte_eq hv (by omega)
  · rw [if_neg q, if_neg q]
    exact h2 j (by omega)
def cTp (a b : Nat) : Bool := decide (a = 2) || (decide (a = 246) || ((decide (a = 1) && decide (b = 1)) || (decide (a = 245) && decide (b = 2))))
theorem eq_feed {S : aS} {a b c d e : Int} (h : Inv S) (ha : inI a) (hb : inI b) (hc : inI c) (hd : inI d) (he : inI e) : spX11_feed [.inr (.inr 0), .inl a, .inl b, .inl c, .inl d, .inl e] S (fun r T => spX12_feed [.inr (.inr 245), .inl a, .inl b, .inl c, .inl d, .inl e] T (Eqv r)) := by
  have h' := h
  obtain ⟨tp, bk, bh, sl, se, po, ed, pr, en, ru, ws, wf, kn⟩ := h'
  have t1 := tp.1
  have t2 := tp.2.1
  have fC : ∀ x y, ¬ x = 2 → ¬ (x = 1 ∧ y = 1) → (ad4 (ad4 (ad4 (ad4 (ad4 S a) b) c) d) e).1 x y = S.1 x y := fun x y z1 z2 => by
    rw [ad4_o z1 z2, ad4_o z1 z2, ad4_o z1 z2, ad4_o z1 z2, ad4_o z1 z2]
  have e2 := fC 245 2 (by decide) (by decide)
  refine ⟨t1, fun q => ⟨by omega, fun _ => ⟨rfl, h⟩, fun z => by omega⟩, fun q => ⟨by rw [e2]; omega, fun z => by rw [e2] at z; omega, fun _ => ⟨by rw [e2, t2], ?_⟩⟩⟩
  have r0 : tpR S (ad4 (ad4 (ad4 (ad4 (ad4 S a) b) c) d) e) := ⟨t1.1, by rw [e2]; exact t2, fun j hj => by rw [fC 246 j (by decide) (by omega)]; exact tp.2.2 j hj⟩
  have r1 := tp_4 (tp_4 (tp_4 (tp_4 (tp_4 r0 ha) hb) hc) hd) he
  have fr : ∀ x y, cTp x y = false → (ty4 (ty4 (ty4 (ty4 (ty4 (ad4 (ad4 (ad4 (ad4 (ad4 S a) b) c) d) e) a) b) c) d) e).1 x y = S.1 x y := fun x y z => by
    unfold cTp at z
    simp at z
    rw [ty4_o (by omega) (by omega), ty4_o (by omega) (by omega), ty4_o (by omega) (by omega), ty4_o (by omega) (by omega), ty4_o (by omega) (by omega)]
    exact fC x y (by omega) (by omega)
  have fM : ∀ x y, ¬ x = 246 → ¬ (x = 245 ∧ y = 2) → (ty4 (ty4 (ty4 (ty4 (ty4 (ad4 (ad4 (ad4 (ad4 (ad4 S a) b) c) d) e) a) b) c) d) e).1 x y = (ad4 (ad4 (ad4 (ad4 (ad4 S a) b) c) d) e).1 x y := fun x y z1 z2 => by
    rw [ty4_o z1 z2, ty4_o z1 z2, ty4_o z1 z2, ty4_o z1 z2, ty4_o z1 z2]
  have vtp : iTp (ty4 (ty4 (ty4 (ty4 (ty4 (ad4 (ad4 (ad4 (ad4 (ad4 S a) b) c) d) e) a) b) c) d) e) := by
    have s1 := fM 1 1 (by decide) (by decide)
    have s2 : (ad4 (ad4 (ad4 (ad4 (ad4 S a) b) c) d) e).1 1 1 = S.1 1 1 + 20 := by rw [ad4_1, ad4_1, ad4_1, ad4_1, ad4_1]; omega
    refine ⟨by rw [s1, s2]; omega, by rw [s1]; exact r1.2.1, fun j hj => ?_⟩
    rw [s1] at hj
    rw [fM 2 j (by decide) (by omega)]
    exact r1.2.2 j hj
  have ved : iEd (ty4 (ty4 (ty4 (ty4 (ty4 (ad4 (ad4 (ad4 (ad4 (ad4 S a) b) c) d) e) a) b) c) d) e) := iEd_c (fr 222 4 (by decide)) (fr 245 37 (by decide)) (funext fun b => fr 223 b (by simp [cTp])) (funext fun b => fr 271 b (by simp [cTp])) (funext fun b => fr 272 b (by simp [cTp])) (funext fun b => fr 273 b (by simp [cTp])) (fun e he => ⟨funext fun b => fr _ b (by simp [cTp]; omega), funext fun b => fr _ b (by simp [cTp]; omega)⟩) ed
  rw [pat_e fr rfl] at vtp ved ⊢
  exact ⟨vtp, bk, bh, sl, se, po, ved, pr, en, ru, ws, wf, kn⟩
