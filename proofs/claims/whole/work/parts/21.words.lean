/-! WORDS: long numbers, five bits a letter -/
/-- how many letters -/
def lt5 : Nat → Int → Int
  | 0, _ => 0
  | n + 1, w => if w = 0 then 0 else 1 + lt5 n (w / 32)
theorem lt5_b : ∀ (n : Nat) (w : Int), 0 ≤ lt5 n w ∧ lt5 n w ≤ n
  | 0, _ => by simp [lt5]
  | n + 1, w => by
    have := lt5_b n (w / 32)
    unfold lt5
    split <;> omega
theorem lUshr_5 {w : Int} (h : 0 ≤ w) (h2 : w < 9223372036854775808) : lUshr w 5 = w / 32 := by
  rw [lUshr_div h h2 (by decide) (by decide)]
  show ((w.toNat / 2 ^ 5 : Nat) : Int) = w / 32
  omega
/-- the low bits -/
def lowB (bits w : Int) : Int := lAnd w (wL (lShl 1 bits - 1))
/-- a word with letters changed, before its length is looked at -/
def chgR (w at' old fresh : Int) : Int := lOr (lShl (lOr (lShl (lUshr (lUshr w (5 * at')) (5 * lt5 12 old)) (5 * lt5 12 fresh)) fresh) (5 * at')) (lowB (5 * at') w)
def chg5 (w at' old fresh : Int) : Int := if lowB (5 * lt5 12 old) (lUshr w (5 * at')) = old then (if lt5 12 (chgR w at' old fresh) ≤ 8 then chgR w at' old fresh else 0) else 0
/-- a word of at most twelve letters; one of at most nine -/
def wrdC (w : Int) : Prop := 0 ≤ w ∧ w < 1152921504606846976
def wrd (w : Int) : Prop := 0 ≤ w ∧ w < 35184372088832
theorem wrdC_of {w : Int} (h : wrd w) : wrdC w := ⟨h.1, by have := h.2; omega⟩
theorem lt5_min : ∀ (n k : Nat) (w : Int), lt5 n w = if lt5 (n + k) w ≤ (n : Int) then lt5 (n + k) w else (n : Int)
  | 0, k, w => by
    have := lt5_b (0 + k) w
    show (0 : Int) = _
    split <;> omega
  | n + 1, k, w => by
    have ih := lt5_min n k (w / 32)
    rw [show n + 1 + k = (n + k) + 1 from by omega]
    unfold lt5
    by_cases q : w = 0
    · rw [if_pos q, if_pos q, if_pos (by omega)]
    · rw [if_neg q, if_neg q, ih]
      split <;> split <;> omega
theorem lt5_le : ∀ (n m : Nat) (w : Int), 0 ≤ w → w < ((32 ^ n : Nat) : Int) → lt5 m w ≤ n
  | 0, m, w, h, h2 => by
    have : 32 ^ 0 = 1 := rfl
    obtain rfl : w = 0 := by omega
    cases m <;> simp [lt5]
  | n + 1, 0, w, _, _ => by simp only [lt5]; omega
  | n + 1, m + 1, w, h, h2 => by
    have e : 32 ^ (n + 1) = 32 ^ n * 32 := Nat.pow_succ _ _
    have := lt5_le n m (w / 32) (by omega) (by omega)
    unfold lt5
    split <;> omega
theorem lt5_9 {w : Int} (h : wrd w) : lt5 9 w = lt5 12 w := by
  have e : 32 ^ 9 = 35184372088832 := by decide
  have h2 := h.2
  have b := lt5_le 9 12 w h.1 (by omega)
  have m := lt5_min 9 3 w
  rw [if_pos (by exact b)] at m
  exact m
theorem lt5_9c (w : Int) : lt5 9 w ≤ 8 ↔ lt5 12 w ≤ 8 := by
  have m : lt5 9 w = if lt5 12 w ≤ ((9 : Nat) : Int) then lt5 12 w else ((9 : Nat) : Int) := lt5_min 9 3 w
  rw [m]
  split <;> omega
def spX10_append : aSp := fun as S Q => match as with
  | [.inr (.inl w), .inl b] => 97 ≤ b ∧ b ≤ 122 ∧ Q (some (.inr (.inl (lOr (lShl w 5) (b - 97 + 1))))) S
  | _ => False
def tbX10_append : aTb := (fX10, pX10, fun j => lk [] j, kX10)
theorem tbX10_append_f : tbX10_append.1 = fX10 := rfl
theorem tbX10_append_p : tbX10_append.2.1 = pX10 := rfl
theorem tbX10_append_k : tbX10_append.2.2.2 = kX10 := rfl
theorem tbX10_append_all (l : Launch) : ∀ e ∈ ([] : List (Nat × Option Nat × Nat × aSp)), cOK l mX10_append e.1 e.2.1 e.2.2.1 e.2.2.2 ∨ mOK mX10_append e.1 e.2.1 e.2.2.1 e.2.2.2 := all_nil
theorem tbX10_append_ok (l : Launch) : tOK l mX10_append tbX10_append := ⟨fX10_ok, pX10_ok, fun _ _ _ _ h => tbX10_append_all l _ (lk_mem h), kX10_ok⟩
set_option maxRecDepth 20000 in
set_option maxHeartbeats 4000000 in
theorem okX10_append (l : Launch) : aOK l mX10_append spX10_append := by
  refine aOK_of rfl fun as S Q h => ?_
  unfold spX10_append at h
  split at h
  · rename_i w b
    refine ⟨Nat.le_of_ble_eq_true rfl, wp_ok (tbX10_append_ok l) Q (fun pc => false) 13 0 _ [] S ?_⟩
    show wp cX10_append tbX10_append 3 (some .long) Q (fun pc => false) (aGo l mX10_append Q) 13 0 [(0, .inr (.inl w)), (2, .inl b)] [] S
    simp only [wp_s, wpC_f, wpC_t, e_wLd, e_wLd0, e_wLd1, e_wLd2, e_get1, e_get2, e_wJ, e_wJo, f40, f41, f42, f43, Nat.reduceAdd, Nat.reduceBEq, Nat.reduceMul, eq_self, true_or, or_true, true_and, dX10_append_0, dX10_append_1, dX10_append_2, dX10_append_3, dX10_append_4, dX10_append_6, dX10_append_7, dX10_append_8, dX10_append_9, dX10_append_10, dX10_append_11, e_iload_n, e_lload_n, e_iconst, e_bipush, e_iadd, e_isub, e_lor, e_lshl, e_i2l, e_lreturn, e_wI2L, e_wLI2, e_wI2, e_wL2, e_rl, bp_97, ic_1, ic_5, tbX10_append_f, tbX10_append_p, tbX10_append_k]
    obtain ⟨h0, h1, h⟩ := h
    simp (disch := omega) only [wI_id]
    exact h
  · exact h.elim
def spX10_lettersIn : aSp := fun as S Q => match as with
  | [.inr (.inl w)] => wrdC w ∧ Q (some (.inl (lt5 9 w))) S
  | _ => False
def tbX10_lettersIn : aTb := (fX10, pX10, fun j => lk [] j, kX10)
theorem tbX10_lettersIn_f : tbX10_lettersIn.1 = fX10 := rfl
theorem tbX10_lettersIn_p : tbX10_lettersIn.2.1 = pX10 := rfl
theorem tbX10_lettersIn_k : tbX10_lettersIn.2.2.2 = kX10 := rfl
theorem tbX10_lettersIn_all (l : Launch) : ∀ e ∈ ([] : List (Nat × Option Nat × Nat × aSp)), cOK l mX10_lettersIn e.1 e.2.1 e.2.2.1 e.2.2.2 ∨ mOK mX10_lettersIn e.1 e.2.1 e.2.2.1 e.2.2.2 := all_nil
theorem tbX10_lettersIn_ok (l : Launch) : tOK l mX10_lettersIn tbX10_lettersIn := ⟨fX10_ok, pX10_ok, fun _ _ _ _ h => tbX10_lettersIn_all l _ (lk_mem h), kX10_ok⟩
set_option maxRecDepth 20000 in
set_option maxHeartbeats 4000000 in
theorem lpX10_lettersIn (l : Launch) (Q : Option aV → aS → Prop) : ∀ (n : Nat) (S : aS) (w : Int) (c : Nat), c + n = 9 → wrdC w → Q (some (.inl (c + lt5 n ((w.toNat / 32 ^ c : Nat) : Int)))) S → aGo l mX10_lettersIn Q 2 [(0, .inr (.inl w)), (2, .inl (c : Int))] [] S := by
  intro n
  induction n using Nat.strongRecOn with
  | _ n ih =>
  intro S  w  c  h0 h1 h2
  refine wp_go (tbX10_lettersIn_ok l) (fun pc => pc == 2) 19 dX10_lettersIn_2 ?_
  show ws1 tbX10_lettersIn 3 (some .int) Q (wp cX10_lettersIn tbX10_lettersIn 3 (some .int) Q (fun pc => pc == 2) (aGo l mX10_lettersIn Q) 19) (.iload_n 2) 1 2 [(0, .inr (.inl w)), (2, .inl (c : Int))] [] S
  simp only [wp_s, wpC_f, wpC_t, e_wLd, e_wLd0, e_wLd1, e_wLd2, e_get1, e_get2, e_wJ, e_wJo, f40, f41, f42, f43, Nat.reduceAdd, Nat.reduceBEq, Nat.reduceMul, eq_self, true_or, or_true, true_and, dX10_lettersIn_0, dX10_lettersIn_1, dX10_lettersIn_2, dX10_lettersIn_3, dX10_lettersIn_5, dX10_lettersIn_8, dX10_lettersIn_9, dX10_lettersIn_10, dX10_lettersIn_11, dX10_lettersIn_12, dX10_lettersIn_13, dX10_lettersIn_14, dX10_lettersIn_15, dX10_lettersIn_18, dX10_lettersIn_21, dX10_lettersIn_24, dX10_lettersIn_25, e_iload_n, e_lload_n, e_istore_n, e_iconst, e_bipush, e_lconst, e_imul, e_lushr, e_lcmp, e_iinc, e_ifCond, e_if_icmp, e_goto, e_ireturn, e_wSt0, e_wSt1, e_wSt2, e_isL0, e_isL1, e_isL2, e_lset, e_lclr0, e_lclr1, e_lclr2, e_lput0, e_lput1, e_lput2, e_wInc, e_wInc0, Nat.reduceLT, not_false_eq_true, Bool.or_false, Bool.false_or, Bool.or_true, Bool.true_or, Bool.and_false, Bool.false_and, Bool.and_true, Bool.true_and, lc0, lc1, e_wI2, e_ri, e_rz, e_wLI2, e_wCmp, e_wIc_gt, e_wIf_eq, bp_8, ic_0, ic_5, jt_15_9, jt_21_m19, jt_5_19, tbX10_lettersIn_f, tbX10_lettersIn_p, tbX10_lettersIn_k]
  have hw := h1
  unfold wrdC at hw
  have pw : ∀ k : Nat, 2 ^ (5 * k) = 32 ^ k := fun k => Nat.pow_mul 2 5 k
  simp (disch := omega) only [wI_id]
  rcases n with _ | n
  · simp only [lt5, Int.add_zero] at h2
    exact ⟨fun _ => h2, fun q => absurd h0 (by omega)⟩
  · refine ⟨fun q => absurd h0 (by omega), fun _ => ?_⟩
    rw [lUshr_div hw.1 (by omega) (by omega) (by omega), show (5 * (c : Int)).toNat = 5 * c from by omega, pw]
    refine ⟨fun q => ?_, fun q => ?_⟩
    · have hu : ((w.toNat / 32 ^ c : Nat) : Int) = 0 := by unfold lCmp at q; split at q <;> (try split at q) <;> omega
      rw [hu] at h2
      unfold lt5 at h2
      simpa using h2
    · have hu : ¬ ((w.toNat / 32 ^ c : Nat) : Int) = 0 := by intro z; apply q; rw [z]; rfl
      refine ih n (by omega) S w (c + 1) (by omega) h1 ?_
      have e : ((w.toNat / 32 ^ (c + 1) : Nat) : Int) = ((w.toNat / 32 ^ c : Nat) : Int) / 32 := by
        rw [Nat.pow_succ, ← Nat.div_div_eq_div_mul]; omega
      unfold lt5 at h2
      rw [if_neg hu, ← e] at h2
      rw [show ((c + 1 : Nat) : Int) + lt5 n ((w.toNat / 32 ^ (c + 1) : Nat) : Int) = (c : Int) + (1 + lt5 n ((w.toNat / 32 ^ (c + 1) : Nat) : Int)) from by omega]
      exact h2
set_option maxRecDepth 20000 in
set_option maxHeartbeats 4000000 in
theorem okX10_lettersIn (l : Launch) : aOK l mX10_lettersIn spX10_lettersIn := by
  refine aOK_of rfl fun as S Q h => ?_
  unfold spX10_lettersIn at h
  split at h
  · rename_i w
    refine ⟨Nat.le_of_ble_eq_true rfl, wp_ok (tbX10_lettersIn_ok l) Q (fun pc => pc == 2) 19 0 _ [] S ?_⟩
    show wp cX10_lettersIn tbX10_lettersIn 3 (some .int) Q (fun pc => pc == 2) (aGo l mX10_lettersIn Q) 19 0 [(0, .inr (.inl w))] [] S
    simp only [wp_s, wpC_f, wpC_t, e_wLd, e_wLd0, e_wLd1, e_wLd2, e_get1, e_get2, e_wJ, e_wJo, f40, f41, f42, f43, Nat.reduceAdd, Nat.reduceBEq, Nat.reduceMul, eq_self, true_or, or_true, true_and, dX10_lettersIn_0, dX10_lettersIn_1, dX10_lettersIn_2, dX10_lettersIn_3, dX10_lettersIn_5, dX10_lettersIn_8, dX10_lettersIn_9, dX10_lettersIn_10, dX10_lettersIn_11, dX10_lettersIn_12, dX10_lettersIn_13, dX10_lettersIn_14, dX10_lettersIn_15, dX10_lettersIn_18, dX10_lettersIn_21, dX10_lettersIn_24, dX10_lettersIn_25, e_iload_n, e_lload_n, e_istore_n, e_iconst, e_bipush, e_lconst, e_imul, e_lushr, e_lcmp, e_iinc, e_ifCond, e_if_icmp, e_goto, e_ireturn, e_wSt0, e_wSt1, e_wSt2, e_isL0, e_isL1, e_isL2, e_lset, e_lclr0, e_lclr1, e_lclr2, e_lput0, e_lput1, e_lput2, e_wInc, e_wInc0, Nat.reduceLT, not_false_eq_true, Bool.or_false, Bool.false_or, Bool.or_true, Bool.true_or, Bool.and_false, Bool.false_and, Bool.and_true, Bool.true_and, lc0, lc1, e_wI2, e_ri, e_rz, e_wLI2, e_wCmp, e_wIc_gt, e_wIf_eq, bp_8, ic_0, ic_5, jt_15_9, jt_21_m19, jt_5_19, tbX10_lettersIn_f, tbX10_lettersIn_p, tbX10_lettersIn_k]
    refine lpX10_lettersIn l Q 9 S w 0 (by omega) h.1 ?_
    have e : ((w.toNat / 32 ^ 0 : Nat) : Int) = w := by have := h.1.1; rw [Nat.pow_zero, Nat.div_one]; omega
    rw [e]
    simpa using h.2
  · exact h.elim
def spX10_lowest : aSp := fun as S Q => match as with
  | [.inl b, .inr (.inl w)] => Q (some (.inr (.inl (lowB b w)))) S
  | _ => False
def tbX10_lowest : aTb := (fX10, pX10, fun j => lk [] j, kX10)
theorem tbX10_lowest_f : tbX10_lowest.1 = fX10 := rfl
theorem tbX10_lowest_p : tbX10_lowest.2.1 = pX10 := rfl
theorem tbX10_lowest_k : tbX10_lowest.2.2.2 = kX10 := rfl
theorem tbX10_lowest_all (l : Launch) : ∀ e ∈ ([] : List (Nat × Option Nat × Nat × aSp)), cOK l mX10_lowest e.1 e.2.1 e.2.2.1 e.2.2.2 ∨ mOK mX10_lowest e.1 e.2.1 e.2.2.1 e.2.2.2 := all_nil
theorem tbX10_lowest_ok (l : Launch) : tOK l mX10_lowest tbX10_lowest := ⟨fX10_ok, pX10_ok, fun _ _ _ _ h => tbX10_lowest_all l _ (lk_mem h), kX10_ok⟩
set_option maxRecDepth 20000 in
set_option maxHeartbeats 4000000 in
theorem okX10_lowest (l : Launch) : aOK l mX10_lowest spX10_lowest := by
  refine aOK_of rfl fun as S Q h => ?_
  unfold spX10_lowest at h
  split at h
  · rename_i b w
    refine ⟨Nat.le_of_ble_eq_true rfl, wp_ok (tbX10_lowest_ok l) Q (fun pc => false) 10 0 _ [] S ?_⟩
    show wp cX10_lowest tbX10_lowest 3 (some .long) Q (fun pc => false) (aGo l mX10_lowest Q) 10 0 [(0, .inl b), (1, .inr (.inl w))] [] S
    simp only [wp_s, wpC_f, wpC_t, e_wLd, e_wLd0, e_wLd1, e_wLd2, e_get1, e_get2, e_wJ, e_wJo, f40, f41, f42, f43, Nat.reduceAdd, Nat.reduceBEq, Nat.reduceMul, eq_self, true_or, or_true, true_and, dX10_lowest_0, dX10_lowest_1, dX10_lowest_2, dX10_lowest_3, dX10_lowest_4, dX10_lowest_5, dX10_lowest_6, dX10_lowest_7, e_iload_n, e_lload_n, e_lconst, e_lsub, e_land, e_lshl, e_lreturn, e_wL2, lc0, lc1, e_wLI2, e_rl, tbX10_lowest_f, tbX10_lowest_p, tbX10_lowest_k]
    exact h
  · exact h.elim
def spX10_letterAt : aSp := fun as S Q => match as with
  | [.inr (.inl w), .inl i] => wrd w ∧ 0 ≤ i ∧ i ≤ 2147483647 ∧ (lt5 12 w - 1 - i < 0 → Q (some (.inl (-1))) S) ∧ (0 ≤ lt5 12 w - 1 - i → Q (some (.inl (96 + lAnd (lUshr w (5 * (lt5 12 w - 1 - i))) 31))) S)
  | _ => False
def tbX10_letterAt : aTb := (fX10, pX10, fun j => lk [(53, none, 1, spX10_lettersIn)] j, kX10)
theorem tbX10_letterAt_f : tbX10_letterAt.1 = fX10 := rfl
theorem tbX10_letterAt_p : tbX10_letterAt.2.1 = pX10 := rfl
theorem tbX10_letterAt_k : tbX10_letterAt.2.2.2 = kX10 := rfl
theorem tbX10_letterAt_c53 : tbX10_letterAt.2.2.1 53 = some (none, 1, spX10_lettersIn) := rfl
theorem tbX10_letterAt_l57 {nL : Nat} {rt : Option FieldType} {Q : Option aV → aS → Prop} {k : aK} {pc : Nat} {ls : aL} {stk : List aV} {S : aS} : ws1 tbX10_letterAt nL rt Q k (.ldc2_w 57) 3 pc ls stk S = k (pc + 3) ls (.inr (.inl 31) :: stk) S := e_ldc2 rfl
theorem tbX10_letterAt_all (l : Launch) : ∀ e ∈ ([(53, none, 1, spX10_lettersIn)] : List (Nat × Option Nat × Nat × aSp)), cOK l mX10_letterAt e.1 e.2.1 e.2.2.1 e.2.2.2 ∨ mOK mX10_letterAt e.1 e.2.1 e.2.2.1 e.2.2.2 := all_cons (cOK_of (okX10_lettersIn l) meX10_lettersIn cfX10_53 (by decide) (by decide)) (all_nil)
theorem tbX10_letterAt_ok (l : Launch) : tOK l mX10_letterAt tbX10_letterAt := ⟨fX10_ok, pX10_ok, fun _ _ _ _ h => tbX10_letterAt_all l _ (lk_mem h), kX10_ok⟩
set_option maxRecDepth 20000 in
set_option maxHeartbeats 4000000 in
theorem okX10_letterAt (l : Launch) : aOK l mX10_letterAt spX10_letterAt := by
  refine aOK_of rfl fun as S Q h => ?_
  unfold spX10_letterAt at h
  split at h
  · rename_i w i
    refine ⟨Nat.le_of_ble_eq_true rfl, wp_ok (tbX10_letterAt_ok l) Q (fun pc => false) 26 0 _ [] S ?_⟩
    show wp cX10_letterAt tbX10_letterAt 4 (some .int) Q (fun pc => false) (aGo l mX10_letterAt Q) 26 0 [(0, .inr (.inl w)), (2, .inl i)] [] S
    simp only [wp_s, wpC_f, wpC_t, e_wLd, e_wLd0, e_wLd1, e_wLd2, e_get1, e_get2, e_wJ, e_wJo, f40, f41, f42, f43, Nat.reduceAdd, Nat.reduceBEq, Nat.reduceMul, eq_self, true_or, or_true, true_and, dX10_letterAt_0, dX10_letterAt_1, dX10_letterAt_4, dX10_letterAt_5, dX10_letterAt_6, dX10_letterAt_7, dX10_letterAt_8, dX10_letterAt_9, dX10_letterAt_10, dX10_letterAt_13, dX10_letterAt_14, dX10_letterAt_17, dX10_letterAt_18, dX10_letterAt_19, dX10_letterAt_21, dX10_letterAt_22, dX10_letterAt_23, dX10_letterAt_24, dX10_letterAt_25, dX10_letterAt_26, dX10_letterAt_29, dX10_letterAt_30, dX10_letterAt_31, dX10_letterAt_32, e_iload_n, e_lload_n, e_istore_n, e_iconst, e_bipush, e_iadd, e_isub, e_imul, e_land, e_lushr, e_l2i, e_ifCond, e_invokestatic, e_ireturn, e_wSt0, e_wSt1, e_wSt2, e_isL0, e_isL1, e_isL2, e_lset, e_lclr0, e_lclr1, e_lclr2, e_lput0, e_lput1, e_lput2, e_wInc, e_wInc0, Nat.reduceLT, not_false_eq_true, Bool.or_false, Bool.false_or, Bool.or_true, Bool.true_or, Bool.and_false, Bool.false_and, Bool.and_true, Bool.true_and, e_wL2I, e_wI2, e_ri, e_rz, e_wL2, e_wLI2, e_wIf_ge, e_wIf_lt, bp_96, ic_1, ic_5, ic_m1, jt_10_7, jt_14_5, tbX10_letterAt_l57, e_call, e_callS0, e_callS1, e_callS2, e_callS3, e_callS4, e_pop0, e_pop1, e_tl0, e_tl1, tbX10_letterAt_f, tbX10_letterAt_p, tbX10_letterAt_k, tbX10_letterAt_c53, spX10_lettersIn]
    obtain ⟨h0, h1, h1b, h2, h3⟩ := h
    have hb := lt5_b 12 w
    have h0' := h0
    unfold wrd at h0'
    simp only [lt5_9 h0]
    simp (disch := omega) only [wI_id]
    refine ⟨wrdC_of h0, fun q => absurd h1 (by omega), fun _ => ⟨fun q => ?_, fun q => h2 (by omega)⟩⟩
    have e1 : lUshr w (5 * (lt5 12 w - 1 - i)) = ((w.toNat / 2 ^ (5 * (lt5 12 w - 1 - i)).toNat : Nat) : Int) := lUshr_div h0'.1 (by omega) (by omega) (by omega)
    have e2 : ((w.toNat / 2 ^ (5 * (lt5 12 w - 1 - i)).toNat : Nat) : Int) ≤ (w.toNat : Int) := Int.ofNat_le.mpr (Nat.div_le_self _ _)
    have e4 : 0 ≤ lUshr w (5 * (lt5 12 w - 1 - i)) := by rw [e1]; exact Int.natCast_nonneg _
    have e5 : lUshr w (5 * (lt5 12 w - 1 - i)) ≤ w := by rw [e1]; omega
    have e3 : 0 ≤ lAnd (lUshr w (5 * (lt5 12 w - 1 - i))) 31 ∧ lAnd (lUshr w (5 * (lt5 12 w - 1 - i))) 31 ≤ 31 := by
      rw [lAnd_nat e4 (by omega) (by omega) (by omega)]
      have := Nat.and_le_right (n := (lUshr w (5 * (lt5 12 w - 1 - i))).toNat) (m := (31 : Int).toNat)
      omega
    simp (disch := omega) only [wI_id]
    exact h3 q
  · exact h.elim
def spX10_changed : aSp := fun as S Q => match as with
  | [.inr (.inl w), .inl a, .inr (.inl o), .inr (.inl r)] => wrd o ∧ wrd r ∧ 0 ≤ a ∧ a < 8 ∧ (lowB (5 * lt5 12 o) (lUshr w (5 * a)) = o → wrdC (chgR w a o r)) ∧ Q (some (.inr (.inl (chg5 w a o r)))) S
  | _ => False
def tbX10_changed : aTb := (fX10, pX10, fun j => lk [(53, none, 1, spX10_lettersIn), (59, none, 2, spX10_lowest)] j, kX10)
theorem tbX10_changed_f : tbX10_changed.1 = fX10 := rfl
theorem tbX10_changed_p : tbX10_changed.2.1 = pX10 := rfl
theorem tbX10_changed_k : tbX10_changed.2.2.2 = kX10 := rfl
theorem tbX10_changed_c53 : tbX10_changed.2.2.1 53 = some (none, 1, spX10_lettersIn) := rfl
theorem tbX10_changed_c59 : tbX10_changed.2.2.1 59 = some (none, 2, spX10_lowest) := rfl
theorem tbX10_changed_all (l : Launch) : ∀ e ∈ ([(53, none, 1, spX10_lettersIn), (59, none, 2, spX10_lowest)] : List (Nat × Option Nat × Nat × aSp)), cOK l mX10_changed e.1 e.2.1 e.2.2.1 e.2.2.2 ∨ mOK mX10_changed e.1 e.2.1 e.2.2.1 e.2.2.2 := all_cons (cOK_of (okX10_lettersIn l) meX10_lettersIn cfX10_53 (by decide) (by decide)) (all_cons (cOK_of (okX10_lowest l) meX10_lowest cfX10_59 (by decide) (by decide)) (all_nil))
theorem tbX10_changed_ok (l : Launch) : tOK l mX10_changed tbX10_changed := ⟨fX10_ok, pX10_ok, fun _ _ _ _ h => tbX10_changed_all l _ (lk_mem h), kX10_ok⟩
set_option maxRecDepth 20000 in
set_option maxHeartbeats 4000000 in
theorem okX10_changed (l : Launch) : aOK l mX10_changed spX10_changed := by
  refine aOK_of rfl fun as S Q h => ?_
  unfold spX10_changed at h
  split at h
  · rename_i w a o r
    refine ⟨Nat.le_of_ble_eq_true rfl, wp_ok (tbX10_changed_ok l) Q (fun pc => false) 52 0 _ [] S ?_⟩
    show wp cX10_changed tbX10_changed 16 (some .long) Q (fun pc => false) (aGo l mX10_changed Q) 52 0 [(0, .inr (.inl w)), (2, .inl a), (3, .inr (.inl o)), (5, .inr (.inl r))] [] S
    simp only [wp_s, wpC_f, wpC_t, e_wLd, e_wLd0, e_wLd1, e_wLd2, e_get1, e_get2, e_wJ, e_wJo, f40, f41, f42, f43, Nat.reduceAdd, Nat.reduceBEq, Nat.reduceMul, eq_self, true_or, or_true, true_and, dX10_changed_0, dX10_changed_1, dX10_changed_3, dX10_changed_6, dX10_changed_7, dX10_changed_9, dX10_changed_10, dX10_changed_11, dX10_changed_14, dX10_changed_15, dX10_changed_17, dX10_changed_18, dX10_changed_19, dX10_changed_20, dX10_changed_22, dX10_changed_23, dX10_changed_25, dX10_changed_26, dX10_changed_28, dX10_changed_30, dX10_changed_32, dX10_changed_35, dX10_changed_36, dX10_changed_37, dX10_changed_40, dX10_changed_41, dX10_changed_42, dX10_changed_44, dX10_changed_45, dX10_changed_48, dX10_changed_50, dX10_changed_52, dX10_changed_54, dX10_changed_55, dX10_changed_57, dX10_changed_58, dX10_changed_60, dX10_changed_61, dX10_changed_63, dX10_changed_64, dX10_changed_66, dX10_changed_67, dX10_changed_69, dX10_changed_71, dX10_changed_74, dX10_changed_76, dX10_changed_79, dX10_changed_80, dX10_changed_83, dX10_changed_85, e_iload_n, e_iload, e_lload_n, e_lload, e_istore, e_lstore, e_iconst, e_bipush, e_lconst, e_imul, e_lor, e_lshl, e_lushr, e_lcmp, e_ifCond, e_if_icmp, e_goto, e_invokestatic, e_lreturn, e_wSt0, e_wSt1, e_wSt2, e_isL0, e_isL1, e_isL2, e_lset, e_lclr0, e_lclr1, e_lclr2, e_lput0, e_lput1, e_lput2, e_wInc, e_wInc0, Nat.reduceLT, not_false_eq_true, Bool.or_false, Bool.false_or, Bool.or_true, Bool.true_or, Bool.and_false, Bool.false_and, Bool.and_true, Bool.true_and, e_wLI2, e_wL2, e_wI2, e_rl, lc0, lc1, e_wCmp, e_wIc_le, e_wIf_eq, bp_8, ic_5, jt_37_5, jt_76_7, jt_80_5, e_call, e_callS0, e_callS1, e_callS2, e_callS3, e_callS4, e_pop0, e_pop1, e_tl0, e_tl1, tbX10_changed_f, tbX10_changed_p, tbX10_changed_k, tbX10_changed_c53, tbX10_changed_c59, spX10_lettersIn, spX10_lowest]
    obtain ⟨h0, h1, h2, h3, h4, h5⟩ := h
    have ho := lt5_b 12 o
    have hr := lt5_b 12 r
    simp only [lt5_9 h0, lt5_9 h1]
    simp (disch := omega) only [wI_id]
    have hc : ∀ x y : Int, (lCmp x y = 0) = (x = y) := by
      intro x y
      unfold lCmp
      apply propext
      split
      · constructor <;> omega
      · split <;> constructor <;> omega
    simp only [hc]
    unfold chg5 at h5
    refine ⟨wrdC_of h1, wrdC_of h0, fun q => ⟨h4 q, fun q2 => ?_, fun q2 => ?_⟩, fun q => ?_⟩
    · rw [if_pos q, if_pos ((lt5_9c (chgR w a o r)).mp q2)] at h5; exact h5
    · rw [if_pos q, if_neg (fun z => absurd ((lt5_9c (chgR w a o r)).mpr z) q2)] at h5; exact h5
    · rw [if_neg q] at h5; exact h5
  · exact h.elim
/-! the rows of words: of forms (18: rows 20 .., lengths 80), of slips (85: rows 87 .., lengths 207) -/
def spX10_has : aSp := fun as S Q => match as with
  | [.inr (.inr 18), .inl i] => Q (some (.inl (bi (0 ≤ i ∧ i < 60 ∧ 0 < S.1 80 i.toNat)))) S
  | [.inr (.inr 85), .inl i] => Q (some (.inl (bi (0 ≤ i ∧ i < 120 ∧ 0 < S.1 207 i.toNat)))) S
  | _ => False
def tbX10_has : aTb := (fX10, pX10, fun j => lk [] j, kX10)
theorem tbX10_has_f : tbX10_has.1 = fX10 := rfl
theorem tbX10_has_p : tbX10_has.2.1 = pX10 := rfl
theorem tbX10_has_k : tbX10_has.2.2.2 = kX10 := rfl
theorem tbX10_has_all (l : Launch) : ∀ e ∈ ([] : List (Nat × Option Nat × Nat × aSp)), cOK l mX10_has e.1 e.2.1 e.2.2.1 e.2.2.2 ∨ mOK mX10_has e.1 e.2.1 e.2.2.1 e.2.2.2 := all_nil
theorem tbX10_has_ok (l : Launch) : tOK l mX10_has tbX10_has := ⟨fX10_ok, pX10_ok, fun _ _ _ _ h => tbX10_has_all l _ (lk_mem h), kX10_ok⟩
set_option maxRecDepth 20000 in
set_option maxHeartbeats 4000000 in
theorem okX10_has (l : Launch) : aOK l mX10_has spX10_has := by
  refine aOK_of rfl fun as S Q h => ?_
  unfold spX10_has at h
  split at h
  · rename_i i
    refine ⟨Nat.le_of_ble_eq_true rfl, wp_ok (tbX10_has_ok l) Q (fun pc => false) 18 0 _ [] S ?_⟩
    show wp cX10_has tbX10_has 2 (some .boolean) Q (fun pc => false) (aGo l mX10_has Q) 18 0 [(0, .inr (.inr 18)), (1, .inl i)] [] S
    simp only [wp_s, wpC_f, wpC_t, e_wLd, e_wLd0, e_wLd1, e_wLd2, e_get1, e_get2, e_wJ, e_wJo, f40, f41, f42, f43, Nat.reduceAdd, Nat.reduceBEq, Nat.reduceMul, eq_self, true_or, or_true, true_and, dX10_has_0, dX10_has_1, dX10_has_4, dX10_has_5, dX10_has_6, dX10_has_9, dX10_has_10, dX10_has_13, dX10_has_14, dX10_has_17, dX10_has_18, dX10_has_19, dX10_has_22, dX10_has_23, dX10_has_26, dX10_has_27, e_aload_n, e_iload_n, e_iconst, e_ifCond, e_if_icmp, e_goto, e_getfield, e_iaload, e_arraylength, e_ireturn, e_ri, e_rz, e_wIf_le, e_wIc_ge, e_wIf_lt, fX10_21, fX10_24, ic_0, ic_1, jt_10_16, jt_19_7, jt_1_25, jt_23_4, tbX10_has_f, tbX10_has_p, tbX10_has_k, g_85_2, l_80, n_80, l_19, n_19, l_86, n_86, g_18_3, l_207, n_207, g_85_3, g_18_2]
    repeat' (with_reducible first | intro _ | refine And.intro ?_ ?_)
    all_goals first | exact h | (rw [bi_t (by omega)] at h; exact h) | (rw [bi_f (by omega)] at h; exact h) | omega
  · rename_i i
    refine ⟨Nat.le_of_ble_eq_true rfl, wp_ok (tbX10_has_ok l) Q (fun pc => false) 18 0 _ [] S ?_⟩
    show wp cX10_has tbX10_has 2 (some .boolean) Q (fun pc => false) (aGo l mX10_has Q) 18 0 [(0, .inr (.inr 85)), (1, .inl i)] [] S
    simp only [wp_s, wpC_f, wpC_t, e_wLd, e_wLd0, e_wLd1, e_wLd2, e_get1, e_get2, e_wJ, e_wJo, f40, f41, f42, f43, Nat.reduceAdd, Nat.reduceBEq, Nat.reduceMul, eq_self, true_or, or_true, true_and, dX10_has_0, dX10_has_1, dX10_has_4, dX10_has_5, dX10_has_6, dX10_has_9, dX10_has_10, dX10_has_13, dX10_has_14, dX10_has_17, dX10_has_18, dX10_has_19, dX10_has_22, dX10_has_23, dX10_has_26, dX10_has_27, e_aload_n, e_iload_n, e_iconst, e_ifCond, e_if_icmp, e_goto, e_getfield, e_iaload, e_arraylength, e_ireturn, e_ri, e_rz, e_wIf_le, e_wIc_ge, e_wIf_lt, fX10_21, fX10_24, ic_0, ic_1, jt_10_16, jt_19_7, jt_1_25, jt_23_4, tbX10_has_f, tbX10_has_p, tbX10_has_k, g_85_2, l_80, n_80, l_19, n_19, l_86, n_86, g_18_3, l_207, n_207, g_85_3, g_18_2]
    repeat' (with_reducible first | intro _ | refine And.intro ?_ ?_)
    all_goals first | exact h | (rw [bi_t (by omega)] at h; exact h) | (rw [bi_f (by omega)] at h; exact h) | omega
  · exact h.elim
section RW
variable {k : aK} {pc : Nat} {ls : aL} {r : List aV} {S : aS} {a v : Int} {i : Nat}
theorem lr_18 (h : i < 60) : wAll k pc ls (.inl a :: .inr (.inr (20 + i)) :: r) S = (0 ≤ a ∧ a < 81 ∧ k pc ls (.inr (.inl (S.2 (20 + i) a.toNat)) :: r) S) := by
  have e : LY (20 + i) = .inr (3, 81, 0) := LYr_20 h
  exact e_all (show _ < 276 by omega) (by unfold lyT; rw [e]) (by unfold lyN; rw [e]; rfl)
theorem sr_18 (h : i < 60) : wLst k pc ls (.inr (.inl v) :: .inl a :: .inr (.inr (20 + i)) :: r) S = (0 ≤ a ∧ a < 81 ∧ k pc ls r (upL S (20 + i) a.toNat v)) := by
  have e : LY (20 + i) = .inr (3, 81, 0) := LYr_20 h
  exact e_lst (show _ < 276 by omega) (by unfold lyT; rw [e]) (by unfold lyN; rw [e]; rfl)
theorem lr_85 (h : i < 120) : wAll k pc ls (.inl a :: .inr (.inr (87 + i)) :: r) S = (0 ≤ a ∧ a < 81 ∧ k pc ls (.inr (.inl (S.2 (87 + i) a.toNat)) :: r) S) := by
  have e : LY (87 + i) = .inr (3, 81, 0) := LYr_87 h
  exact e_all (show _ < 276 by omega) (by unfold lyT; rw [e]) (by unfold lyN; rw [e]; rfl)
theorem sr_85 (h : i < 120) : wLst k pc ls (.inr (.inl v) :: .inl a :: .inr (.inr (87 + i)) :: r) S = (0 ≤ a ∧ a < 81 ∧ k pc ls r (upL S (87 + i) a.toNat v)) := by
  have e : LY (87 + i) = .inr (3, 81, 0) := LYr_87 h
  exact e_lst (show _ < 276 by omega) (by unfold lyT; rw [e]) (by unfold lyN; rw [e]; rfl)
end RW
noncomputable def spX10_wordAt : aSp := fun as S Q => match as with
  | [.inr (.inr 18), .inl i] => Q (some (.inr (.inl (@ite _ (0 ≤ i ∧ i < 60 ∧ 0 < S.1 80 i.toNat) (Classical.propDecidable _) (S.2 (20 + i.toNat) 0) 0)))) S
  | [.inr (.inr 85), .inl i] => Q (some (.inr (.inl (@ite _ (0 ≤ i ∧ i < 120 ∧ 0 < S.1 207 i.toNat) (Classical.propDecidable _) (S.2 (87 + i.toNat) 0) 0)))) S
  | _ => False
def tbX10_wordAt : aTb := (fX10, pX10, fun j => lk [(38, (some 10), 2, spX10_has)] j, kX10)
theorem tbX10_wordAt_f : tbX10_wordAt.1 = fX10 := rfl
theorem tbX10_wordAt_p : tbX10_wordAt.2.1 = pX10 := rfl
theorem tbX10_wordAt_k : tbX10_wordAt.2.2.2 = kX10 := rfl
theorem tbX10_wordAt_c38 : tbX10_wordAt.2.2.1 38 = some ((some 10), 2, spX10_has) := rfl
theorem tbX10_wordAt_all (l : Launch) : ∀ e ∈ ([(38, (some 10), 2, spX10_has)] : List (Nat × Option Nat × Nat × aSp)), cOK l mX10_wordAt e.1 e.2.1 e.2.2.1 e.2.2.2 ∨ mOK mX10_wordAt e.1 e.2.1 e.2.2.1 e.2.2.2 := all_cons (cOK_of (okX10_has l) meX10_has cfX10_38 (by decide) (by decide)) (all_nil)
theorem tbX10_wordAt_ok (l : Launch) : tOK l mX10_wordAt tbX10_wordAt := ⟨fX10_ok, pX10_ok, fun _ _ _ _ h => tbX10_wordAt_all l _ (lk_mem h), kX10_ok⟩
set_option maxRecDepth 20000 in
set_option maxHeartbeats 4000000 in
theorem okX10_wordAt (l : Launch) : aOK l mX10_wordAt spX10_wordAt := by
  refine aOK_of rfl fun as S Q h => ?_
  unfold spX10_wordAt at h
  split at h
  · rename_i i
    refine ⟨Nat.le_of_ble_eq_true rfl, wp_ok (tbX10_wordAt_ok l) Q (fun pc => false) 15 0 _ [] S ?_⟩
    show wp cX10_wordAt tbX10_wordAt 2 (some .long) Q (fun pc => false) (aGo l mX10_wordAt Q) 15 0 [(0, .inr (.inr 18)), (1, .inl i)] [] S
    simp only [wp_s, wpC_f, wpC_t, e_wLd, e_wLd0, e_wLd1, e_wLd2, e_get1, e_get2, e_wJ, e_wJo, f40, f41, f42, f43, Nat.reduceAdd, Nat.reduceBEq, Nat.reduceMul, eq_self, true_or, or_true, true_and, dX10_wordAt_0, dX10_wordAt_1, dX10_wordAt_2, dX10_wordAt_5, dX10_wordAt_8, dX10_wordAt_9, dX10_wordAt_12, dX10_wordAt_13, dX10_wordAt_14, dX10_wordAt_15, dX10_wordAt_16, dX10_wordAt_19, dX10_wordAt_20, e_aload_n, e_iload_n, e_iconst, e_lconst, e_ifCond, e_goto, e_getfield, e_laload, e_aaload, e_invokevirtual, e_lreturn, lc0, lc1, e_rl, e_wIf_eq, fX10_21, ic_0, jt_16_4, jt_5_14, e_call, e_callS0, e_callS1, e_callS2, e_callS3, e_callS4, e_pop0, e_pop1, e_tl0, e_tl1, tbX10_wordAt_f, tbX10_wordAt_p, tbX10_wordAt_k, tbX10_wordAt_c38, g_85_2, cv_85_0, cv_85_1, cv_85_2, cv_85_3, cv_85_4, l_19, l_86, cv_18_0, cv_18_1, cv_18_2, cv_18_3, cv_18_4, g_18_2, spX10_has, bi_0, bi_1, ne_eq, Classical.not_not, em_r, em_l]
    refine ⟨fun q => ?_, fun q => ⟨by omega, by omega, ?_⟩⟩
    · rw [if_neg q] at h; exact h
    · rw [lr_18 (by omega)]
      simp only [e_goto, e_lreturn, e_rl, wp_s, wpC_f, e_wJ, e_wJo, dX10_wordAt_14, dX10_wordAt_15, dX10_wordAt_16, dX10_wordAt_20, Nat.reduceAdd, jt_16_4]
      rw [if_pos q] at h
      exact ⟨by omega, by omega, h⟩
  · rename_i i
    refine ⟨Nat.le_of_ble_eq_true rfl, wp_ok (tbX10_wordAt_ok l) Q (fun pc => false) 15 0 _ [] S ?_⟩
    show wp cX10_wordAt tbX10_wordAt 2 (some .long) Q (fun pc => false) (aGo l mX10_wordAt Q) 15 0 [(0, .inr (.inr 85)), (1, .inl i)] [] S
    simp only [wp_s, wpC_f, wpC_t, e_wLd, e_wLd0, e_wLd1, e_wLd2, e_get1, e_get2, e_wJ, e_wJo, f40, f41, f42, f43, Nat.reduceAdd, Nat.reduceBEq, Nat.reduceMul, eq_self, true_or, or_true, true_and, dX10_wordAt_0, dX10_wordAt_1, dX10_wordAt_2, dX10_wordAt_5, dX10_wordAt_8, dX10_wordAt_9, dX10_wordAt_12, dX10_wordAt_13, dX10_wordAt_14, dX10_wordAt_15, dX10_wordAt_16, dX10_wordAt_19, dX10_wordAt_20, e_aload_n, e_iload_n, e_iconst, e_lconst, e_ifCond, e_goto, e_getfield, e_laload, e_aaload, e_invokevirtual, e_lreturn, lc0, lc1, e_rl, e_wIf_eq, fX10_21, ic_0, jt_16_4, jt_5_14, e_call, e_callS0, e_callS1, e_callS2, e_callS3, e_callS4, e_pop0, e_pop1, e_tl0, e_tl1, tbX10_wordAt_f, tbX10_wordAt_p, tbX10_wordAt_k, tbX10_wordAt_c38, g_85_2, cv_85_0, cv_85_1, cv_85_2, cv_85_3, cv_85_4, l_19, l_86, cv_18_0, cv_18_1, cv_18_2, cv_18_3, cv_18_4, g_18_2, spX10_has, bi_0, bi_1, ne_eq, Classical.not_not, em_r, em_l]
    refine ⟨fun q => ?_, fun q => ⟨by omega, by omega, ?_⟩⟩
    · rw [if_neg q] at h; exact h
    · rw [lr_85 (by omega)]
      simp only [e_goto, e_lreturn, e_rl, wp_s, wpC_f, e_wJ, e_wJo, dX10_wordAt_14, dX10_wordAt_15, dX10_wordAt_16, dX10_wordAt_20, Nat.reduceAdd, jt_16_4]
      rw [if_pos q] at h
      exact ⟨by omega, by omega, h⟩
  · exact h.elim
