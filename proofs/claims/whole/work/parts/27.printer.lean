/-! PRINTER (242; bytes 243, way 244; size slot 7) -/
def szP (S : aS) : Prop := 0 ≤ S.1 242 7 ∧ S.1 242 7 ≤ 8000
def pB (S : aS) (b : Int) : aS := if S.1 242 7 < 8000 then upI (upI S 243 (S.1 242 7).toNat (narB (narB b))) 242 7 (S.1 242 7 + 1) else S
/-- the state, these bytes printed -/
def emS (S : aS) : List Int → aS
  | [] => S
  | b :: r => emS (pB S b) r
theorem pB_sz {S : aS} {b : Int} (h : szP S) : szP (pB S b) := by
  unfold pB szP at *
  split
  · rw [up_hit]; omega
  · exact h
theorem em_sz : ∀ {l : List Int} {S : aS}, szP S → szP (emS S l)
  | [], _, h => h
  | _ :: r, _, h => em_sz (l := r) (pB_sz h)
theorem em_app : ∀ {l m : List Int} {S : aS}, emS (emS S l) m = emS S (l ++ m)
  | [], _, _ => rfl
  | b :: r, m, S => em_app (l := r) (S := pB S b)
theorem pB_f {S : aS} {b : Int} {i : Nat} (h : ¬ i = 242) (h2 : ¬ i = 243) : (pB S b).1 i = S.1 i := by
  unfold pB
  split
  · rw [up_f h, up_f h2]
  · rfl
theorem em_f : ∀ {l : List Int} {S : aS} {i : Nat}, ¬ i = 242 → ¬ i = 243 → (emS S l).1 i = S.1 i
  | [], _, _, _, _ => rfl
  | b :: r, S, i, h, h2 => (em_f (l := r) h h2).trans (pB_f h h2)
theorem em_1 {S : aS} {b : Int} : emS S [b] = pB S b := rfl
theorem pB_2 {S : aS} {b : Int} : (pB S b).2 = S.2 := by
  unfold pB; split <;> rfl
theorem em_2 : ∀ {l : List Int} {S : aS}, (emS S l).2 = S.2
  | [], _ => rfl
  | b :: r, S => (em_2 (l := r)).trans pB_2
def dgt (n : Int) : List Int := (if 1000 ≤ n then [48 + n / 1000 % 10] else []) ++ ((if 100 ≤ n then [48 + n / 100 % 10] else []) ++ ((if 10 ≤ n then [48 + n / 10 % 10] else []) ++ [48 + n / 1 % 10]))
def spX4_byteAt : aSp := fun as S Q => match as with
  | [.inr (.inr 242), .inl i] => S.1 242 7 ≤ 8000 ∧ (0 ≤ i ∧ i < S.1 242 7 → Q (some (.inl (S.1 243 i.toNat))) S) ∧ (¬ (0 ≤ i ∧ i < S.1 242 7) → Q (some (.inl (-1))) S)
  | _ => False
def tbX4_byteAt : aTb := (fX4, pX4, fun j => lk [] j, kX4)
theorem tbX4_byteAt_f : tbX4_byteAt.1 = fX4 := rfl
theorem tbX4_byteAt_p : tbX4_byteAt.2.1 = pX4 := rfl
theorem tbX4_byteAt_k : tbX4_byteAt.2.2.2 = kX4 := rfl
theorem tbX4_byteAt_all (l : Launch) : ∀ e ∈ ([] : List (Nat × Option Nat × Nat × aSp)), cOK l mX4_byteAt e.1 e.2.1 e.2.2.1 e.2.2.2 ∨ mOK mX4_byteAt e.1 e.2.1 e.2.2.1 e.2.2.2 := all_nil
theorem tbX4_byteAt_ok (l : Launch) : tOK l mX4_byteAt tbX4_byteAt := ⟨fX4_ok, pX4_ok, fun _ _ _ _ h => tbX4_byteAt_all l _ (lk_mem h), kX4_ok⟩
set_option maxRecDepth 20000 in
set_option maxHeartbeats 4000000 in
theorem okX4_byteAt (l : Launch) : aOK l mX4_byteAt spX4_byteAt := by
  refine aOK_of rfl fun as S Q h => ?_
  unfold spX4_byteAt at h
  split at h
  · rename_i i
    refine ⟨Nat.le_of_ble_eq_true rfl, wp_ok (tbX4_byteAt_ok l) Q (fun pc => false) 15 0 _ [] S ?_⟩
    show wp cX4_byteAt tbX4_byteAt 2 (some .int) Q (fun pc => false) (aGo l mX4_byteAt Q) 15 0 [(0, .inr (.inr 242)), (1, .inl i)] [] S
    simp only [wp_s, wpC_f, wpC_t, e_wLd, e_wLd0, e_wLd1, e_wLd2, e_get1, e_get2, e_wJ, e_wJo, f40, f41, f42, f43, Nat.reduceAdd, Nat.reduceBEq, Nat.reduceMul, eq_self, true_or, or_true, true_and, dX4_byteAt_0, dX4_byteAt_1, dX4_byteAt_4, dX4_byteAt_5, dX4_byteAt_6, dX4_byteAt_9, dX4_byteAt_12, dX4_byteAt_13, dX4_byteAt_16, dX4_byteAt_17, dX4_byteAt_18, dX4_byteAt_21, dX4_byteAt_22, e_aload_n, e_iload_n, e_iconst, e_ifCond, e_if_icmp, e_goto, e_getfield, e_baload, e_ireturn, e_ri, e_rz, e_wIf_lt, e_wIc_ge, fX4_11, fX4_39, ic_m1, jt_18_4, jt_1_20, jt_9_12, tbX4_byteAt_f, tbX4_byteAt_p, tbX4_byteAt_k, g_242_7, l_243, g_242_5]
    obtain ⟨h0, h1, h2⟩ := h
    repeat' (with_reducible first | intro _ | refine And.intro ?_ ?_)
    all_goals first | omega | exact h1 (by omega) | exact h2 (by omega)
  · exact h.elim
def spX4_addByte : aSp := fun as S Q => match as with
  | [.inr (.inr 242), .inl b] => szP S ∧ Q none (emS S [b])
  | _ => False
def tbX4_addByte : aTb := (fX4, pX4, fun j => lk [] j, kX4)
theorem tbX4_addByte_f : tbX4_addByte.1 = fX4 := rfl
theorem tbX4_addByte_p : tbX4_addByte.2.1 = pX4 := rfl
theorem tbX4_addByte_k : tbX4_addByte.2.2.2 = kX4 := rfl
theorem tbX4_addByte_all (l : Launch) : ∀ e ∈ ([] : List (Nat × Option Nat × Nat × aSp)), cOK l mX4_addByte e.1 e.2.1 e.2.2.1 e.2.2.2 ∨ mOK mX4_addByte e.1 e.2.1 e.2.2.1 e.2.2.2 := all_nil
theorem tbX4_addByte_ok (l : Launch) : tOK l mX4_addByte tbX4_addByte := ⟨fX4_ok, pX4_ok, fun _ _ _ _ h => tbX4_addByte_all l _ (lk_mem h), kX4_ok⟩
set_option maxRecDepth 20000 in
set_option maxHeartbeats 4000000 in
theorem okX4_addByte (l : Launch) : aOK l mX4_addByte spX4_addByte := by
  refine aOK_of rfl fun as S Q h => ?_
  unfold spX4_addByte at h
  split at h
  · rename_i b
    refine ⟨Nat.le_of_ble_eq_true rfl, wp_ok (tbX4_addByte_ok l) Q (fun pc => false) 22 0 _ [] S ?_⟩
    show wp cX4_addByte tbX4_addByte 2 none Q (fun pc => false) (aGo l mX4_addByte Q) 22 0 [(0, .inr (.inr 242)), (1, .inl b)] [] S
    simp only [wp_s, wpC_f, wpC_t, e_wLd, e_wLd0, e_wLd1, e_wLd2, e_get1, e_get2, e_wJ, e_wJo, f40, f41, f42, f43, Nat.reduceAdd, Nat.reduceBEq, Nat.reduceMul, eq_self, true_or, or_true, true_and, dX4_addByte_0, dX4_addByte_1, dX4_addByte_4, dX4_addByte_5, dX4_addByte_8, dX4_addByte_9, dX4_addByte_12, dX4_addByte_13, dX4_addByte_16, dX4_addByte_17, dX4_addByte_20, dX4_addByte_21, dX4_addByte_22, dX4_addByte_23, dX4_addByte_24, dX4_addByte_25, dX4_addByte_28, dX4_addByte_29, dX4_addByte_30, dX4_addByte_33, e_aload_n, e_iload_n, e_iconst, e_iadd, e_i2b, e_dup, e_if_icmp, e_getfield, e_putfield, e_arraylength, e_bastore, e_return_, e_wI2B, e_rv, e_wDup0, e_wDup1, e_wI2, e_wIc_ge, fX4_11, fX4_39, ic_1, jt_9_24, pX4_39, tbX4_addByte_f, tbX4_addByte_p, tbX4_addByte_k, g_242_7, p_242_7, s_243, n_243, g_242_5]
    obtain ⟨h0, h1⟩ := h
    unfold szP at h0
    rw [em_1] at h1
    unfold pB at h1
    repeat' (with_reducible first | intro _ | refine And.intro ?_ ?_)
    all_goals (try simp (disch := omega) only [wI_id, up_obj])
    all_goals first | omega | (rw [if_neg (by omega)] at h1; exact h1) | (rw [if_pos (by omega)] at h1; exact h1)
  · exact h.elim
def spX4_addNumber : aSp := fun as S Q => match as with
  | [.inr (.inr 242), .inl n] => szP S ∧ 0 ≤ n ∧ n ≤ 100000 ∧ Q none (emS S (dgt n))
  | _ => False
def tbX4_addNumber : aTb := (fX4, pX4, fun j => lk [(58, (some 4), 2, spX4_addByte)] j, kX4)
theorem tbX4_addNumber_f : tbX4_addNumber.1 = fX4 := rfl
theorem tbX4_addNumber_p : tbX4_addNumber.2.1 = pX4 := rfl
theorem tbX4_addNumber_k : tbX4_addNumber.2.2.2 = kX4 := rfl
theorem tbX4_addNumber_c58 : tbX4_addNumber.2.2.1 58 = some ((some 4), 2, spX4_addByte) := rfl
theorem tbX4_addNumber_all (l : Launch) : ∀ e ∈ ([(58, (some 4), 2, spX4_addByte)] : List (Nat × Option Nat × Nat × aSp)), cOK l mX4_addNumber e.1 e.2.1 e.2.2.1 e.2.2.2 ∨ mOK mX4_addNumber e.1 e.2.1 e.2.2.1 e.2.2.2 := all_cons (cOK_of (okX4_addByte l) meX4_addByte cfX4_58 (by decide) (by decide)) (all_nil)
theorem tbX4_addNumber_ok (l : Launch) : tOK l mX4_addNumber tbX4_addNumber := ⟨fX4_ok, pX4_ok, fun _ _ _ _ h => tbX4_addNumber_all l _ (lk_mem h), kX4_ok⟩
def dg0 (_ : Int) : List Int := []
def dg1 (n : Int) : List Int := [48 + n / 1 % 10]
def dg2 (n : Int) : List Int := (if 10 ≤ n then [48 + n / 10 % 10] else []) ++ dg1 n
def dg3 (n : Int) : List Int := (if 100 ≤ n then [48 + n / 100 % 10] else []) ++ dg2 n
def dg4 (n : Int) : List Int := (if 1000 ≤ n then [48 + n / 1000 % 10] else []) ++ dg3 n
theorem dg4_eq (n : Int) : dg4 n = dgt n := rfl
set_option maxRecDepth 20000 in
set_option maxHeartbeats 4000000 in
theorem lpN0 (l : Launch) (Q : Option aV → aS → Prop) : ∀ (n : Nat) (S : aS) (v : Int), szP S → (0 ≤ v ∧ v ≤ 100000) → Q none (emS S (dg0 v)) → aGo l mX4_addNumber Q 4 [(0, .inr (.inr 242)), (1, .inl v), (2, .inl 0)] [] S := by
  intro n
  induction n using Nat.strongRecOn with
  | _ n ih =>
  intro S  v  h0 h1 h2
  refine wp_go (tbX4_addNumber_ok l) (fun pc => pc == 4) 28 dX4_addNumber_4 ?_
  show ws1 tbX4_addNumber 3 none Q (wp cX4_addNumber tbX4_addNumber 3 none Q (fun pc => pc == 4) (aGo l mX4_addNumber Q) 28) (.iload_n 2) 1 4 [(0, .inr (.inr 242)), (1, .inl v), (2, .inl 0)] [] S
  simp only [wp_s, wpC_f, wpC_t, e_wLd, e_wLd0, e_wLd1, e_wLd2, e_get1, e_get2, e_wJ, e_wJo, f40, f41, f42, f43, Nat.reduceAdd, Nat.reduceBEq, Nat.reduceMul, eq_self, true_or, or_true, true_and, dX4_addNumber_0, dX4_addNumber_3, dX4_addNumber_4, dX4_addNumber_5, dX4_addNumber_6, dX4_addNumber_9, dX4_addNumber_10, dX4_addNumber_11, dX4_addNumber_14, dX4_addNumber_15, dX4_addNumber_16, dX4_addNumber_19, dX4_addNumber_20, dX4_addNumber_22, dX4_addNumber_23, dX4_addNumber_24, dX4_addNumber_25, dX4_addNumber_27, dX4_addNumber_28, dX4_addNumber_29, dX4_addNumber_32, dX4_addNumber_33, dX4_addNumber_35, dX4_addNumber_36, dX4_addNumber_37, dX4_addNumber_40, e_aload_n, e_iload_n, e_istore_n, e_iconst, e_bipush, e_sipush, e_iadd, e_idiv, e_irem, e_if_icmp, e_goto, e_invokevirtual, e_return_, e_wSt0, e_wSt1, e_wSt2, e_isL0, e_isL1, e_isL2, e_lset, e_lclr0, e_lclr1, e_lclr2, e_lput0, e_lput1, e_lput2, e_wInc, e_wInc0, Nat.reduceLT, not_false_eq_true, Bool.or_false, Bool.false_or, Bool.or_true, Bool.true_or, Bool.and_false, Bool.false_and, Bool.and_true, Bool.true_and, e_wD2, e_wI2, e_rv, e_wIc_ne, e_wIc_lt, e_wIc_ge, bp_10, bp_48, ic_1, jt_11_8, jt_16_16, jt_37_m33, jt_6_34, sp_1000, e_call, e_callS0, e_callS1, e_callS2, e_callS3, e_callS4, e_pop0, e_pop1, e_tl0, e_tl1, tbX4_addNumber_f, tbX4_addNumber_p, tbX4_addNumber_k, tbX4_addNumber_c58, cv_242_0, cv_242_1, cv_242_2, cv_242_3, cv_242_4, spX4_addByte]
  exact ⟨fun _ => h2, fun q => absurd (by decide : (0 : Int) < 1) q⟩
set_option maxRecDepth 20000 in
set_option maxHeartbeats 4000000 in
theorem lpN1 (l : Launch) (Q : Option aV → aS → Prop) : ∀ (n : Nat) (S : aS) (v : Int), szP S → (0 ≤ v ∧ v ≤ 100000) → Q none (emS S (dg1 v)) → aGo l mX4_addNumber Q 4 [(0, .inr (.inr 242)), (1, .inl v), (2, .inl 1)] [] S := by
  intro n
  induction n using Nat.strongRecOn with
  | _ n ih =>
  intro S  v  h0 h1 h2
  refine wp_go (tbX4_addNumber_ok l) (fun pc => pc == 4) 28 dX4_addNumber_4 ?_
  show ws1 tbX4_addNumber 3 none Q (wp cX4_addNumber tbX4_addNumber 3 none Q (fun pc => pc == 4) (aGo l mX4_addNumber Q) 28) (.iload_n 2) 1 4 [(0, .inr (.inr 242)), (1, .inl v), (2, .inl 1)] [] S
  simp only [wp_s, wpC_f, wpC_t, e_wLd, e_wLd0, e_wLd1, e_wLd2, e_get1, e_get2, e_wJ, e_wJo, f40, f41, f42, f43, Nat.reduceAdd, Nat.reduceBEq, Nat.reduceMul, eq_self, true_or, or_true, true_and, dX4_addNumber_0, dX4_addNumber_3, dX4_addNumber_4, dX4_addNumber_5, dX4_addNumber_6, dX4_addNumber_9, dX4_addNumber_10, dX4_addNumber_11, dX4_addNumber_14, dX4_addNumber_15, dX4_addNumber_16, dX4_addNumber_19, dX4_addNumber_20, dX4_addNumber_22, dX4_addNumber_23, dX4_addNumber_24, dX4_addNumber_25, dX4_addNumber_27, dX4_addNumber_28, dX4_addNumber_29, dX4_addNumber_32, dX4_addNumber_33, dX4_addNumber_35, dX4_addNumber_36, dX4_addNumber_37, dX4_addNumber_40, e_aload_n, e_iload_n, e_istore_n, e_iconst, e_bipush, e_sipush, e_iadd, e_idiv, e_irem, e_if_icmp, e_goto, e_invokevirtual, e_return_, e_wSt0, e_wSt1, e_wSt2, e_isL0, e_isL1, e_isL2, e_lset, e_lclr0, e_lclr1, e_lclr2, e_lput0, e_lput1, e_lput2, e_wInc, e_wInc0, Nat.reduceLT, not_false_eq_true, Bool.or_false, Bool.false_or, Bool.or_true, Bool.true_or, Bool.and_false, Bool.false_and, Bool.and_true, Bool.true_and, e_wD2, e_wI2, e_rv, e_wIc_ne, e_wIc_lt, e_wIc_ge, bp_10, bp_48, ic_1, jt_11_8, jt_16_16, jt_37_m33, jt_6_34, sp_1000, e_call, e_callS0, e_callS1, e_callS2, e_callS3, e_callS4, e_pop0, e_pop1, e_tl0, e_tl1, tbX4_addNumber_f, tbX4_addNumber_p, tbX4_addNumber_k, tbX4_addNumber_c58, cv_242_0, cv_242_1, cv_242_2, cv_242_3, cv_242_4, spX4_addByte]
  have ed : v.tdiv 1 = v / 1 := Int.tdiv_eq_ediv_of_nonneg h1.1
  have ev : wI (v.tdiv 1) = v / 1 := by rw [ed]; exact wI_id (by omega) (by omega)
  have em : (v / 1).tmod 10 = v / 1 % 10 := Int.tmod_eq_emod_of_nonneg (by omega)
  have eu : wI (Int.tdiv 1 10) = 0 := by decide
  simp (disch := omega) only [ev, em, eu, wI_id]
  unfold dg1 at h2
  refine ⟨fun q => absurd q (by decide), fun _ => ⟨fun q => ?_, fun q => ?_⟩⟩
  · exact ⟨by decide, by decide, h0, by decide, lpN0 l Q 0 _ v (em_sz h0) h1 h2⟩
  · exact ⟨fun q2 => absurd trivial q2, fun _ => ⟨by decide, by decide, h0, by decide, lpN0 l Q 0 _ v (em_sz h0) h1 h2⟩⟩
set_option maxRecDepth 20000 in
set_option maxHeartbeats 4000000 in
theorem lpN2 (l : Launch) (Q : Option aV → aS → Prop) : ∀ (n : Nat) (S : aS) (v : Int), szP S → (0 ≤ v ∧ v ≤ 100000) → Q none (emS S (dg2 v)) → aGo l mX4_addNumber Q 4 [(0, .inr (.inr 242)), (1, .inl v), (2, .inl 10)] [] S := by
  intro n
  induction n using Nat.strongRecOn with
  | _ n ih =>
  intro S  v  h0 h1 h2
  refine wp_go (tbX4_addNumber_ok l) (fun pc => pc == 4) 28 dX4_addNumber_4 ?_
  show ws1 tbX4_addNumber 3 none Q (wp cX4_addNumber tbX4_addNumber 3 none Q (fun pc => pc == 4) (aGo l mX4_addNumber Q) 28) (.iload_n 2) 1 4 [(0, .inr (.inr 242)), (1, .inl v), (2, .inl 10)] [] S
  simp only [wp_s, wpC_f, wpC_t, e_wLd, e_wLd0, e_wLd1, e_wLd2, e_get1, e_get2, e_wJ, e_wJo, f40, f41, f42, f43, Nat.reduceAdd, Nat.reduceBEq, Nat.reduceMul, eq_self, true_or, or_true, true_and, dX4_addNumber_0, dX4_addNumber_3, dX4_addNumber_4, dX4_addNumber_5, dX4_addNumber_6, dX4_addNumber_9, dX4_addNumber_10, dX4_addNumber_11, dX4_addNumber_14, dX4_addNumber_15, dX4_addNumber_16, dX4_addNumber_19, dX4_addNumber_20, dX4_addNumber_22, dX4_addNumber_23, dX4_addNumber_24, dX4_addNumber_25, dX4_addNumber_27, dX4_addNumber_28, dX4_addNumber_29, dX4_addNumber_32, dX4_addNumber_33, dX4_addNumber_35, dX4_addNumber_36, dX4_addNumber_37, dX4_addNumber_40, e_aload_n, e_iload_n, e_istore_n, e_iconst, e_bipush, e_sipush, e_iadd, e_idiv, e_irem, e_if_icmp, e_goto, e_invokevirtual, e_return_, e_wSt0, e_wSt1, e_wSt2, e_isL0, e_isL1, e_isL2, e_lset, e_lclr0, e_lclr1, e_lclr2, e_lput0, e_lput1, e_lput2, e_wInc, e_wInc0, Nat.reduceLT, not_false_eq_true, Bool.or_false, Bool.false_or, Bool.or_true, Bool.true_or, Bool.and_false, Bool.false_and, Bool.and_true, Bool.true_and, e_wD2, e_wI2, e_rv, e_wIc_ne, e_wIc_lt, e_wIc_ge, bp_10, bp_48, ic_1, jt_11_8, jt_16_16, jt_37_m33, jt_6_34, sp_1000, e_call, e_callS0, e_callS1, e_callS2, e_callS3, e_callS4, e_pop0, e_pop1, e_tl0, e_tl1, tbX4_addNumber_f, tbX4_addNumber_p, tbX4_addNumber_k, tbX4_addNumber_c58, cv_242_0, cv_242_1, cv_242_2, cv_242_3, cv_242_4, spX4_addByte]
  have ed : v.tdiv 10 = v / 10 := Int.tdiv_eq_ediv_of_nonneg h1.1
  have ev : wI (v.tdiv 10) = v / 10 := by rw [ed]; exact wI_id (by omega) (by omega)
  have em : (v / 10).tmod 10 = v / 10 % 10 := Int.tmod_eq_emod_of_nonneg (by omega)
  have eu : wI (Int.tdiv 10 10) = 1 := by decide
  simp (disch := omega) only [ev, em, eu, wI_id]
  unfold dg2 at h2
  refine ⟨fun q => absurd q (by decide), fun _ => ⟨fun q => ?_, fun q => ?_⟩⟩
  · rw [if_pos q, ← em_app] at h2
    exact ⟨by decide, by decide, h0, by decide, lpN1 l Q 0 _ v (em_sz h0) h1 h2⟩
  · rw [if_neg q] at h2
    exact ⟨fun _ => ⟨by decide, lpN1 l Q 0 _ v h0 h1 h2⟩, fun q2 => absurd q2 (by decide)⟩
set_option maxRecDepth 20000 in
set_option maxHeartbeats 4000000 in
theorem lpN3 (l : Launch) (Q : Option aV → aS → Prop) : ∀ (n : Nat) (S : aS) (v : Int), szP S → (0 ≤ v ∧ v ≤ 100000) → Q none (emS S (dg3 v)) → aGo l mX4_addNumber Q 4 [(0, .inr (.inr 242)), (1, .inl v), (2, .inl 100)] [] S := by
  intro n
  induction n using Nat.strongRecOn with
  | _ n ih =>
  intro S  v  h0 h1 h2
  refine wp_go (tbX4_addNumber_ok l) (fun pc => pc == 4) 28 dX4_addNumber_4 ?_
  show ws1 tbX4_addNumber 3 none Q (wp cX4_addNumber tbX4_addNumber 3 none Q (fun pc => pc == 4) (aGo l mX4_addNumber Q) 28) (.iload_n 2) 1 4 [(0, .inr (.inr 242)), (1, .inl v), (2, .inl 100)] [] S
  simp only [wp_s, wpC_f, wpC_t, e_wLd, e_wLd0, e_wLd1, e_wLd2, e_get1, e_get2, e_wJ, e_wJo, f40, f41, f42, f43, Nat.reduceAdd, Nat.reduceBEq, Nat.reduceMul, eq_self, true_or, or_true, true_and, dX4_addNumber_0, dX4_addNumber_3, dX4_addNumber_4, dX4_addNumber_5, dX4_addNumber_6, dX4_addNumber_9, dX4_addNumber_10, dX4_addNumber_11, dX4_addNumber_14, dX4_addNumber_15, dX4_addNumber_16, dX4_addNumber_19, dX4_addNumber_20, dX4_addNumber_22, dX4_addNumber_23, dX4_addNumber_24, dX4_addNumber_25, dX4_addNumber_27, dX4_addNumber_28, dX4_addNumber_29, dX4_addNumber_32, dX4_addNumber_33, dX4_addNumber_35, dX4_addNumber_36, dX4_addNumber_37, dX4_addNumber_40, e_aload_n, e_iload_n, e_istore_n, e_iconst, e_bipush, e_sipush, e_iadd, e_idiv, e_irem, e_if_icmp, e_goto, e_invokevirtual, e_return_, e_wSt0, e_wSt1, e_wSt2, e_isL0, e_isL1, e_isL2, e_lset, e_lclr0, e_lclr1, e_lclr2, e_lput0, e_lput1, e_lput2, e_wInc, e_wInc0, Nat.reduceLT, not_false_eq_true, Bool.or_false, Bool.false_or, Bool.or_true, Bool.true_or, Bool.and_false, Bool.false_and, Bool.and_true, Bool.true_and, e_wD2, e_wI2, e_rv, e_wIc_ne, e_wIc_lt, e_wIc_ge, bp_10, bp_48, ic_1, jt_11_8, jt_16_16, jt_37_m33, jt_6_34, sp_1000, e_call, e_callS0, e_callS1, e_callS2, e_callS3, e_callS4, e_pop0, e_pop1, e_tl0, e_tl1, tbX4_addNumber_f, tbX4_addNumber_p, tbX4_addNumber_k, tbX4_addNumber_c58, cv_242_0, cv_242_1, cv_242_2, cv_242_3, cv_242_4, spX4_addByte]
  have ed : v.tdiv 100 = v / 100 := Int.tdiv_eq_ediv_of_nonneg h1.1
  have ev : wI (v.tdiv 100) = v / 100 := by rw [ed]; exact wI_id (by omega) (by omega)
  have em : (v / 100).tmod 10 = v / 100 % 10 := Int.tmod_eq_emod_of_nonneg (by omega)
  have eu : wI (Int.tdiv 100 10) = 10 := by decide
  simp (disch := omega) only [ev, em, eu, wI_id]
  unfold dg3 at h2
  refine ⟨fun q => absurd q (by decide), fun _ => ⟨fun q => ?_, fun q => ?_⟩⟩
  · rw [if_pos q, ← em_app] at h2
    exact ⟨by decide, by decide, h0, by decide, lpN2 l Q 0 _ v (em_sz h0) h1 h2⟩
  · rw [if_neg q] at h2
    exact ⟨fun _ => ⟨by decide, lpN2 l Q 0 _ v h0 h1 h2⟩, fun q2 => absurd q2 (by decide)⟩
set_option maxRecDepth 20000 in
set_option maxHeartbeats 4000000 in
theorem lpN4 (l : Launch) (Q : Option aV → aS → Prop) : ∀ (n : Nat) (S : aS) (v : Int), szP S → (0 ≤ v ∧ v ≤ 100000) → Q none (emS S (dg4 v)) → aGo l mX4_addNumber Q 4 [(0, .inr (.inr 242)), (1, .inl v), (2, .inl 1000)] [] S := by
  intro n
  induction n using Nat.strongRecOn with
  | _ n ih =>
  intro S  v  h0 h1 h2
  refine wp_go (tbX4_addNumber_ok l) (fun pc => pc == 4) 28 dX4_addNumber_4 ?_
  show ws1 tbX4_addNumber 3 none Q (wp cX4_addNumber tbX4_addNumber 3 none Q (fun pc => pc == 4) (aGo l mX4_addNumber Q) 28) (.iload_n 2) 1 4 [(0, .inr (.inr 242)), (1, .inl v), (2, .inl 1000)] [] S
  simp only [wp_s, wpC_f, wpC_t, e_wLd, e_wLd0, e_wLd1, e_wLd2, e_get1, e_get2, e_wJ, e_wJo, f40, f41, f42, f43, Nat.reduceAdd, Nat.reduceBEq, Nat.reduceMul, eq_self, true_or, or_true, true_and, dX4_addNumber_0, dX4_addNumber_3, dX4_addNumber_4, dX4_addNumber_5, dX4_addNumber_6, dX4_addNumber_9, dX4_addNumber_10, dX4_addNumber_11, dX4_addNumber_14, dX4_addNumber_15, dX4_addNumber_16, dX4_addNumber_19, dX4_addNumber_20, dX4_addNumber_22, dX4_addNumber_23, dX4_addNumber_24, dX4_addNumber_25, dX4_addNumber_27, dX4_addNumber_28, dX4_addNumber_29, dX4_addNumber_32, dX4_addNumber_33, dX4_addNumber_35, dX4_addNumber_36, dX4_addNumber_37, dX4_addNumber_40, e_aload_n, e_iload_n, e_istore_n, e_iconst, e_bipush, e_sipush, e_iadd, e_idiv, e_irem, e_if_icmp, e_goto, e_invokevirtual, e_return_, e_wSt0, e_wSt1, e_wSt2, e_isL0, e_isL1, e_isL2, e_lset, e_lclr0, e_lclr1, e_lclr2, e_lput0, e_lput1, e_lput2, e_wInc, e_wInc0, Nat.reduceLT, not_false_eq_true, Bool.or_false, Bool.false_or, Bool.or_true, Bool.true_or, Bool.and_false, Bool.false_and, Bool.and_true, Bool.true_and, e_wD2, e_wI2, e_rv, e_wIc_ne, e_wIc_lt, e_wIc_ge, bp_10, bp_48, ic_1, jt_11_8, jt_16_16, jt_37_m33, jt_6_34, sp_1000, e_call, e_callS0, e_callS1, e_callS2, e_callS3, e_callS4, e_pop0, e_pop1, e_tl0, e_tl1, tbX4_addNumber_f, tbX4_addNumber_p, tbX4_addNumber_k, tbX4_addNumber_c58, cv_242_0, cv_242_1, cv_242_2, cv_242_3, cv_242_4, spX4_addByte]
  have ed : v.tdiv 1000 = v / 1000 := Int.tdiv_eq_ediv_of_nonneg h1.1
  have ev : wI (v.tdiv 1000) = v / 1000 := by rw [ed]; exact wI_id (by omega) (by omega)
  have em : (v / 1000).tmod 10 = v / 1000 % 10 := Int.tmod_eq_emod_of_nonneg (by omega)
  have eu : wI (Int.tdiv 1000 10) = 100 := by decide
  simp (disch := omega) only [ev, em, eu, wI_id]
  unfold dg4 at h2
  refine ⟨fun q => absurd q (by decide), fun _ => ⟨fun q => ?_, fun q => ?_⟩⟩
  · rw [if_pos q, ← em_app] at h2
    exact ⟨by decide, by decide, h0, by decide, lpN3 l Q 0 _ v (em_sz h0) h1 h2⟩
  · rw [if_neg q] at h2
    exact ⟨fun _ => ⟨by decide, lpN3 l Q 0 _ v h0 h1 h2⟩, fun q2 => absurd q2 (by decide)⟩
set_option maxRecDepth 20000 in
set_option maxHeartbeats 4000000 in
theorem okX4_addNumber (l : Launch) : aOK l mX4_addNumber spX4_addNumber := by
  refine aOK_of rfl fun as S Q h => ?_
  unfold spX4_addNumber at h
  split at h
  · rename_i v
    refine ⟨Nat.le_of_ble_eq_true rfl, wp_ok (tbX4_addNumber_ok l) Q (fun pc => pc == 4) 28 0 _ [] S ?_⟩
    show wp cX4_addNumber tbX4_addNumber 3 none Q (fun pc => pc == 4) (aGo l mX4_addNumber Q) 28 0 [(0, .inr (.inr 242)), (1, .inl v)] [] S
    simp only [wp_s, wpC_f, wpC_t, e_wLd, e_wLd0, e_wLd1, e_wLd2, e_get1, e_get2, e_wJ, e_wJo, f40, f41, f42, f43, Nat.reduceAdd, Nat.reduceBEq, Nat.reduceMul, eq_self, true_or, or_true, true_and, dX4_addNumber_0, dX4_addNumber_3, dX4_addNumber_4, dX4_addNumber_5, dX4_addNumber_6, dX4_addNumber_9, dX4_addNumber_10, dX4_addNumber_11, dX4_addNumber_14, dX4_addNumber_15, dX4_addNumber_16, dX4_addNumber_19, dX4_addNumber_20, dX4_addNumber_22, dX4_addNumber_23, dX4_addNumber_24, dX4_addNumber_25, dX4_addNumber_27, dX4_addNumber_28, dX4_addNumber_29, dX4_addNumber_32, dX4_addNumber_33, dX4_addNumber_35, dX4_addNumber_36, dX4_addNumber_37, dX4_addNumber_40, e_aload_n, e_iload_n, e_istore_n, e_iconst, e_bipush, e_sipush, e_iadd, e_idiv, e_irem, e_if_icmp, e_goto, e_invokevirtual, e_return_, e_wSt0, e_wSt1, e_wSt2, e_isL0, e_isL1, e_isL2, e_lset, e_lclr0, e_lclr1, e_lclr2, e_lput0, e_lput1, e_lput2, e_wInc, e_wInc0, Nat.reduceLT, not_false_eq_true, Bool.or_false, Bool.false_or, Bool.or_true, Bool.true_or, Bool.and_false, Bool.false_and, Bool.and_true, Bool.true_and, e_wD2, e_wI2, e_rv, e_wIc_ne, e_wIc_lt, e_wIc_ge, bp_10, bp_48, ic_1, jt_11_8, jt_16_16, jt_37_m33, jt_6_34, sp_1000, e_call, e_callS0, e_callS1, e_callS2, e_callS3, e_callS4, e_pop0, e_pop1, e_tl0, e_tl1, tbX4_addNumber_f, tbX4_addNumber_p, tbX4_addNumber_k, tbX4_addNumber_c58, cv_242_0, cv_242_1, cv_242_2, cv_242_3, cv_242_4]
    exact lpN4 l Q 0 S v h.1 ⟨h.2.1, h.2.2.1⟩ h.2.2.2
  · exact h.elim
def wl (w : Int) : Nat → Nat → List Int
  | 0, _ => []
  | m + 1, i => (96 + lAnd (lUshr w (5 * (lt5 12 w - 1 - (i : Int)))) 31) :: wl w m (i + 1)
def wdL (w : Int) : List Int := wl w (lt5 12 w).toNat 0
theorem em_cons {S : aS} {b : Int} {l : List Int} : emS (emS S [b]) l = emS S (b :: l) := rfl
def spX4_addWord : aSp := fun as S Q => match as with
  | [.inr (.inr 242), .inr (.inl w)] => wrd w ∧ szP S ∧ Q none (emS S (wdL w))
  | _ => False
def tbX4_addWord : aTb := (fX4, pX4, fun j => lk [(58, (some 4), 2, spX4_addByte), (127, none, 1, spX10_lettersIn), (133, none, 2, spX10_letterAt)] j, kX4)
theorem tbX4_addWord_f : tbX4_addWord.1 = fX4 := rfl
theorem tbX4_addWord_p : tbX4_addWord.2.1 = pX4 := rfl
theorem tbX4_addWord_k : tbX4_addWord.2.2.2 = kX4 := rfl
theorem tbX4_addWord_c58 : tbX4_addWord.2.2.1 58 = some ((some 4), 2, spX4_addByte) := rfl
theorem tbX4_addWord_c127 : tbX4_addWord.2.2.1 127 = some (none, 1, spX10_lettersIn) := rfl
theorem tbX4_addWord_c133 : tbX4_addWord.2.2.1 133 = some (none, 2, spX10_letterAt) := rfl
theorem tbX4_addWord_all (l : Launch) : ∀ e ∈ ([(58, (some 4), 2, spX4_addByte), (127, none, 1, spX10_lettersIn), (133, none, 2, spX10_letterAt)] : List (Nat × Option Nat × Nat × aSp)), cOK l mX4_addWord e.1 e.2.1 e.2.2.1 e.2.2.2 ∨ mOK mX4_addWord e.1 e.2.1 e.2.2.1 e.2.2.2 := all_cons (cOK_of (okX4_addByte l) meX4_addByte cfX4_58 (by decide) (by decide)) (all_cons (cOK_of (okX10_lettersIn l) meX10_lettersIn cfX4_127 (by decide) (by decide)) (all_cons (cOK_of (okX10_letterAt l) meX10_letterAt cfX4_133 (by decide) (by decide)) (all_nil)))
theorem tbX4_addWord_ok (l : Launch) : tOK l mX4_addWord tbX4_addWord := ⟨fX4_ok, pX4_ok, fun _ _ _ _ h => tbX4_addWord_all l _ (lk_mem h), kX4_ok⟩
set_option maxRecDepth 20000 in
set_option maxHeartbeats 4000000 in
theorem lpX4_addWord (l : Launch) (Q : Option aV → aS → Prop) : ∀ (n : Nat) (S : aS) (w : Int) (i : Nat), (i : Int) + n = lt5 12 w → wrd w → szP S → Q none (emS S (wl w n i)) → aGo l mX4_addWord Q 8 [(0, .inr (.inr 242)), (1, .inr (.inl w)), (3, .inl (lt5 12 w)), (4, .inl (i : Int))] [] S := by
  intro n
  induction n using Nat.strongRecOn with
  | _ n ih =>
  intro S  w  i  h0 h1 h2 h3
  refine wp_go (tbX4_addWord_ok l) (fun pc => pc == 8) 18 dX4_addWord_8 ?_
  show ws1 tbX4_addWord 5 none Q (wp cX4_addWord tbX4_addWord 5 none Q (fun pc => pc == 8) (aGo l mX4_addWord Q) 18) (.iload 4) 2 8 [(0, .inr (.inr 242)), (1, .inr (.inl w)), (3, .inl (lt5 12 w)), (4, .inl (i : Int))] [] S
  simp only [wp_s, wpC_f, wpC_t, e_wLd, e_wLd0, e_wLd1, e_wLd2, e_get1, e_get2, e_wJ, e_wJo, f40, f41, f42, f43, Nat.reduceAdd, Nat.reduceBEq, Nat.reduceMul, eq_self, true_or, or_true, true_and, dX4_addWord_0, dX4_addWord_1, dX4_addWord_4, dX4_addWord_5, dX4_addWord_6, dX4_addWord_8, dX4_addWord_10, dX4_addWord_11, dX4_addWord_14, dX4_addWord_15, dX4_addWord_16, dX4_addWord_18, dX4_addWord_21, dX4_addWord_24, dX4_addWord_27, dX4_addWord_30, e_aload_n, e_iload_n, e_iload, e_lload_n, e_istore_n, e_istore, e_iconst, e_iinc, e_if_icmp, e_goto, e_invokevirtual, e_invokestatic, e_return_, e_wSt0, e_wSt1, e_wSt2, e_isL0, e_isL1, e_isL2, e_lset, e_lclr0, e_lclr1, e_lclr2, e_lput0, e_lput1, e_lput2, e_wInc, e_wInc0, Nat.reduceLT, not_false_eq_true, Bool.or_false, Bool.false_or, Bool.or_true, Bool.true_or, Bool.and_false, Bool.false_and, Bool.and_true, Bool.true_and, e_rv, e_wIc_ge, ic_0, jt_11_19, jt_27_m19, e_call, e_callS0, e_callS1, e_callS2, e_callS3, e_callS4, e_pop0, e_pop1, e_tl0, e_tl1, tbX4_addWord_f, tbX4_addWord_p, tbX4_addWord_k, tbX4_addWord_c58, tbX4_addWord_c127, tbX4_addWord_c133, cv_242_0, cv_242_1, cv_242_2, cv_242_3, cv_242_4, spX10_letterAt, spX4_addByte]
  have hb := lt5_b 12 w
  simp (disch := omega) only [wI_id]
  refine ⟨fun q => ?_, fun q => ⟨h1, by omega, by omega, fun q2 => absurd q2 (by omega), fun q2 => ⟨h2, ?_⟩⟩⟩
  · obtain rfl : n = 0 := by omega
    exact h3
  · obtain ⟨m, rfl⟩ : ∃ m, n = m + 1 := ⟨n - 1, by omega⟩
    exact ih m (by omega) _ w (i + 1) (by omega) h1 (em_sz h2) h3
set_option maxRecDepth 20000 in
set_option maxHeartbeats 4000000 in
theorem okX4_addWord (l : Launch) : aOK l mX4_addWord spX4_addWord := by
  refine aOK_of rfl fun as S Q h => ?_
  unfold spX4_addWord at h
  split at h
  · rename_i w
    refine ⟨Nat.le_of_ble_eq_true rfl, wp_ok (tbX4_addWord_ok l) Q (fun pc => pc == 8) 18 0 _ [] S ?_⟩
    show wp cX4_addWord tbX4_addWord 5 none Q (fun pc => pc == 8) (aGo l mX4_addWord Q) 18 0 [(0, .inr (.inr 242)), (1, .inr (.inl w))] [] S
    simp only [wp_s, wpC_f, wpC_t, e_wLd, e_wLd0, e_wLd1, e_wLd2, e_get1, e_get2, e_wJ, e_wJo, f40, f41, f42, f43, Nat.reduceAdd, Nat.reduceBEq, Nat.reduceMul, eq_self, true_or, or_true, true_and, dX4_addWord_0, dX4_addWord_1, dX4_addWord_4, dX4_addWord_5, dX4_addWord_6, dX4_addWord_8, dX4_addWord_10, dX4_addWord_11, dX4_addWord_14, dX4_addWord_15, dX4_addWord_16, dX4_addWord_18, dX4_addWord_21, dX4_addWord_24, dX4_addWord_27, dX4_addWord_30, e_aload_n, e_iload_n, e_iload, e_lload_n, e_istore_n, e_istore, e_iconst, e_iinc, e_if_icmp, e_goto, e_invokevirtual, e_invokestatic, e_return_, e_wSt0, e_wSt1, e_wSt2, e_isL0, e_isL1, e_isL2, e_lset, e_lclr0, e_lclr1, e_lclr2, e_lput0, e_lput1, e_lput2, e_wInc, e_wInc0, Nat.reduceLT, not_false_eq_true, Bool.or_false, Bool.false_or, Bool.or_true, Bool.true_or, Bool.and_false, Bool.false_and, Bool.and_true, Bool.true_and, e_rv, e_wIc_ge, ic_0, jt_11_19, jt_27_m19, e_call, e_callS0, e_callS1, e_callS2, e_callS3, e_callS4, e_pop0, e_pop1, e_tl0, e_tl1, tbX4_addWord_f, tbX4_addWord_p, tbX4_addWord_k, tbX4_addWord_c58, tbX4_addWord_c127, tbX4_addWord_c133, cv_242_0, cv_242_1, cv_242_2, cv_242_3, cv_242_4, spX10_lettersIn]
    have hb := lt5_b 12 w
    simp only [lt5_9 h.1]
    exact ⟨wrdC_of h.1, lpX4_addWord l Q (lt5 12 w).toNat S w 0 (by omega) h.1 h.2.1 h.2.2⟩
  · exact h.elim
def hpL (n : Int) : List Int := if 0 < n then 32 :: 43 :: dgt n else []
def spX4_addHeap : aSp := fun as S Q => match as with
  | [.inr (.inr 242), .inl n] => szP S ∧ n ≤ 100000 ∧ Q none (emS S (hpL n))
  | _ => False
def tbX4_addHeap : aTb := (fX4, pX4, fun j => lk [(58, (some 4), 2, spX4_addByte), (115, (some 4), 2, spX4_addNumber)] j, kX4)
theorem tbX4_addHeap_f : tbX4_addHeap.1 = fX4 := rfl
theorem tbX4_addHeap_p : tbX4_addHeap.2.1 = pX4 := rfl
theorem tbX4_addHeap_k : tbX4_addHeap.2.2.2 = kX4 := rfl
theorem tbX4_addHeap_c58 : tbX4_addHeap.2.2.1 58 = some ((some 4), 2, spX4_addByte) := rfl
theorem tbX4_addHeap_c115 : tbX4_addHeap.2.2.1 115 = some ((some 4), 2, spX4_addNumber) := rfl
theorem tbX4_addHeap_all (l : Launch) : ∀ e ∈ ([(58, (some 4), 2, spX4_addByte), (115, (some 4), 2, spX4_addNumber)] : List (Nat × Option Nat × Nat × aSp)), cOK l mX4_addHeap e.1 e.2.1 e.2.2.1 e.2.2.2 ∨ mOK mX4_addHeap e.1 e.2.1 e.2.2.1 e.2.2.2 := all_cons (cOK_of (okX4_addByte l) meX4_addByte cfX4_58 (by decide) (by decide)) (all_cons (cOK_of (okX4_addNumber l) meX4_addNumber cfX4_115 (by decide) (by decide)) (all_nil))
theorem tbX4_addHeap_ok (l : Launch) : tOK l mX4_addHeap tbX4_addHeap := ⟨fX4_ok, pX4_ok, fun _ _ _ _ h => tbX4_addHeap_all l _ (lk_mem h), kX4_ok⟩
set_option maxRecDepth 20000 in
set_option maxHeartbeats 4000000 in
theorem okX4_addHeap (l : Launch) : aOK l mX4_addHeap spX4_addHeap := by
  refine aOK_of rfl fun as S Q h => ?_
  unfold spX4_addHeap at h
  split at h
  · rename_i n
    refine ⟨Nat.le_of_ble_eq_true rfl, wp_ok (tbX4_addHeap_ok l) Q (fun pc => false) 14 0 _ [] S ?_⟩
    show wp cX4_addHeap tbX4_addHeap 2 none Q (fun pc => false) (aGo l mX4_addHeap Q) 14 0 [(0, .inr (.inr 242)), (1, .inl n)] [] S
    simp only [wp_s, wpC_f, wpC_t, e_wLd, e_wLd0, e_wLd1, e_wLd2, e_get1, e_get2, e_wJ, e_wJo, f40, f41, f42, f43, Nat.reduceAdd, Nat.reduceBEq, Nat.reduceMul, eq_self, true_or, or_true, true_and, dX4_addHeap_0, dX4_addHeap_1, dX4_addHeap_4, dX4_addHeap_5, dX4_addHeap_7, dX4_addHeap_10, dX4_addHeap_11, dX4_addHeap_13, dX4_addHeap_16, dX4_addHeap_17, dX4_addHeap_18, dX4_addHeap_21, e_aload_n, e_iload_n, e_bipush, e_ifCond, e_invokevirtual, e_return_, e_rv, e_wIf_le, bp_32, bp_43, jt_1_20, e_call, e_callS0, e_callS1, e_callS2, e_callS3, e_callS4, e_pop0, e_pop1, e_tl0, e_tl1, tbX4_addHeap_f, tbX4_addHeap_p, tbX4_addHeap_k, tbX4_addHeap_c58, tbX4_addHeap_c115, cv_242_0, cv_242_1, cv_242_2, cv_242_3, cv_242_4, spX4_addByte, spX4_addNumber]
    obtain ⟨h0, h1, h2⟩ := h
    unfold hpL at h2
    refine ⟨fun q => ?_, fun q => ⟨h0, em_sz h0, em_sz (em_sz h0), by omega, h1, ?_⟩⟩
    · rw [if_neg (by omega)] at h2; exact h2
    · rw [if_pos (by omega)] at h2; exact h2
  · exact h.elim
def wiL (n a b : Int) : List Int := 40 :: ((if 0 < n then dgt a ++ ((if b = a then [] else 45 :: dgt b) ++ [44]) else []) ++ (dgt n ++ [41]))
def spX4_addWitnesses : aSp := fun as S Q => match as with
  | [.inr (.inr 242), .inl t] => szP S ∧ 0 ≤ t ∧ t < 40 ∧ (0 ≤ S.1 214 t.toNat ∧ S.1 214 t.toNat ≤ 100000) ∧ (0 ≤ S.1 216 t.toNat ∧ S.1 216 t.toNat ≤ 100000) ∧ (0 ≤ S.1 217 t.toNat ∧ S.1 217 t.toNat ≤ 100000) ∧ Q none (emS S (wiL (S.1 214 t.toNat) (S.1 216 t.toNat) (S.1 217 t.toNat)))
  | _ => False
def tbX4_addWitnesses : aTb := (fX4, pX4, fun j => lk [(58, (some 4), 2, spX4_addByte), (115, (some 4), 2, spX4_addNumber)] j, kX4)
theorem tbX4_addWitnesses_f : tbX4_addWitnesses.1 = fX4 := rfl
theorem tbX4_addWitnesses_p : tbX4_addWitnesses.2.1 = pX4 := rfl
theorem tbX4_addWitnesses_k : tbX4_addWitnesses.2.2.2 = kX4 := rfl
theorem tbX4_addWitnesses_c58 : tbX4_addWitnesses.2.2.1 58 = some ((some 4), 2, spX4_addByte) := rfl
theorem tbX4_addWitnesses_c115 : tbX4_addWitnesses.2.2.1 115 = some ((some 4), 2, spX4_addNumber) := rfl
theorem tbX4_addWitnesses_all (l : Launch) : ∀ e ∈ ([(58, (some 4), 2, spX4_addByte), (115, (some 4), 2, spX4_addNumber)] : List (Nat × Option Nat × Nat × aSp)), cOK l mX4_addWitnesses e.1 e.2.1 e.2.2.1 e.2.2.2 ∨ mOK mX4_addWitnesses e.1 e.2.1 e.2.2.1 e.2.2.2 := all_cons (cOK_of (okX4_addByte l) meX4_addByte cfX4_58 (by decide) (by decide)) (all_cons (cOK_of (okX4_addNumber l) meX4_addNumber cfX4_115 (by decide) (by decide)) (all_nil))
theorem tbX4_addWitnesses_ok (l : Launch) : tOK l mX4_addWitnesses tbX4_addWitnesses := ⟨fX4_ok, pX4_ok, fun _ _ _ _ h => tbX4_addWitnesses_all l _ (lk_mem h), kX4_ok⟩
set_option maxRecDepth 20000 in
set_option maxHeartbeats 4000000 in
theorem okX4_addWitnesses (l : Launch) : aOK l mX4_addWitnesses spX4_addWitnesses := by
  refine aOK_of rfl fun as S Q h => ?_
  unfold spX4_addWitnesses at h
  split at h
  · rename_i t
    refine ⟨Nat.le_of_ble_eq_true rfl, wp_ok (tbX4_addWitnesses_ok l) Q (fun pc => false) 53 0 _ [] S ?_⟩
    show wp cX4_addWitnesses tbX4_addWitnesses 2 none Q (fun pc => false) (aGo l mX4_addWitnesses Q) 53 0 [(0, .inr (.inr 242)), (1, .inl t)] [] S
    simp only [wp_s, wpC_f, wpC_t, e_wLd, e_wLd0, e_wLd1, e_wLd2, e_get1, e_get2, e_wJ, e_wJo, f40, f41, f42, f43, Nat.reduceAdd, Nat.reduceBEq, Nat.reduceMul, eq_self, true_or, or_true, true_and, dX4_addWitnesses_0, dX4_addWitnesses_1, dX4_addWitnesses_3, dX4_addWitnesses_6, dX4_addWitnesses_7, dX4_addWitnesses_10, dX4_addWitnesses_13, dX4_addWitnesses_14, dX4_addWitnesses_15, dX4_addWitnesses_18, dX4_addWitnesses_19, dX4_addWitnesses_20, dX4_addWitnesses_23, dX4_addWitnesses_26, dX4_addWitnesses_27, dX4_addWitnesses_28, dX4_addWitnesses_31, dX4_addWitnesses_32, dX4_addWitnesses_35, dX4_addWitnesses_38, dX4_addWitnesses_39, dX4_addWitnesses_40, dX4_addWitnesses_41, dX4_addWitnesses_44, dX4_addWitnesses_47, dX4_addWitnesses_48, dX4_addWitnesses_49, dX4_addWitnesses_52, dX4_addWitnesses_53, dX4_addWitnesses_55, dX4_addWitnesses_58, dX4_addWitnesses_59, dX4_addWitnesses_60, dX4_addWitnesses_63, dX4_addWitnesses_66, dX4_addWitnesses_67, dX4_addWitnesses_68, dX4_addWitnesses_71, dX4_addWitnesses_72, dX4_addWitnesses_74, dX4_addWitnesses_77, dX4_addWitnesses_78, dX4_addWitnesses_79, dX4_addWitnesses_82, dX4_addWitnesses_85, dX4_addWitnesses_86, dX4_addWitnesses_87, dX4_addWitnesses_90, dX4_addWitnesses_91, dX4_addWitnesses_93, dX4_addWitnesses_96, e_aload_n, e_iload_n, e_bipush, e_ifCond, e_if_icmp, e_getfield, e_iaload, e_invokevirtual, e_return_, e_rv, e_wIf_le, e_wIc_eq, bp_40, bp_41, bp_44, bp_45, fX4_118, fX4_121, fX4_124, fX4_31, jt_15_62, jt_49_22, e_call, e_callS0, e_callS1, e_callS2, e_callS3, e_callS4, e_pop0, e_pop1, e_tl0, e_tl1, tbX4_addWitnesses_f, tbX4_addWitnesses_p, tbX4_addWitnesses_k, tbX4_addWitnesses_c58, tbX4_addWitnesses_c115, l_217, g_211_7, l_216, cv_242_0, cv_242_1, cv_242_2, cv_242_3, cv_242_4, g_242_3, g_211_5, g_211_8, l_214, spX4_addByte, spX4_addNumber]
    obtain ⟨h0, h1, h2, h3, h4, h5, h6⟩ := h
    unfold wiL at h6
    by_cases c1 : 0 < S.1 214 t.toNat
    · rw [if_pos c1] at h6
      by_cases c2 : S.1 217 t.toNat = S.1 216 t.toNat
      · rw [if_pos c2] at h6
        simp (disch := decide) only [em_f, em_app, List.cons_append, List.nil_append, List.append_assoc] at *
        repeat' (with_reducible first | intro _ | refine And.intro ?_ ?_)
        all_goals first | omega | exact h0 | exact em_sz h0 | exact h6
      · rw [if_neg c2] at h6
        simp (disch := decide) only [em_f, em_app, List.cons_append, List.nil_append, List.append_assoc] at *
        repeat' (with_reducible first | intro _ | refine And.intro ?_ ?_)
        all_goals first | omega | exact h0 | exact em_sz h0 | exact h6
    · rw [if_neg c1] at h6
      simp (disch := decide) only [em_f, em_app, List.cons_append, List.nil_append, List.append_assoc] at *
      repeat' (with_reducible first | intro _ | refine And.intro ?_ ?_)
      all_goals first | omega | exact h0 | exact em_sz h0 | exact h6
  · exact h.elim
def spX4_senseAt : aSp := fun as S Q => match as with
  | [.inr (.inr 242), .inl e, .inl u, .inl p] => Q (some (.inl (ff (fun m => cb (hasT (S.1 209) (m : Int) ∧ S.1 209 m = e ∧ S.1 210 m = u ∧ S.1 218 m = p)) 40 0))) S
  | _ => False
def tbX4_senseAt : aTb := (fX4, pX4, fun j => lk [(66, (some 6), 2, spX6_has)] j, kX4)
theorem tbX4_senseAt_f : tbX4_senseAt.1 = fX4 := rfl
theorem tbX4_senseAt_p : tbX4_senseAt.2.1 = pX4 := rfl
theorem tbX4_senseAt_k : tbX4_senseAt.2.2.2 = kX4 := rfl
theorem tbX4_senseAt_c66 : tbX4_senseAt.2.2.1 66 = some ((some 6), 2, spX6_has) := rfl
theorem tbX4_senseAt_all (l : Launch) : ∀ e ∈ ([(66, (some 6), 2, spX6_has)] : List (Nat × Option Nat × Nat × aSp)), cOK l mX4_senseAt e.1 e.2.1 e.2.2.1 e.2.2.2 ∨ mOK mX4_senseAt e.1 e.2.1 e.2.2.1 e.2.2.2 := all_cons (cOK_of (okX6_has l) meX6_has cfX4_66 (by decide) (by decide)) (all_nil)
theorem tbX4_senseAt_ok (l : Launch) : tOK l mX4_senseAt tbX4_senseAt := ⟨fX4_ok, pX4_ok, fun _ _ _ _ h => tbX4_senseAt_all l _ (lk_mem h), kX4_ok⟩
set_option maxRecDepth 20000 in
set_option maxHeartbeats 4000000 in
theorem lpX4_senseAt (l : Launch) (Q : Option aV → aS → Prop) : ∀ (n : Nat) (S : aS) (e u p : Int) (i : Nat), i + n = 40 → Q (some (.inl (ff (fun m => cb (hasT (S.1 209) (m : Int) ∧ S.1 209 m = e ∧ S.1 210 m = u ∧ S.1 218 m = p)) n i))) S → aGo l mX4_senseAt Q 3 [(0, .inr (.inr 242)), (1, .inl e), (2, .inl u), (3, .inl p), (4, .inl (i : Int))] [] S := by
  intro n
  induction n using Nat.strongRecOn with
  | _ n ih =>
  intro S  e u p  i  h0 h1
  refine wp_go (tbX4_senseAt_ok l) (fun pc => pc == 3) 39 dX4_senseAt_3 ?_
  show ws1 tbX4_senseAt 5 (some .int) Q (wp cX4_senseAt tbX4_senseAt 5 (some .int) Q (fun pc => pc == 3) (aGo l mX4_senseAt Q) 39) (.iload 4) 2 3 [(0, .inr (.inr 242)), (1, .inl e), (2, .inl u), (3, .inl p), (4, .inl (i : Int))] [] S
  simp only [wp_s, wpC_f, wpC_t, e_wLd, e_wLd0, e_wLd1, e_wLd2, e_get1, e_get2, e_wJ, e_wJo, f40, f41, f42, f43, Nat.reduceAdd, Nat.reduceBEq, Nat.reduceMul, eq_self, true_or, or_true, true_and, dX4_senseAt_0, dX4_senseAt_1, dX4_senseAt_3, dX4_senseAt_5, dX4_senseAt_7, dX4_senseAt_10, dX4_senseAt_11, dX4_senseAt_14, dX4_senseAt_16, dX4_senseAt_19, dX4_senseAt_22, dX4_senseAt_23, dX4_senseAt_26, dX4_senseAt_29, dX4_senseAt_31, dX4_senseAt_32, dX4_senseAt_33, dX4_senseAt_36, dX4_senseAt_37, dX4_senseAt_40, dX4_senseAt_43, dX4_senseAt_45, dX4_senseAt_46, dX4_senseAt_47, dX4_senseAt_50, dX4_senseAt_51, dX4_senseAt_54, dX4_senseAt_57, dX4_senseAt_59, dX4_senseAt_60, dX4_senseAt_61, dX4_senseAt_64, dX4_senseAt_66, dX4_senseAt_67, dX4_senseAt_70, dX4_senseAt_73, dX4_senseAt_74, e_aload_n, e_iload_n, e_iload, e_istore, e_iconst, e_bipush, e_iinc, e_ifCond, e_if_icmp, e_goto, e_getfield, e_iaload, e_invokevirtual, e_ireturn, e_wSt0, e_wSt1, e_wSt2, e_isL0, e_isL1, e_isL2, e_lset, e_lclr0, e_lclr1, e_lclr2, e_lput0, e_lput1, e_lput2, e_wInc, e_wInc0, Nat.reduceLT, not_false_eq_true, Bool.or_false, Bool.false_or, Bool.or_true, Bool.true_or, Bool.and_false, Bool.false_and, Bool.and_true, Bool.true_and, e_ri, e_rz, e_wIc_ne, e_wIf_eq, e_wIc_ge, bp_40, fX4_27, fX4_31, fX4_88, fX4_91, fX4_94, ic_0, ic_m1, jt_19_48, jt_33_34, jt_47_20, jt_61_6, jt_70_m67, jt_7_66, e_call, e_callS0, e_callS1, e_callS2, e_callS3, e_callS4, e_pop0, e_pop1, e_tl0, e_tl1, tbX4_senseAt_f, tbX4_senseAt_p, tbX4_senseAt_k, tbX4_senseAt_c66, g_208_1, l_210, cv_208_0, cv_208_1, cv_208_2, cv_208_3, cv_208_4, g_208_0, l_209, g_211_9, l_218, g_242_3, g_242_2, spX6_has, bi_0, bi_1, ne_eq, Classical.not_not, em_r, em_l]
  repeat' (with_reducible first | intro _ | refine And.intro ?_ ?_)
  all_goals (try simp (disch := omega) only [wI_id, Int.toNat_natCast] at *)
  all_goals first
    | omega
    | (rw [show n = 0 from by omega] at h1; exact h1)
    | (obtain ⟨m, rfl⟩ : ∃ m, n = m + 1 := ⟨n - 1, by omega⟩
       unfold ff at h1
       first
         | (rw [if_pos (cb_t ⟨by unfold hasT; simp only [Int.toNat_natCast]; omega, by omega, by omega, by omega⟩)] at h1; exact h1)
         | (rw [if_neg (by rw [cb_f (by unfold hasT; simp only [Int.toNat_natCast]; omega)]; decide)] at h1
            exact ih m (by omega) S e u p (i + 1) (by omega) h1))
    | skip
set_option maxRecDepth 20000 in
set_option maxHeartbeats 4000000 in
theorem okX4_senseAt (l : Launch) : aOK l mX4_senseAt spX4_senseAt := by
  refine aOK_of rfl fun as S Q h => ?_
  unfold spX4_senseAt at h
  split at h
  · rename_i e u p
    refine ⟨Nat.le_of_ble_eq_true rfl, wp_ok (tbX4_senseAt_ok l) Q (fun pc => pc == 3) 39 0 _ [] S ?_⟩
    show wp cX4_senseAt tbX4_senseAt 5 (some .int) Q (fun pc => pc == 3) (aGo l mX4_senseAt Q) 39 0 [(0, .inr (.inr 242)), (1, .inl e), (2, .inl u), (3, .inl p)] [] S
    simp only [wp_s, wpC_f, wpC_t, e_wLd, e_wLd0, e_wLd1, e_wLd2, e_get1, e_get2, e_wJ, e_wJo, f40, f41, f42, f43, Nat.reduceAdd, Nat.reduceBEq, Nat.reduceMul, eq_self, true_or, or_true, true_and, dX4_senseAt_0, dX4_senseAt_1, dX4_senseAt_3, dX4_senseAt_5, dX4_senseAt_7, dX4_senseAt_10, dX4_senseAt_11, dX4_senseAt_14, dX4_senseAt_16, dX4_senseAt_19, dX4_senseAt_22, dX4_senseAt_23, dX4_senseAt_26, dX4_senseAt_29, dX4_senseAt_31, dX4_senseAt_32, dX4_senseAt_33, dX4_senseAt_36, dX4_senseAt_37, dX4_senseAt_40, dX4_senseAt_43, dX4_senseAt_45, dX4_senseAt_46, dX4_senseAt_47, dX4_senseAt_50, dX4_senseAt_51, dX4_senseAt_54, dX4_senseAt_57, dX4_senseAt_59, dX4_senseAt_60, dX4_senseAt_61, dX4_senseAt_64, dX4_senseAt_66, dX4_senseAt_67, dX4_senseAt_70, dX4_senseAt_73, dX4_senseAt_74, e_aload_n, e_iload_n, e_iload, e_istore, e_iconst, e_bipush, e_iinc, e_ifCond, e_if_icmp, e_goto, e_getfield, e_iaload, e_invokevirtual, e_ireturn, e_wSt0, e_wSt1, e_wSt2, e_isL0, e_isL1, e_isL2, e_lset, e_lclr0, e_lclr1, e_lclr2, e_lput0, e_lput1, e_lput2, e_wInc, e_wInc0, Nat.reduceLT, not_false_eq_true, Bool.or_false, Bool.false_or, Bool.or_true, Bool.true_or, Bool.and_false, Bool.false_and, Bool.and_true, Bool.true_and, e_ri, e_rz, e_wIc_ne, e_wIf_eq, e_wIc_ge, bp_40, fX4_27, fX4_31, fX4_88, fX4_91, fX4_94, ic_0, ic_m1, jt_19_48, jt_33_34, jt_47_20, jt_61_6, jt_70_m67, jt_7_66, e_call, e_callS0, e_callS1, e_callS2, e_callS3, e_callS4, e_pop0, e_pop1, e_tl0, e_tl1, tbX4_senseAt_f, tbX4_senseAt_p, tbX4_senseAt_k, tbX4_senseAt_c66, g_208_1, l_210, cv_208_0, cv_208_1, cv_208_2, cv_208_3, cv_208_4, g_208_0, l_209, g_211_9, l_218, g_242_3, g_242_2]
    exact lpX4_senseAt l Q 40 S e u p 0 rfl h
  · exact h.elim
