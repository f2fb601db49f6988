/-! PRINTER (242; bytes 243, way 244; size slot 7) -/
def szP (S : aS) : Prop := 0 ≤ S.1 242 7 ∧ S.1 242 7 ≤ 8000
def pB (S : aS) (b : Int) : aS := if S.1 242 7 < 8000 then upI (upI S 243 (S.1 242 7).toNat (narB (narB b))) 242 7 (S.1 242 7 + 1) else S
/-- the state, these bytes printed -/
def emS (S : aS) : List Int → aS
  | [] => S
  | b :: r => emS (pB S b) r
theorem pB_sz {S : aS} {b : Int} (h : szP S) : szP (pB S b) := by
  unfold pB szP at *
  split
  · rw [up_hit]; omega
  · exact h
theorem em_sz : ∀ {l : List Int} {S : aS}, szP S → szP (emS S l)
  | [], _, h => h
  | _ :: r, _, h => em_sz (l := r) (pB_sz h)
theorem em_app : ∀ {l m : List Int} {S : aS}, emS (emS S l) m = emS S (l ++ m)
  | [], _, _ => rfl
  | b :: r, m, S => em_app (l := r) (S := pB S b)
theorem pB_f {S : aS} {b : Int} {i : Nat} (h : ¬ i = 242) (h2 : ¬ i = 243) : (pB S b).1 i = S.1 i := by
  unfold pB
  split
  · rw [up_f h, up_f h2]
  · rfl
theorem em_f : ∀ {l : List Int} {S : aS} {i : Nat}, ¬ i = 242 → ¬ i = 243 → (emS S l).1 i = S.1 i
  | [], _, _, _, _ => rfl
  | b :: r, S, i, h, h2 => (em_f (l := r) h h2).trans (pB_f h h2)
theorem em_1 {S : aS} {b : Int} : emS S [b] = pB S b := rfl
theorem pB_2 {S : aS} {b : Int} : (pB S b).2 = S.2 := by
  unfold pB; split <;> rfl
theorem em_2 : ∀ {l : List Int} {S : aS}, (emS S l).2 = S.2
  | [], _ => rfl
  | b :: r, S => (em_2 (l := r)).trans pB_2
def dgt (n : Int) : List Int := (if 1000 ≤ n then [48 + n / 1000 % 10] else []) ++ ((if 100 ≤ n then [48 + n / 100 % 10] else []) ++ ((if 10 ≤ n then [48 + n / 10 % 10] else []) ++ [48 + n / 1 % 10]))
def spX4_byteAt : aSp := fun as S Q => match as with
  | [.inr (.inr 242), .inl i] => S.1 242 7 ≤ 8000 ∧ (0 ≤ i ∧ i < S.1 242 7 → Q (some (.inl (S.1 243 i.toNat))) S) ∧ (¬ (0 ≤ i ∧ i < S.1 242 7) → Q (some (.inl (-1))) S)
  | _ => False
def tbX4_byteAt : aTb := (fX4, pX4, fun j => lk [] j, kX4)
theorem tbX4_byteAt_f : tbX4_byteAt.1 = fX4 := rfl
theorem tbX4_byteAt_p : tbX4_byteAt.2.1 = pX4 := rfl
theorem tbX4_byteAt_k : tbX4_byteAt.2.2.2 = kX4 := rfl
theorem tbX4_byteAt_all (l : Launch) : ∀ e ∈ ([] : List (Nat × Option Nat × Nat × aSp)), cOK l mX4_byteAt e.1 e.2.1 e.2.2.1 e.2.2.2 ∨ mOK mX4_byteAt e.1 e.2.1 e.2.2.1 e.2.2.2 := all_nil
theorem tbX4_byteAt_ok (l : Launch) : tOK l mX4_byteAt tbX4_byteAt := ⟨fX4_ok, pX4_ok, fun _ _ _ _ h => tbX4_byteAt_all l _ (lk_mem h), kX4_ok⟩
set_option maxRecDepth 20000 in
set_option maxHeartbeats 4000000 in
theorem okX4_byteAt (l : Launch) : aOK l mX4_byteAt spX4_byteAt := by
  refine aOK_of rfl fun as S Q h => ?_
  unfold spX4_byteAt at h
  split at h
  · rename_i i
    refine ⟨Nat.le_of_ble_eq_true rfl, wp_ok (tbX4_byteAt_ok l) Q (fun pc => false) 15 0 _ [] S ?_⟩
    show wp cX4_byteAt tbX4_byteAt 2 (some .int) Q (fun pc => false) (aGo l mX4_byteAt Q) 15 0 [(0, .inr (.inr 242)), (1, .inl i)] [] S
    simp only [wp_s, wpC_f, wpC_t, e_wLd, e_wLd0, e_wLd1, e_wLd2, e_get1, e_get2, e_wJ, e_wJo, f40, f41, f42, f43, Nat.reduceAdd, Nat.reduceBEq, Nat.reduceMul, eq_self, true_or, or_true, true_and, dX4_byteAt_0, dX4_byteAt_1, dX4_byteAt_4, dX4_byteAt_5, dX4_byteAt_6, dX4_byteAt_9, dX4_byteAt_12, dX4_byteAt_13, dX4_byteAt_16, dX4_byteAt_17, dX4_byteAt_18, dX4_byteAt_21, dX4_byteAt_22, e_aload_n, e_iload_n, e_iconst, e_ifCond, e_if_icmp, e_goto, e_getfield, e_baload, e_ireturn, e_ri, e_rz, e_wIc_ge, e_wIf_lt, fX4_11, fX4_39, ic_m1, jt_18_4, jt_1_20, jt_9_12, tbX4_byteAt_f, tbX4_byteAt_p, tbX4_byteAt_k, g_242_5, g_242_7, l_243]
    obtain ⟨h0, h1, h2⟩ := h
    repeat' (with_reducible first | intro _ | refine And.intro ?_ ?_)
    all_goals first | omega | exact h1 (by omega) | exact h2 (by omega)
  · exact h.elim
def spX4_addByte : aSp := fun as S Q => match as with
  | [.inr (.inr 242), .inl b] => szP S ∧ Q none (emS S [b])
  | _ => False
def tbX4_addByte : aTb := (fX4, pX4, fun j => lk [] j, kX4)
theorem tbX4_addByte_f : tbX4_addByte.1 = fX4 := rfl
theorem tbX4_addByte_p : tbX4_addByte.2.1 = pX4 := rfl
theorem tbX4_addByte_k : tbX4_addByte.2.2.2 = kX4 := rfl
theorem tbX4_addByte_all (l : Launch) : ∀ e ∈ ([] : List (Nat × Option Nat × Nat × aSp)), cOK l mX4_addByte e.1 e.2.1 e.2.2.1 e.2.2.2 ∨ mOK mX4_addByte e.1 e.2.1 e.2.2.1 e.2.2.2 := all_nil
theorem tbX4_addByte_ok (l : Launch) : tOK l mX4_addByte tbX4_addByte := ⟨fX4_ok, pX4_ok, fun _ _ _ _ h => tbX4_addByte_all l _ (lk_mem h), kX4_ok⟩
set_option maxRecDepth 20000 in
set_option maxHeartbeats 4000000 in
theorem okX4_addByte (l : Launch) : aOK l mX4_addByte spX4_addByte := by
  refine aOK_of rfl fun as S Q h => ?_
  unfold spX4_addByte at h
  split at h
  · rename_i b
    refine ⟨Nat.le_of_ble_eq_true rfl, wp_ok (tbX4_addByte_ok l) Q (fun pc => false) 22 0 _ [] S ?_⟩
    show wp cX4_addByte tbX4_addByte 2 none Q (fun pc => false) (aGo l mX4_addByte Q) 22 0 [(0, .inr (.inr 242)), (1, .inl b)] [] S
    simp only [wp_s, wpC_f, wpC_t, e_wLd, e_wLd0, e_wLd1, e_wLd2, e_get1, e_get2, e_wJ, e_wJo, f40, f41, f42, f43, Nat.reduceAdd, Nat.reduceBEq, Nat.reduceMul, eq_self, true_or, or_true, true_and, dX4_addByte_0, dX4_addByte_1, dX4_addByte_4, dX4_addByte_5, dX4_addByte_8, dX4_addByte_9, dX4_addByte_12, dX4_addByte_13, dX4_addByte_16, dX4_addByte_17, dX4_addByte_20, dX4_addByte_21, dX4_addByte_22, dX4_addByte_23, dX4_addByte_24, dX4_addByte_25, dX4_addByte_28, dX4_addByte_29, dX4_addByte_30, dX4_addByte_33, e_aload_n, e_iload_n, e_iconst, e_iadd, e_i2b, e_dup, e_if_icmp, e_getfield, e_putfield, e_arraylength, e_bastore, e_return_, e_rv, e_wDup0, e_wDup1, e_wI2B, e_wI2, e_wIc_ge, fX4_11, fX4_39, ic_1, jt_9_24, pX4_39, tbX4_addByte_f, tbX4_addByte_p, tbX4_addByte_k, p_242_7, g_242_5, g_242_7, s_243, n_243]
    obtain ⟨h0, h1⟩ := h
    unfold szP at h0
    rw [em_1] at h1
    unfold pB at h1
    repeat' (with_reducible first | intro _ | refine And.intro ?_ ?_)
    all_goals (try simp (disch := omega) only [wI_id, up_obj])
    all_goals first | omega | (rw [if_neg (by omega)] at h1; exact h1) | (rw [if_pos (by omega)] at h1; exact h1)
  · exact h.elim
def spX4_addNumber : aSp := fun as S Q => match as with
  | [.inr (.inr 242), .inl n] => szP S ∧ 0 ≤ n ∧ n ≤ 100000 ∧ Q none (emS S (dgt n))
  | _ => False
def tbX4_addNumber : aTb := (fX4, pX4, fun j => lk [(58, (some 4), 2, spX4_addByte)] j, kX4)
theorem tbX4_addNumber_f : tbX4_addNumber.1 = fX4 := rfl
theorem tbX4_addNumber_p : tbX4_addNumber.2.1 = pX4 := rfl
theorem tbX4_addNumber_k : tbX4_addNumber.2.2.2 = kX4 := rfl
theorem tbX4_addNumber_c58 : tbX4_addNumber.2.2.1 58 = some ((some 4), 2, spX4_addByte) := rfl
theorem tbX4_addNumber_all (l : Launch) : ∀ e ∈ ([(58, (some 4), 2, spX4_addByte)] : List (Nat × Option Nat × Nat × aSp)), cOK l mX4_addNumber e.1 e.2.1 e.2.2.1 e.2.2.2 ∨ mOK mX4_addNumber e.1 e.2.1 e.2.2.1 e.2.2.2 := all_cons (cOK_of (okX4_addByte l) meX4_addByte cfX4_58 (by decide) (by decide)) (all_nil)
theorem tbX4_addNumber_ok (l : Launch) : tOK l mX4_addNumber tbX4_addNumber := ⟨fX4_ok, pX4_ok, fun _ _ _ _ h => tbX4_addNumber_all l _ (lk_mem h), kX4_ok⟩
def dg0 (_ : Int) : List Int := []
def dg1 (n : Int) : List Int := [48 + n / 1 % 10]
def dg2 (n : Int) : List Int := (if 10 ≤ n then [48 + n / 10 % 10] else []) ++ dg1 n
def dg3 (n : Int) : List Int := (if 100 ≤ n then [48 + n / 100 % 10] else []) ++ dg2 n
def dg4 (n : Int) : List Int := (if 1000 ≤ n then [48 + n / 1000 % 10] else []) ++ dg3 n
theorem dg4_eq (n : Int) : dg4 n = dgt n := rfl
set_option maxRecDepth 20000 in
set_option maxHeartbeats 4000000 in
theorem lpN0 (l : Launch) (Q : Option aV → aS → Prop) : ∀ (n : Nat) (S : aS) (v : Int), szP S → (0 ≤ v ∧ v ≤ 100000) → Q none (emS S (dg0 v)) → aGo l mX4_addNumber Q 4 [(0, .inr (.inr 242)), (1, .inl v), (2, .inl 0)] [] S := by
  intro n
  induction n using Nat.strongRecOn with
  | _ n ih =>
  intro S  v  h0 h1 h2
  refine wp_go (tbX4_addNumber_ok l) (fun pc => pc == 4) 28 dX4_addNumber_4 ?_
  show ws1 tbX4_addNumber 3 none Q (wp cX4_addNumber tbX4_addNumber 3 none Q (fun pc => pc == 4) (aGo l mX4_addNumber Q) 28) (.iload_n 2) 1 4 [(0, .inr (.inr 242)), (1, .inl v), (2, .inl 0)] [] S
  simp only [wp_s, wpC_f, wpC_t, e_wLd, e_wLd0, e_wLd1, e_wLd2, e_get1, e_get2, e_wJ, e_wJo, f40, f41, f42, f43, Nat.reduceAdd, Nat.reduceBEq, Nat.reduceMul, eq_self, true_or, or_true, true_and, dX4_addNumber_0, dX4_addNumber_3, dX4_addNumber_4, dX4_addNumber_5, dX4_addNumber_6, dX4_addNumber_9, dX4_addNumber_10, dX4_addNumber_11, dX4_addNumber_14, dX4_addNumber_15, dX4_addNumber_16, dX4_addNumber_19, dX4_addNumber_20, dX4_addNumber_22, dX4_addNumber_23, dX4_addNumber_24, dX4_addNumber_25, dX4_addNumber_27, dX4_addNumber_28, dX4_addNumber_29, dX4_addNumber_32, dX4_addNumber_33, dX4_addNumber_35, dX4_addNumber_36, dX4_addNumber_37, dX4_addNumber_40, e_aload_n, e_iload_n, e_istore_n, e_iconst, e_bipush, e_sipush, e_iadd, e_idiv, e_irem, e_if_icmp, e_goto, e_invokevirtual, e_return_, e_wSt0, e_wSt1, e_wSt2, e_isL0, e_isL1, e_isL2, e_lset, e_lclr0, e_lclr1, e_lclr2, e_lput0, e_lput1, e_lput2, e_wInc, e_wInc0, Nat.reduceLT, not_false_eq_true, Bool.or_false, Bool.false_or, Bool.or_true, Bool.true_or, Bool.and_false, Bool.false_and, Bool.and_true, Bool.true_and, e_wI2, e_rv, e_wD2, e_wIc_ge, e_wIc_ne, e_wIc_lt, bp_10, bp_48, ic_1, jt_11_8, jt_16_16, jt_37_m33, jt_6_34, sp_1000, e_call, e_callS0, e_callS1, e_callS2, e_callS3, e_callS4, e_pop0, e_pop1, e_tl0, e_tl1, tbX4_addNumber_f, tbX4_addNumber_p, tbX4_addNumber_k, tbX4_addNumber_c58, cv_242_0, cv_242_1, cv_242_2, cv_242_3, cv_242_4, spX4_addByte]
  exact ⟨fun _ => h2, fun q => absurd (by decide : (0 : Int) < 1) q⟩
set_option maxRecDepth 20000 in
set_option maxHeartbeats 4000000 in
theorem lpN1 (l : Launch) (Q : Option aV → aS → Prop) : ∀ (n : Nat) (S : aS) (v : Int), szP S → (0 ≤ v ∧ v ≤ 100000) → Q none (emS S (dg1 v)) → aGo l mX4_addNumber Q 4 [(0, .inr (.inr 242)), (1, .inl v), (2, .inl 1)] [] S := by
  intro n
  induction n using Nat.strongRecOn with
  | _ n ih =>
  intro S  v  h0 h1 h2
  refine wp_go (tbX4_addNumber_ok l) (fun pc => pc == 4) 28 dX4_addNumber_4 ?_
  show ws1 tbX4_addNumber 3 none Q (wp cX4_addNumber tbX4_addNumber 3 none Q (fun pc => pc == 4) (aGo l mX4_addNumber Q) 28) (.iload_n 2) 1 4 [(0, .inr (.inr 242)), (1, .inl v), (2, .inl 1)] [] S
  simp only [wp_s, wpC_f, wpC_t, e_wLd, e_wLd0, e_wLd1, e_wLd2, e_get1, e_get2, e_wJ, e_wJo, f40, f41, f42, f43, Nat.reduceAdd, Nat.reduceBEq, Nat.reduceMul, eq_self, true_or, or_true, true_and, dX4_addNumber_0, dX4_addNumber_3, dX4_addNumber_4, dX4_addNumber_5, dX4_addNumber_6, dX4_addNumber_9, dX4_addNumber_10, dX4_addNumber_11, dX4_addNumber_14, dX4_addNumber_15, dX4_addNumber_16, dX4_addNumber_19, dX4_addNumber_20, dX4_addNumber_22, dX4_addNumber_23, dX4_addNumber_24, dX4_addNumber_25, dX4_addNumber_27, dX4_addNumber_28, dX4_addNumber_29, dX4_addNumber_32, dX4_addNumber_33, dX4_addNumber_35, dX4_addNumber_36, dX4_addNumber_37, dX4_addNumber_40, e_aload_n, e_iload_n, e_istore_n, e_iconst, e_bipush, e_sipush, e_iadd, e_idiv, e_irem, e_if_icmp, e_goto, e_invokevirtual, e_return_, e_wSt0, e_wSt1, e_wSt2, e_isL0, e_isL1, e_isL2, e_lset, e_lclr0, e_lclr1, e_lclr2, e_lput0, e_lput1, e_lput2, e_wInc, e_wInc0, Nat.reduceLT, not_false_eq_true, Bool.or_false, Bool.false_or, Bool.or_true, Bool.true_or, Bool.and_false, Bool.false_and, Bool.and_true, Bool.true_and, e_wI2, e_rv, e_wD2, e_wIc_ge, e_wIc_ne, e_wIc_lt, bp_10, bp_48, ic_1, jt_11_8, jt_16_16, jt_37_m33, jt_6_34, sp_1000, e_call, e_callS0, e_callS1, e_callS2, e_callS3, e_callS4, e_pop0, e_pop1, e_tl0, e_tl1, tbX4_addNumber_f, tbX4_addNumber_p, tbX4_addNumber_k, tbX4_addNumber_c58, cv_242_0, cv_242_1, cv_242_2, cv_242_3, cv_242_4, spX4_addByte]
  have ed : v.tdiv 1 = v / 1 := Int.tdiv_eq_ediv_of_nonneg h1.1
  have ev : wI (v.tdiv 1) = v / 1 := by rw [ed]; exact wI_id (by omega) (by omega)
  have em : (v / 1).tmod 10 = v / 1 % 10 := Int.tmod_eq_emod_of_nonneg (by omega)
  have eu : wI (Int.tdiv 1 10) = 0 := by decide
  simp (disch := omega) only [ev, em, eu, wI_id]
  unfold dg1 at h2
  refine ⟨fun q => absurd q (by decide), fun _ => ⟨fun q => ?_, fun q => ?_⟩⟩
  · exact ⟨by decide, by decide, h0, by decide, lpN0 l Q 0 _ v (em_sz h0) h1 h2⟩
  · exact ⟨fun q2 => absurd trivial q2, fun _ => ⟨by decide, by decide, h0, by decide, lpN0 l Q 0 _ v (em_sz h0) h1 h2⟩⟩
set_option maxRecDepth 20000 in
set_option maxHeartbeats 4000000 in
theorem lpN2 (l : Launch) (Q : Option aV → aS → Prop) : ∀ (n : Nat) (S : aS) (v : Int), szP S → (0 ≤ v ∧ v ≤ 100000) → Q none (emS S (dg2 v)) → aGo l mX4_addNumber Q 4 [(0, .inr (.inr 242)), (1, .inl v), (2, .inl 10)] [] S := by
  intro n
  induction n using Nat.strongRecOn with
  | _ n ih =>
  intro S  v  h0 h1 h2
  refine wp_go (tbX4_addNumber_ok l) (fun pc => pc == 4) 28 dX4_addNumber_4 ?_
  show ws1 tbX4_addNumber 3 none Q (wp cX4_addNumber tbX4_addNumber 3 none Q (fun pc => pc == 4) (aGo l mX4_addNumber Q) 28) (.iload_n 2) 1 4 [(0, .inr (.inr 242)), (1, .inl v), (2, .inl 10)] [] S
  simp only [wp_s, wpC_f, wpC_t, e_wLd, e_wLd0, e_wLd1, e_wLd2, e_get1, e_get2, e_wJ, e_wJo, f40, f41, f42, f43, Nat.reduceAdd, Nat.reduceBEq, Nat.reduceMul, eq_self, true_or, or_true, true_and, dX4_addNumber_0, dX4_addNumber_3, dX4_addNumber_4, dX4_addNumber_5, dX4_addNumber_6, dX4_addNumber_9, dX4_addNumber_10, dX4_addNumber_11, dX4_addNumber_14, dX4_addNumber_15, dX4_addNumber_16, dX4_addNumber_19, dX4_addNumber_20, dX4_addNumber_22, dX4_addNumber_23, dX4_addNumber_24, dX4_addNumber_25, dX4_addNumber_27, dX4_addNumber_28, dX4_addNumber_29, dX4_addNumber_32, dX4_addNumber_33, dX4_addNumber_35, dX4_addNumber_36, dX4_addNumber_37, dX4_addNumber_40, e_aload_n, e_iload_n, e_istore_n, e_iconst, e_bipush, e_sipush, e_iadd, e_idiv, e_irem, e_if_icmp, e_goto, e_invokevirtual, e_return_, e_wSt0, e_wSt1, e_wSt2, e_isL0, e_isL1, e_isL2, e_lset, e_lclr0, e_lclr1, e_lclr2, e_lput0, e_lput1, e_lput2, e_wInc, e_wInc0, Nat.reduceLT, not_false_eq_true, Bool.or_false, Bool.false_or, Bool.or_true, Bool.true_or, Bool.and_false, Bool.false_and, Bool.and_true, Bool.true_and, e_wI2, e_rv, e_wD2, e_wIc_ge, e_wIc_ne, e_wIc_lt, bp_10, bp_48, ic_1, jt_11_8, jt_16_16, jt_37_m33, jt_6_34, sp_1000, e_call, e_callS0, e_callS1, e_callS2, e_callS3, e_callS4, e_pop0, e_pop1, e_tl0, e_tl1, tbX4_addNumber_f, tbX4_addNumber_p, tbX4_addNumber_k, tbX4_addNumber_c58, cv_242_0, cv_242_1, cv_242_2, cv_242_3, cv_242_4, spX4_addByte]
  have ed : v.tdiv 10 = v / 10 := Int.tdiv_eq_ediv_of_nonneg h1.1
  have ev : wI (v.tdiv 10) = v / 10 := by rw [ed]; exact wI_id (by omega) (by omega)
  have em : (v / 10).tmod 10 = v / 10 % 10 := Int.tmod_eq_emod_of_nonneg (by omega)
  have eu : wI (Int.tdiv 10 10) = 1 := by decide
  simp (disch := omega) only [ev, em, eu, wI_id]
  unfold dg2 at h2
  refine ⟨fun q => absurd q (by decide), fun _ => ⟨fun q => ?_, fun q => ?_⟩⟩
  · rw [if_pos q, ← em_app] at h2
    exact ⟨by decide, by decide, h0, by decide, lpN1 l Q 0 _ v (em_sz h0) h1 h2⟩
  · rw [if_neg q] at h2
    exact ⟨fun _ => ⟨by decide, lpN1 l Q 0 _ v h0 h1 h2⟩, fun q2 => absurd q2 (by decide)⟩
set_option maxRecDepth 20000 in
set_option maxHeartbeats 4000000 in
theorem lpN3 (l : Launch) (Q : Option aV → aS → Prop) : ∀ (n : Nat) (S : aS) (v : Int), szP S → (0 ≤ v ∧ v ≤ 100000) → Q none (emS S (dg3 v)) → aGo l mX4_addNumber Q 4 [(0, .inr (.inr 242)), (1, .inl v), (2, .inl 100)] [] S := by
  intro n
  induction n using Nat.strongRecOn with
  | _ n ih =>
  intro S  v  h0 h1 h2
  refine wp_go (tbX4_addNumber_ok l) (fun pc => pc == 4) 28 dX4_addNumber_4 ?_
  show ws1 tbX4_addNumber 3 none Q (wp cX4_addNumber tbX4_addNumber 3 none Q (fun pc => pc == 4) (aGo l mX4_addNumber Q) 28) (.iload_n 2) 1 4 [(0, .inr (.inr 242)), (1, .inl v), (2, .inl 100)] [] S
  simp only [wp_s, wpC_f, wpC_t, e_wLd, e_wLd0, e_wLd1, e_wLd2, e_get1, e_get2, e_wJ, e_wJo, f40, f41, f42, f43, Nat.reduceAdd, Nat.reduceBEq, Nat.reduceMul, eq_self, true_or, or_true, true_and, dX4_addNumber_0, dX4_addNumber_3, dX4_addNumber_4, dX4_addNumber_5, dX4_addNumber_6, dX4_addNumber_9, dX4_addNumber_10, dX4_addNumber_11, dX4_addNumber_14, dX4_addNumber_15, dX4_addNumber_16, dX4_addNumber_19, dX4_addNumber_20, dX4_addNumber_22, dX4_addNumber_23, dX4_addNumber_24, dX4_addNumber_25, dX4_addNumber_27, dX4_addNumber_28, dX4_addNumber_29, dX4_addNumber_32, dX4_addNumber_33, dX4_addNumber_35, dX4_addNumber_36, dX4_addNumber_37, dX4_addNumber_40, e_aload_n, e_iload_n, e_istore_n, e_iconst, e_bipush, e_sipush, e_iadd, e_idiv, e_irem, e_if_icmp, e_goto, e_invokevirtual, e_return_, e_wSt0, e_wSt1, e_wSt2, e_isL0, e_isL1, e_isL2, e_lset, e_lclr0, e_lclr1, e_lclr2, e_lput0, e_lput1, e_lput2, e_wInc, e_wInc0, Nat.reduceLT, not_false_eq_true, Bool.or_false, Bool.false_or, Bool.or_true, Bool.true_or, Bool.and_false, Bool.false_and, Bool.and_true, Bool.true_and, e_wI2, e_rv, e_wD2, e_wIc_ge, e_wIc_ne, e_wIc_lt, bp_10, bp_48, ic_1, jt_11_8, jt_16_16, jt_37_m33, jt_6_34, sp_1000, e_call, e_callS0, e_callS1, e_callS2, e_callS3, e_callS4, e_pop0, e_pop1, e_tl0, e_tl1, tbX4_addNumber_f, tbX4_addNumber_p, tbX4_addNumber_k, tbX4_addNumber_c58, cv_242_0, cv_242_1, cv_242_2, cv_242_3, cv_242_4, spX4_addByte]
  have ed : v.tdiv 100 = v / 100 := Int.tdiv_eq_ediv_of_nonneg h1.1
  have ev : wI (v.tdiv 100) = v / 100 := by rw [ed]; exact wI_id (by omega) (by omega)
  have em : (v / 100).tmod 10 = v / 100 % 10 := Int.tmod_eq_emod_of_nonneg (by omega)
  have eu : wI (Int.tdiv 100 10) = 10 := by decide
  simp (disch := omega) only [ev, em, eu, wI_id]
  unfold dg3 at h2
  refine ⟨fun q => absurd q (by decide), fun _ => ⟨fun q => ?_, fun q => ?_⟩⟩
  · rw [if_pos q, ← em_app] at h2
    exact ⟨by decide, by decide, h0, by decide, lpN2 l Q 0 _ v (em_sz h0) h1 h2⟩
  · rw [if_neg q] at h2
    exact ⟨fun _ => ⟨by decide, lpN2 l Q 0 _ v h0 h1 h2⟩, fun q2 => absurd q2 (by decide)⟩
set_option maxRecDepth 20000 in
set_option maxHeartbeats 4000000 in
theorem lpN4 (l : Launch) (Q : Option aV → aS → Prop) : ∀ (n : Nat) (S : aS) (v : Int), szP S → (0 ≤ v ∧ v ≤ 100000) → Q none (emS S (dg4 v)) → aGo l mX4_addNumber Q 4 [(0, .inr (.inr 242)), (1, .inl v), (2, .inl 1000)] [] S := by
  intro n
  induction n using Nat.strongRecOn with
  | _ n ih =>
  intro S  v  h0 h1 h2
  refine wp_go (tbX4_addNumber_ok l) (fun pc => pc == 4) 28 dX4_addNumber_4 ?_
  show ws1 tbX4_addNumber 3 none Q (wp cX4_addNumber tbX4_addNumber 3 none Q (fun pc => pc == 4) (aGo l mX4_addNumber Q) 28) (.iload_n 2) 1 4 [(0, .inr (.inr 242)), (1, .inl v), (2, .inl 1000)] [] S
  simp only [wp_s, wpC_f, wpC_t, e_wLd, e_wLd0, e_wLd1, e_wLd2, e_get1, e_get2, e_wJ, e_wJo, f40, f41, f42, f43, Nat.reduceAdd, Nat.reduceBEq, Nat.reduceMul, eq_self, true_or, or_true, true_and, dX4_addNumber_0, dX4_addNumber_3, dX4_addNumber_4, dX4_addNumber_5, dX4_addNumber_6, dX4_addNumber_9, dX4_addNumber_10, dX4_addNumber_11, dX4_addNumber_14, dX4_addNumber_15, dX4_addNumber_16, dX4_addNumber_19, dX4_addNumber_20, dX4_addNumber_22, dX4_addNumber_23, dX4_addNumber_24, dX4_addNumber_25, dX4_addNumber_27, dX4_addNumber_28, dX4_addNumber_29, dX4_addNumber_32, dX4_addNumber_33, dX4_addNumber_35, dX4_addNumber_36, dX4_addNumber_37, dX4_addNumber_40, e_aload_n, e_iload_n, e_istore_n, e_iconst, e_bipush, e_sipush, e_iadd, e_idiv, e_irem, e_if_icmp, e_goto, e_invokevirtual, e_return_, e_wSt0, e_wSt1, e_wSt2, e_isL0, e_isL1, e_isL2, e_lset, e_lclr0, e_lclr1, e_lclr2, e_lput0, e_lput1, e_lput2, e_wInc, e_wInc0, Nat.reduceLT, not_false_eq_true, Bool.or_false, Bool.false_or, Bool.or_true, Bool.true_or, Bool.and_false, Bool.false_and, Bool.and_true, Bool.true_and, e_wI2, e_rv, e_wD2, e_wIc_ge, e_wIc_ne, e_wIc_lt, bp_10, bp_48, ic_1, jt_11_8, jt_16_16, jt_37_m33, jt_6_34, sp_1000, e_call, e_callS0, e_callS1, e_callS2, e_callS3, e_callS4, e_pop0, e_pop1, e_tl0, e_tl1, tbX4_addNumber_f, tbX4_addNumber_p, tbX4_addNumber_k, tbX4_addNumber_c58, cv_242_0, cv_242_1, cv_242_2, cv_242_3, cv_242_4, spX4_addByte]
  have ed : v.tdiv 1000 = v / 1000 := Int.tdiv_eq_ediv_of_nonneg h1.1
  have ev : wI (v.tdiv 1000) = v / 1000 := by rw [ed]; exact wI_id (by omega) (by omega)
  have em : (v / 1000).tmod 10 = v / 1000 % 10 := Int.tmod_eq_emod_of_nonneg (by omega)
  have eu : wI (Int.tdiv 1000 10) = 100 := by decide
  simp (disch := omega) only [ev, em, eu, wI_id]
  unfold dg4 at h2
  refine ⟨fun q => absurd q (by decide), fun _ => ⟨fun q => ?_, fun q => ?_⟩⟩
  · rw [if_pos q, ← em_app] at h2
    exact ⟨by decide, by decide, h0, by decide, lpN3 l Q 0 _ v (em_sz h0) h1 h2⟩
  · rw [if_neg q] at h2
    exact ⟨fun _ => ⟨by decide, lpN3 l Q 0 _ v h0 h1 h2⟩, fun q2 => absurd q2 (by decide)⟩
set_option maxRecDepth 20000 in
set_option maxHeartbeats 4000000 in
theorem okX4_addNumber (l : Launch) : aOK l mX4_addNumber spX4_addNumber := by
  refine aOK_of rfl fun as S Q h => ?_
  unfold spX4_addNumber at h
  split at h
  · rename_i v
    refine ⟨Nat.le_of_ble_eq_true rfl, wp_ok (tbX4_addNumber_ok l) Q (fun pc => pc == 4) 28 0 _ [] S ?_⟩
    show wp cX4_addNumber tbX4_addNumber 3 none Q (fun pc => pc == 4) (aGo l mX4_addNumber Q) 28 0 [(0, .inr (.inr 242)), (1, .inl v)] [] S
    simp only [wp_s, wpC_f, wpC_t, e_wLd, e_wLd0, e_wLd1, e_wLd2, e_get1, e_get2, e_wJ, e_wJo, f40, f41, f42, f43, Nat.reduceAdd, Nat.reduceBEq, Nat.reduceMul, eq_self, true_or, or_true, true_and, dX4_addNumber_0, dX4_addNumber_3, dX4_addNumber_4, dX4_addNumber_5, dX4_addNumber_6, dX4_addNumber_9, dX4_addNumber_10, dX4_addNumber_11, dX4_addNumber_14, dX4_addNumber_15, dX4_addNumber_16, dX4_addNumber_19, dX4_addNumber_20, dX4_addNumber_22, dX4_addNumber_23, dX4_addNumber_24, dX4_addNumber_25, dX4_addNumber_27, dX4_addNumber_28, dX4_addNumber_29, dX4_addNumber_32, dX4_addNumber_33, dX4_addNumber_35, dX4_addNumber_36, dX4_addNumber_37, dX4_addNumber_40, e_aload_n, e_iload_n, e_istore_n, e_iconst, e_bipush, e_sipush, e_iadd, e_idiv, e_irem, e_if_icmp, e_goto, e_invokevirtual, e_return_, e_wSt0, e_wSt1, e_wSt2, e_isL0, e_isL1, e_isL2, e_lset, e_lclr0, e_lclr1, e_lclr2, e_lput0, e_lput1, e_lput2, e_wInc, e_wInc0, Nat.reduceLT, not_false_eq_true, Bool.or_false, Bool.false_or, Bool.or_true, Bool.true_or, Bool.and_false, Bool.false_and, Bool.and_true, Bool.true_and, e_wI2, e_rv, e_wD2, e_wIc_ge, e_wIc_ne, e_wIc_lt, bp_10, bp_48, ic_1, jt_11_8, jt_16_16, jt_37_m33, jt_6_34, sp_1000, e_call, e_callS0, e_callS1, e_callS2, e_callS3, e_callS4, e_pop0, e_pop1, e_tl0, e_tl1, tbX4_addNumber_f, tbX4_addNumber_p, tbX4_addNumber_k, tbX4_addNumber_c58, cv_242_0, cv_242_1, cv_242_2, cv_242_3, cv_242_4]
    exact lpN4 l Q 0 S v h.1 ⟨h.2.1, h.2.2.1⟩ h.2.2.2
  · exact h.elim
