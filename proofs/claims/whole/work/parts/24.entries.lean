/-! ENTRIES, a new slip, words of the tape -/
def spX2_formOf : aSp := fun as S Q => match as with
  | [.inl e, .inl i] => (-1000 ≤ e ∧ e ≤ 1000) ∧ (-1000 ≤ i ∧ i ≤ 1000) ∧ Q (some (.inl (e * 5 + i))) S
  | _ => False
def tbX2_formOf : aTb := (fX2, pX2, fun j => lk [] j, kX2)
theorem tbX2_formOf_f : tbX2_formOf.1 = fX2 := rfl
theorem tbX2_formOf_p : tbX2_formOf.2.1 = pX2 := rfl
theorem tbX2_formOf_k : tbX2_formOf.2.2.2 = kX2 := rfl
theorem tbX2_formOf_all (l : Launch) : ∀ e ∈ ([] : List (Nat × Option Nat × Nat × aSp)), cOK l mX2_formOf e.1 e.2.1 e.2.2.1 e.2.2.2 ∨ mOK mX2_formOf e.1 e.2.1 e.2.2.1 e.2.2.2 := all_nil
theorem tbX2_formOf_ok (l : Launch) : tOK l mX2_formOf tbX2_formOf := ⟨fX2_ok, pX2_ok, fun _ _ _ _ h => tbX2_formOf_all l _ (lk_mem h), kX2_ok⟩
set_option maxRecDepth 20000 in
set_option maxHeartbeats 4000000 in
theorem okX2_formOf (l : Launch) : aOK l mX2_formOf spX2_formOf := by
  refine aOK_of rfl fun as S Q h => ?_
  unfold spX2_formOf at h
  split at h
  · rename_i e i
    refine ⟨Nat.le_of_ble_eq_true rfl, wp_ok (tbX2_formOf_ok l) Q (fun pc => false) 8 0 _ [] S ?_⟩
    show wp cX2_formOf tbX2_formOf 2 (some .int) Q (fun pc => false) (aGo l mX2_formOf Q) 8 0 [(0, .inl e), (1, .inl i)] [] S
    simp only [wp_s, wpC_f, wpC_t, e_wLd, e_wLd0, e_wLd1, e_wLd2, e_get1, e_get2, e_wJ, e_wJo, f40, f41, f42, f43, Nat.reduceAdd, Nat.reduceBEq, Nat.reduceMul, eq_self, true_or, or_true, true_and, dX2_formOf_0, dX2_formOf_1, dX2_formOf_2, dX2_formOf_3, dX2_formOf_4, dX2_formOf_5, e_iload_n, e_iconst, e_iadd, e_imul, e_ireturn, e_ri, e_rz, e_wI2, ic_5, tbX2_formOf_f, tbX2_formOf_p, tbX2_formOf_k]
    simp (disch := omega) only [wI_id]
    exact h.2.2
  · exact h.elim
def spX2_has : aSp := fun as S Q => match as with
  | [.inr (.inr 14), .inl b] => Q (some (.inl (bi (0 ≤ b ∧ b < S.1 14 4)))) S
  | _ => False
def tbX2_has : aTb := (fX2, pX2, fun j => lk [] j, kX2)
theorem tbX2_has_f : tbX2_has.1 = fX2 := rfl
theorem tbX2_has_p : tbX2_has.2.1 = pX2 := rfl
theorem tbX2_has_k : tbX2_has.2.2.2 = kX2 := rfl
theorem tbX2_has_all (l : Launch) : ∀ e ∈ ([] : List (Nat × Option Nat × Nat × aSp)), cOK l mX2_has e.1 e.2.1 e.2.2.1 e.2.2.2 ∨ mOK mX2_has e.1 e.2.1 e.2.2.1 e.2.2.2 := all_nil
theorem tbX2_has_ok (l : Launch) : tOK l mX2_has tbX2_has := ⟨fX2_ok, pX2_ok, fun _ _ _ _ h => tbX2_has_all l _ (lk_mem h), kX2_ok⟩
set_option maxRecDepth 20000 in
set_option maxHeartbeats 4000000 in
theorem okX2_has (l : Launch) : aOK l mX2_has spX2_has := by
  refine aOK_of rfl fun as S Q h => ?_
  unfold spX2_has at h
  split at h
  · rename_i b
    refine ⟨Nat.le_of_ble_eq_true rfl, wp_ok (tbX2_has_ok l) Q (fun pc => false) 12 0 _ [] S ?_⟩
    show wp cX2_has tbX2_has 2 (some .boolean) Q (fun pc => false) (aGo l mX2_has Q) 12 0 [(0, .inr (.inr 14)), (1, .inl b)] [] S
    simp only [wp_s, wpC_f, wpC_t, e_wLd, e_wLd0, e_wLd1, e_wLd2, e_get1, e_get2, e_wJ, e_wJo, f40, f41, f42, f43, Nat.reduceAdd, Nat.reduceBEq, Nat.reduceMul, eq_self, true_or, or_true, true_and, dX2_has_0, dX2_has_1, dX2_has_4, dX2_has_5, dX2_has_6, dX2_has_9, dX2_has_12, dX2_has_13, dX2_has_16, dX2_has_17, e_aload_n, e_iload_n, e_iconst, e_ifCond, e_if_icmp, e_goto, e_getfield, e_ireturn, e_ri, e_rz, e_wIf_lt, e_wIc_ge, fX2_30, ic_0, ic_1, jt_13_4, jt_1_15, jt_9_7, tbX2_has_f, tbX2_has_p, tbX2_has_k, g_14_4]
    repeat' (with_reducible first | intro _ | refine And.intro ?_ ?_)
    all_goals first | exact h | (rw [bi_t (by omega)] at h; exact h) | (rw [bi_f (by omega)] at h; exact h) | omega
  · exact h.elim
def spX2_hasRoomForForm : aSp := fun as S Q => match as with
  | [.inr (.inr 14), .inl b] => S.1 14 4 ≤ 12 ∧ Q (some (.inl (bi (0 ≤ b ∧ b < S.1 14 4 ∧ S.1 15 b.toNat < 5)))) S
  | _ => False
def tbX2_hasRoomForForm : aTb := (fX2, pX2, fun j => lk [(34, (some 2), 2, spX2_has)] j, kX2)
theorem tbX2_hasRoomForForm_f : tbX2_hasRoomForForm.1 = fX2 := rfl
theorem tbX2_hasRoomForForm_p : tbX2_hasRoomForForm.2.1 = pX2 := rfl
theorem tbX2_hasRoomForForm_k : tbX2_hasRoomForForm.2.2.2 = kX2 := rfl
theorem tbX2_hasRoomForForm_c34 : tbX2_hasRoomForForm.2.2.1 34 = some ((some 2), 2, spX2_has) := rfl
theorem tbX2_hasRoomForForm_all (l : Launch) : ∀ e ∈ ([(34, (some 2), 2, spX2_has)] : List (Nat × Option Nat × Nat × aSp)), cOK l mX2_hasRoomForForm e.1 e.2.1 e.2.2.1 e.2.2.2 ∨ mOK mX2_hasRoomForForm e.1 e.2.1 e.2.2.1 e.2.2.2 := all_cons (cOK_of (okX2_has l) meX2_has cfX2_34 (by decide) (by decide)) (all_nil)
theorem tbX2_hasRoomForForm_ok (l : Launch) : tOK l mX2_hasRoomForForm tbX2_hasRoomForForm := ⟨fX2_ok, pX2_ok, fun _ _ _ _ h => tbX2_hasRoomForForm_all l _ (lk_mem h), kX2_ok⟩
set_option maxRecDepth 20000 in
set_option maxHeartbeats 4000000 in
theorem okX2_hasRoomForForm (l : Launch) : aOK l mX2_hasRoomForForm spX2_hasRoomForForm := by
  refine aOK_of rfl fun as S Q h => ?_
  unfold spX2_hasRoomForForm at h
  split at h
  · rename_i b
    refine ⟨Nat.le_of_ble_eq_true rfl, wp_ok (tbX2_hasRoomForForm_ok l) Q (fun pc => false) 16 0 _ [] S ?_⟩
    show wp cX2_hasRoomForForm tbX2_hasRoomForForm 2 (some .boolean) Q (fun pc => false) (aGo l mX2_hasRoomForForm Q) 16 0 [(0, .inr (.inr 14)), (1, .inl b)] [] S
    simp only [wp_s, wpC_f, wpC_t, e_wLd, e_wLd0, e_wLd1, e_wLd2, e_get1, e_get2, e_wJ, e_wJo, f40, f41, f42, f43, Nat.reduceAdd, Nat.reduceBEq, Nat.reduceMul, eq_self, true_or, or_true, true_and, dX2_hasRoomForForm_0, dX2_hasRoomForForm_1, dX2_hasRoomForForm_2, dX2_hasRoomForForm_5, dX2_hasRoomForForm_8, dX2_hasRoomForForm_9, dX2_hasRoomForForm_12, dX2_hasRoomForForm_13, dX2_hasRoomForForm_14, dX2_hasRoomForForm_15, dX2_hasRoomForForm_18, dX2_hasRoomForForm_19, dX2_hasRoomForForm_22, dX2_hasRoomForForm_23, e_aload_n, e_iload_n, e_iconst, e_ifCond, e_if_icmp, e_goto, e_getfield, e_iaload, e_invokevirtual, e_ireturn, e_ri, e_rz, e_wIc_ge, e_wIf_eq, fX2_9, ic_0, ic_1, ic_5, jt_15_7, jt_19_4, jt_5_17, e_call, e_callS0, e_callS1, e_callS2, e_callS3, e_callS4, e_pop0, e_pop1, e_tl0, e_tl1, tbX2_hasRoomForForm_f, tbX2_hasRoomForForm_p, tbX2_hasRoomForForm_k, tbX2_hasRoomForForm_c34, l_15, cv_14_0, cv_14_1, cv_14_2, cv_14_3, cv_14_4, g_14_0, spX2_has, bi_0, bi_1, ne_eq, Classical.not_not, em_r, em_l]
    obtain ⟨hs, h⟩ := h
    repeat' (with_reducible first | intro _ | refine And.intro ?_ ?_)
    all_goals first | exact h | (rw [bi_t (by omega)] at h; exact h) | (rw [bi_f (by omega)] at h; exact h) | omega
  · exact h.elim
def spX2_isSpelledIn : aSp := fun as S Q => match as with
  | [.inr (.inr 14), .inl b, .inl x, .inl y] => Q (some (.inl (bi (0 ≤ b ∧ b < 60 ∧ S.1 16 b.toNat ≤ y ∧ x ≤ S.1 17 b.toNat)))) S
  | _ => False
def tbX2_isSpelledIn : aTb := (fX2, pX2, fun j => lk [] j, kX2)
theorem tbX2_isSpelledIn_f : tbX2_isSpelledIn.1 = fX2 := rfl
theorem tbX2_isSpelledIn_p : tbX2_isSpelledIn.2.1 = pX2 := rfl
theorem tbX2_isSpelledIn_k : tbX2_isSpelledIn.2.2.2 = kX2 := rfl
theorem tbX2_isSpelledIn_all (l : Launch) : ∀ e ∈ ([] : List (Nat × Option Nat × Nat × aSp)), cOK l mX2_isSpelledIn e.1 e.2.1 e.2.2.1 e.2.2.2 ∨ mOK mX2_isSpelledIn e.1 e.2.1 e.2.2.1 e.2.2.2 := all_nil
theorem tbX2_isSpelledIn_ok (l : Launch) : tOK l mX2_isSpelledIn tbX2_isSpelledIn := ⟨fX2_ok, pX2_ok, fun _ _ _ _ h => tbX2_isSpelledIn_all l _ (lk_mem h), kX2_ok⟩
set_option maxRecDepth 20000 in
set_option maxHeartbeats 4000000 in
theorem okX2_isSpelledIn (l : Launch) : aOK l mX2_isSpelledIn spX2_isSpelledIn := by
  refine aOK_of rfl fun as S Q h => ?_
  unfold spX2_isSpelledIn at h
  split at h
  · rename_i b x y
    refine ⟨Nat.le_of_ble_eq_true rfl, wp_ok (tbX2_isSpelledIn_ok l) Q (fun pc => false) 25 0 _ [] S ?_⟩
    show wp cX2_isSpelledIn tbX2_isSpelledIn 4 (some .boolean) Q (fun pc => false) (aGo l mX2_isSpelledIn Q) 25 0 [(0, .inr (.inr 14)), (1, .inl b), (2, .inl x), (3, .inl y)] [] S
    simp only [wp_s, wpC_f, wpC_t, e_wLd, e_wLd0, e_wLd1, e_wLd2, e_get1, e_get2, e_wJ, e_wJo, f40, f41, f42, f43, Nat.reduceAdd, Nat.reduceBEq, Nat.reduceMul, eq_self, true_or, or_true, true_and, dX2_isSpelledIn_0, dX2_isSpelledIn_1, dX2_isSpelledIn_4, dX2_isSpelledIn_5, dX2_isSpelledIn_6, dX2_isSpelledIn_9, dX2_isSpelledIn_10, dX2_isSpelledIn_13, dX2_isSpelledIn_14, dX2_isSpelledIn_17, dX2_isSpelledIn_18, dX2_isSpelledIn_19, dX2_isSpelledIn_20, dX2_isSpelledIn_23, dX2_isSpelledIn_24, dX2_isSpelledIn_25, dX2_isSpelledIn_28, dX2_isSpelledIn_29, dX2_isSpelledIn_30, dX2_isSpelledIn_33, dX2_isSpelledIn_34, dX2_isSpelledIn_37, dX2_isSpelledIn_38, e_aload_n, e_iload_n, e_iconst, e_ifCond, e_if_icmp, e_goto, e_getfield, e_iaload, e_arraylength, e_ireturn, e_ri, e_rz, e_wIc_gt, e_wIf_lt, e_wIc_ge, fX2_15, fX2_18, ic_0, ic_1, jt_10_27, jt_1_36, jt_20_17, jt_30_7, jt_34_4, tbX2_isSpelledIn_f, tbX2_isSpelledIn_p, tbX2_isSpelledIn_k, g_14_1, g_14_2, l_17, n_17, l_16, n_16]
    repeat' (with_reducible first | intro _ | refine And.intro ?_ ?_)
    all_goals first | exact h | (rw [bi_t (by omega)] at h; exact h) | (rw [bi_f (by omega)] at h; exact h) | omega
  · exact h.elim
/-- the word v set as word i of the forms; the rules are told to it -/
def stW (S : aS) (R le i : Nat) (o f : Nat → Int) (v : Int) : aS := stN S R le i (adA v o f (S.1 11 2).toNat 0 (fu (S.2 R) 0 v, 1))
/-- a form more -/
def fmA (S : aS) (e v a b : Int) : aS := upI (upI (upI (stW S (20 + (e * 5 + S.1 15 e.toNat).toNat) 80 (e * 5 + S.1 15 e.toNat).toNat (S.2 12) (S.2 13) v) 16 (e * 5 + S.1 15 e.toNat).toNat a) 17 (e * 5 + S.1 15 e.toNat).toNat b) 15 e.toNat (S.1 15 e.toNat + 1)
def ruOK (S : aS) (v : Int) (o f : Nat → Int) : Prop := 0 ≤ S.1 11 2 ∧ S.1 11 2 ≤ 10 ∧ ∀ r : Nat, (r : Int) < S.1 11 2 → chOK v (o r) (f r)
def spX2_addForm : aSp := fun as S Q => match as with
  | [.inr (.inr 14), .inl e, .inr (.inl v), .inl a, .inl b] => S.1 14 4 ≤ 12 ∧ S.1 18 1 = 0 ∧ (∀ j : Nat, j < 12 → 0 ≤ S.1 15 j) ∧ ruOK S v (S.2 12) (S.2 13) ∧ (¬ (0 ≤ e ∧ e < S.1 14 4 ∧ S.1 15 e.toNat < 5) → Q (some (.inl (-1))) S) ∧ (0 ≤ e ∧ e < S.1 14 4 ∧ S.1 15 e.toNat < 5 → Q (some (.inl (S.1 15 e.toNat + 1))) (fmA S e v a b))
  | _ => False
def tbX2_addForm : aTb := (fX2, pX2, fun j => lk [(42, (some 2), 2, spX2_hasRoomForForm), (45, none, 2, spX2_formOf), (49, (some 10), 3, spX10_set)] j, kX2)
theorem tbX2_addForm_f : tbX2_addForm.1 = fX2 := rfl
theorem tbX2_addForm_p : tbX2_addForm.2.1 = pX2 := rfl
theorem tbX2_addForm_k : tbX2_addForm.2.2.2 = kX2 := rfl
theorem tbX2_addForm_c42 : tbX2_addForm.2.2.1 42 = some ((some 2), 2, spX2_hasRoomForForm) := rfl
theorem tbX2_addForm_c45 : tbX2_addForm.2.2.1 45 = some (none, 2, spX2_formOf) := rfl
theorem tbX2_addForm_c49 : tbX2_addForm.2.2.1 49 = some ((some 10), 3, spX10_set) := rfl
theorem tbX2_addForm_all (l : Launch) : ∀ e ∈ ([(42, (some 2), 2, spX2_hasRoomForForm), (45, none, 2, spX2_formOf), (49, (some 10), 3, spX10_set)] : List (Nat × Option Nat × Nat × aSp)), cOK l mX2_addForm e.1 e.2.1 e.2.2.1 e.2.2.2 ∨ mOK mX2_addForm e.1 e.2.1 e.2.2.1 e.2.2.2 := all_cons (cOK_of (okX2_hasRoomForForm l) meX2_hasRoomForForm cfX2_42 (by decide) (by decide)) (all_cons (cOK_of (okX2_formOf l) meX2_formOf cfX2_45 (by decide) (by decide)) (all_cons (cOK_of (okX10_set l) meX10_set cfX2_49 (by decide) (by decide)) (all_nil)))
theorem tbX2_addForm_ok (l : Launch) : tOK l mX2_addForm tbX2_addForm := ⟨fX2_ok, pX2_ok, fun _ _ _ _ h => tbX2_addForm_all l _ (lk_mem h), kX2_ok⟩
set_option maxRecDepth 20000 in
set_option maxHeartbeats 4000000 in
theorem okX2_addForm (l : Launch) : aOK l mX2_addForm spX2_addForm := by
  refine aOK_of rfl fun as S Q h => ?_
  unfold spX2_addForm at h
  split at h
  · rename_i e v a b
    refine ⟨Nat.le_of_ble_eq_true rfl, wp_ok (tbX2_addForm_ok l) Q (fun pc => false) 43 0 _ [] S ?_⟩
    show wp cX2_addForm tbX2_addForm 7 (some .int) Q (fun pc => false) (aGo l mX2_addForm Q) 43 0 [(0, .inr (.inr 14)), (1, .inl e), (2, .inr (.inl v)), (4, .inl a), (5, .inl b)] [] S
    simp only [wp_s, wpC_f, wpC_t, e_wLd, e_wLd0, e_wLd1, e_wLd2, e_get1, e_get2, e_wJ, e_wJo, f40, f41, f42, f43, Nat.reduceAdd, Nat.reduceBEq, Nat.reduceMul, eq_self, true_or, or_true, true_and, dX2_addForm_0, dX2_addForm_1, dX2_addForm_2, dX2_addForm_5, dX2_addForm_8, dX2_addForm_9, dX2_addForm_10, dX2_addForm_11, dX2_addForm_12, dX2_addForm_15, dX2_addForm_16, dX2_addForm_17, dX2_addForm_20, dX2_addForm_22, dX2_addForm_23, dX2_addForm_26, dX2_addForm_28, dX2_addForm_29, dX2_addForm_32, dX2_addForm_33, dX2_addForm_36, dX2_addForm_38, dX2_addForm_40, dX2_addForm_41, dX2_addForm_42, dX2_addForm_45, dX2_addForm_47, dX2_addForm_49, dX2_addForm_50, dX2_addForm_51, dX2_addForm_54, dX2_addForm_55, dX2_addForm_56, dX2_addForm_57, dX2_addForm_58, dX2_addForm_59, dX2_addForm_60, dX2_addForm_61, dX2_addForm_64, dX2_addForm_65, dX2_addForm_66, e_aload_n, e_iload_n, e_iload, e_lload_n, e_istore, e_iconst, e_iadd, e_dup2, e_ifCond, e_getfield, e_iaload, e_iastore, e_invokevirtual, e_invokestatic, e_ireturn, e_wSt0, e_wSt1, e_wSt2, e_isL0, e_isL1, e_isL2, e_lset, e_lclr0, e_lclr1, e_lclr2, e_lput0, e_lput1, e_lput2, e_wInc, e_wInc0, Nat.reduceLT, not_false_eq_true, Bool.or_false, Bool.false_or, Bool.or_true, Bool.true_or, Bool.and_false, Bool.false_and, Bool.and_true, Bool.true_and, e_ri, e_rz, e_wDup2, e_wI2, e_wIf_ne, fX2_15, fX2_18, fX2_26, fX2_9, ic_1, ic_m1, jt_5_5, e_call, e_callS0, e_callS1, e_callS2, e_callS3, e_callS4, e_pop0, e_pop1, e_tl0, e_tl1, tbX2_addForm_f, tbX2_addForm_p, tbX2_addForm_k, tbX2_addForm_c42, tbX2_addForm_c45, tbX2_addForm_c49, l_15, s_15, g_14_2, g_14_1, cv_18_0, cv_18_1, cv_18_2, cv_18_3, cv_18_4, l_17, s_17, cv_85_0, cv_85_1, cv_85_2, cv_85_3, cv_85_4, cv_14_0, cv_14_1, cv_14_2, cv_14_3, cv_14_4, l_16, s_16, g_14_3, g_14_0, spX2_hasRoomForForm, spX2_formOf, spX10_set, bi_0, bi_1, ne_eq, Classical.not_not, em_r, em_l]
    obtain ⟨h0, h1, h2, h3, h4, h5⟩ := h
    refine ⟨h0, fun q => ⟨by omega, by omega, by omega, ?_⟩, fun q => h4 q⟩
    have g2 := h2 e.toNat (by omega)
    refine ⟨by omega, h3.1, h3.2.1, h1, fun q2 => absurd q2 (by omega), fun _ => ⟨h3.2.2, ?_⟩⟩
    have e1 : ∀ (x : aX) (c d : Nat), ¬ c = 80 → (stN S (20 + (e * 5 + S.1 15 e.toNat).toNat) 80 (e * 5 + S.1 15 e.toNat).toNat x).1 c d = S.1 c d := fun x c d hc => stN_1 hc
    simp (disch := omega) only [e1, up_hit, up_obj, wI_id]
    repeat' (with_reducible first | intro _ | refine And.intro ?_ ?_)
    all_goals first | omega | exact h5 q
  · exact h.elim
def spX2_add : aSp := fun as S Q => match as with
  | [.inr (.inr 14), .inr (.inl v), .inl a, .inl b] => 0 ≤ S.1 14 4 ∧ S.1 14 4 ≤ 12 ∧ S.1 18 1 = 0 ∧ (∀ j : Nat, j < 12 → 0 ≤ S.1 15 j ∧ (S.1 14 4 ≤ (j : Int) → S.1 15 j = 0)) ∧ ruOK S v (S.2 12) (S.2 13) ∧ (12 ≤ S.1 14 4 → Q (some (.inl (-1))) S) ∧ (S.1 14 4 < 12 → Q (some (.inl (S.1 14 4))) (fmA (upI S 14 4 (S.1 14 4 + 1)) (S.1 14 4) v a b))
  | _ => False
def tbX2_add : aTb := (fX2, pX2, fun j => lk [(38, (some 2), 5, spX2_addForm)] j, kX2)
theorem tbX2_add_f : tbX2_add.1 = fX2 := rfl
theorem tbX2_add_p : tbX2_add.2.1 = pX2 := rfl
theorem tbX2_add_k : tbX2_add.2.2.2 = kX2 := rfl
theorem tbX2_add_c38 : tbX2_add.2.2.1 38 = some ((some 2), 5, spX2_addForm) := rfl
theorem tbX2_add_all (l : Launch) : ∀ e ∈ ([(38, (some 2), 5, spX2_addForm)] : List (Nat × Option Nat × Nat × aSp)), cOK l mX2_add e.1 e.2.1 e.2.2.1 e.2.2.2 ∨ mOK mX2_add e.1 e.2.1 e.2.2.1 e.2.2.2 := all_cons (cOK_of (okX2_addForm l) meX2_addForm cfX2_38 (by decide) (by decide)) (all_nil)
theorem tbX2_add_ok (l : Launch) : tOK l mX2_add tbX2_add := ⟨fX2_ok, pX2_ok, fun _ _ _ _ h => tbX2_add_all l _ (lk_mem h), kX2_ok⟩
set_option maxRecDepth 20000 in
set_option maxHeartbeats 4000000 in
theorem okX2_add (l : Launch) : aOK l mX2_add spX2_add := by
  refine aOK_of rfl fun as S Q h => ?_
  unfold spX2_add at h
  split at h
  · rename_i v a b
    refine ⟨Nat.le_of_ble_eq_true rfl, wp_ok (tbX2_add_ok l) Q (fun pc => false) 25 0 _ [] S ?_⟩
    show wp cX2_add tbX2_add 6 (some .int) Q (fun pc => false) (aGo l mX2_add Q) 25 0 [(0, .inr (.inr 14)), (1, .inr (.inl v)), (3, .inl a), (4, .inl b)] [] S
    simp only [wp_s, wpC_f, wpC_t, e_wLd, e_wLd0, e_wLd1, e_wLd2, e_get1, e_get2, e_wJ, e_wJo, f40, f41, f42, f43, Nat.reduceAdd, Nat.reduceBEq, Nat.reduceMul, eq_self, true_or, or_true, true_and, dX2_add_0, dX2_add_1, dX2_add_4, dX2_add_6, dX2_add_8, dX2_add_10, dX2_add_13, dX2_add_14, dX2_add_15, dX2_add_16, dX2_add_17, dX2_add_20, dX2_add_21, dX2_add_22, dX2_add_25, dX2_add_26, dX2_add_28, dX2_add_29, dX2_add_30, dX2_add_32, dX2_add_35, dX2_add_36, dX2_add_38, e_aload_n, e_iload_n, e_iload, e_lload_n, e_istore, e_iconst, e_bipush, e_iadd, e_dup, e_pop, e_if_icmp, e_getfield, e_putfield, e_invokevirtual, e_ireturn, e_wSt0, e_wSt1, e_wSt2, e_isL0, e_isL1, e_isL2, e_lset, e_lclr0, e_lclr1, e_lclr2, e_lput0, e_lput1, e_lput2, e_wInc, e_wInc0, Nat.reduceLT, not_false_eq_true, Bool.or_false, Bool.false_or, Bool.or_true, Bool.true_or, Bool.and_false, Bool.false_and, Bool.and_true, Bool.true_and, e_ri, e_rz, e_wI2, e_wDup0, e_wDup1, e_wPop, e_wIc_lt, bp_12, fX2_30, ic_1, ic_m1, jt_10_5, pX2_30, e_call, e_callS0, e_callS1, e_callS2, e_callS3, e_callS4, e_pop0, e_pop1, e_tl0, e_tl1, tbX2_add_f, tbX2_add_p, tbX2_add_k, tbX2_add_c38, g_14_4, cv_14_0, cv_14_1, cv_14_2, cv_14_3, cv_14_4, p_14_4, spX2_addForm]
    obtain ⟨h0, h0b, h1, h2, h3, h4, h5⟩ := h
    refine ⟨fun q => ?_, fun q => h4 (by omega)⟩
    have g2 := h2 (S.1 14 4).toNat (by omega)
    simp (disch := omega) only [up_hit, up_obj, wI_id]
    refine ⟨by omega, h1, fun j hj => (h2 j hj).1, h3, fun q2 => absurd q2 (by omega), fun _ => h5 (by omega)⟩
  · exact h.elim
def spX2_head : aSp := fun as S Q => match as with
  | [.inr (.inr 14), .inl e] => S.1 14 4 ≤ 12 ∧ (¬ (0 ≤ e ∧ e < S.1 14 4) → Q (some (.inr (.inl 0))) S) ∧ (0 ≤ e ∧ e < S.1 14 4 → 0 < S.1 80 (e * 5).toNat ∧ Q (some (.inr (.inl (S.2 (20 + (e * 5).toNat) 0)))) S)
  | _ => False
def tbX2_head : aTb := (fX2, pX2, fun j => lk [(34, (some 2), 2, spX2_has), (45, none, 2, spX2_formOf), (53, (some 10), 2, spX10_wordAt)] j, kX2)
theorem tbX2_head_f : tbX2_head.1 = fX2 := rfl
theorem tbX2_head_p : tbX2_head.2.1 = pX2 := rfl
theorem tbX2_head_k : tbX2_head.2.2.2 = kX2 := rfl
theorem tbX2_head_c34 : tbX2_head.2.2.1 34 = some ((some 2), 2, spX2_has) := rfl
theorem tbX2_head_c45 : tbX2_head.2.2.1 45 = some (none, 2, spX2_formOf) := rfl
theorem tbX2_head_c53 : tbX2_head.2.2.1 53 = some ((some 10), 2, spX10_wordAt) := rfl
theorem tbX2_head_all (l : Launch) : ∀ e ∈ ([(34, (some 2), 2, spX2_has), (45, none, 2, spX2_formOf), (53, (some 10), 2, spX10_wordAt)] : List (Nat × Option Nat × Nat × aSp)), cOK l mX2_head e.1 e.2.1 e.2.2.1 e.2.2.2 ∨ mOK mX2_head e.1 e.2.1 e.2.2.1 e.2.2.2 := all_cons (cOK_of (okX2_has l) meX2_has cfX2_34 (by decide) (by decide)) (all_cons (cOK_of (okX2_formOf l) meX2_formOf cfX2_45 (by decide) (by decide)) (all_cons (cOK_of (okX10_wordAt l) meX10_wordAt cfX2_53 (by decide) (by decide)) (all_nil)))
theorem tbX2_head_ok (l : Launch) : tOK l mX2_head tbX2_head := ⟨fX2_ok, pX2_ok, fun _ _ _ _ h => tbX2_head_all l _ (lk_mem h), kX2_ok⟩
set_option maxRecDepth 20000 in
set_option maxHeartbeats 4000000 in
theorem okX2_head (l : Launch) : aOK l mX2_head spX2_head := by
  refine aOK_of rfl fun as S Q h => ?_
  unfold spX2_head at h
  split at h
  · rename_i e
    refine ⟨Nat.le_of_ble_eq_true rfl, wp_ok (tbX2_head_ok l) Q (fun pc => false) 15 0 _ [] S ?_⟩
    show wp cX2_head tbX2_head 2 (some .long) Q (fun pc => false) (aGo l mX2_head Q) 15 0 [(0, .inr (.inr 14)), (1, .inl e)] [] S
    simp only [wp_s, wpC_f, wpC_t, e_wLd, e_wLd0, e_wLd1, e_wLd2, e_get1, e_get2, e_wJ, e_wJo, f40, f41, f42, f43, Nat.reduceAdd, Nat.reduceBEq, Nat.reduceMul, eq_self, true_or, or_true, true_and, dX2_head_0, dX2_head_1, dX2_head_2, dX2_head_5, dX2_head_8, dX2_head_9, dX2_head_12, dX2_head_13, dX2_head_14, dX2_head_17, dX2_head_20, dX2_head_23, dX2_head_24, e_aload_n, e_iload_n, e_iconst, e_lconst, e_ifCond, e_goto, e_getfield, e_invokevirtual, e_invokestatic, e_lreturn, lc0, lc1, e_rl, e_wIf_eq, fX2_26, ic_0, jt_20_4, jt_5_18, e_call, e_callS0, e_callS1, e_callS2, e_callS3, e_callS4, e_pop0, e_pop1, e_tl0, e_tl1, tbX2_head_f, tbX2_head_p, tbX2_head_k, tbX2_head_c34, tbX2_head_c45, tbX2_head_c53, cv_18_0, cv_18_1, cv_18_2, cv_18_3, cv_18_4, g_14_3, cv_14_0, cv_14_1, cv_14_2, cv_14_3, cv_14_4, cv_85_0, cv_85_1, cv_85_2, cv_85_3, cv_85_4, spX2_has, spX2_formOf, spX10_wordAt, bi_0, bi_1, ne_eq, Classical.not_not, em_r, em_l]
    obtain ⟨h0, h1, h2⟩ := h
    refine ⟨fun q => h1 q, fun q => ?_⟩
    refine ⟨by omega, by omega, ?_⟩
    simp only [Int.add_zero]
    rw [if_pos ⟨by omega, by omega, (h2 q).1⟩]
    exact (h2 q).2
  · exact h.elim
/-- a slip more -/
def slA (S : aS) (b v : Int) : aS := upI (upI (stW (upI (upI S 81 4 (S.1 81 4 + 1)) 82 (S.1 81 4).toNat b) (87 + (S.1 81 4).toNat) 207 (S.1 81 4).toNat (S.2 13) (S.2 12) v) 83 (S.1 81 4).toNat (-1)) 84 (S.1 81 4).toNat (-1)
def spX7_add : aSp := fun as S Q => match as with
  | [.inr (.inr 81), .inl b, .inr (.inl v)] => 0 ≤ S.1 81 4 ∧ ¬ S.1 85 1 = 0 ∧ ruOK S v (S.2 13) (S.2 12) ∧ (120 ≤ S.1 81 4 → Q (some (.inl (-1))) S) ∧ (S.1 81 4 < 120 → Q (some (.inl (S.1 81 4))) (slA S b v))
  | _ => False
def tbX7_add : aTb := (fX7, pX7, fun j => lk [(34, (some 10), 3, spX10_set), (38, (some 7), 4, spX7_place)] j, kX7)
theorem tbX7_add_f : tbX7_add.1 = fX7 := rfl
theorem tbX7_add_p : tbX7_add.2.1 = pX7 := rfl
theorem tbX7_add_k : tbX7_add.2.2.2 = kX7 := rfl
theorem tbX7_add_c34 : tbX7_add.2.2.1 34 = some ((some 10), 3, spX10_set) := rfl
theorem tbX7_add_c38 : tbX7_add.2.2.1 38 = some ((some 7), 4, spX7_place) := rfl
theorem tbX7_add_all (l : Launch) : ∀ e ∈ ([(34, (some 10), 3, spX10_set), (38, (some 7), 4, spX7_place)] : List (Nat × Option Nat × Nat × aSp)), cOK l mX7_add e.1 e.2.1 e.2.2.1 e.2.2.2 ∨ mOK mX7_add e.1 e.2.1 e.2.2.1 e.2.2.2 := all_cons (cOK_of (okX10_set l) meX10_set cfX7_34 (by decide) (by decide)) (all_cons (cOK_of (okX7_place l) meX7_place cfX7_38 (by decide) (by decide)) (all_nil))
theorem tbX7_add_ok (l : Launch) : tOK l mX7_add tbX7_add := ⟨fX7_ok, pX7_ok, fun _ _ _ _ h => tbX7_add_all l _ (lk_mem h), kX7_ok⟩
set_option maxRecDepth 20000 in
set_option maxHeartbeats 4000000 in
theorem okX7_add (l : Launch) : aOK l mX7_add spX7_add := by
  refine aOK_of rfl fun as S Q h => ?_
  unfold spX7_add at h
  split at h
  · rename_i b v
    refine ⟨Nat.le_of_ble_eq_true rfl, wp_ok (tbX7_add_ok l) Q (fun pc => false) 33 0 _ [] S ?_⟩
    show wp cX7_add tbX7_add 5 (some .int) Q (fun pc => false) (aGo l mX7_add Q) 33 0 [(0, .inr (.inr 81)), (1, .inl b), (2, .inr (.inl v))] [] S
    simp only [wp_s, wpC_f, wpC_t, e_wLd, e_wLd0, e_wLd1, e_wLd2, e_get1, e_get2, e_wJ, e_wJo, f40, f41, f42, f43, Nat.reduceAdd, Nat.reduceBEq, Nat.reduceMul, eq_self, true_or, or_true, true_and, dX7_add_0, dX7_add_1, dX7_add_4, dX7_add_6, dX7_add_8, dX7_add_10, dX7_add_13, dX7_add_14, dX7_add_15, dX7_add_16, dX7_add_17, dX7_add_20, dX7_add_21, dX7_add_22, dX7_add_25, dX7_add_26, dX7_add_29, dX7_add_31, dX7_add_32, dX7_add_33, dX7_add_34, dX7_add_37, dX7_add_39, dX7_add_40, dX7_add_43, dX7_add_44, dX7_add_46, dX7_add_47, dX7_add_48, dX7_add_51, dX7_add_53, e_aload_n, e_iload_n, e_iload, e_lload_n, e_istore, e_iconst, e_bipush, e_iadd, e_dup, e_if_icmp, e_getfield, e_putfield, e_iastore, e_invokevirtual, e_ireturn, e_wSt0, e_wSt1, e_wSt2, e_isL0, e_isL1, e_isL2, e_lset, e_lclr0, e_lclr1, e_lclr2, e_lput0, e_lput1, e_lput2, e_wInc, e_wInc0, Nat.reduceLT, not_false_eq_true, Bool.or_false, Bool.false_or, Bool.or_true, Bool.true_or, Bool.and_false, Bool.false_and, Bool.and_true, Bool.true_and, e_ri, e_rz, e_wI2, e_wDup0, e_wDup1, e_wIc_lt, bp_120, fX7_26, fX7_30, fX7_9, ic_1, ic_m1, jt_10_5, pX7_30, e_call, e_callS0, e_callS1, e_callS2, e_callS3, e_callS4, e_pop0, e_pop1, e_tl0, e_tl1, tbX7_add_f, tbX7_add_p, tbX7_add_k, tbX7_add_c34, tbX7_add_c38, s_82, p_81_4, cv_18_0, cv_18_1, cv_18_2, cv_18_3, cv_18_4, cv_85_0, cv_85_1, cv_85_2, cv_85_3, cv_85_4, g_81_4, cv_81_0, cv_81_1, cv_81_2, cv_81_3, cv_81_4, g_81_0, g_81_3, spX10_set, spX7_place]
    obtain ⟨h0, h1, h3, h4, h5⟩ := h
    refine ⟨fun q => ?_, fun q => h4 (by omega)⟩
    simp (disch := omega) only [up_hit, up_obj, wI_id, up_2]
    refine ⟨h0, by omega, h3.1, h3.2.1, h1, fun q2 => absurd q2 (by omega), fun _ => ⟨h3.2.2, ?_⟩⟩
    simp (disch := omega) only [stN_1, up_hit, up_obj, wI_id, up_2]
    have e := h5 q
    unfold slA stW at e
    simp (disch := omega) only [up_obj, up_2] at e
    exact ⟨by omega, fun _ => e, fun q2 => absurd (⟨h0, by omega⟩ : 0 ≤ S.1 81 4 ∧ S.1 81 4 < S.1 81 4 + 1) q2⟩
  · exact h.elim
/-- the word that n bytes make, from byte i on, w being there already; 0: none -/
def tpW (B : Nat → Int) (sz : Int) : Nat → Nat → Int → Int
  | 0, _, w => w
  | n + 1, i, w => if (i : Int) < sz ∧ 97 ≤ B i ∧ B i ≤ 122 then tpW B sz n (i + 1) (lOr (lShl w 5) (B i - 97 + 1)) else 0
def spX8_wordAt : aSp := fun as S Q => match as with
  | [.inr (.inr 1), .inl a, .inl c] => 0 ≤ S.1 1 1 ∧ S.1 1 1 ≤ 40 ∧ 0 ≤ a ∧ a ≤ 40 ∧ 0 ≤ c ∧ c ≤ 40 ∧ Q (some (.inr (.inl (tpW (S.1 2) (S.1 1 1) c.toNat a.toNat 0)))) S
  | _ => False
def tbX8_wordAt : aTb := (fX8, pX8, fun j => lk [(28, none, 2, spX10_append)] j, kX8)
theorem tbX8_wordAt_f : tbX8_wordAt.1 = fX8 := rfl
theorem tbX8_wordAt_p : tbX8_wordAt.2.1 = pX8 := rfl
theorem tbX8_wordAt_k : tbX8_wordAt.2.2.2 = kX8 := rfl
theorem tbX8_wordAt_c28 : tbX8_wordAt.2.2.1 28 = some (none, 2, spX10_append) := rfl
theorem tbX8_wordAt_all (l : Launch) : ∀ e ∈ ([(28, none, 2, spX10_append)] : List (Nat × Option Nat × Nat × aSp)), cOK l mX8_wordAt e.1 e.2.1 e.2.2.1 e.2.2.2 ∨ mOK mX8_wordAt e.1 e.2.1 e.2.2.1 e.2.2.2 := all_cons (cOK_of (okX10_append l) meX10_append cfX8_28 (by decide) (by decide)) (all_nil)
theorem tbX8_wordAt_ok (l : Launch) : tOK l mX8_wordAt tbX8_wordAt := ⟨fX8_ok, pX8_ok, fun _ _ _ _ h => tbX8_wordAt_all l _ (lk_mem h), kX8_ok⟩
set_option maxRecDepth 20000 in
set_option maxHeartbeats 4000000 in
theorem lpX8_wordAt (l : Launch) (Q : Option aV → aS → Prop) : ∀ (n : Nat) (S : aS) (a c w : Int) (i : Nat), (i : Int) + n = a + c → (S.1 1 1 ≤ 40 ∧ 0 ≤ a ∧ a ≤ 40 ∧ 0 ≤ c ∧ c ≤ 40) → Q (some (.inr (.inl (tpW (S.1 2) (S.1 1 1) n i w)))) S → aGo l mX8_wordAt Q 5 [(0, .inr (.inr 1)), (1, .inl a), (2, .inl c), (3, .inr (.inl w)), (5, .inl (i : Int))] [] S := by
  intro n
  induction n using Nat.strongRecOn with
  | _ n ih =>
  intro S  a c w  i  h0 h1 h2
  refine wp_go (tbX8_wordAt_ok l) (fun pc => pc == 5) 42 dX8_wordAt_5 ?_
  show ws1 tbX8_wordAt 6 (some .long) Q (wp cX8_wordAt tbX8_wordAt 6 (some .long) Q (fun pc => pc == 5) (aGo l mX8_wordAt Q) 42) (.iload 5) 2 5 [(0, .inr (.inr 1)), (1, .inl a), (2, .inl c), (3, .inr (.inl w)), (5, .inl (i : Int))] [] S
  simp only [wp_s, wpC_f, wpC_t, e_wLd, e_wLd0, e_wLd1, e_wLd2, e_get1, e_get2, e_wJ, e_wJo, f40, f41, f42, f43, Nat.reduceAdd, Nat.reduceBEq, Nat.reduceMul, eq_self, true_or, or_true, true_and, dX8_wordAt_0, dX8_wordAt_1, dX8_wordAt_2, dX8_wordAt_3, dX8_wordAt_5, dX8_wordAt_7, dX8_wordAt_8, dX8_wordAt_9, dX8_wordAt_10, dX8_wordAt_13, dX8_wordAt_15, dX8_wordAt_18, dX8_wordAt_20, dX8_wordAt_21, dX8_wordAt_24, dX8_wordAt_27, dX8_wordAt_28, dX8_wordAt_31, dX8_wordAt_33, dX8_wordAt_34, dX8_wordAt_36, dX8_wordAt_39, dX8_wordAt_40, dX8_wordAt_43, dX8_wordAt_45, dX8_wordAt_46, dX8_wordAt_48, dX8_wordAt_51, dX8_wordAt_52, dX8_wordAt_53, dX8_wordAt_54, dX8_wordAt_55, dX8_wordAt_58, dX8_wordAt_60, dX8_wordAt_61, dX8_wordAt_64, dX8_wordAt_65, dX8_wordAt_68, dX8_wordAt_71, dX8_wordAt_72, e_aload_n, e_iload_n, e_iload, e_lload_n, e_istore, e_lstore_n, e_bipush, e_lconst, e_iadd, e_iinc, e_ifCond, e_if_icmp, e_goto, e_getfield, e_iaload, e_invokestatic, e_lreturn, e_wSt0, e_wSt1, e_wSt2, e_isL0, e_isL1, e_isL2, e_lset, e_lclr0, e_lclr1, e_lclr2, e_lput0, e_lput1, e_lput2, e_wInc, e_wInc0, Nat.reduceLT, not_false_eq_true, Bool.or_false, Bool.false_or, Bool.or_true, Bool.true_or, Bool.and_false, Bool.false_and, Bool.and_true, Bool.true_and, lc0, lc1, e_rl, e_wI2, e_wIc_le, e_wIf_lt, e_wIc_ge, e_wIc_lt, bp_122, bp_97, fX8_15, fX8_9, jt_10_61, jt_15_36, jt_24_27, jt_36_15, jt_48_5, jt_68_m63, e_call, e_callS0, e_callS1, e_callS2, e_callS3, e_callS4, e_pop0, e_pop1, e_tl0, e_tl1, tbX8_wordAt_f, tbX8_wordAt_p, tbX8_wordAt_k, tbX8_wordAt_c28, g_1_0, g_1_1, l_2, spX10_append]
  simp (disch := omega) only [wI_id, Int.toNat_natCast]
  repeat' (with_reducible first | intro _ | refine And.intro ?_ ?_)
  all_goals first
    | omega
    | (rw [show n = 0 from by omega] at h2; exact h2)
    | (obtain ⟨m, rfl⟩ : ∃ m, n = m + 1 := ⟨n - 1, by omega⟩
       unfold tpW at h2
       first
         | (rw [if_neg (by omega)] at h2; exact h2)
         | (rw [if_pos ⟨by omega, by omega, by omega⟩] at h2
            exact ih m (by omega) S a c _ (i + 1) (by omega) h1 h2))
    | skip
set_option maxRecDepth 20000 in
set_option maxHeartbeats 4000000 in
theorem okX8_wordAt (l : Launch) : aOK l mX8_wordAt spX8_wordAt := by
  refine aOK_of rfl fun as S Q h => ?_
  unfold spX8_wordAt at h
  split at h
  · rename_i a c
    refine ⟨Nat.le_of_ble_eq_true rfl, wp_ok (tbX8_wordAt_ok l) Q (fun pc => pc == 5) 42 0 _ [] S ?_⟩
    show wp cX8_wordAt tbX8_wordAt 6 (some .long) Q (fun pc => pc == 5) (aGo l mX8_wordAt Q) 42 0 [(0, .inr (.inr 1)), (1, .inl a), (2, .inl c)] [] S
    simp only [wp_s, wpC_f, wpC_t, e_wLd, e_wLd0, e_wLd1, e_wLd2, e_get1, e_get2, e_wJ, e_wJo, f40, f41, f42, f43, Nat.reduceAdd, Nat.reduceBEq, Nat.reduceMul, eq_self, true_or, or_true, true_and, dX8_wordAt_0, dX8_wordAt_1, dX8_wordAt_2, dX8_wordAt_3, dX8_wordAt_5, dX8_wordAt_7, dX8_wordAt_8, dX8_wordAt_9, dX8_wordAt_10, dX8_wordAt_13, dX8_wordAt_15, dX8_wordAt_18, dX8_wordAt_20, dX8_wordAt_21, dX8_wordAt_24, dX8_wordAt_27, dX8_wordAt_28, dX8_wordAt_31, dX8_wordAt_33, dX8_wordAt_34, dX8_wordAt_36, dX8_wordAt_39, dX8_wordAt_40, dX8_wordAt_43, dX8_wordAt_45, dX8_wordAt_46, dX8_wordAt_48, dX8_wordAt_51, dX8_wordAt_52, dX8_wordAt_53, dX8_wordAt_54, dX8_wordAt_55, dX8_wordAt_58, dX8_wordAt_60, dX8_wordAt_61, dX8_wordAt_64, dX8_wordAt_65, dX8_wordAt_68, dX8_wordAt_71, dX8_wordAt_72, e_aload_n, e_iload_n, e_iload, e_lload_n, e_istore, e_lstore_n, e_bipush, e_lconst, e_iadd, e_iinc, e_ifCond, e_if_icmp, e_goto, e_getfield, e_iaload, e_invokestatic, e_lreturn, e_wSt0, e_wSt1, e_wSt2, e_isL0, e_isL1, e_isL2, e_lset, e_lclr0, e_lclr1, e_lclr2, e_lput0, e_lput1, e_lput2, e_wInc, e_wInc0, Nat.reduceLT, not_false_eq_true, Bool.or_false, Bool.false_or, Bool.or_true, Bool.true_or, Bool.and_false, Bool.false_and, Bool.and_true, Bool.true_and, lc0, lc1, e_rl, e_wI2, e_wIc_le, e_wIf_lt, e_wIc_ge, e_wIc_lt, bp_122, bp_97, fX8_15, fX8_9, jt_10_61, jt_15_36, jt_24_27, jt_36_15, jt_48_5, jt_68_m63, e_call, e_callS0, e_callS1, e_callS2, e_callS3, e_callS4, e_pop0, e_pop1, e_tl0, e_tl1, tbX8_wordAt_f, tbX8_wordAt_p, tbX8_wordAt_k, tbX8_wordAt_c28, g_1_0, g_1_1, l_2]
    obtain ⟨h0, h1, h2, h3, h4, h5, h6⟩ := h
    have e := lpX8_wordAt l Q c.toNat S a c 0 a.toNat (by omega) ⟨h1, h2, h3, h4, h5⟩ h6
    rw [show ((a.toNat : Nat) : Int) = a from by omega] at e
    exact e
  · exact h.elim
def spX8_takeWord : aSp := fun as S Q => match as with
  | [.inr (.inr 1), .inl c] => 0 ≤ S.1 1 1 ∧ S.1 1 1 ≤ 40 ∧ 0 ≤ c ∧ c ≤ 40 ∧ Q (some (.inr (.inl (tpW (S.1 2) (S.1 1 1) c.toNat 0 0)))) (upI S 1 1 0)
  | _ => False
def tbX8_takeWord : aTb := (fX8, pX8, fun j => lk [(19, (some 8), 3, spX8_wordAt), (23, (some 8), 1, spX8_clear)] j, kX8)
theorem tbX8_takeWord_f : tbX8_takeWord.1 = fX8 := rfl
theorem tbX8_takeWord_p : tbX8_takeWord.2.1 = pX8 := rfl
theorem tbX8_takeWord_k : tbX8_takeWord.2.2.2 = kX8 := rfl
theorem tbX8_takeWord_c19 : tbX8_takeWord.2.2.1 19 = some ((some 8), 3, spX8_wordAt) := rfl
theorem tbX8_takeWord_c23 : tbX8_takeWord.2.2.1 23 = some ((some 8), 1, spX8_clear) := rfl
theorem tbX8_takeWord_all (l : Launch) : ∀ e ∈ ([(19, (some 8), 3, spX8_wordAt), (23, (some 8), 1, spX8_clear)] : List (Nat × Option Nat × Nat × aSp)), cOK l mX8_takeWord e.1 e.2.1 e.2.2.1 e.2.2.2 ∨ mOK mX8_takeWord e.1 e.2.1 e.2.2.1 e.2.2.2 := all_cons (cOK_of (okX8_wordAt l) meX8_wordAt cfX8_19 (by decide) (by decide)) (all_cons (cOK_of (okX8_clear l) meX8_clear cfX8_23 (by decide) (by decide)) (all_nil))
theorem tbX8_takeWord_ok (l : Launch) : tOK l mX8_takeWord tbX8_takeWord := ⟨fX8_ok, pX8_ok, fun _ _ _ _ h => tbX8_takeWord_all l _ (lk_mem h), kX8_ok⟩
set_option maxRecDepth 20000 in
set_option maxHeartbeats 4000000 in
theorem okX8_takeWord (l : Launch) : aOK l mX8_takeWord spX8_takeWord := by
  refine aOK_of rfl fun as S Q h => ?_
  unfold spX8_takeWord at h
  split at h
  · rename_i c
    refine ⟨Nat.le_of_ble_eq_true rfl, wp_ok (tbX8_takeWord_ok l) Q (fun pc => false) 11 0 _ [] S ?_⟩
    show wp cX8_takeWord tbX8_takeWord 4 (some .long) Q (fun pc => false) (aGo l mX8_takeWord Q) 11 0 [(0, .inr (.inr 1)), (1, .inl c)] [] S
    simp only [wp_s, wpC_f, wpC_t, e_wLd, e_wLd0, e_wLd1, e_wLd2, e_get1, e_get2, e_wJ, e_wJo, f40, f41, f42, f43, Nat.reduceAdd, Nat.reduceBEq, Nat.reduceMul, eq_self, true_or, or_true, true_and, dX8_takeWord_0, dX8_takeWord_1, dX8_takeWord_2, dX8_takeWord_3, dX8_takeWord_6, dX8_takeWord_7, dX8_takeWord_8, dX8_takeWord_11, dX8_takeWord_12, e_aload_n, e_iload_n, e_lload_n, e_lstore_n, e_iconst, e_invokevirtual, e_lreturn, e_wSt0, e_wSt1, e_wSt2, e_isL0, e_isL1, e_isL2, e_lset, e_lclr0, e_lclr1, e_lclr2, e_lput0, e_lput1, e_lput2, e_wInc, e_wInc0, Nat.reduceLT, not_false_eq_true, Bool.or_false, Bool.false_or, Bool.or_true, Bool.true_or, Bool.and_false, Bool.false_and, Bool.and_true, Bool.true_and, e_rl, ic_0, e_call, e_callS0, e_callS1, e_callS2, e_callS3, e_callS4, e_pop0, e_pop1, e_tl0, e_tl1, tbX8_takeWord_f, tbX8_takeWord_p, tbX8_takeWord_k, tbX8_takeWord_c19, tbX8_takeWord_c23, cv_1_0, cv_1_1, cv_1_2, cv_1_3, cv_1_4, spX8_wordAt, spX8_clear]
    obtain ⟨h0, h1, h2, h3, h4⟩ := h
    exact ⟨h0, h1, by omega, by omega, h2, h3, h4⟩
  · exact h.elim
