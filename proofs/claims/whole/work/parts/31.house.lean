/-! POINTERS: a sense is gone -/
noncomputable def fg1 (a : Int) (k : Nat) (S : aS) : aS := @ite _ (S.1 220 k = a) (Classical.propDecidable _) (rmP S k) (@ite _ (S.1 221 k = a) (Classical.propDecidable _) (upI S 221 k (-1)) S)
noncomputable def fgP (a : Int) : Nat → aS → aS
  | 0, S => S
  | k + 1, S => fgP a k (fg1 a k S)
theorem rm_sz {S : aS} {b : Int} : (rmP S b).1 219 2 = S.1 219 2 - 1 := up_hit
def spX3_forget : aSp := fun as S Q => match as with
  | [.inr (.inr 219), .inl a] => 0 ≤ S.1 219 2 ∧ S.1 219 2 ≤ 20 ∧ Q none (fgP a (S.1 219 2).toNat S)
  | _ => False
def tbX3_forget : aTb := (fX3, pX3, fun j => lk [(29, (some 3), 2, spX3_remove)] j, kX3)
theorem tbX3_forget_f : tbX3_forget.1 = fX3 := rfl
theorem tbX3_forget_p : tbX3_forget.2.1 = pX3 := rfl
theorem tbX3_forget_k : tbX3_forget.2.2.2 = kX3 := rfl
theorem tbX3_forget_c29 : tbX3_forget.2.2.1 29 = some ((some 3), 2, spX3_remove) := rfl
theorem tbX3_forget_all (l : Launch) : ∀ e ∈ ([(29, (some 3), 2, spX3_remove)] : List (Nat × Option Nat × Nat × aSp)), cOK l mX3_forget e.1 e.2.1 e.2.2.1 e.2.2.2 ∨ mOK mX3_forget e.1 e.2.1 e.2.2.1 e.2.2.2 := all_cons (cOK_of (okX3_remove l) meX3_remove cfX3_29 (by decide) (by decide)) (all_nil)
theorem tbX3_forget_ok (l : Launch) : tOK l mX3_forget tbX3_forget := ⟨fX3_ok, pX3_ok, fun _ _ _ _ h => tbX3_forget_all l _ (lk_mem h), kX3_ok⟩
set_option maxRecDepth 20000 in
set_option maxHeartbeats 4000000 in
theorem lpX3_forget (l : Launch) (Q : Option aV → aS → Prop) : ∀ (n : Nat) (S : aS) (a : Int), (n : Int) ≤ S.1 219 2 → S.1 219 2 ≤ 20 → Q none (fgP a n S) → aGo l mX3_forget Q 7 [(0, .inr (.inr 219)), (1, .inl a), (2, .inl ((n : Int) - 1))] [] S := by
  intro n
  induction n using Nat.strongRecOn with
  | _ n ih =>
  intro S  a  h0 h1 h2
  refine wp_go (tbX3_forget_ok l) (fun pc => pc == 7) 33 dX3_forget_7 ?_
  show ws1 tbX3_forget 3 none Q (wp cX3_forget tbX3_forget 3 none Q (fun pc => pc == 7) (aGo l mX3_forget Q) 33) (.iload_n 2) 1 7 [(0, .inr (.inr 219)), (1, .inl a), (2, .inl ((n : Int) - 1))] [] S
  simp only [wp_s, wpC_f, wpC_t, e_wLd, e_wLd0, e_wLd1, e_wLd2, e_get1, e_get2, e_wJ, e_wJo, f40, f41, f42, f43, Nat.reduceAdd, Nat.reduceBEq, Nat.reduceMul, eq_self, true_or, or_true, true_and, dX3_forget_0, dX3_forget_1, dX3_forget_4, dX3_forget_5, dX3_forget_6, dX3_forget_7, dX3_forget_8, dX3_forget_11, dX3_forget_12, dX3_forget_15, dX3_forget_16, dX3_forget_17, dX3_forget_18, dX3_forget_21, dX3_forget_22, dX3_forget_23, dX3_forget_26, dX3_forget_29, dX3_forget_30, dX3_forget_33, dX3_forget_34, dX3_forget_35, dX3_forget_36, dX3_forget_39, dX3_forget_40, dX3_forget_43, dX3_forget_44, dX3_forget_45, dX3_forget_46, dX3_forget_49, dX3_forget_52, e_aload_n, e_iload_n, e_istore_n, e_iconst, e_isub, e_iinc, e_ifCond, e_if_icmp, e_goto, e_getfield, e_iaload, e_iastore, e_invokevirtual, e_return_, e_wSt0, e_wSt1, e_wSt2, e_isL0, e_isL1, e_isL2, e_lset, e_lclr0, e_lclr1, e_lclr2, e_lput0, e_lput1, e_lput2, e_wInc, e_wInc0, Nat.reduceLT, not_false_eq_true, Bool.or_false, Bool.false_or, Bool.or_true, Bool.true_or, Bool.and_false, Bool.false_and, Bool.and_true, Bool.true_and, e_rv, e_wI2, e_wIc_ne, e_wIf_lt, fX3_15, fX3_18, fX3_9, ic_1, ic_m1, jt_18_11, jt_26_20, jt_36_10, jt_49_m42, jt_8_44, e_call, e_callS0, e_callS1, e_callS2, e_callS3, e_callS4, e_pop0, e_pop1, e_tl0, e_tl1, tbX3_forget_f, tbX3_forget_p, tbX3_forget_k, tbX3_forget_c29, g_219_0, cv_219_0, cv_219_1, cv_219_2, cv_219_3, cv_219_4, l_220, s_220, g_219_2, g_219_1, l_221, s_221, spX3_remove]
  rcases n with _ | n
  · exact ⟨fun _ => h2, fun q => absurd q (by omega)⟩
  · rw [show ((n + 1 : Nat) : Int) - 1 = (n : Int) from by omega]
    simp (disch := omega) only [wI_id, Int.toNat_natCast]
    have h2' : Q none (fgP a n (fg1 a n S)) := h2
    unfold fg1 at h2'
    refine ⟨fun q => absurd q (by omega), fun _ => ⟨by omega, by omega, fun q => ⟨by omega, by omega, fun q2 => ?_, fun q2 => ⟨by omega, by omega, ?_⟩⟩, fun q => ⟨h1, fun _ => ?_, fun q2 => absurd (⟨by omega, by omega⟩ : 0 ≤ (n : Int) ∧ (n : Int) < S.1 219 2) q2⟩⟩⟩
    · rw [if_neg q, if_neg q2] at h2'
      exact ih n (by omega) S a (by omega) h1 h2'
    · rw [if_neg q, if_pos q2] at h2'
      exact ih n (by omega) _ a (by rw [up_obj (by decide)]; omega) (by rw [up_obj (by decide)]; exact h1) h2'
    · rw [if_pos q] at h2'
      exact ih n (by omega) _ a (by rw [rm_sz]; omega) (by rw [rm_sz]; omega) h2'
set_option maxRecDepth 20000 in
set_option maxHeartbeats 4000000 in
theorem okX3_forget (l : Launch) : aOK l mX3_forget spX3_forget := by
  refine aOK_of rfl fun as S Q h => ?_
  unfold spX3_forget at h
  split at h
  · rename_i a
    refine ⟨Nat.le_of_ble_eq_true rfl, wp_ok (tbX3_forget_ok l) Q (fun pc => pc == 7) 33 0 _ [] S ?_⟩
    show wp cX3_forget tbX3_forget 3 none Q (fun pc => pc == 7) (aGo l mX3_forget Q) 33 0 [(0, .inr (.inr 219)), (1, .inl a)] [] S
    simp only [wp_s, wpC_f, wpC_t, e_wLd, e_wLd0, e_wLd1, e_wLd2, e_get1, e_get2, e_wJ, e_wJo, f40, f41, f42, f43, Nat.reduceAdd, Nat.reduceBEq, Nat.reduceMul, eq_self, true_or, or_true, true_and, dX3_forget_0, dX3_forget_1, dX3_forget_4, dX3_forget_5, dX3_forget_6, dX3_forget_7, dX3_forget_8, dX3_forget_11, dX3_forget_12, dX3_forget_15, dX3_forget_16, dX3_forget_17, dX3_forget_18, dX3_forget_21, dX3_forget_22, dX3_forget_23, dX3_forget_26, dX3_forget_29, dX3_forget_30, dX3_forget_33, dX3_forget_34, dX3_forget_35, dX3_forget_36, dX3_forget_39, dX3_forget_40, dX3_forget_43, dX3_forget_44, dX3_forget_45, dX3_forget_46, dX3_forget_49, dX3_forget_52, e_aload_n, e_iload_n, e_istore_n, e_iconst, e_isub, e_iinc, e_ifCond, e_if_icmp, e_goto, e_getfield, e_iaload, e_iastore, e_invokevirtual, e_return_, e_wSt0, e_wSt1, e_wSt2, e_isL0, e_isL1, e_isL2, e_lset, e_lclr0, e_lclr1, e_lclr2, e_lput0, e_lput1, e_lput2, e_wInc, e_wInc0, Nat.reduceLT, not_false_eq_true, Bool.or_false, Bool.false_or, Bool.or_true, Bool.true_or, Bool.and_false, Bool.false_and, Bool.and_true, Bool.true_and, e_rv, e_wI2, e_wIc_ne, e_wIf_lt, fX3_15, fX3_18, fX3_9, ic_1, ic_m1, jt_18_11, jt_26_20, jt_36_10, jt_49_m42, jt_8_44, e_call, e_callS0, e_callS1, e_callS2, e_callS3, e_callS4, e_pop0, e_pop1, e_tl0, e_tl1, tbX3_forget_f, tbX3_forget_p, tbX3_forget_k, tbX3_forget_c29, g_219_0, cv_219_0, cv_219_1, cv_219_2, cv_219_3, cv_219_4, l_220, s_220, g_219_2, g_219_1, l_221, s_221]
    obtain ⟨h0, h1, h2⟩ := h
    have e := lpX3_forget l Q (S.1 219 2).toNat S a (by omega) h1 h2
    rw [show (((S.1 219 2).toNat : Nat) : Int) - 1 = S.1 219 2 - 1 from by omega] at e
    simp (disch := omega) only [wI_id]
    exact e
  · exact h.elim
/-! SLIPHOUSE: helpers -/
def spX11_areYears : aSp := fun as S Q => match as with
  | [.inl a, .inl b] => Q (some (.inl (bi (1 ≤ a ∧ a ≤ b ∧ b ≤ 2000)))) S
  | _ => False
def tbX11_areYears : aTb := (fX11, pX11, fun j => lk [] j, kX11)
theorem tbX11_areYears_f : tbX11_areYears.1 = fX11 := rfl
theorem tbX11_areYears_p : tbX11_areYears.2.1 = pX11 := rfl
theorem tbX11_areYears_k : tbX11_areYears.2.2.2 = kX11 := rfl
theorem tbX11_areYears_all (l : Launch) : ∀ e ∈ ([] : List (Nat × Option Nat × Nat × aSp)), cOK l mX11_areYears e.1 e.2.1 e.2.2.1 e.2.2.2 ∨ mOK mX11_areYears e.1 e.2.1 e.2.2.1 e.2.2.2 := all_nil
theorem tbX11_areYears_ok (l : Launch) : tOK l mX11_areYears tbX11_areYears := ⟨fX11_ok, pX11_ok, fun _ _ _ _ h => tbX11_areYears_all l _ (lk_mem h), kX11_ok⟩
set_option maxRecDepth 20000 in
set_option maxHeartbeats 4000000 in
theorem okX11_areYears (l : Launch) : aOK l mX11_areYears spX11_areYears := by
  refine aOK_of rfl fun as S Q h => ?_
  unfold spX11_areYears at h
  split at h
  · rename_i a b
    refine ⟨Nat.le_of_ble_eq_true rfl, wp_ok (tbX11_areYears_ok l) Q (fun pc => false) 15 0 _ [] S ?_⟩
    show wp cX11_areYears tbX11_areYears 2 (some .boolean) Q (fun pc => false) (aGo l mX11_areYears Q) 15 0 [(0, .inl a), (1, .inl b)] [] S
    simp only [wp_s, wpC_f, wpC_t, e_wLd, e_wLd0, e_wLd1, e_wLd2, e_get1, e_get2, e_wJ, e_wJo, f40, f41, f42, f43, Nat.reduceAdd, Nat.reduceBEq, Nat.reduceMul, eq_self, true_or, or_true, true_and, dX11_areYears_0, dX11_areYears_1, dX11_areYears_2, dX11_areYears_5, dX11_areYears_6, dX11_areYears_7, dX11_areYears_10, dX11_areYears_11, dX11_areYears_14, dX11_areYears_17, dX11_areYears_18, dX11_areYears_21, dX11_areYears_22, e_iload_n, e_iconst, e_sipush, e_if_icmp, e_goto, e_ireturn, e_ri, e_rz, e_wIc_gt, e_wIc_lt, ic_0, ic_1, jt_14_7, jt_18_4, jt_2_19, jt_7_14, sp_2000, tbX11_areYears_f, tbX11_areYears_p, tbX11_areYears_k]
    repeat' (with_reducible first | intro _ | refine And.intro ?_ ?_)
    all_goals first | exact h | (rw [bi_t (by omega)] at h; exact h) | (rw [bi_f (by omega)] at h; exact h) | omega
  · exact h.elim
def spX11_isRuleLength : aSp := fun as S Q => match as with
  | [.inl a] => Q (some (.inl (bi (1 ≤ a ∧ a ≤ 2)))) S
  | _ => False
def tbX11_isRuleLength : aTb := (fX11, pX11, fun j => lk [] j, kX11)
theorem tbX11_isRuleLength_f : tbX11_isRuleLength.1 = fX11 := rfl
theorem tbX11_isRuleLength_p : tbX11_isRuleLength.2.1 = pX11 := rfl
theorem tbX11_isRuleLength_k : tbX11_isRuleLength.2.2.2 = kX11 := rfl
theorem tbX11_isRuleLength_all (l : Launch) : ∀ e ∈ ([] : List (Nat × Option Nat × Nat × aSp)), cOK l mX11_isRuleLength e.1 e.2.1 e.2.2.1 e.2.2.2 ∨ mOK mX11_isRuleLength e.1 e.2.1 e.2.2.1 e.2.2.2 := all_nil
theorem tbX11_isRuleLength_ok (l : Launch) : tOK l mX11_isRuleLength tbX11_isRuleLength := ⟨fX11_ok, pX11_ok, fun _ _ _ _ h => tbX11_isRuleLength_all l _ (lk_mem h), kX11_ok⟩
set_option maxRecDepth 20000 in
set_option maxHeartbeats 4000000 in
theorem okX11_isRuleLength (l : Launch) : aOK l mX11_isRuleLength spX11_isRuleLength := by
  refine aOK_of rfl fun as S Q h => ?_
  unfold spX11_isRuleLength at h
  split at h
  · rename_i a
    refine ⟨Nat.le_of_ble_eq_true rfl, wp_ok (tbX11_isRuleLength_ok l) Q (fun pc => false) 12 0 _ [] S ?_⟩
    show wp cX11_isRuleLength tbX11_isRuleLength 1 (some .boolean) Q (fun pc => false) (aGo l mX11_isRuleLength Q) 12 0 [(0, .inl a)] [] S
    simp only [wp_s, wpC_f, wpC_t, e_wLd, e_wLd0, e_wLd1, e_wLd2, e_get1, e_get2, e_wJ, e_wJo, f40, f41, f42, f43, Nat.reduceAdd, Nat.reduceBEq, Nat.reduceMul, eq_self, true_or, or_true, true_and, dX11_isRuleLength_0, dX11_isRuleLength_1, dX11_isRuleLength_2, dX11_isRuleLength_5, dX11_isRuleLength_6, dX11_isRuleLength_7, dX11_isRuleLength_10, dX11_isRuleLength_11, dX11_isRuleLength_14, dX11_isRuleLength_15, e_iload_n, e_iconst, e_if_icmp, e_goto, e_ireturn, e_ri, e_rz, e_wIc_gt, e_wIc_lt, ic_0, ic_1, ic_2, jt_11_4, jt_2_12, jt_7_7, tbX11_isRuleLength_f, tbX11_isRuleLength_p, tbX11_isRuleLength_k]
    repeat' (with_reducible first | intro _ | refine And.intro ?_ ?_)
    all_goals first | exact h | (rw [bi_t (by omega)] at h; exact h) | (rw [bi_f (by omega)] at h; exact h) | omega
  · exact h.elim
def spX11_tapeHasWord : aSp := fun as S Q => match as with
  | [.inr (.inr 0), .inl a] => Q (some (.inl (bi (1 ≤ a ∧ a ≤ 8 ∧ a ≤ S.1 1 1)))) S
  | _ => False
def tbX11_tapeHasWord : aTb := (fX11, pX11, fun j => lk [] j, kX11)
theorem tbX11_tapeHasWord_f : tbX11_tapeHasWord.1 = fX11 := rfl
theorem tbX11_tapeHasWord_p : tbX11_tapeHasWord.2.1 = pX11 := rfl
theorem tbX11_tapeHasWord_k : tbX11_tapeHasWord.2.2.2 = kX11 := rfl
theorem tbX11_tapeHasWord_all (l : Launch) : ∀ e ∈ ([] : List (Nat × Option Nat × Nat × aSp)), cOK l mX11_tapeHasWord e.1 e.2.1 e.2.2.1 e.2.2.2 ∨ mOK mX11_tapeHasWord e.1 e.2.1 e.2.2.1 e.2.2.2 := all_nil
theorem tbX11_tapeHasWord_ok (l : Launch) : tOK l mX11_tapeHasWord tbX11_tapeHasWord := ⟨fX11_ok, pX11_ok, fun _ _ _ _ h => tbX11_tapeHasWord_all l _ (lk_mem h), kX11_ok⟩
set_option maxRecDepth 20000 in
set_option maxHeartbeats 4000000 in
theorem okX11_tapeHasWord (l : Launch) : aOK l mX11_tapeHasWord spX11_tapeHasWord := by
  refine aOK_of rfl fun as S Q h => ?_
  unfold spX11_tapeHasWord at h
  split at h
  · rename_i a
    refine ⟨Nat.le_of_ble_eq_true rfl, wp_ok (tbX11_tapeHasWord_ok l) Q (fun pc => false) 17 0 _ [] S ?_⟩
    show wp cX11_tapeHasWord tbX11_tapeHasWord 2 (some .boolean) Q (fun pc => false) (aGo l mX11_tapeHasWord Q) 17 0 [(0, .inr (.inr 0)), (1, .inl a)] [] S
    simp only [wp_s, wpC_f, wpC_t, e_wLd, e_wLd0, e_wLd1, e_wLd2, e_get1, e_get2, e_wJ, e_wJo, f40, f41, f42, f43, Nat.reduceAdd, Nat.reduceBEq, Nat.reduceMul, eq_self, true_or, or_true, true_and, dX11_tapeHasWord_0, dX11_tapeHasWord_1, dX11_tapeHasWord_2, dX11_tapeHasWord_5, dX11_tapeHasWord_6, dX11_tapeHasWord_8, dX11_tapeHasWord_11, dX11_tapeHasWord_12, dX11_tapeHasWord_13, dX11_tapeHasWord_16, dX11_tapeHasWord_19, dX11_tapeHasWord_22, dX11_tapeHasWord_23, dX11_tapeHasWord_26, dX11_tapeHasWord_27, e_aload_n, e_iload_n, e_iconst, e_bipush, e_if_icmp, e_goto, e_getfield, e_ireturn, e_ri, e_rz, e_wIc_gt, e_wIc_lt, bp_8, fX11_10, fX11_87, ic_0, ic_1, jt_19_7, jt_23_4, jt_2_24, jt_8_18, tbX11_tapeHasWord_f, tbX11_tapeHasWord_p, tbX11_tapeHasWord_k, g_1_1, g_0_0]
    repeat' (with_reducible first | intro _ | refine And.intro ?_ ?_)
    all_goals first | exact h | (rw [bi_t (by omega)] at h; exact h) | (rw [bi_f (by omega)] at h; exact h) | omega
  · exact h.elim
def spX11_isTopOrSenseOf : aSp := fun as S Q => match as with
  | [.inr (.inr 0), .inl t, .inl e] => Q (some (.inl (bi (t = -1 ∨ ((0 ≤ t ∧ t < 40 ∧ ¬ S.1 209 t.toNat = -1) ∧ S.1 209 t.toNat = e))))) S
  | _ => False
def tbX11_isTopOrSenseOf : aTb := (fX11, pX11, fun j => lk [(202, (some 6), 2, spX6_has)] j, kX11)
theorem tbX11_isTopOrSenseOf_f : tbX11_isTopOrSenseOf.1 = fX11 := rfl
theorem tbX11_isTopOrSenseOf_p : tbX11_isTopOrSenseOf.2.1 = pX11 := rfl
theorem tbX11_isTopOrSenseOf_k : tbX11_isTopOrSenseOf.2.2.2 = kX11 := rfl
theorem tbX11_isTopOrSenseOf_c202 : tbX11_isTopOrSenseOf.2.2.1 202 = some ((some 6), 2, spX6_has) := rfl
theorem tbX11_isTopOrSenseOf_all (l : Launch) : ∀ e ∈ ([(202, (some 6), 2, spX6_has)] : List (Nat × Option Nat × Nat × aSp)), cOK l mX11_isTopOrSenseOf e.1 e.2.1 e.2.2.1 e.2.2.2 ∨ mOK mX11_isTopOrSenseOf e.1 e.2.1 e.2.2.1 e.2.2.2 := all_cons (cOK_of (okX6_has l) meX6_has cfX11_202 (by decide) (by decide)) (all_nil)
theorem tbX11_isTopOrSenseOf_ok (l : Launch) : tOK l mX11_isTopOrSenseOf tbX11_isTopOrSenseOf := ⟨fX11_ok, pX11_ok, fun _ _ _ _ h => tbX11_isTopOrSenseOf_all l _ (lk_mem h), kX11_ok⟩
set_option maxRecDepth 20000 in
set_option maxHeartbeats 4000000 in
theorem okX11_isTopOrSenseOf (l : Launch) : aOK l mX11_isTopOrSenseOf spX11_isTopOrSenseOf := by
  refine aOK_of rfl fun as S Q h => ?_
  unfold spX11_isTopOrSenseOf at h
  split at h
  · rename_i t e
    refine ⟨Nat.le_of_ble_eq_true rfl, wp_ok (tbX11_isTopOrSenseOf_ok l) Q (fun pc => false) 21 0 _ [] S ?_⟩
    show wp cX11_isTopOrSenseOf tbX11_isTopOrSenseOf 3 (some .boolean) Q (fun pc => false) (aGo l mX11_isTopOrSenseOf Q) 21 0 [(0, .inr (.inr 0)), (1, .inl t), (2, .inl e)] [] S
    simp only [wp_s, wpC_f, wpC_t, e_wLd, e_wLd0, e_wLd1, e_wLd2, e_get1, e_get2, e_wJ, e_wJo, f40, f41, f42, f43, Nat.reduceAdd, Nat.reduceBEq, Nat.reduceMul, eq_self, true_or, or_true, true_and, dX11_isTopOrSenseOf_0, dX11_isTopOrSenseOf_1, dX11_isTopOrSenseOf_2, dX11_isTopOrSenseOf_5, dX11_isTopOrSenseOf_6, dX11_isTopOrSenseOf_9, dX11_isTopOrSenseOf_10, dX11_isTopOrSenseOf_13, dX11_isTopOrSenseOf_16, dX11_isTopOrSenseOf_17, dX11_isTopOrSenseOf_20, dX11_isTopOrSenseOf_23, dX11_isTopOrSenseOf_24, dX11_isTopOrSenseOf_25, dX11_isTopOrSenseOf_26, dX11_isTopOrSenseOf_29, dX11_isTopOrSenseOf_30, dX11_isTopOrSenseOf_33, dX11_isTopOrSenseOf_34, e_aload_n, e_iload_n, e_iconst, e_ifCond, e_if_icmp, e_goto, e_getfield, e_iaload, e_invokevirtual, e_ireturn, e_ri, e_rz, e_wIc_ne, e_wIc_eq, e_wIf_eq, fX11_203, fX11_49, ic_0, ic_1, ic_m1, jt_13_20, jt_26_7, jt_2_27, jt_30_4, e_call, e_callS0, e_callS1, e_callS2, e_callS3, e_callS4, e_pop0, e_pop1, e_tl0, e_tl1, tbX11_isTopOrSenseOf_f, tbX11_isTopOrSenseOf_p, tbX11_isTopOrSenseOf_k, tbX11_isTopOrSenseOf_c202, cv_208_0, cv_208_1, cv_208_2, cv_208_3, cv_208_4, g_0_5, l_209, g_208_0, spX6_has, bi_0, bi_1, ne_eq, Classical.not_not, em_r, em_l]
    repeat' (with_reducible first | intro _ | refine And.intro ?_ ?_)
    all_goals first | exact h | (rw [bi_t (by omega)] at h; exact h) | (rw [bi_f (by omega)] at h; exact h) | omega
  · exact h.elim
def spX11_forgetSense : aSp := fun as S Q => match as with
  | [.inr (.inr 0), .inl a] => (0 ≤ a ∧ a < 40 ∧ ¬ S.1 209 a.toNat = -1) ∧ 0 ≤ S.1 219 2 ∧ S.1 219 2 ≤ 20 ∧ Q none (fgP a (S.1 219 2).toNat (upI (upI S 209 a.toNat (-1)) 210 a.toNat (-1)))
  | _ => False
def tbX11_forgetSense : aTb := (fX11, pX11, fun j => lk [(345, (some 6), 2, spX6_remove), (346, (some 3), 2, spX3_forget)] j, kX11)
theorem tbX11_forgetSense_f : tbX11_forgetSense.1 = fX11 := rfl
theorem tbX11_forgetSense_p : tbX11_forgetSense.2.1 = pX11 := rfl
theorem tbX11_forgetSense_k : tbX11_forgetSense.2.2.2 = kX11 := rfl
theorem tbX11_forgetSense_c345 : tbX11_forgetSense.2.2.1 345 = some ((some 6), 2, spX6_remove) := rfl
theorem tbX11_forgetSense_c346 : tbX11_forgetSense.2.2.1 346 = some ((some 3), 2, spX3_forget) := rfl
theorem tbX11_forgetSense_all (l : Launch) : ∀ e ∈ ([(345, (some 6), 2, spX6_remove), (346, (some 3), 2, spX3_forget)] : List (Nat × Option Nat × Nat × aSp)), cOK l mX11_forgetSense e.1 e.2.1 e.2.2.1 e.2.2.2 ∨ mOK mX11_forgetSense e.1 e.2.1 e.2.2.1 e.2.2.2 := all_cons (cOK_of (okX6_remove l) meX6_remove cfX11_345 (by decide) (by decide)) (all_cons (cOK_of (okX3_forget l) meX3_forget cfX11_346 (by decide) (by decide)) (all_nil))
theorem tbX11_forgetSense_ok (l : Launch) : tOK l mX11_forgetSense tbX11_forgetSense := ⟨fX11_ok, pX11_ok, fun _ _ _ _ h => tbX11_forgetSense_all l _ (lk_mem h), kX11_ok⟩
set_option maxRecDepth 20000 in
set_option maxHeartbeats 4000000 in
theorem okX11_forgetSense (l : Launch) : aOK l mX11_forgetSense spX11_forgetSense := by
  refine aOK_of rfl fun as S Q h => ?_
  unfold spX11_forgetSense at h
  split at h
  · rename_i a
    refine ⟨Nat.le_of_ble_eq_true rfl, wp_ok (tbX11_forgetSense_ok l) Q (fun pc => false) 11 0 _ [] S ?_⟩
    show wp cX11_forgetSense tbX11_forgetSense 2 none Q (fun pc => false) (aGo l mX11_forgetSense Q) 11 0 [(0, .inr (.inr 0)), (1, .inl a)] [] S
    simp only [wp_s, wpC_f, wpC_t, e_wLd, e_wLd0, e_wLd1, e_wLd2, e_get1, e_get2, e_wJ, e_wJo, f40, f41, f42, f43, Nat.reduceAdd, Nat.reduceBEq, Nat.reduceMul, eq_self, true_or, or_true, true_and, dX11_forgetSense_0, dX11_forgetSense_1, dX11_forgetSense_4, dX11_forgetSense_5, dX11_forgetSense_8, dX11_forgetSense_9, dX11_forgetSense_12, dX11_forgetSense_13, dX11_forgetSense_16, e_aload_n, e_iload_n, e_getfield, e_invokevirtual, e_return_, e_rv, fX11_49, fX11_65, e_call, e_callS0, e_callS1, e_callS2, e_callS3, e_callS4, e_pop0, e_pop1, e_tl0, e_tl1, tbX11_forgetSense_f, tbX11_forgetSense_p, tbX11_forgetSense_k, tbX11_forgetSense_c345, tbX11_forgetSense_c346, cv_219_0, cv_219_1, cv_219_2, cv_219_3, cv_219_4, cv_208_0, cv_208_1, cv_208_2, cv_208_3, cv_208_4, g_0_5, g_0_7, spX6_remove, spX3_forget]
    obtain ⟨h0, h1, h2, h3⟩ := h
    simp (disch := omega) only [up_obj]
    exact ⟨fun _ => ⟨h1, h2, h3⟩, fun q => absurd h0 q⟩
  · exact h.elim
