/-! SENSES -/
def spX6_has : aSp := fun as S Q => match as with
  | [.inr (.inr 208), .inl b] => Q (some (.inl (bi (0 ≤ b ∧ b < 40 ∧ ¬ S.1 209 (b).toNat = -1)))) S
  | _ => False
def tbX6_has : aTb := (fX6, pX6, fun j => lk [] j, kX6)
theorem tbX6_has_f : tbX6_has.1 = fX6 := rfl
theorem tbX6_has_p : tbX6_has.2.1 = pX6 := rfl
theorem tbX6_has_k : tbX6_has.2.2.2 = kX6 := rfl
theorem tbX6_has_all (l : Launch) : ∀ e ∈ ([] : List (Nat × Option Nat × Nat × aSp)), cOK l mX6_has e.1 e.2.1 e.2.2.1 e.2.2.2 ∨ mOK mX6_has e.1 e.2.1 e.2.2.1 e.2.2.2 := all_nil
theorem tbX6_has_ok (l : Launch) : tOK l mX6_has tbX6_has := ⟨fX6_ok, pX6_ok, fun _ _ _ _ h => tbX6_has_all l _ (lk_mem h), kX6_ok⟩
set_option maxRecDepth 20000 in
set_option maxHeartbeats 4000000 in
theorem okX6_has (l : Launch) : aOK l mX6_has spX6_has := by
  refine aOK_of rfl fun as S Q h => ?_
  unfold spX6_has at h
  split at h
  · rename_i b
    refine ⟨Nat.le_of_ble_eq_true rfl, wp_ok (tbX6_has_ok l) Q (fun pc => false) 17 0 _ [] S ?_⟩
    show wp cX6_has tbX6_has 2 (some .boolean) Q (fun pc => false) (aGo l mX6_has Q) 17 0 [(0, .inr (.inr 208)), (1, .inl b)] [] S
    simp only [wp_s, wpC_f, wpC_t, e_wLd, e_wLd0, e_wLd1, e_wLd2, e_get1, e_get2, e_wJ, e_wJo, f40, f41, f42, f43, Nat.reduceAdd, Nat.reduceBEq, Nat.reduceMul, eq_self, true_or, or_true, true_and, dX6_has_0, dX6_has_1, dX6_has_4, dX6_has_5, dX6_has_7, dX6_has_10, dX6_has_11, dX6_has_14, dX6_has_15, dX6_has_16, dX6_has_17, dX6_has_20, dX6_has_21, dX6_has_24, dX6_has_25, e_aload_n, e_iload_n, e_iconst, e_bipush, e_ifCond, e_if_icmp, e_goto, e_getfield, e_iaload, e_ireturn, e_ri, e_rz, e_wIc_ge, e_wIf_lt, e_wIc_eq, bp_40, fX6_9, ic_0, ic_1, ic_m1, jt_17_7, jt_1_23, jt_21_4, jt_7_17, tbX6_has_f, tbX6_has_p, tbX6_has_k, g_208_0, l_209]
    repeat' (with_reducible first | intro _ | refine And.intro ?_ ?_)
    all_goals first | exact h | (rw [bi_t (by omega)] at h; exact h) | (rw [bi_f (by omega)] at h; exact h) | omega
  · exact h.elim
def spX6_remove : aSp := fun as S Q => match as with
  | [.inr (.inr 208), .inl b] => (0 ≤ b ∧ b < 40 ∧ ¬ S.1 209 (b).toNat = -1 → Q none (upI (upI S 209 b.toNat (-1)) 210 b.toNat (-1))) ∧ (¬ (0 ≤ b ∧ b < 40 ∧ ¬ S.1 209 (b).toNat = -1) → Q none S)
  | _ => False
def tbX6_remove : aTb := (fX6, pX6, fun j => lk [(18, (some 6), 2, spX6_has)] j, kX6)
theorem tbX6_remove_f : tbX6_remove.1 = fX6 := rfl
theorem tbX6_remove_p : tbX6_remove.2.1 = pX6 := rfl
theorem tbX6_remove_k : tbX6_remove.2.2.2 = kX6 := rfl
theorem tbX6_remove_c18 : tbX6_remove.2.2.1 18 = some ((some 6), 2, spX6_has) := rfl
theorem tbX6_remove_all (l : Launch) : ∀ e ∈ ([(18, (some 6), 2, spX6_has)] : List (Nat × Option Nat × Nat × aSp)), cOK l mX6_remove e.1 e.2.1 e.2.2.1 e.2.2.2 ∨ mOK mX6_remove e.1 e.2.1 e.2.2.1 e.2.2.2 := all_cons (cOK_of (okX6_has l) meX6_has cfX6_18 (by decide) (by decide)) (all_nil)
theorem tbX6_remove_ok (l : Launch) : tOK l mX6_remove tbX6_remove := ⟨fX6_ok, pX6_ok, fun _ _ _ _ h => tbX6_remove_all l _ (lk_mem h), kX6_ok⟩
set_option maxRecDepth 20000 in
set_option maxHeartbeats 4000000 in
theorem okX6_remove (l : Launch) : aOK l mX6_remove spX6_remove := by
  refine aOK_of rfl fun as S Q h => ?_
  unfold spX6_remove at h
  split at h
  · rename_i b
    refine ⟨Nat.le_of_ble_eq_true rfl, wp_ok (tbX6_remove_ok l) Q (fun pc => false) 17 0 _ [] S ?_⟩
    show wp cX6_remove tbX6_remove 2 none Q (fun pc => false) (aGo l mX6_remove Q) 17 0 [(0, .inr (.inr 208)), (1, .inl b)] [] S
    simp only [wp_s, wpC_f, wpC_t, e_wLd, e_wLd0, e_wLd1, e_wLd2, e_get1, e_get2, e_wJ, e_wJo, f40, f41, f42, f43, Nat.reduceAdd, Nat.reduceBEq, Nat.reduceMul, eq_self, true_or, or_true, true_and, dX6_remove_0, dX6_remove_1, dX6_remove_2, dX6_remove_5, dX6_remove_8, dX6_remove_9, dX6_remove_12, dX6_remove_13, dX6_remove_14, dX6_remove_15, dX6_remove_16, dX6_remove_19, dX6_remove_20, dX6_remove_21, dX6_remove_22, e_aload_n, e_iload_n, e_iconst, e_ifCond, e_getfield, e_iastore, e_invokevirtual, e_return_, e_rv, e_wIf_eq, fX6_15, fX6_9, ic_m1, jt_5_17, e_call, e_callS0, e_callS1, e_callS2, e_callS3, e_callS4, e_pop0, e_pop1, e_tl0, e_tl1, tbX6_remove_f, tbX6_remove_p, tbX6_remove_k, tbX6_remove_c18, g_208_0, s_210, s_209, cv_208_0, cv_208_1, cv_208_2, cv_208_3, cv_208_4, g_208_1, spX6_has, bi_0, bi_1, ne_eq, Classical.not_not, em_r, em_l]
    repeat' (with_reducible first | intro _ | refine And.intro ?_ ?_)
    all_goals first | omega | exact h.1 (by omega) | exact h.2 (by omega)
  · exact h.elim
def spX6_inUse : aSp := fun as S Q => match as with
  | [.inr (.inr 208)] => Q (some (.inl (cnt (fun j => S.1 209 j != -1) 40))) S
  | _ => False
def tbX6_inUse : aTb := (fX6, pX6, fun j => lk [(18, (some 6), 2, spX6_has)] j, kX6)
theorem tbX6_inUse_f : tbX6_inUse.1 = fX6 := rfl
theorem tbX6_inUse_p : tbX6_inUse.2.1 = pX6 := rfl
theorem tbX6_inUse_k : tbX6_inUse.2.2.2 = kX6 := rfl
theorem tbX6_inUse_c18 : tbX6_inUse.2.2.1 18 = some ((some 6), 2, spX6_has) := rfl
theorem tbX6_inUse_all (l : Launch) : ∀ e ∈ ([(18, (some 6), 2, spX6_has)] : List (Nat × Option Nat × Nat × aSp)), cOK l mX6_inUse e.1 e.2.1 e.2.2.1 e.2.2.2 ∨ mOK mX6_inUse e.1 e.2.1 e.2.2.1 e.2.2.2 := all_cons (cOK_of (okX6_has l) meX6_has cfX6_18 (by decide) (by decide)) (all_nil)
theorem tbX6_inUse_ok (l : Launch) : tOK l mX6_inUse tbX6_inUse := ⟨fX6_ok, pX6_ok, fun _ _ _ _ h => tbX6_inUse_all l _ (lk_mem h), kX6_ok⟩
set_option maxRecDepth 20000 in
set_option maxHeartbeats 4000000 in
theorem lpX6_inUse (l : Launch) (Q : Option aV → aS → Prop) : ∀ (n : Nat) (S : aS) (i : Nat), i + n = 40 → Q (some (.inl (cnt (fun j => S.1 209 j != -1) (40)))) S → aGo l mX6_inUse Q 4 [(0, .inr (.inr 208)), (1, .inl (cnt (fun j => S.1 209 j != -1) i)), (2, .inl (i : Int))] [] S := by
  intro n
  induction n using Nat.strongRecOn with
  | _ n ih =>
  intro S  i  h0 h1
  refine wp_go (tbX6_inUse_ok l) (fun pc => pc == 4) 18 dX6_inUse_4 ?_
  show ws1 tbX6_inUse 3 (some .int) Q (wp cX6_inUse tbX6_inUse 3 (some .int) Q (fun pc => pc == 4) (aGo l mX6_inUse Q) 18) (.iload_n 2) 1 4 [(0, .inr (.inr 208)), (1, .inl (cnt (fun j => S.1 209 j != -1) i)), (2, .inl (i : Int))] [] S
  simp only [wp_s, wpC_f, wpC_t, e_wLd, e_wLd0, e_wLd1, e_wLd2, e_get1, e_get2, e_wJ, e_wJo, f40, f41, f42, f43, Nat.reduceAdd, Nat.reduceBEq, Nat.reduceMul, eq_self, true_or, or_true, true_and, dX6_inUse_0, dX6_inUse_1, dX6_inUse_2, dX6_inUse_3, dX6_inUse_4, dX6_inUse_5, dX6_inUse_7, dX6_inUse_10, dX6_inUse_11, dX6_inUse_12, dX6_inUse_15, dX6_inUse_18, dX6_inUse_21, dX6_inUse_24, dX6_inUse_27, dX6_inUse_28, e_aload_n, e_iload_n, e_istore_n, e_iconst, e_bipush, e_iinc, e_ifCond, e_if_icmp, e_goto, e_invokevirtual, e_ireturn, e_wSt0, e_wSt1, e_wSt2, e_isL0, e_isL1, e_isL2, e_lset, e_lclr0, e_lclr1, e_lclr2, e_lput0, e_lput1, e_lput2, e_wInc, e_wInc0, Nat.reduceLT, not_false_eq_true, Bool.or_false, Bool.false_or, Bool.or_true, Bool.true_or, Bool.and_false, Bool.false_and, Bool.and_true, Bool.true_and, e_ri, e_rz, e_wIc_ge, e_wIf_eq, bp_40, ic_0, jt_15_6, jt_24_m20, jt_7_20, e_call, e_callS0, e_callS1, e_callS2, e_callS3, e_callS4, e_pop0, e_pop1, e_tl0, e_tl1, tbX6_inUse_f, tbX6_inUse_p, tbX6_inUse_k, tbX6_inUse_c18, cv_208_0, cv_208_1, cv_208_2, cv_208_3, cv_208_4, spX6_has, bi_0, bi_1, ne_eq, Classical.not_not, em_r, em_l]
  have cb := cnt_b (fun j => S.1 209 j != -1) i
  repeat' (with_reducible first | intro _ | refine And.intro ?_ ?_)
  all_goals (try simp (disch := omega) only [wI_id, Int.toNat_natCast] at *)
  all_goals first
    | omega
    | (rw [show 40 = i from by omega] at h1; exact h1)
    | (have e := ih (n - 1) (by omega) S (i + 1) (by omega) h1 ; rw [cnt_f (by first | (simp_all; done) | (simp; omega))] at e; exact e)
    | (have e := ih (n - 1) (by omega) S (i + 1) (by omega) h1 ; rw [cnt_t (by first | (simp_all; done) | (simp; omega))] at e; exact e)
    | skip
set_option maxRecDepth 20000 in
set_option maxHeartbeats 4000000 in
theorem okX6_inUse (l : Launch) : aOK l mX6_inUse spX6_inUse := by
  refine aOK_of rfl fun as S Q h => ?_
  unfold spX6_inUse at h
  split at h
  · refine ⟨Nat.le_of_ble_eq_true rfl, wp_ok (tbX6_inUse_ok l) Q (fun pc => pc == 4) 18 0 _ [] S ?_⟩
    show wp cX6_inUse tbX6_inUse 3 (some .int) Q (fun pc => pc == 4) (aGo l mX6_inUse Q) 18 0 [(0, .inr (.inr 208))] [] S
    simp only [wp_s, wpC_f, wpC_t, e_wLd, e_wLd0, e_wLd1, e_wLd2, e_get1, e_get2, e_wJ, e_wJo, f40, f41, f42, f43, Nat.reduceAdd, Nat.reduceBEq, Nat.reduceMul, eq_self, true_or, or_true, true_and, dX6_inUse_0, dX6_inUse_1, dX6_inUse_2, dX6_inUse_3, dX6_inUse_4, dX6_inUse_5, dX6_inUse_7, dX6_inUse_10, dX6_inUse_11, dX6_inUse_12, dX6_inUse_15, dX6_inUse_18, dX6_inUse_21, dX6_inUse_24, dX6_inUse_27, dX6_inUse_28, e_aload_n, e_iload_n, e_istore_n, e_iconst, e_bipush, e_iinc, e_ifCond, e_if_icmp, e_goto, e_invokevirtual, e_ireturn, e_wSt0, e_wSt1, e_wSt2, e_isL0, e_isL1, e_isL2, e_lset, e_lclr0, e_lclr1, e_lclr2, e_lput0, e_lput1, e_lput2, e_wInc, e_wInc0, Nat.reduceLT, not_false_eq_true, Bool.or_false, Bool.false_or, Bool.or_true, Bool.true_or, Bool.and_false, Bool.false_and, Bool.and_true, Bool.true_and, e_ri, e_rz, e_wIc_ge, e_wIf_eq, bp_40, ic_0, jt_15_6, jt_24_m20, jt_7_20, e_call, e_callS0, e_callS1, e_callS2, e_callS3, e_callS4, e_pop0, e_pop1, e_tl0, e_tl1, tbX6_inUse_f, tbX6_inUse_p, tbX6_inUse_k, tbX6_inUse_c18, cv_208_0, cv_208_1, cv_208_2, cv_208_3, cv_208_4]
    exact lpX6_inUse l Q _ S 0 (Nat.zero_add _) h
  · exact h.elim
def spX6_justUnder : aSp := fun as S Q => match as with
  | [.inr (.inr 208), .inl a] => Q (some (.inl (cnt (fun j => S.1 209 j != -1 && S.1 210 j == a) 40))) S
  | _ => False
def tbX6_justUnder : aTb := (fX6, pX6, fun j => lk [(18, (some 6), 2, spX6_has)] j, kX6)
theorem tbX6_justUnder_f : tbX6_justUnder.1 = fX6 := rfl
theorem tbX6_justUnder_p : tbX6_justUnder.2.1 = pX6 := rfl
theorem tbX6_justUnder_k : tbX6_justUnder.2.2.2 = kX6 := rfl
theorem tbX6_justUnder_c18 : tbX6_justUnder.2.2.1 18 = some ((some 6), 2, spX6_has) := rfl
theorem tbX6_justUnder_all (l : Launch) : ∀ e ∈ ([(18, (some 6), 2, spX6_has)] : List (Nat × Option Nat × Nat × aSp)), cOK l mX6_justUnder e.1 e.2.1 e.2.2.1 e.2.2.2 ∨ mOK mX6_justUnder e.1 e.2.1 e.2.2.1 e.2.2.2 := all_cons (cOK_of (okX6_has l) meX6_has cfX6_18 (by decide) (by decide)) (all_nil)
theorem tbX6_justUnder_ok (l : Launch) : tOK l mX6_justUnder tbX6_justUnder := ⟨fX6_ok, pX6_ok, fun _ _ _ _ h => tbX6_justUnder_all l _ (lk_mem h), kX6_ok⟩
set_option maxRecDepth 20000 in
set_option maxHeartbeats 4000000 in
theorem lpX6_justUnder (l : Launch) (Q : Option aV → aS → Prop) : ∀ (n : Nat) (S : aS) (a : Int) (i : Nat), i + n = 40 → Q (some (.inl (cnt (fun j => S.1 209 j != -1 && S.1 210 j == a) (40)))) S → aGo l mX6_justUnder Q 4 [(0, .inr (.inr 208)), (1, .inl a), (2, .inl (cnt (fun j => S.1 209 j != -1 && S.1 210 j == a) i)), (3, .inl (i : Int))] [] S := by
  intro n
  induction n using Nat.strongRecOn with
  | _ n ih =>
  intro S  a  i  h0 h1
  refine wp_go (tbX6_justUnder_ok l) (fun pc => pc == 4) 24 dX6_justUnder_4 ?_
  show ws1 tbX6_justUnder 4 (some .int) Q (wp cX6_justUnder tbX6_justUnder 4 (some .int) Q (fun pc => pc == 4) (aGo l mX6_justUnder Q) 24) (.iload_n 3) 1 4 [(0, .inr (.inr 208)), (1, .inl a), (2, .inl (cnt (fun j => S.1 209 j != -1 && S.1 210 j == a) i)), (3, .inl (i : Int))] [] S
  simp only [wp_s, wpC_f, wpC_t, e_wLd, e_wLd0, e_wLd1, e_wLd2, e_get1, e_get2, e_wJ, e_wJo, f40, f41, f42, f43, Nat.reduceAdd, Nat.reduceBEq, Nat.reduceMul, eq_self, true_or, or_true, true_and, dX6_justUnder_0, dX6_justUnder_1, dX6_justUnder_2, dX6_justUnder_3, dX6_justUnder_4, dX6_justUnder_5, dX6_justUnder_7, dX6_justUnder_10, dX6_justUnder_11, dX6_justUnder_12, dX6_justUnder_15, dX6_justUnder_18, dX6_justUnder_19, dX6_justUnder_22, dX6_justUnder_23, dX6_justUnder_24, dX6_justUnder_25, dX6_justUnder_28, dX6_justUnder_31, dX6_justUnder_34, dX6_justUnder_37, dX6_justUnder_38, e_aload_n, e_iload_n, e_istore_n, e_iconst, e_bipush, e_iinc, e_ifCond, e_if_icmp, e_goto, e_getfield, e_iaload, e_invokevirtual, e_ireturn, e_wSt0, e_wSt1, e_wSt2, e_isL0, e_isL1, e_isL2, e_lset, e_lclr0, e_lclr1, e_lclr2, e_lput0, e_lput1, e_lput2, e_wInc, e_wInc0, Nat.reduceLT, not_false_eq_true, Bool.or_false, Bool.false_or, Bool.or_true, Bool.true_or, Bool.and_false, Bool.false_and, Bool.and_true, Bool.true_and, e_ri, e_rz, e_wIc_ge, e_wIf_eq, e_wIc_ne, bp_40, fX6_15, ic_0, jt_15_16, jt_25_6, jt_34_m30, jt_7_30, e_call, e_callS0, e_callS1, e_callS2, e_callS3, e_callS4, e_pop0, e_pop1, e_tl0, e_tl1, tbX6_justUnder_f, tbX6_justUnder_p, tbX6_justUnder_k, tbX6_justUnder_c18, g_208_1, l_210, cv_208_0, cv_208_1, cv_208_2, cv_208_3, cv_208_4, spX6_has, bi_0, bi_1, ne_eq, Classical.not_not, em_r, em_l]
  have cb := cnt_b (fun j => S.1 209 j != -1 && S.1 210 j == a) i
  repeat' (with_reducible first | intro _ | refine And.intro ?_ ?_)
  all_goals (try simp (disch := omega) only [wI_id, Int.toNat_natCast] at *)
  all_goals first
    | omega
    | (rw [show 40 = i from by omega] at h1; exact h1)
    | (have e := ih (n - 1) (by omega) S a (i + 1) (by omega) h1 ; rw [cnt_f (by first | (simp_all; done) | (simp; omega))] at e; exact e)
    | (have e := ih (n - 1) (by omega) S a (i + 1) (by omega) h1 ; rw [cnt_t (by first | (simp_all; done) | (simp; omega))] at e; exact e)
    | skip
set_option maxRecDepth 20000 in
set_option maxHeartbeats 4000000 in
theorem okX6_justUnder (l : Launch) : aOK l mX6_justUnder spX6_justUnder := by
  refine aOK_of rfl fun as S Q h => ?_
  unfold spX6_justUnder at h
  split at h
  · rename_i a
    refine ⟨Nat.le_of_ble_eq_true rfl, wp_ok (tbX6_justUnder_ok l) Q (fun pc => pc == 4) 24 0 _ [] S ?_⟩
    show wp cX6_justUnder tbX6_justUnder 4 (some .int) Q (fun pc => pc == 4) (aGo l mX6_justUnder Q) 24 0 [(0, .inr (.inr 208)), (1, .inl a)] [] S
    simp only [wp_s, wpC_f, wpC_t, e_wLd, e_wLd0, e_wLd1, e_wLd2, e_get1, e_get2, e_wJ, e_wJo, f40, f41, f42, f43, Nat.reduceAdd, Nat.reduceBEq, Nat.reduceMul, eq_self, true_or, or_true, true_and, dX6_justUnder_0, dX6_justUnder_1, dX6_justUnder_2, dX6_justUnder_3, dX6_justUnder_4, dX6_justUnder_5, dX6_justUnder_7, dX6_justUnder_10, dX6_justUnder_11, dX6_justUnder_12, dX6_justUnder_15, dX6_justUnder_18, dX6_justUnder_19, dX6_justUnder_22, dX6_justUnder_23, dX6_justUnder_24, dX6_justUnder_25, dX6_justUnder_28, dX6_justUnder_31, dX6_justUnder_34, dX6_justUnder_37, dX6_justUnder_38, e_aload_n, e_iload_n, e_istore_n, e_iconst, e_bipush, e_iinc, e_ifCond, e_if_icmp, e_goto, e_getfield, e_iaload, e_invokevirtual, e_ireturn, e_wSt0, e_wSt1, e_wSt2, e_isL0, e_isL1, e_isL2, e_lset, e_lclr0, e_lclr1, e_lclr2, e_lput0, e_lput1, e_lput2, e_wInc, e_wInc0, Nat.reduceLT, not_false_eq_true, Bool.or_false, Bool.false_or, Bool.or_true, Bool.true_or, Bool.and_false, Bool.false_and, Bool.and_true, Bool.true_and, e_ri, e_rz, e_wIc_ge, e_wIf_eq, e_wIc_ne, bp_40, fX6_15, ic_0, jt_15_16, jt_25_6, jt_34_m30, jt_7_30, e_call, e_callS0, e_callS1, e_callS2, e_callS3, e_callS4, e_pop0, e_pop1, e_tl0, e_tl1, tbX6_justUnder_f, tbX6_justUnder_p, tbX6_justUnder_k, tbX6_justUnder_c18, g_208_1, l_210, cv_208_0, cv_208_1, cv_208_2, cv_208_3, cv_208_4]
    exact lpX6_justUnder l Q _ S a 0 (Nat.zero_add _) h
  · exact h.elim
def spX6_areBeside : aSp := fun as S Q => match as with
  | [.inr (.inr 208), .inl a, .inl b] => Q (some (.inl (bi ((0 ≤ a ∧ a < 40 ∧ ¬ S.1 209 (a).toNat = -1) ∧ (0 ≤ b ∧ b < 40 ∧ ¬ S.1 209 (b).toNat = -1) ∧ S.1 209 a.toNat = S.1 209 b.toNat ∧ S.1 210 a.toNat = S.1 210 b.toNat)))) S
  | _ => False
def tbX6_areBeside : aTb := (fX6, pX6, fun j => lk [(18, (some 6), 2, spX6_has)] j, kX6)
theorem tbX6_areBeside_f : tbX6_areBeside.1 = fX6 := rfl
theorem tbX6_areBeside_p : tbX6_areBeside.2.1 = pX6 := rfl
theorem tbX6_areBeside_k : tbX6_areBeside.2.2.2 = kX6 := rfl
theorem tbX6_areBeside_c18 : tbX6_areBeside.2.2.1 18 = some ((some 6), 2, spX6_has) := rfl
theorem tbX6_areBeside_all (l : Launch) : ∀ e ∈ ([(18, (some 6), 2, spX6_has)] : List (Nat × Option Nat × Nat × aSp)), cOK l mX6_areBeside e.1 e.2.1 e.2.2.1 e.2.2.2 ∨ mOK mX6_areBeside e.1 e.2.1 e.2.2.1 e.2.2.2 := all_cons (cOK_of (okX6_has l) meX6_has cfX6_18 (by decide) (by decide)) (all_nil)
theorem tbX6_areBeside_ok (l : Launch) : tOK l mX6_areBeside tbX6_areBeside := ⟨fX6_ok, pX6_ok, fun _ _ _ _ h => tbX6_areBeside_all l _ (lk_mem h), kX6_ok⟩
set_option maxRecDepth 20000 in
set_option maxHeartbeats 4000000 in
theorem okX6_areBeside (l : Launch) : aOK l mX6_areBeside spX6_areBeside := by
  refine aOK_of rfl fun as S Q h => ?_
  unfold spX6_areBeside at h
  split at h
  · rename_i a b
    refine ⟨Nat.le_of_ble_eq_true rfl, wp_ok (tbX6_areBeside_ok l) Q (fun pc => false) 32 0 _ [] S ?_⟩
    show wp cX6_areBeside tbX6_areBeside 3 (some .boolean) Q (fun pc => false) (aGo l mX6_areBeside Q) 32 0 [(0, .inr (.inr 208)), (1, .inl a), (2, .inl b)] [] S
    simp only [wp_s, wpC_f, wpC_t, e_wLd, e_wLd0, e_wLd1, e_wLd2, e_get1, e_get2, e_wJ, e_wJo, f40, f41, f42, f43, Nat.reduceAdd, Nat.reduceBEq, Nat.reduceMul, eq_self, true_or, or_true, true_and, dX6_areBeside_0, dX6_areBeside_1, dX6_areBeside_2, dX6_areBeside_5, dX6_areBeside_8, dX6_areBeside_9, dX6_areBeside_10, dX6_areBeside_13, dX6_areBeside_16, dX6_areBeside_17, dX6_areBeside_20, dX6_areBeside_21, dX6_areBeside_22, dX6_areBeside_23, dX6_areBeside_26, dX6_areBeside_27, dX6_areBeside_28, dX6_areBeside_31, dX6_areBeside_32, dX6_areBeside_35, dX6_areBeside_36, dX6_areBeside_37, dX6_areBeside_38, dX6_areBeside_41, dX6_areBeside_42, dX6_areBeside_43, dX6_areBeside_46, dX6_areBeside_47, dX6_areBeside_50, dX6_areBeside_51, e_aload_n, e_iload_n, e_iconst, e_ifCond, e_if_icmp, e_goto, e_getfield, e_iaload, e_invokevirtual, e_ireturn, e_ri, e_rz, e_wIf_eq, e_wIc_ne, fX6_15, fX6_9, ic_0, ic_1, jt_13_37, jt_28_22, jt_43_7, jt_47_4, jt_5_45, e_call, e_callS0, e_callS1, e_callS2, e_callS3, e_callS4, e_pop0, e_pop1, e_tl0, e_tl1, tbX6_areBeside_f, tbX6_areBeside_p, tbX6_areBeside_k, tbX6_areBeside_c18, g_208_0, l_210, l_209, cv_208_0, cv_208_1, cv_208_2, cv_208_3, cv_208_4, g_208_1, spX6_has, bi_0, bi_1, ne_eq, Classical.not_not, em_r, em_l]
    repeat' (with_reducible first | intro _ | refine And.intro ?_ ?_)
    all_goals first | exact h | (rw [bi_t (by omega)] at h; exact h) | (rw [bi_f (by omega)] at h; exact h) | omega
  · exact h.elim
def spX6_add : aSp := fun as S Q => match as with
  | [.inr (.inr 208), .inl e, .inl u] => (ff (fun j => S.1 209 j == -1) 40 0 = -1 → Q (some (.inl (-1))) S) ∧ ∀ r : Nat, r < 40 → ff (fun j => S.1 209 j == -1) 40 0 = r → Q (some (.inl (r : Int))) (upI (upI S 209 r e) 210 r u)
  | _ => False
def tbX6_add : aTb := (fX6, pX6, fun j => lk [(18, (some 6), 2, spX6_has)] j, kX6)
theorem tbX6_add_f : tbX6_add.1 = fX6 := rfl
theorem tbX6_add_p : tbX6_add.2.1 = pX6 := rfl
theorem tbX6_add_k : tbX6_add.2.2.2 = kX6 := rfl
theorem tbX6_add_c18 : tbX6_add.2.2.1 18 = some ((some 6), 2, spX6_has) := rfl
theorem tbX6_add_all (l : Launch) : ∀ e ∈ ([(18, (some 6), 2, spX6_has)] : List (Nat × Option Nat × Nat × aSp)), cOK l mX6_add e.1 e.2.1 e.2.2.1 e.2.2.2 ∨ mOK mX6_add e.1 e.2.1 e.2.2.1 e.2.2.2 := all_cons (cOK_of (okX6_has l) meX6_has cfX6_18 (by decide) (by decide)) (all_nil)
theorem tbX6_add_ok (l : Launch) : tOK l mX6_add tbX6_add := ⟨fX6_ok, pX6_ok, fun _ _ _ _ h => tbX6_add_all l _ (lk_mem h), kX6_ok⟩
set_option maxRecDepth 20000 in
set_option maxHeartbeats 4000000 in
theorem lpX6_add (l : Launch) (Q : Option aV → aS → Prop) : ∀ (n : Nat) (S : aS) (e u : Int) (i : Nat), i + n = 40 → (ff (fun j => S.1 209 j == -1) n i = -1 → Q (some (.inl (-1))) S) → (∀ r : Nat, r < 40 → ff (fun j => S.1 209 j == -1) n i = r → Q (some (.inl (r : Int))) (upI (upI S 209 r e) 210 r u)) → aGo l mX6_add Q 2 [(0, .inr (.inr 208)), (1, .inl e), (2, .inl u), (3, .inl (i : Int))] [] S := by
  intro n
  induction n using Nat.strongRecOn with
  | _ n ih =>
  intro S  e u  i  h0 h1 h2
  refine wp_go (tbX6_add_ok l) (fun pc => pc == 2) 27 dX6_add_2 ?_
  show ws1 tbX6_add 4 (some .int) Q (wp cX6_add tbX6_add 4 (some .int) Q (fun pc => pc == 2) (aGo l mX6_add Q) 27) (.iload_n 3) 1 2 [(0, .inr (.inr 208)), (1, .inl e), (2, .inl u), (3, .inl (i : Int))] [] S
  simp only [wp_s, wpC_f, wpC_t, e_wLd, e_wLd0, e_wLd1, e_wLd2, e_get1, e_get2, e_wJ, e_wJo, f40, f41, f42, f43, Nat.reduceAdd, Nat.reduceBEq, Nat.reduceMul, eq_self, true_or, or_true, true_and, dX6_add_0, dX6_add_1, dX6_add_2, dX6_add_3, dX6_add_5, dX6_add_8, dX6_add_9, dX6_add_10, dX6_add_13, dX6_add_16, dX6_add_17, dX6_add_20, dX6_add_21, dX6_add_22, dX6_add_23, dX6_add_24, dX6_add_27, dX6_add_28, dX6_add_29, dX6_add_30, dX6_add_31, dX6_add_32, dX6_add_35, dX6_add_38, dX6_add_39, e_aload_n, e_iload_n, e_istore_n, e_iconst, e_bipush, e_iinc, e_ifCond, e_if_icmp, e_goto, e_getfield, e_iastore, e_invokevirtual, e_ireturn, e_wSt0, e_wSt1, e_wSt2, e_isL0, e_isL1, e_isL2, e_lset, e_lclr0, e_lclr1, e_lclr2, e_lput0, e_lput1, e_lput2, e_wInc, e_wInc0, Nat.reduceLT, not_false_eq_true, Bool.or_false, Bool.false_or, Bool.or_true, Bool.true_or, Bool.and_false, Bool.false_and, Bool.and_true, Bool.true_and, e_ri, e_rz, e_wIc_ge, e_wIf_ne, bp_40, fX6_15, fX6_9, ic_0, ic_m1, jt_13_19, jt_35_m33, jt_5_33, e_call, e_callS0, e_callS1, e_callS2, e_callS3, e_callS4, e_pop0, e_pop1, e_tl0, e_tl1, tbX6_add_f, tbX6_add_p, tbX6_add_k, tbX6_add_c18, g_208_0, s_210, s_209, cv_208_0, cv_208_1, cv_208_2, cv_208_3, cv_208_4, g_208_1, spX6_has, bi_0, bi_1, ne_eq, Classical.not_not, em_r, em_l]
  repeat' (with_reducible first | intro _ | refine And.intro ?_ ?_)
  all_goals (try simp (disch := omega) only [wI_id, Int.toNat_natCast] at *)
  all_goals first
    | omega
    | (rw [show n = 0 from by omega] at h1; exact h1 rfl)
    | (obtain ⟨m, rfl⟩ : ∃ m, n = m + 1 := ⟨n - 1, by omega⟩
       refine ih m (by omega) S e u (i + 1) (by omega) (fun q => h1 ?_) (fun r hr q => h2 r hr ?_) <;> (unfold ff; rw [if_neg (by simp; omega)]; exact q))
    | (obtain ⟨m, rfl⟩ : ∃ m, n = m + 1 := ⟨n - 1, by omega⟩
       exact h2 i (by omega) (by unfold ff; rw [if_pos (by simp; omega)]))
    | skip
set_option maxRecDepth 20000 in
set_option maxHeartbeats 4000000 in
theorem okX6_add (l : Launch) : aOK l mX6_add spX6_add := by
  refine aOK_of rfl fun as S Q h => ?_
  unfold spX6_add at h
  split at h
  · rename_i e u
    refine ⟨Nat.le_of_ble_eq_true rfl, wp_ok (tbX6_add_ok l) Q (fun pc => pc == 2) 27 0 _ [] S ?_⟩
    show wp cX6_add tbX6_add 4 (some .int) Q (fun pc => pc == 2) (aGo l mX6_add Q) 27 0 [(0, .inr (.inr 208)), (1, .inl e), (2, .inl u)] [] S
    simp only [wp_s, wpC_f, wpC_t, e_wLd, e_wLd0, e_wLd1, e_wLd2, e_get1, e_get2, e_wJ, e_wJo, f40, f41, f42, f43, Nat.reduceAdd, Nat.reduceBEq, Nat.reduceMul, eq_self, true_or, or_true, true_and, dX6_add_0, dX6_add_1, dX6_add_2, dX6_add_3, dX6_add_5, dX6_add_8, dX6_add_9, dX6_add_10, dX6_add_13, dX6_add_16, dX6_add_17, dX6_add_20, dX6_add_21, dX6_add_22, dX6_add_23, dX6_add_24, dX6_add_27, dX6_add_28, dX6_add_29, dX6_add_30, dX6_add_31, dX6_add_32, dX6_add_35, dX6_add_38, dX6_add_39, e_aload_n, e_iload_n, e_istore_n, e_iconst, e_bipush, e_iinc, e_ifCond, e_if_icmp, e_goto, e_getfield, e_iastore, e_invokevirtual, e_ireturn, e_wSt0, e_wSt1, e_wSt2, e_isL0, e_isL1, e_isL2, e_lset, e_lclr0, e_lclr1, e_lclr2, e_lput0, e_lput1, e_lput2, e_wInc, e_wInc0, Nat.reduceLT, not_false_eq_true, Bool.or_false, Bool.false_or, Bool.or_true, Bool.true_or, Bool.and_false, Bool.false_and, Bool.and_true, Bool.true_and, e_ri, e_rz, e_wIc_ge, e_wIf_ne, bp_40, fX6_15, fX6_9, ic_0, ic_m1, jt_13_19, jt_35_m33, jt_5_33, e_call, e_callS0, e_callS1, e_callS2, e_callS3, e_callS4, e_pop0, e_pop1, e_tl0, e_tl1, tbX6_add_f, tbX6_add_p, tbX6_add_k, tbX6_add_c18, g_208_0, s_210, s_209, cv_208_0, cv_208_1, cv_208_2, cv_208_3, cv_208_4, g_208_1]
    exact lpX6_add l Q 40 S e u 0 rfl h.1 h.2
  · exact h.elim
def spX6_moveAllUnder : aSp := fun as S Q => match as with
  | [.inr (.inr 208), .inl a, .inl b] => Q none (stA S 210 (fun j => if j < 40 ∧ ¬ S.1 209 j = -1 ∧ S.1 210 j = a then b else S.1 210 j))
  | _ => False
def tbX6_moveAllUnder : aTb := (fX6, pX6, fun j => lk [(18, (some 6), 2, spX6_has)] j, kX6)
theorem tbX6_moveAllUnder_f : tbX6_moveAllUnder.1 = fX6 := rfl
theorem tbX6_moveAllUnder_p : tbX6_moveAllUnder.2.1 = pX6 := rfl
theorem tbX6_moveAllUnder_k : tbX6_moveAllUnder.2.2.2 = kX6 := rfl
theorem tbX6_moveAllUnder_c18 : tbX6_moveAllUnder.2.2.1 18 = some ((some 6), 2, spX6_has) := rfl
theorem tbX6_moveAllUnder_all (l : Launch) : ∀ e ∈ ([(18, (some 6), 2, spX6_has)] : List (Nat × Option Nat × Nat × aSp)), cOK l mX6_moveAllUnder e.1 e.2.1 e.2.2.1 e.2.2.2 ∨ mOK mX6_moveAllUnder e.1 e.2.1 e.2.2.1 e.2.2.2 := all_cons (cOK_of (okX6_has l) meX6_has cfX6_18 (by decide) (by decide)) (all_nil)
theorem tbX6_moveAllUnder_ok (l : Launch) : tOK l mX6_moveAllUnder tbX6_moveAllUnder := ⟨fX6_ok, pX6_ok, fun _ _ _ _ h => tbX6_moveAllUnder_all l _ (lk_mem h), kX6_ok⟩
set_option maxRecDepth 20000 in
set_option maxHeartbeats 4000000 in
theorem lpX6_moveAllUnder (l : Launch) (Q : Option aV → aS → Prop) : ∀ (n : Nat) (S : aS) (a b : Int) (i : Nat), i + n = 40 → Q (none) (stA S 210 (fun j => if i ≤ j ∧ j < 40 ∧ ¬ S.1 209 j = -1 ∧ S.1 210 j = a then b else S.1 210 j)) → aGo l mX6_moveAllUnder Q 2 [(0, .inr (.inr 208)), (1, .inl a), (2, .inl b), (3, .inl (i : Int))] [] S := by
  intro n
  induction n using Nat.strongRecOn with
  | _ n ih =>
  intro S  a b  i  h0 h1
  refine wp_go (tbX6_moveAllUnder_ok l) (fun pc => pc == 2) 25 dX6_moveAllUnder_2 ?_
  show ws1 tbX6_moveAllUnder 4 none Q (wp cX6_moveAllUnder tbX6_moveAllUnder 4 none Q (fun pc => pc == 2) (aGo l mX6_moveAllUnder Q) 25) (.iload_n 3) 1 2 [(0, .inr (.inr 208)), (1, .inl a), (2, .inl b), (3, .inl (i : Int))] [] S
  simp only [wp_s, wpC_f, wpC_t, e_wLd, e_wLd0, e_wLd1, e_wLd2, e_get1, e_get2, e_wJ, e_wJo, f40, f41, f42, f43, Nat.reduceAdd, Nat.reduceBEq, Nat.reduceMul, eq_self, true_or, or_true, true_and, dX6_moveAllUnder_0, dX6_moveAllUnder_1, dX6_moveAllUnder_2, dX6_moveAllUnder_3, dX6_moveAllUnder_5, dX6_moveAllUnder_8, dX6_moveAllUnder_9, dX6_moveAllUnder_10, dX6_moveAllUnder_13, dX6_moveAllUnder_16, dX6_moveAllUnder_17, dX6_moveAllUnder_20, dX6_moveAllUnder_21, dX6_moveAllUnder_22, dX6_moveAllUnder_23, dX6_moveAllUnder_26, dX6_moveAllUnder_27, dX6_moveAllUnder_30, dX6_moveAllUnder_31, dX6_moveAllUnder_32, dX6_moveAllUnder_33, dX6_moveAllUnder_36, dX6_moveAllUnder_39, e_aload_n, e_iload_n, e_istore_n, e_iconst, e_bipush, e_iinc, e_ifCond, e_if_icmp, e_goto, e_getfield, e_iaload, e_iastore, e_invokevirtual, e_return_, e_wSt0, e_wSt1, e_wSt2, e_isL0, e_isL1, e_isL2, e_lset, e_lclr0, e_lclr1, e_lclr2, e_lput0, e_lput1, e_lput2, e_wInc, e_wInc0, Nat.reduceLT, not_false_eq_true, Bool.or_false, Bool.false_or, Bool.or_true, Bool.true_or, Bool.and_false, Bool.false_and, Bool.and_true, Bool.true_and, e_rv, e_wIc_ge, e_wIf_eq, e_wIc_ne, bp_40, fX6_15, ic_0, jt_13_20, jt_23_10, jt_36_m34, jt_5_34, e_call, e_callS0, e_callS1, e_callS2, e_callS3, e_callS4, e_pop0, e_pop1, e_tl0, e_tl1, tbX6_moveAllUnder_f, tbX6_moveAllUnder_p, tbX6_moveAllUnder_k, tbX6_moveAllUnder_c18, g_208_1, l_210, s_210, cv_208_0, cv_208_1, cv_208_2, cv_208_3, cv_208_4, spX6_has, bi_0, bi_1, ne_eq, Classical.not_not, em_r, em_l]
  repeat' (with_reducible first | intro _ | refine And.intro ?_ ?_)
  all_goals (try simp (disch := omega) only [wI_id, Int.toNat_natCast] at *)
  all_goals first
    | omega
    | (refine Eq.mp (congrArg (Q (none)) ?_) h1; (refine st_ext (fun x y => ?_) (fun x y => ?_) <;> (try simp only [stA, upI, upL, up2]) <;> (repeat' split) <;> first | rfl | omega | (simp_all; done) | (simp_all; omega) | (have hq : y = i := (by omega); subst hq; first | rfl | omega | (simp_all; done) | (simp_all; omega)) | (congr 2 <;> omega) | (congr 3 <;> omega)); done)
    | (refine ih (n - 1) (by omega) _ a b (i + 1) ?_ ?_ <;> first | omega | (simp only [up_hit, up_obj, upL_hit, upL_obj, up_2, upL_1, Int.toNat_natCast, stA, upI, upL, up2]; first | omega | (simp; omega)) | (refine Eq.mp (congrArg (Q (none)) ?_) h1; (refine st_ext (fun x y => ?_) (fun x y => ?_) <;> (try simp only [stA, upI, upL, up2]) <;> (repeat' split) <;> first | rfl | omega | (simp_all; done) | (simp_all; omega) | (have hq : y = i := (by omega); subst hq; first | rfl | omega | (simp_all; done) | (simp_all; omega)) | (congr 2 <;> omega) | (congr 3 <;> omega)); done))
    | skip
set_option maxRecDepth 20000 in
set_option maxHeartbeats 4000000 in
theorem okX6_moveAllUnder (l : Launch) : aOK l mX6_moveAllUnder spX6_moveAllUnder := by
  refine aOK_of rfl fun as S Q h => ?_
  unfold spX6_moveAllUnder at h
  split at h
  · rename_i a b
    refine ⟨Nat.le_of_ble_eq_true rfl, wp_ok (tbX6_moveAllUnder_ok l) Q (fun pc => pc == 2) 25 0 _ [] S ?_⟩
    show wp cX6_moveAllUnder tbX6_moveAllUnder 4 none Q (fun pc => pc == 2) (aGo l mX6_moveAllUnder Q) 25 0 [(0, .inr (.inr 208)), (1, .inl a), (2, .inl b)] [] S
    simp only [wp_s, wpC_f, wpC_t, e_wLd, e_wLd0, e_wLd1, e_wLd2, e_get1, e_get2, e_wJ, e_wJo, f40, f41, f42, f43, Nat.reduceAdd, Nat.reduceBEq, Nat.reduceMul, eq_self, true_or, or_true, true_and, dX6_moveAllUnder_0, dX6_moveAllUnder_1, dX6_moveAllUnder_2, dX6_moveAllUnder_3, dX6_moveAllUnder_5, dX6_moveAllUnder_8, dX6_moveAllUnder_9, dX6_moveAllUnder_10, dX6_moveAllUnder_13, dX6_moveAllUnder_16, dX6_moveAllUnder_17, dX6_moveAllUnder_20, dX6_moveAllUnder_21, dX6_moveAllUnder_22, dX6_moveAllUnder_23, dX6_moveAllUnder_26, dX6_moveAllUnder_27, dX6_moveAllUnder_30, dX6_moveAllUnder_31, dX6_moveAllUnder_32, dX6_moveAllUnder_33, dX6_moveAllUnder_36, dX6_moveAllUnder_39, e_aload_n, e_iload_n, e_istore_n, e_iconst, e_bipush, e_iinc, e_ifCond, e_if_icmp, e_goto, e_getfield, e_iaload, e_iastore, e_invokevirtual, e_return_, e_wSt0, e_wSt1, e_wSt2, e_isL0, e_isL1, e_isL2, e_lset, e_lclr0, e_lclr1, e_lclr2, e_lput0, e_lput1, e_lput2, e_wInc, e_wInc0, Nat.reduceLT, not_false_eq_true, Bool.or_false, Bool.false_or, Bool.or_true, Bool.true_or, Bool.and_false, Bool.false_and, Bool.and_true, Bool.true_and, e_rv, e_wIc_ge, e_wIf_eq, e_wIc_ne, bp_40, fX6_15, ic_0, jt_13_20, jt_23_10, jt_36_m34, jt_5_34, e_call, e_callS0, e_callS1, e_callS2, e_callS3, e_callS4, e_pop0, e_pop1, e_tl0, e_tl1, tbX6_moveAllUnder_f, tbX6_moveAllUnder_p, tbX6_moveAllUnder_k, tbX6_moveAllUnder_c18, g_208_1, l_210, s_210, cv_208_0, cv_208_1, cv_208_2, cv_208_3, cv_208_4]
    exact lpX6_moveAllUnder l Q 40 S a b 0 rfl (by simpa using h)
  · exact h.elim
def hasT (E : Nat → Int) (t : Int) : Prop := 0 ≤ t ∧ t < 40 ∧ ¬ E t.toNat = -1
/-- how deep: the steps up from t, at most n -/
noncomputable def dpt (E P : Nat → Int) : Nat → Int → Int
  | 0, _ => 0
  | n + 1, t => @ite _ (hasT E t) (Classical.propDecidable _) (1 + dpt E P n (P t.toNat)) 0
/-- whether a is t or above it, within n steps up -/
def wth (E P : Nat → Int) (a : Int) : Nat → Int → Prop
  | 0, _ => False
  | n + 1, t => hasT E t ∧ (t = a ∨ wth E P a n (P t.toNat))
theorem dpt_t {E P : Nat → Int} {n : Nat} {t : Int} (h : hasT E t) : dpt E P (n + 1) t = 1 + dpt E P n (P t.toNat) := if_pos h
theorem dpt_f {E P : Nat → Int} {n : Nat} {t : Int} (h : ¬ hasT E t) : dpt E P n t = 0 := by
  cases n with
  | zero => rfl
  | succ n => exact if_neg h
def spX6_depth : aSp := fun as S Q => match as with
  | [.inr (.inr 208), .inl a] => Q (some (.inl (dpt (S.1 209) (S.1 210) 40 a))) S
  | _ => False
def tbX6_depth : aTb := (fX6, pX6, fun j => lk [(18, (some 6), 2, spX6_has)] j, kX6)
theorem tbX6_depth_f : tbX6_depth.1 = fX6 := rfl
theorem tbX6_depth_p : tbX6_depth.2.1 = pX6 := rfl
theorem tbX6_depth_k : tbX6_depth.2.2.2 = kX6 := rfl
theorem tbX6_depth_c18 : tbX6_depth.2.2.1 18 = some ((some 6), 2, spX6_has) := rfl
theorem tbX6_depth_all (l : Launch) : ∀ e ∈ ([(18, (some 6), 2, spX6_has)] : List (Nat × Option Nat × Nat × aSp)), cOK l mX6_depth e.1 e.2.1 e.2.2.1 e.2.2.2 ∨ mOK mX6_depth e.1 e.2.1 e.2.2.1 e.2.2.2 := all_cons (cOK_of (okX6_has l) meX6_has cfX6_18 (by decide) (by decide)) (all_nil)
theorem tbX6_depth_ok (l : Launch) : tOK l mX6_depth tbX6_depth := ⟨fX6_ok, pX6_ok, fun _ _ _ _ h => tbX6_depth_all l _ (lk_mem h), kX6_ok⟩
set_option maxRecDepth 20000 in
set_option maxHeartbeats 4000000 in
theorem lpX6_depth (l : Launch) (Q : Option aV → aS → Prop) : ∀ (n : Nat) (S : aS) (a d t : Int), 0 ≤ d ∧ d + n = 40 → Q (some (.inl (d + dpt (S.1 209) (S.1 210) n t))) S → aGo l mX6_depth Q 4 [(0, .inr (.inr 208)), (1, .inl a), (2, .inl d), (3, .inl t)] [] S := by
  intro n
  induction n using Nat.strongRecOn with
  | _ n ih =>
  intro S  a d t  h0 h1
  refine wp_go (tbX6_depth_ok l) (fun pc => pc == 4) 22 dX6_depth_4 ?_
  show ws1 tbX6_depth 4 (some .int) Q (wp cX6_depth tbX6_depth 4 (some .int) Q (fun pc => pc == 4) (aGo l mX6_depth Q) 22) (.aload_n 0) 1 4 [(0, .inr (.inr 208)), (1, .inl a), (2, .inl d), (3, .inl t)] [] S
  simp only [wp_s, wpC_f, wpC_t, e_wLd, e_wLd0, e_wLd1, e_wLd2, e_get1, e_get2, e_wJ, e_wJo, f40, f41, f42, f43, Nat.reduceAdd, Nat.reduceBEq, Nat.reduceMul, eq_self, true_or, or_true, true_and, dX6_depth_0, dX6_depth_1, dX6_depth_2, dX6_depth_3, dX6_depth_4, dX6_depth_5, dX6_depth_6, dX6_depth_9, dX6_depth_12, dX6_depth_13, dX6_depth_15, dX6_depth_18, dX6_depth_21, dX6_depth_22, dX6_depth_25, dX6_depth_26, dX6_depth_27, dX6_depth_28, dX6_depth_31, dX6_depth_32, e_aload_n, e_iload_n, e_istore_n, e_iconst, e_bipush, e_iinc, e_ifCond, e_if_icmp, e_goto, e_getfield, e_iaload, e_invokevirtual, e_ireturn, e_wSt0, e_wSt1, e_wSt2, e_isL0, e_isL1, e_isL2, e_lset, e_lclr0, e_lclr1, e_lclr2, e_lput0, e_lput1, e_lput2, e_wInc, e_wInc0, Nat.reduceLT, not_false_eq_true, Bool.or_false, Bool.false_or, Bool.or_true, Bool.true_or, Bool.and_false, Bool.false_and, Bool.and_true, Bool.true_and, e_ri, e_rz, e_wIc_ge, e_wIf_eq, bp_40, fX6_15, ic_0, jt_15_16, jt_28_m24, jt_9_22, e_call, e_callS0, e_callS1, e_callS2, e_callS3, e_callS4, e_pop0, e_pop1, e_tl0, e_tl1, tbX6_depth_f, tbX6_depth_p, tbX6_depth_k, tbX6_depth_c18, g_208_1, l_210, cv_208_0, cv_208_1, cv_208_2, cv_208_3, cv_208_4, spX6_has, bi_0, bi_1, ne_eq, Classical.not_not, em_r, em_l]
  repeat' (with_reducible first | intro _ | refine And.intro ?_ ?_)
  all_goals (try simp (disch := omega) only [wI_id, Int.toNat_natCast] at *)
  all_goals first
    | omega
    | (rw [dpt_f (by unfold hasT; omega), Int.add_zero] at h1; exact h1)
    | (rw [show n = 0 from by omega] at h1; simpa [dpt] using h1)
    | (obtain ⟨m, rfl⟩ : ∃ m, n = m + 1 := ⟨n - 1, by omega⟩
       refine ih m (by omega) S a (d + 1) _ (by omega) ?_
       rw [dpt_t (by unfold hasT; omega)] at h1
       rw [show d + 1 + dpt (S.1 209) (S.1 210) m (S.1 210 t.toNat) = d + (1 + dpt (S.1 209) (S.1 210) m (S.1 210 t.toNat)) from by omega]
       exact h1)
    | skip
set_option maxRecDepth 20000 in
set_option maxHeartbeats 4000000 in
theorem okX6_depth (l : Launch) : aOK l mX6_depth spX6_depth := by
  refine aOK_of rfl fun as S Q h => ?_
  unfold spX6_depth at h
  split at h
  · rename_i a
    refine ⟨Nat.le_of_ble_eq_true rfl, wp_ok (tbX6_depth_ok l) Q (fun pc => pc == 4) 22 0 _ [] S ?_⟩
    show wp cX6_depth tbX6_depth 4 (some .int) Q (fun pc => pc == 4) (aGo l mX6_depth Q) 22 0 [(0, .inr (.inr 208)), (1, .inl a)] [] S
    simp only [wp_s, wpC_f, wpC_t, e_wLd, e_wLd0, e_wLd1, e_wLd2, e_get1, e_get2, e_wJ, e_wJo, f40, f41, f42, f43, Nat.reduceAdd, Nat.reduceBEq, Nat.reduceMul, eq_self, true_or, or_true, true_and, dX6_depth_0, dX6_depth_1, dX6_depth_2, dX6_depth_3, dX6_depth_4, dX6_depth_5, dX6_depth_6, dX6_depth_9, dX6_depth_12, dX6_depth_13, dX6_depth_15, dX6_depth_18, dX6_depth_21, dX6_depth_22, dX6_depth_25, dX6_depth_26, dX6_depth_27, dX6_depth_28, dX6_depth_31, dX6_depth_32, e_aload_n, e_iload_n, e_istore_n, e_iconst, e_bipush, e_iinc, e_ifCond, e_if_icmp, e_goto, e_getfield, e_iaload, e_invokevirtual, e_ireturn, e_wSt0, e_wSt1, e_wSt2, e_isL0, e_isL1, e_isL2, e_lset, e_lclr0, e_lclr1, e_lclr2, e_lput0, e_lput1, e_lput2, e_wInc, e_wInc0, Nat.reduceLT, not_false_eq_true, Bool.or_false, Bool.false_or, Bool.or_true, Bool.true_or, Bool.and_false, Bool.false_and, Bool.and_true, Bool.true_and, e_ri, e_rz, e_wIc_ge, e_wIf_eq, bp_40, fX6_15, ic_0, jt_15_16, jt_28_m24, jt_9_22, e_call, e_callS0, e_callS1, e_callS2, e_callS3, e_callS4, e_pop0, e_pop1, e_tl0, e_tl1, tbX6_depth_f, tbX6_depth_p, tbX6_depth_k, tbX6_depth_c18, g_208_1, l_210, cv_208_0, cv_208_1, cv_208_2, cv_208_3, cv_208_4]
    exact lpX6_depth l Q 40 S a 0 a (by omega) (by simpa using h)
  · exact h.elim
def spX6_isWithin : aSp := fun as S Q => match as with
  | [.inr (.inr 208), .inl t, .inl a] => Q (some (.inl (bi (wth (S.1 209) (S.1 210) a 40 t)))) S
  | _ => False
def tbX6_isWithin : aTb := (fX6, pX6, fun j => lk [(18, (some 6), 2, spX6_has)] j, kX6)
theorem tbX6_isWithin_f : tbX6_isWithin.1 = fX6 := rfl
theorem tbX6_isWithin_p : tbX6_isWithin.2.1 = pX6 := rfl
theorem tbX6_isWithin_k : tbX6_isWithin.2.2.2 = kX6 := rfl
theorem tbX6_isWithin_c18 : tbX6_isWithin.2.2.1 18 = some ((some 6), 2, spX6_has) := rfl
theorem tbX6_isWithin_all (l : Launch) : ∀ e ∈ ([(18, (some 6), 2, spX6_has)] : List (Nat × Option Nat × Nat × aSp)), cOK l mX6_isWithin e.1 e.2.1 e.2.2.1 e.2.2.2 ∨ mOK mX6_isWithin e.1 e.2.1 e.2.2.1 e.2.2.2 := all_cons (cOK_of (okX6_has l) meX6_has cfX6_18 (by decide) (by decide)) (all_nil)
theorem tbX6_isWithin_ok (l : Launch) : tOK l mX6_isWithin tbX6_isWithin := ⟨fX6_ok, pX6_ok, fun _ _ _ _ h => tbX6_isWithin_all l _ (lk_mem h), kX6_ok⟩
set_option maxRecDepth 20000 in
set_option maxHeartbeats 4000000 in
theorem lpX6_isWithin (l : Launch) (Q : Option aV → aS → Prop) : ∀ (n : Nat) (S : aS) (t a u i : Int), 0 ≤ i ∧ i + n = 40 → Q (some (.inl (bi (wth (S.1 209) (S.1 210) a n u)))) S → aGo l mX6_isWithin Q 5 [(0, .inr (.inr 208)), (1, .inl t), (2, .inl a), (3, .inl u), (4, .inl i)] [] S := by
  intro n
  induction n using Nat.strongRecOn with
  | _ n ih =>
  intro S  t a u i  h0 h1
  refine wp_go (tbX6_isWithin_ok l) (fun pc => pc == 5) 27 dX6_isWithin_5 ?_
  show ws1 tbX6_isWithin 5 (some .boolean) Q (wp cX6_isWithin tbX6_isWithin 5 (some .boolean) Q (fun pc => pc == 5) (aGo l mX6_isWithin Q) 27) (.iload 4) 2 5 [(0, .inr (.inr 208)), (1, .inl t), (2, .inl a), (3, .inl u), (4, .inl i)] [] S
  simp only [wp_s, wpC_f, wpC_t, e_wLd, e_wLd0, e_wLd1, e_wLd2, e_get1, e_get2, e_wJ, e_wJo, f40, f41, f42, f43, Nat.reduceAdd, Nat.reduceBEq, Nat.reduceMul, eq_self, true_or, or_true, true_and, dX6_isWithin_0, dX6_isWithin_1, dX6_isWithin_2, dX6_isWithin_3, dX6_isWithin_5, dX6_isWithin_7, dX6_isWithin_9, dX6_isWithin_12, dX6_isWithin_13, dX6_isWithin_14, dX6_isWithin_17, dX6_isWithin_20, dX6_isWithin_21, dX6_isWithin_22, dX6_isWithin_25, dX6_isWithin_26, dX6_isWithin_27, dX6_isWithin_28, dX6_isWithin_31, dX6_isWithin_32, dX6_isWithin_33, dX6_isWithin_34, dX6_isWithin_37, dX6_isWithin_40, dX6_isWithin_41, e_aload_n, e_iload_n, e_iload, e_istore_n, e_istore, e_iconst, e_bipush, e_iinc, e_ifCond, e_if_icmp, e_goto, e_getfield, e_iaload, e_invokevirtual, e_ireturn, e_wSt0, e_wSt1, e_wSt2, e_isL0, e_isL1, e_isL2, e_lset, e_lclr0, e_lclr1, e_lclr2, e_lput0, e_lput1, e_lput2, e_wInc, e_wInc0, Nat.reduceLT, not_false_eq_true, Bool.or_false, Bool.false_or, Bool.or_true, Bool.true_or, Bool.and_false, Bool.false_and, Bool.and_true, Bool.true_and, e_ri, e_rz, e_wIc_ge, e_wIf_eq, e_wIc_ne, bp_40, fX6_15, ic_0, ic_1, jt_17_23, jt_22_5, jt_37_m32, jt_9_31, e_call, e_callS0, e_callS1, e_callS2, e_callS3, e_callS4, e_pop0, e_pop1, e_tl0, e_tl1, tbX6_isWithin_f, tbX6_isWithin_p, tbX6_isWithin_k, tbX6_isWithin_c18, g_208_1, l_210, cv_208_0, cv_208_1, cv_208_2, cv_208_3, cv_208_4, spX6_has, bi_0, bi_1, ne_eq, Classical.not_not, em_r, em_l]
  repeat' (with_reducible first | intro _ | refine And.intro ?_ ?_)
  all_goals (try simp (disch := omega) only [wI_id, Int.toNat_natCast] at *)
  all_goals first
    | omega
    | (rw [show n = 0 from by omega, bi_f (p := wth (S.1 209) (S.1 210) a 0 u) (fun q => q)] at h1; exact h1)
    | (obtain ⟨m, rfl⟩ : ∃ m, n = m + 1 := ⟨n - 1, by omega⟩
       rw [bi_f (p := wth (S.1 209) (S.1 210) a (m + 1) u) (fun q => by have q1 : hasT (S.1 209) u := q.1; unfold hasT at q1; omega)] at h1; exact h1)
    | (obtain ⟨m, rfl⟩ : ∃ m, n = m + 1 := ⟨n - 1, by omega⟩
       rw [bi_t (p := wth (S.1 209) (S.1 210) a (m + 1) u) ⟨by unfold hasT; omega, Or.inl (by omega)⟩] at h1; exact h1)
    | (obtain ⟨m, rfl⟩ : ∃ m, n = m + 1 := ⟨n - 1, by omega⟩
       refine ih m (by omega) S t a _ (i + 1) (by omega) ?_
       rw [bi_c (p := wth (S.1 209) (S.1 210) a (m + 1) u) (q := wth (S.1 209) (S.1 210) a m (S.1 210 u.toNat)) ⟨fun q => q.2.elim (fun e => absurd e (by omega)) (fun e => e), fun q => ⟨by unfold hasT; omega, Or.inr q⟩⟩] at h1
       exact h1)
    | skip
set_option maxRecDepth 20000 in
set_option maxHeartbeats 4000000 in
theorem okX6_isWithin (l : Launch) : aOK l mX6_isWithin spX6_isWithin := by
  refine aOK_of rfl fun as S Q h => ?_
  unfold spX6_isWithin at h
  split at h
  · rename_i t a
    refine ⟨Nat.le_of_ble_eq_true rfl, wp_ok (tbX6_isWithin_ok l) Q (fun pc => pc == 5) 27 0 _ [] S ?_⟩
    show wp cX6_isWithin tbX6_isWithin 5 (some .boolean) Q (fun pc => pc == 5) (aGo l mX6_isWithin Q) 27 0 [(0, .inr (.inr 208)), (1, .inl t), (2, .inl a)] [] S
    simp only [wp_s, wpC_f, wpC_t, e_wLd, e_wLd0, e_wLd1, e_wLd2, e_get1, e_get2, e_wJ, e_wJo, f40, f41, f42, f43, Nat.reduceAdd, Nat.reduceBEq, Nat.reduceMul, eq_self, true_or, or_true, true_and, dX6_isWithin_0, dX6_isWithin_1, dX6_isWithin_2, dX6_isWithin_3, dX6_isWithin_5, dX6_isWithin_7, dX6_isWithin_9, dX6_isWithin_12, dX6_isWithin_13, dX6_isWithin_14, dX6_isWithin_17, dX6_isWithin_20, dX6_isWithin_21, dX6_isWithin_22, dX6_isWithin_25, dX6_isWithin_26, dX6_isWithin_27, dX6_isWithin_28, dX6_isWithin_31, dX6_isWithin_32, dX6_isWithin_33, dX6_isWithin_34, dX6_isWithin_37, dX6_isWithin_40, dX6_isWithin_41, e_aload_n, e_iload_n, e_iload, e_istore_n, e_istore, e_iconst, e_bipush, e_iinc, e_ifCond, e_if_icmp, e_goto, e_getfield, e_iaload, e_invokevirtual, e_ireturn, e_wSt0, e_wSt1, e_wSt2, e_isL0, e_isL1, e_isL2, e_lset, e_lclr0, e_lclr1, e_lclr2, e_lput0, e_lput1, e_lput2, e_wInc, e_wInc0, Nat.reduceLT, not_false_eq_true, Bool.or_false, Bool.false_or, Bool.or_true, Bool.true_or, Bool.and_false, Bool.false_and, Bool.and_true, Bool.true_and, e_ri, e_rz, e_wIc_ge, e_wIf_eq, e_wIc_ne, bp_40, fX6_15, ic_0, ic_1, jt_17_23, jt_22_5, jt_37_m32, jt_9_31, e_call, e_callS0, e_callS1, e_callS2, e_callS3, e_callS4, e_pop0, e_pop1, e_tl0, e_tl1, tbX6_isWithin_f, tbX6_isWithin_p, tbX6_isWithin_k, tbX6_isWithin_c18, g_208_1, l_210, cv_208_0, cv_208_1, cv_208_2, cv_208_3, cv_208_4]
    exact lpX6_isWithin l Q 40 S t a t 0 (by omega) h
  · exact h.elim
