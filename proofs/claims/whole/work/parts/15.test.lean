def spX0_has : aSp := fun as S Q => match as with
  | [.inr (.inr 3), .inl b] => Q (some (.inl (if 0 ≤ b ∧ b < S.1 3 7 then 1 else 0))) S
  | _ => False
def tbX0_has : aTb := (fX0, pX0, fun j => lk [] j, kX0)
theorem tbX0_has_f : tbX0_has.1 = fX0 := rfl
theorem tbX0_has_p : tbX0_has.2.1 = pX0 := rfl
theorem tbX0_has_k : tbX0_has.2.2.2 = kX0 := rfl
theorem tbX0_has_all (l : Launch) : ∀ e ∈ ([] : List (Nat × Option Nat × Nat × aSp)), cOK l mX0_has e.1 e.2.1 e.2.2.1 e.2.2.2 := all_nil
theorem tbX0_has_ok (l : Launch) : tOK l mX0_has tbX0_has := ⟨fX0_ok, pX0_ok, fun _ _ _ _ h => tbX0_has_all l _ (lk_mem h), kX0_ok⟩
theorem okX0_has (l : Launch) : aOK l mX0_has spX0_has := by
  refine aOK_of rfl fun as S Q h => ?_
  unfold spX0_has at h
  split at h
  · rename_i b
    refine ⟨Nat.le_of_ble_eq_true rfl, wp_ok (tbX0_has_ok l) Q (fun _ => false) 20 0 _ [] S ?_⟩
    show wp cX0_has tbX0_has 2 (some .boolean) Q (fun _ => false) (aGo l mX0_has Q) 20 0 [(0, .inr (.inr 3)), (1, .inl b)] [] S
    simp only [wp_s, wpC_f, wpC_t, e_wLd, e_wLd0, e_wLd1, e_wLd2, e_get1, e_get2, e_wJ, e_wJo, f40, f41, f42, f43, Nat.reduceAdd, Nat.reduceBEq, Nat.reduceMul, true_or, or_true, true_and, dX0_has_0, dX0_has_1, dX0_has_4, dX0_has_5, dX0_has_6, dX0_has_9, dX0_has_12, dX0_has_13, dX0_has_16, dX0_has_17, e_aload_n, e_iload_n, e_iconst, e_ifCond, e_if_icmp, e_goto, e_getfield, e_ireturn, e_ri, e_rz, e_wIf_lt, e_wIc_ge, fX0_33, ic_0, ic_1, jt_13_4, jt_1_15, jt_9_7, tbX0_has_f, tbX0_has_p, tbX0_has_k, g_3_7]
    repeat' (first | intro _ | refine And.intro ?_ ?_)
    all_goals first | exact h | (rw [if_pos (by omega)] at h; exact h) | (rw [if_neg (by omega)] at h; exact h) | omega
  · exact h.elim
def spX0_isIn : aSp := fun as S Q => match as with
  | [.inl b, .inl x] => Q (some (.inl (if bAnd (bUshr x b) 1 = 1 then 1 else 0))) S
  | _ => False
def tbX0_isIn : aTb := (fX0, pX0, fun j => lk [] j, kX0)
theorem tbX0_isIn_f : tbX0_isIn.1 = fX0 := rfl
theorem tbX0_isIn_p : tbX0_isIn.2.1 = pX0 := rfl
theorem tbX0_isIn_k : tbX0_isIn.2.2.2 = kX0 := rfl
theorem tbX0_isIn_all (l : Launch) : ∀ e ∈ ([] : List (Nat × Option Nat × Nat × aSp)), cOK l mX0_isIn e.1 e.2.1 e.2.2.1 e.2.2.2 := all_nil
theorem tbX0_isIn_ok (l : Launch) : tOK l mX0_isIn tbX0_isIn := ⟨fX0_ok, pX0_ok, fun _ _ _ _ h => tbX0_isIn_all l _ (lk_mem h), kX0_ok⟩
theorem okX0_isIn (l : Launch) : aOK l mX0_isIn spX0_isIn := by
  refine aOK_of rfl fun as S Q h => ?_
  unfold spX0_isIn at h
  split at h
  · rename_i b x
    refine ⟨Nat.le_of_ble_eq_true rfl, wp_ok (tbX0_isIn_ok l) Q (fun _ => false) 20 0 _ [] S ?_⟩
    show wp cX0_isIn tbX0_isIn 2 (some .boolean) Q (fun _ => false) (aGo l mX0_isIn Q) 20 0 [(0, .inl b), (1, .inl x)] [] S
    simp only [wp_s, wpC_f, wpC_t, e_wLd, e_wLd0, e_wLd1, e_wLd2, e_get1, e_get2, e_wJ, e_wJo, f40, f41, f42, f43, Nat.reduceAdd, Nat.reduceBEq, Nat.reduceMul, true_or, or_true, true_and, dX0_isIn_0, dX0_isIn_1, dX0_isIn_2, dX0_isIn_3, dX0_isIn_4, dX0_isIn_5, dX0_isIn_6, dX0_isIn_9, dX0_isIn_10, dX0_isIn_13, dX0_isIn_14, e_iload_n, e_iconst, e_iand, e_iushr, e_if_icmp, e_goto, e_ireturn, e_ri, e_rz, e_wI2, e_wIc_ne, ic_0, ic_1, jt_10_4, jt_6_7, tbX0_isIn_f, tbX0_isIn_p, tbX0_isIn_k]
    repeat' (first | intro _ | refine And.intro ?_ ?_)
    all_goals first | exact h | (rw [if_pos (by omega)] at h; exact h) | (rw [if_neg (by omega)] at h; exact h) | omega
  · exact h.elim
def spX0_add : aSp := fun as S Q => match as with
  | [.inr (.inr 3), .inl a, .inl b] => 0 ≤ S.1 3 7 ∧ (30 ≤ S.1 3 7 → Q (some (.inl (-1))) S) ∧ (S.1 3 7 < 30 → Q (some (.inl (S.1 3 7))) (upI (upI (upI (upI (upI S 4 (S.1 3 7).toNat a) 5 (S.1 3 7).toNat b) 6 (S.1 3 7).toNat a) 7 (S.1 3 7).toNat b) 3 7 (S.1 3 7 + 1)))
  | _ => False
def tbX0_add : aTb := (fX0, pX0, fun j => lk [] j, kX0)
theorem tbX0_add_f : tbX0_add.1 = fX0 := rfl
theorem tbX0_add_p : tbX0_add.2.1 = pX0 := rfl
theorem tbX0_add_k : tbX0_add.2.2.2 = kX0 := rfl
theorem tbX0_add_all (l : Launch) : ∀ e ∈ ([] : List (Nat × Option Nat × Nat × aSp)), cOK l mX0_add e.1 e.2.1 e.2.2.1 e.2.2.2 := all_nil
theorem tbX0_add_ok (l : Launch) : tOK l mX0_add tbX0_add := ⟨fX0_ok, pX0_ok, fun _ _ _ _ h => tbX0_add_all l _ (lk_mem h), kX0_ok⟩
theorem okX0_add (l : Launch) : aOK l mX0_add spX0_add := by
  refine aOK_of rfl fun as S Q h => ?_
  unfold spX0_add at h
  split at h
  · rename_i a b
    refine ⟨Nat.le_of_ble_eq_true rfl, wp_ok (tbX0_add_ok l) Q (fun _ => false) 50 0 _ [] S ?_⟩
    show wp cX0_add tbX0_add 4 (some .int) Q (fun _ => false) (aGo l mX0_add Q) 50 0 [(0, .inr (.inr 3)), (1, .inl a), (2, .inl b)] [] S
    simp only [wp_s, wpC_f, wpC_t, e_wLd, e_wLd0, e_wLd1, e_wLd2, e_get1, e_get2, e_wJ, e_wJo, f40, f41, f42, f43, Nat.reduceAdd, Nat.reduceBEq, Nat.reduceMul, true_or, or_true, true_and, dX0_add_0, dX0_add_1, dX0_add_4, dX0_add_5, dX0_add_6, dX0_add_8, dX0_add_11, dX0_add_12, dX0_add_13, dX0_add_14, dX0_add_17, dX0_add_18, dX0_add_19, dX0_add_20, dX0_add_21, dX0_add_24, dX0_add_25, dX0_add_26, dX0_add_27, dX0_add_28, dX0_add_31, dX0_add_32, dX0_add_33, dX0_add_34, dX0_add_35, dX0_add_38, dX0_add_39, dX0_add_40, dX0_add_41, dX0_add_42, dX0_add_43, dX0_add_46, dX0_add_47, dX0_add_48, dX0_add_51, dX0_add_52, e_aload_n, e_iload_n, e_istore_n, e_iconst, e_bipush, e_iadd, e_dup, e_if_icmp, e_getfield, e_putfield, e_iastore, e_ireturn, e_wSt0, e_wSt1, e_wSt2, e_isL0, e_isL1, e_isL2, e_lset, e_lclr0, e_lclr1, e_lclr2, e_lput0, e_lput1, e_lput2, e_wInc, e_wInc0, Nat.reduceLT, not_false_eq_true, Bool.or_false, Bool.false_or, Bool.or_true, Bool.true_or, Bool.and_false, Bool.false_and, Bool.and_true, Bool.true_and, e_ri, e_rz, e_wDup0, e_wDup1, e_wI2, e_wIc_lt, bp_30, fX0_15, fX0_18, fX0_21, fX0_33, fX0_9, ic_1, ic_m1, jt_8_5, pX0_33, tbX0_add_f, tbX0_add_p, tbX0_add_k, g_3_1, s_5, g_3_7, g_3_0, g_3_3, s_7, s_4, g_3_2, p_3_7, s_6]
    repeat' (first | intro _ | refine And.intro ?_ ?_)
    all_goals first | exact h | (rw [if_pos (by omega)] at h; exact h) | (rw [if_neg (by omega)] at h; exact h) | omega
  · exact h.elim
