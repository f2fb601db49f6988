/-! POINTERS, RULES, TAPE -/
def spX3_has : aSp := fun as S Q => match as with
  | [.inr (.inr 219), .inl b] => Q (some (.inl (bi (0 ≤ b ∧ b < S.1 219 2)))) S
  | _ => False
def tbX3_has : aTb := (fX3, pX3, fun j => lk [] j, kX3)
theorem tbX3_has_f : tbX3_has.1 = fX3 := rfl
theorem tbX3_has_p : tbX3_has.2.1 = pX3 := rfl
theorem tbX3_has_k : tbX3_has.2.2.2 = kX3 := rfl
theorem tbX3_has_all (l : Launch) : ∀ e ∈ ([] : List (Nat × Option Nat × Nat × aSp)), cOK l mX3_has e.1 e.2.1 e.2.2.1 e.2.2.2 ∨ mOK mX3_has e.1 e.2.1 e.2.2.1 e.2.2.2 := all_nil
theorem tbX3_has_ok (l : Launch) : tOK l mX3_has tbX3_has := ⟨fX3_ok, pX3_ok, fun _ _ _ _ h => tbX3_has_all l _ (lk_mem h), kX3_ok⟩
set_option maxRecDepth 20000 in
set_option maxHeartbeats 4000000 in
theorem okX3_has (l : Launch) : aOK l mX3_has spX3_has := by
  refine aOK_of rfl fun as S Q h => ?_
  unfold spX3_has at h
  split at h
  · rename_i b
    refine ⟨Nat.le_of_ble_eq_true rfl, wp_ok (tbX3_has_ok l) Q (fun pc => false) 12 0 _ [] S ?_⟩
    show wp cX3_has tbX3_has 2 (some .boolean) Q (fun pc => false) (aGo l mX3_has Q) 12 0 [(0, .inr (.inr 219)), (1, .inl b)] [] S
    simp only [wp_s, wpC_f, wpC_t, e_wLd, e_wLd0, e_wLd1, e_wLd2, e_get1, e_get2, e_wJ, e_wJo, f40, f41, f42, f43, Nat.reduceAdd, Nat.reduceBEq, Nat.reduceMul, eq_self, true_or, or_true, true_and, dX3_has_0, dX3_has_1, dX3_has_4, dX3_has_5, dX3_has_6, dX3_has_9, dX3_has_12, dX3_has_13, dX3_has_16, dX3_has_17, e_aload_n, e_iload_n, e_iconst, e_ifCond, e_if_icmp, e_goto, e_getfield, e_ireturn, e_ri, e_rz, e_wIf_lt, e_wIc_ge, fX3_18, ic_0, ic_1, jt_13_4, jt_1_15, jt_9_7, tbX3_has_f, tbX3_has_p, tbX3_has_k, g_219_2]
    repeat' (with_reducible first | intro _ | refine And.intro ?_ ?_)
    all_goals first | exact h | (rw [bi_t (by omega)] at h; exact h) | (rw [bi_f (by omega)] at h; exact h) | omega
  · exact h.elim
def spX3_isLoose : aSp := fun as S Q => match as with
  | [.inr (.inr 219), .inl b] => S.1 219 2 ≤ 20 ∧ Q (some (.inl (bi (0 ≤ b ∧ b < S.1 219 2 ∧ S.1 221 b.toNat = -1)))) S
  | _ => False
def tbX3_isLoose : aTb := (fX3, pX3, fun j => lk [(22, (some 3), 2, spX3_has)] j, kX3)
theorem tbX3_isLoose_f : tbX3_isLoose.1 = fX3 := rfl
theorem tbX3_isLoose_p : tbX3_isLoose.2.1 = pX3 := rfl
theorem tbX3_isLoose_k : tbX3_isLoose.2.2.2 = kX3 := rfl
theorem tbX3_isLoose_c22 : tbX3_isLoose.2.2.1 22 = some ((some 3), 2, spX3_has) := rfl
theorem tbX3_isLoose_all (l : Launch) : ∀ e ∈ ([(22, (some 3), 2, spX3_has)] : List (Nat × Option Nat × Nat × aSp)), cOK l mX3_isLoose e.1 e.2.1 e.2.2.1 e.2.2.2 ∨ mOK mX3_isLoose e.1 e.2.1 e.2.2.1 e.2.2.2 := all_cons (cOK_of (okX3_has l) meX3_has cfX3_22 (by decide) (by decide)) (all_nil)
theorem tbX3_isLoose_ok (l : Launch) : tOK l mX3_isLoose tbX3_isLoose := ⟨fX3_ok, pX3_ok, fun _ _ _ _ h => tbX3_isLoose_all l _ (lk_mem h), kX3_ok⟩
set_option maxRecDepth 20000 in
set_option maxHeartbeats 4000000 in
theorem okX3_isLoose (l : Launch) : aOK l mX3_isLoose spX3_isLoose := by
  refine aOK_of rfl fun as S Q h => ?_
  unfold spX3_isLoose at h
  split at h
  · rename_i b
    refine ⟨Nat.le_of_ble_eq_true rfl, wp_ok (tbX3_isLoose_ok l) Q (fun pc => false) 16 0 _ [] S ?_⟩
    show wp cX3_isLoose tbX3_isLoose 2 (some .boolean) Q (fun pc => false) (aGo l mX3_isLoose Q) 16 0 [(0, .inr (.inr 219)), (1, .inl b)] [] S
    simp only [wp_s, wpC_f, wpC_t, e_wLd, e_wLd0, e_wLd1, e_wLd2, e_get1, e_get2, e_wJ, e_wJo, f40, f41, f42, f43, Nat.reduceAdd, Nat.reduceBEq, Nat.reduceMul, eq_self, true_or, or_true, true_and, dX3_isLoose_0, dX3_isLoose_1, dX3_isLoose_2, dX3_isLoose_5, dX3_isLoose_8, dX3_isLoose_9, dX3_isLoose_12, dX3_isLoose_13, dX3_isLoose_14, dX3_isLoose_15, dX3_isLoose_18, dX3_isLoose_19, dX3_isLoose_22, dX3_isLoose_23, e_aload_n, e_iload_n, e_iconst, e_ifCond, e_if_icmp, e_goto, e_getfield, e_iaload, e_invokevirtual, e_ireturn, e_ri, e_rz, e_wIc_ne, e_wIf_eq, fX3_15, ic_0, ic_1, ic_m1, jt_15_7, jt_19_4, jt_5_17, e_call, e_callS0, e_callS1, e_callS2, e_callS3, e_callS4, e_pop0, e_pop1, e_tl0, e_tl1, tbX3_isLoose_f, tbX3_isLoose_p, tbX3_isLoose_k, tbX3_isLoose_c22, cv_219_0, cv_219_1, cv_219_2, cv_219_3, cv_219_4, l_221, g_219_1, spX3_has, bi_0, bi_1, ne_eq, Classical.not_not, em_r, em_l]
    obtain ⟨hs, h⟩ := h
    repeat' (with_reducible first | intro _ | refine And.intro ?_ ?_)
    all_goals first | exact h | (rw [bi_t (by omega)] at h; exact h) | (rw [bi_f (by omega)] at h; exact h) | omega
  · exact h.elim
def spX3_loose : aSp := fun as S Q => match as with
  | [.inr (.inr 219)] => 0 ≤ S.1 219 2 ∧ S.1 219 2 ≤ 20 ∧ Q (some (.inl (cnt (fun j => S.1 221 j == -1) (S.1 219 2).toNat))) S
  | _ => False
def tbX3_loose : aTb := (fX3, pX3, fun j => lk [(26, (some 3), 2, spX3_isLoose)] j, kX3)
theorem tbX3_loose_f : tbX3_loose.1 = fX3 := rfl
theorem tbX3_loose_p : tbX3_loose.2.1 = pX3 := rfl
theorem tbX3_loose_k : tbX3_loose.2.2.2 = kX3 := rfl
theorem tbX3_loose_c26 : tbX3_loose.2.2.1 26 = some ((some 3), 2, spX3_isLoose) := rfl
theorem tbX3_loose_all (l : Launch) : ∀ e ∈ ([(26, (some 3), 2, spX3_isLoose)] : List (Nat × Option Nat × Nat × aSp)), cOK l mX3_loose e.1 e.2.1 e.2.2.1 e.2.2.2 ∨ mOK mX3_loose e.1 e.2.1 e.2.2.1 e.2.2.2 := all_cons (cOK_of (okX3_isLoose l) meX3_isLoose cfX3_26 (by decide) (by decide)) (all_nil)
theorem tbX3_loose_ok (l : Launch) : tOK l mX3_loose tbX3_loose := ⟨fX3_ok, pX3_ok, fun _ _ _ _ h => tbX3_loose_all l _ (lk_mem h), kX3_ok⟩
set_option maxRecDepth 20000 in
set_option maxHeartbeats 4000000 in
theorem lpX3_loose (l : Launch) (Q : Option aV → aS → Prop) : ∀ (n : Nat) (S : aS) (i : Nat), i + n = (S.1 219 2).toNat → Q (some (.inl (cnt (fun j => S.1 221 j == -1) ((S.1 219 2).toNat)))) S → S.1 219 2 ≤ 20 → aGo l mX3_loose Q 4 [(0, .inr (.inr 219)), (1, .inl (cnt (fun j => S.1 221 j == -1) i)), (2, .inl (i : Int))] [] S := by
  intro n
  induction n using Nat.strongRecOn with
  | _ n ih =>
  intro S  i  h0 h1 h2
  refine wp_go (tbX3_loose_ok l) (fun pc => pc == 4) 19 dX3_loose_4 ?_
  show ws1 tbX3_loose 3 (some .int) Q (wp cX3_loose tbX3_loose 3 (some .int) Q (fun pc => pc == 4) (aGo l mX3_loose Q) 19) (.iload_n 2) 1 4 [(0, .inr (.inr 219)), (1, .inl (cnt (fun j => S.1 221 j == -1) i)), (2, .inl (i : Int))] [] S
  simp only [wp_s, wpC_f, wpC_t, e_wLd, e_wLd0, e_wLd1, e_wLd2, e_get1, e_get2, e_wJ, e_wJo, f40, f41, f42, f43, Nat.reduceAdd, Nat.reduceBEq, Nat.reduceMul, eq_self, true_or, or_true, true_and, dX3_loose_0, dX3_loose_1, dX3_loose_2, dX3_loose_3, dX3_loose_4, dX3_loose_5, dX3_loose_6, dX3_loose_9, dX3_loose_12, dX3_loose_13, dX3_loose_14, dX3_loose_17, dX3_loose_20, dX3_loose_23, dX3_loose_26, dX3_loose_29, dX3_loose_30, e_aload_n, e_iload_n, e_istore_n, e_iconst, e_iinc, e_ifCond, e_if_icmp, e_goto, e_getfield, e_invokevirtual, e_ireturn, e_wSt0, e_wSt1, e_wSt2, e_isL0, e_isL1, e_isL2, e_lset, e_lclr0, e_lclr1, e_lclr2, e_lput0, e_lput1, e_lput2, e_wInc, e_wInc0, Nat.reduceLT, not_false_eq_true, Bool.or_false, Bool.false_or, Bool.or_true, Bool.true_or, Bool.and_false, Bool.false_and, Bool.and_true, Bool.true_and, e_ri, e_rz, e_wIc_ge, e_wIf_eq, fX3_18, ic_0, jt_17_6, jt_26_m22, jt_9_20, e_call, e_callS0, e_callS1, e_callS2, e_callS3, e_callS4, e_pop0, e_pop1, e_tl0, e_tl1, tbX3_loose_f, tbX3_loose_p, tbX3_loose_k, tbX3_loose_c26, cv_219_0, cv_219_1, cv_219_2, cv_219_3, cv_219_4, g_219_2, spX3_isLoose, bi_0, bi_1, ne_eq, Classical.not_not, em_r, em_l]
  have cb := cnt_b (fun j => S.1 221 j == -1) i
  repeat' (with_reducible first | intro _ | refine And.intro ?_ ?_)
  all_goals (try simp (disch := omega) only [wI_id, Int.toNat_natCast] at *)
  all_goals first
    | omega
    | (rw [show (S.1 219 2).toNat = i from by omega] at h1; exact h1)
    | (have e := ih (n - 1) (by omega) S (i + 1) (by omega) h1 h2; rw [cnt_f (by first | (simp_all; done) | (simp; omega))] at e; exact e)
    | (have e := ih (n - 1) (by omega) S (i + 1) (by omega) h1 h2; rw [cnt_t (by first | (simp_all; done) | (simp; omega))] at e; exact e)
    | skip
set_option maxRecDepth 20000 in
set_option maxHeartbeats 4000000 in
theorem okX3_loose (l : Launch) : aOK l mX3_loose spX3_loose := by
  refine aOK_of rfl fun as S Q h => ?_
  unfold spX3_loose at h
  split at h
  · refine ⟨Nat.le_of_ble_eq_true rfl, wp_ok (tbX3_loose_ok l) Q (fun pc => pc == 4) 19 0 _ [] S ?_⟩
    show wp cX3_loose tbX3_loose 3 (some .int) Q (fun pc => pc == 4) (aGo l mX3_loose Q) 19 0 [(0, .inr (.inr 219))] [] S
    simp only [wp_s, wpC_f, wpC_t, e_wLd, e_wLd0, e_wLd1, e_wLd2, e_get1, e_get2, e_wJ, e_wJo, f40, f41, f42, f43, Nat.reduceAdd, Nat.reduceBEq, Nat.reduceMul, eq_self, true_or, or_true, true_and, dX3_loose_0, dX3_loose_1, dX3_loose_2, dX3_loose_3, dX3_loose_4, dX3_loose_5, dX3_loose_6, dX3_loose_9, dX3_loose_12, dX3_loose_13, dX3_loose_14, dX3_loose_17, dX3_loose_20, dX3_loose_23, dX3_loose_26, dX3_loose_29, dX3_loose_30, e_aload_n, e_iload_n, e_istore_n, e_iconst, e_iinc, e_ifCond, e_if_icmp, e_goto, e_getfield, e_invokevirtual, e_ireturn, e_wSt0, e_wSt1, e_wSt2, e_isL0, e_isL1, e_isL2, e_lset, e_lclr0, e_lclr1, e_lclr2, e_lput0, e_lput1, e_lput2, e_wInc, e_wInc0, Nat.reduceLT, not_false_eq_true, Bool.or_false, Bool.false_or, Bool.or_true, Bool.true_or, Bool.and_false, Bool.false_and, Bool.and_true, Bool.true_and, e_ri, e_rz, e_wIc_ge, e_wIf_eq, fX3_18, ic_0, jt_17_6, jt_26_m22, jt_9_20, e_call, e_callS0, e_callS1, e_callS2, e_callS3, e_callS4, e_pop0, e_pop1, e_tl0, e_tl1, tbX3_loose_f, tbX3_loose_p, tbX3_loose_k, tbX3_loose_c26, cv_219_0, cv_219_1, cv_219_2, cv_219_3, cv_219_4, g_219_2]
    exact lpX3_loose l Q _ S 0 (Nat.zero_add _) h.2.2 h.2.1
  · exact h.elim
def spX3_add : aSp := fun as S Q => match as with
  | [.inr (.inr 219), .inl a, .inl b] => 0 ≤ S.1 219 2 ∧ (20 ≤ S.1 219 2 → Q (some (.inl (-1))) S) ∧ (S.1 219 2 < 20 → Q (some (.inl (S.1 219 2))) (upI (upI (upI S 220 (S.1 219 2).toNat a) 221 (S.1 219 2).toNat b) 219 2 (S.1 219 2 + 1)))
  | _ => False
def tbX3_add : aTb := (fX3, pX3, fun j => lk [] j, kX3)
theorem tbX3_add_f : tbX3_add.1 = fX3 := rfl
theorem tbX3_add_p : tbX3_add.2.1 = pX3 := rfl
theorem tbX3_add_k : tbX3_add.2.2.2 = kX3 := rfl
theorem tbX3_add_all (l : Launch) : ∀ e ∈ ([] : List (Nat × Option Nat × Nat × aSp)), cOK l mX3_add e.1 e.2.1 e.2.2.1 e.2.2.2 ∨ mOK mX3_add e.1 e.2.1 e.2.2.1 e.2.2.2 := all_nil
theorem tbX3_add_ok (l : Launch) : tOK l mX3_add tbX3_add := ⟨fX3_ok, pX3_ok, fun _ _ _ _ h => tbX3_add_all l _ (lk_mem h), kX3_ok⟩
set_option maxRecDepth 20000 in
set_option maxHeartbeats 4000000 in
theorem okX3_add (l : Launch) : aOK l mX3_add spX3_add := by
  refine aOK_of rfl fun as S Q h => ?_
  unfold spX3_add at h
  split at h
  · rename_i a b
    refine ⟨Nat.le_of_ble_eq_true rfl, wp_ok (tbX3_add_ok l) Q (fun pc => false) 28 0 _ [] S ?_⟩
    show wp cX3_add tbX3_add 4 (some .int) Q (fun pc => false) (aGo l mX3_add Q) 28 0 [(0, .inr (.inr 219)), (1, .inl a), (2, .inl b)] [] S
    simp only [wp_s, wpC_f, wpC_t, e_wLd, e_wLd0, e_wLd1, e_wLd2, e_get1, e_get2, e_wJ, e_wJo, f40, f41, f42, f43, Nat.reduceAdd, Nat.reduceBEq, Nat.reduceMul, eq_self, true_or, or_true, true_and, dX3_add_0, dX3_add_1, dX3_add_4, dX3_add_5, dX3_add_6, dX3_add_8, dX3_add_11, dX3_add_12, dX3_add_13, dX3_add_14, dX3_add_17, dX3_add_18, dX3_add_19, dX3_add_20, dX3_add_21, dX3_add_24, dX3_add_25, dX3_add_26, dX3_add_27, dX3_add_28, dX3_add_29, dX3_add_32, dX3_add_33, dX3_add_34, dX3_add_37, dX3_add_38, e_aload_n, e_iload_n, e_istore_n, e_iconst, e_bipush, e_iadd, e_dup, e_if_icmp, e_getfield, e_putfield, e_iastore, e_ireturn, e_wSt0, e_wSt1, e_wSt2, e_isL0, e_isL1, e_isL2, e_lset, e_lclr0, e_lclr1, e_lclr2, e_lput0, e_lput1, e_lput2, e_wInc, e_wInc0, Nat.reduceLT, not_false_eq_true, Bool.or_false, Bool.false_or, Bool.or_true, Bool.true_or, Bool.and_false, Bool.false_and, Bool.and_true, Bool.true_and, e_wDup0, e_wDup1, e_ri, e_rz, e_wI2, e_wIc_lt, bp_20, fX3_15, fX3_18, fX3_9, ic_1, ic_m1, jt_8_5, pX3_18, tbX3_add_f, tbX3_add_p, tbX3_add_k, s_220, g_219_2, g_219_1, p_219_2, g_219_0, s_221]
    obtain ⟨h0, h1, h2⟩ := h
    repeat' (with_reducible first | intro _ | refine And.intro ?_ ?_)
    all_goals (try simp (disch := omega) only [wI_id, up_hit, up_obj, upL_hit, upL_obj, up_2, upL_1, Int.toNat_natCast])
    all_goals first | omega | exact h1 (by omega) | exact h2 (by omega)
  · exact h.elim
/-- pointer b is gone, those behind it come one down -/
def rmP (S : aS) (b : Int) : aS := upI (stA (stA S 220 (fun j => if b ≤ (j : Int) ∧ (j : Int) < S.1 219 2 - 1 then S.1 220 (j + 1) else S.1 220 j)) 221 (fun j => if b ≤ (j : Int) ∧ (j : Int) < S.1 219 2 - 1 then S.1 221 (j + 1) else S.1 221 j)) 219 2 (S.1 219 2 - 1)
def spX3_remove : aSp := fun as S Q => match as with
  | [.inr (.inr 219), .inl b] => S.1 219 2 ≤ 20 ∧ (0 ≤ b ∧ b < S.1 219 2 → Q none (rmP S b)) ∧ (¬ (0 ≤ b ∧ b < S.1 219 2) → Q none S)
  | _ => False
def tbX3_remove : aTb := (fX3, pX3, fun j => lk [(22, (some 3), 2, spX3_has)] j, kX3)
theorem tbX3_remove_f : tbX3_remove.1 = fX3 := rfl
theorem tbX3_remove_p : tbX3_remove.2.1 = pX3 := rfl
theorem tbX3_remove_k : tbX3_remove.2.2.2 = kX3 := rfl
theorem tbX3_remove_c22 : tbX3_remove.2.2.1 22 = some ((some 3), 2, spX3_has) := rfl
theorem tbX3_remove_all (l : Launch) : ∀ e ∈ ([(22, (some 3), 2, spX3_has)] : List (Nat × Option Nat × Nat × aSp)), cOK l mX3_remove e.1 e.2.1 e.2.2.1 e.2.2.2 ∨ mOK mX3_remove e.1 e.2.1 e.2.2.1 e.2.2.2 := all_cons (cOK_of (okX3_has l) meX3_has cfX3_22 (by decide) (by decide)) (all_nil)
theorem tbX3_remove_ok (l : Launch) : tOK l mX3_remove tbX3_remove := ⟨fX3_ok, pX3_ok, fun _ _ _ _ h => tbX3_remove_all l _ (lk_mem h), kX3_ok⟩
set_option maxRecDepth 20000 in
set_option maxHeartbeats 4000000 in
theorem lpX3_remove (l : Launch) (Q : Option aV → aS → Prop) : ∀ (n : Nat) (S : aS) (b : Int) (i : Nat), i + n = max i (S.1 219 2).toNat → Q (none) (stA (stA S 220 (fun j => if i ≤ (j : Int) ∧ (j : Int) < S.1 219 2 then S.1 220 (j + 1) else S.1 220 j)) 221 (fun j => if i ≤ (j : Int) ∧ (j : Int) < S.1 219 2 then S.1 221 (j + 1) else S.1 221 j)) → S.1 219 2 < 20 → aGo l mX3_remove Q 21 [(0, .inr (.inr 219)), (1, .inl b), (2, .inl (i : Int))] [] S := by
  intro n
  induction n using Nat.strongRecOn with
  | _ n ih =>
  intro S  b  i  h0 h1 h2
  refine wp_go (tbX3_remove_ok l) (fun pc => pc == 21) 42 dX3_remove_21 ?_
  show ws1 tbX3_remove 3 none Q (wp cX3_remove tbX3_remove 3 none Q (fun pc => pc == 21) (aGo l mX3_remove Q) 42) (.iload_n 2) 1 21 [(0, .inr (.inr 219)), (1, .inl b), (2, .inl (i : Int))] [] S
  simp only [wp_s, wpC_f, wpC_t, e_wLd, e_wLd0, e_wLd1, e_wLd2, e_get1, e_get2, e_wJ, e_wJo, f40, f41, f42, f43, Nat.reduceAdd, Nat.reduceBEq, Nat.reduceMul, eq_self, true_or, or_true, true_and, dX3_remove_0, dX3_remove_1, dX3_remove_2, dX3_remove_5, dX3_remove_8, dX3_remove_9, dX3_remove_10, dX3_remove_11, dX3_remove_14, dX3_remove_15, dX3_remove_16, dX3_remove_19, dX3_remove_20, dX3_remove_21, dX3_remove_22, dX3_remove_23, dX3_remove_26, dX3_remove_29, dX3_remove_30, dX3_remove_33, dX3_remove_34, dX3_remove_35, dX3_remove_38, dX3_remove_39, dX3_remove_40, dX3_remove_41, dX3_remove_42, dX3_remove_43, dX3_remove_44, dX3_remove_47, dX3_remove_48, dX3_remove_49, dX3_remove_52, dX3_remove_53, dX3_remove_54, dX3_remove_55, dX3_remove_56, dX3_remove_57, dX3_remove_60, dX3_remove_63, e_aload_n, e_iload_n, e_istore_n, e_iconst, e_iadd, e_isub, e_dup, e_iinc, e_ifCond, e_if_icmp, e_goto, e_getfield, e_putfield, e_iaload, e_iastore, e_invokevirtual, e_return_, e_wSt0, e_wSt1, e_wSt2, e_isL0, e_isL1, e_isL2, e_lset, e_lclr0, e_lclr1, e_lclr2, e_lput0, e_lput1, e_lput2, e_wInc, e_wInc0, Nat.reduceLT, not_false_eq_true, Bool.or_false, Bool.false_or, Bool.or_true, Bool.true_or, Bool.and_false, Bool.false_and, Bool.and_true, Bool.true_and, e_wDup0, e_wDup1, e_rv, e_wI2, e_wIf_ne, e_wIc_ge, fX3_15, fX3_18, fX3_9, ic_1, jt_26_37, jt_5_4, jt_60_m39, pX3_18, e_call, e_callS0, e_callS1, e_callS2, e_callS3, e_callS4, e_pop0, e_pop1, e_tl0, e_tl1, tbX3_remove_f, tbX3_remove_p, tbX3_remove_k, tbX3_remove_c22, l_220, s_220, g_219_2, g_219_1, p_219_2, g_219_0, cv_219_0, cv_219_1, cv_219_2, cv_219_3, cv_219_4, l_221, s_221, spX3_has, bi_0, bi_1, ne_eq, Classical.not_not, em_r, em_l]
  repeat' (with_reducible first | intro _ | refine And.intro ?_ ?_)
  all_goals (try simp (disch := omega) only [wI_id, Int.toNat_natCast] at *)
  all_goals first
    | omega
    | (refine Eq.mp (congrArg (Q (none)) ?_) h1; (refine st_ext (fun x y => ?_) (fun x y => ?_) <;> (try simp only [stA, upI, upL, up2]) <;> (repeat' split) <;> first | rfl | omega | (simp_all; done) | (simp_all; omega) | (have hq : y = i := (by omega); subst hq; first | rfl | omega | (simp_all; done) | (simp_all; omega)) | (congr 2 <;> omega) | (congr 3 <;> omega)); done)
    | (refine ih (n - 1) (by omega) _ b (i + 1) ?_ ?_ ?_ <;> first | omega | (simp only [up_hit, up_obj, upL_hit, upL_obj, up_2, upL_1, Int.toNat_natCast, stA, upI, upL, up2]; first | omega | (simp; omega)) | (refine Eq.mp (congrArg (Q (none)) ?_) h1; (refine st_ext (fun x y => ?_) (fun x y => ?_) <;> (try simp only [stA, upI, upL, up2]) <;> (repeat' split) <;> first | rfl | omega | (simp_all; done) | (simp_all; omega) | (have hq : y = i := (by omega); subst hq; first | rfl | omega | (simp_all; done) | (simp_all; omega)) | (congr 2 <;> omega) | (congr 3 <;> omega)); done))
    | skip
set_option maxRecDepth 20000 in
set_option maxHeartbeats 4000000 in
theorem okX3_remove (l : Launch) : aOK l mX3_remove spX3_remove := by
  refine aOK_of rfl fun as S Q h => ?_
  unfold spX3_remove at h
  split at h
  · rename_i b
    refine ⟨Nat.le_of_ble_eq_true rfl, wp_ok (tbX3_remove_ok l) Q (fun pc => pc == 21) 42 0 _ [] S ?_⟩
    show wp cX3_remove tbX3_remove 3 none Q (fun pc => pc == 21) (aGo l mX3_remove Q) 42 0 [(0, .inr (.inr 219)), (1, .inl b)] [] S
    simp only [wp_s, wpC_f, wpC_t, e_wLd, e_wLd0, e_wLd1, e_wLd2, e_get1, e_get2, e_wJ, e_wJo, f40, f41, f42, f43, Nat.reduceAdd, Nat.reduceBEq, Nat.reduceMul, eq_self, true_or, or_true, true_and, dX3_remove_0, dX3_remove_1, dX3_remove_2, dX3_remove_5, dX3_remove_8, dX3_remove_9, dX3_remove_10, dX3_remove_11, dX3_remove_14, dX3_remove_15, dX3_remove_16, dX3_remove_19, dX3_remove_20, dX3_remove_21, dX3_remove_22, dX3_remove_23, dX3_remove_26, dX3_remove_29, dX3_remove_30, dX3_remove_33, dX3_remove_34, dX3_remove_35, dX3_remove_38, dX3_remove_39, dX3_remove_40, dX3_remove_41, dX3_remove_42, dX3_remove_43, dX3_remove_44, dX3_remove_47, dX3_remove_48, dX3_remove_49, dX3_remove_52, dX3_remove_53, dX3_remove_54, dX3_remove_55, dX3_remove_56, dX3_remove_57, dX3_remove_60, dX3_remove_63, e_aload_n, e_iload_n, e_istore_n, e_iconst, e_iadd, e_isub, e_dup, e_iinc, e_ifCond, e_if_icmp, e_goto, e_getfield, e_putfield, e_iaload, e_iastore, e_invokevirtual, e_return_, e_wSt0, e_wSt1, e_wSt2, e_isL0, e_isL1, e_isL2, e_lset, e_lclr0, e_lclr1, e_lclr2, e_lput0, e_lput1, e_lput2, e_wInc, e_wInc0, Nat.reduceLT, not_false_eq_true, Bool.or_false, Bool.false_or, Bool.or_true, Bool.true_or, Bool.and_false, Bool.false_and, Bool.and_true, Bool.true_and, e_wDup0, e_wDup1, e_rv, e_wI2, e_wIf_ne, e_wIc_ge, fX3_15, fX3_18, fX3_9, ic_1, jt_26_37, jt_5_4, jt_60_m39, pX3_18, e_call, e_callS0, e_callS1, e_callS2, e_callS3, e_callS4, e_pop0, e_pop1, e_tl0, e_tl1, tbX3_remove_f, tbX3_remove_p, tbX3_remove_k, tbX3_remove_c22, l_220, s_220, g_219_2, g_219_1, p_219_2, g_219_0, cv_219_0, cv_219_1, cv_219_2, cv_219_3, cv_219_4, l_221, s_221, spX3_has, bi_0, bi_1, ne_eq, Classical.not_not, em_r, em_l]
    obtain ⟨h0, h1, h2⟩ := h
    repeat' (with_reducible first | intro _ | refine And.intro ?_ ?_)
    all_goals (try simp (disch := omega) only [wI_id, up_hit, up_obj, upL_hit, upL_obj, up_2, upL_1, Int.toNat_natCast])
    all_goals first
      | omega
      | exact h2 (by omega)
      | (obtain ⟨i, rfl⟩ : ∃ i : Nat, b = i := ⟨b.toNat, by omega⟩
         refine lpX3_remove l Q (max i ((upI S 219 2 (S.1 219 2 - 1)).1 219 2).toNat - i) _ i i (by omega) (Eq.mp (congrArg (Q none) ?_) (h1 (by omega))) (by rw [up_hit]; omega)
         unfold rmP
         refine st_ext (fun x y => ?_) (fun x y => ?_)
         · simp only [stA, upI, up2]
           by_cases hx : x = 219 <;> by_cases hx2 : x = 220 <;> by_cases hx3 : x = 221 <;> simp_all <;> omega
         · rfl)
  · exact h.elim
/-! the rules -/
def spX5_add : aSp := fun as S Q => match as with
  | [.inr (.inr 11), .inr (.inl a), .inr (.inl b)] => 0 ≤ S.1 11 2 ∧ (10 ≤ S.1 11 2 → Q (some (.inl (-1))) S) ∧ (S.1 11 2 < 10 → Q (some (.inl (S.1 11 2))) (upI (upL (upL S 12 (S.1 11 2).toNat a) 13 (S.1 11 2).toNat b) 11 2 (S.1 11 2 + 1)))
  | _ => False
def tbX5_add : aTb := (fX5, pX5, fun j => lk [] j, kX5)
theorem tbX5_add_f : tbX5_add.1 = fX5 := rfl
theorem tbX5_add_p : tbX5_add.2.1 = pX5 := rfl
theorem tbX5_add_k : tbX5_add.2.2.2 = kX5 := rfl
theorem tbX5_add_all (l : Launch) : ∀ e ∈ ([] : List (Nat × Option Nat × Nat × aSp)), cOK l mX5_add e.1 e.2.1 e.2.2.1 e.2.2.2 ∨ mOK mX5_add e.1 e.2.1 e.2.2.1 e.2.2.2 := all_nil
theorem tbX5_add_ok (l : Launch) : tOK l mX5_add tbX5_add := ⟨fX5_ok, pX5_ok, fun _ _ _ _ h => tbX5_add_all l _ (lk_mem h), kX5_ok⟩
set_option maxRecDepth 20000 in
set_option maxHeartbeats 4000000 in
theorem okX5_add (l : Launch) : aOK l mX5_add spX5_add := by
  refine aOK_of rfl fun as S Q h => ?_
  unfold spX5_add at h
  split at h
  · rename_i a b
    refine ⟨Nat.le_of_ble_eq_true rfl, wp_ok (tbX5_add_ok l) Q (fun pc => false) 28 0 _ [] S ?_⟩
    show wp cX5_add tbX5_add 6 (some .int) Q (fun pc => false) (aGo l mX5_add Q) 28 0 [(0, .inr (.inr 11)), (1, .inr (.inl a)), (3, .inr (.inl b))] [] S
    simp only [wp_s, wpC_f, wpC_t, e_wLd, e_wLd0, e_wLd1, e_wLd2, e_get1, e_get2, e_wJ, e_wJo, f40, f41, f42, f43, Nat.reduceAdd, Nat.reduceBEq, Nat.reduceMul, eq_self, true_or, or_true, true_and, dX5_add_0, dX5_add_1, dX5_add_4, dX5_add_6, dX5_add_8, dX5_add_10, dX5_add_13, dX5_add_14, dX5_add_15, dX5_add_16, dX5_add_19, dX5_add_21, dX5_add_22, dX5_add_23, dX5_add_24, dX5_add_27, dX5_add_29, dX5_add_30, dX5_add_31, dX5_add_32, dX5_add_33, dX5_add_36, dX5_add_37, dX5_add_38, dX5_add_41, dX5_add_43, e_aload_n, e_iload, e_lload_n, e_istore, e_iconst, e_bipush, e_iadd, e_dup, e_if_icmp, e_getfield, e_putfield, e_lastore, e_ireturn, e_wSt0, e_wSt1, e_wSt2, e_isL0, e_isL1, e_isL2, e_lset, e_lclr0, e_lclr1, e_lclr2, e_lput0, e_lput1, e_lput2, e_wInc, e_wInc0, Nat.reduceLT, not_false_eq_true, Bool.or_false, Bool.false_or, Bool.or_true, Bool.true_or, Bool.and_false, Bool.false_and, Bool.and_true, Bool.true_and, e_wDup0, e_wDup1, e_ri, e_rz, e_wI2, e_wIc_lt, bp_10, fX5_15, fX5_18, fX5_9, ic_1, ic_m1, jt_10_5, pX5_18, tbX5_add_f, tbX5_add_p, tbX5_add_k, g_11_2, s_13, g_11_1, p_11_2, s_12, g_11_0]
    obtain ⟨h0, h1, h2⟩ := h
    repeat' (with_reducible first | intro _ | refine And.intro ?_ ?_)
    all_goals (try simp (disch := omega) only [wI_id, up_hit, up_obj, upL_hit, upL_obj, up_2, upL_1, Int.toNat_natCast])
    all_goals first | omega | exact h1 (by omega) | exact h2 (by omega)
  · exact h.elim
/-! the tape (1; bytes 2) -/
def spX8_clear : aSp := fun as S Q => match as with
  | [.inr (.inr 1)] => Q none (upI S 1 1 0)
  | _ => False
def tbX8_clear : aTb := (fX8, pX8, fun j => lk [] j, kX8)
theorem tbX8_clear_f : tbX8_clear.1 = fX8 := rfl
theorem tbX8_clear_p : tbX8_clear.2.1 = pX8 := rfl
theorem tbX8_clear_k : tbX8_clear.2.2.2 = kX8 := rfl
theorem tbX8_clear_all (l : Launch) : ∀ e ∈ ([] : List (Nat × Option Nat × Nat × aSp)), cOK l mX8_clear e.1 e.2.1 e.2.2.1 e.2.2.2 ∨ mOK mX8_clear e.1 e.2.1 e.2.2.1 e.2.2.2 := all_nil
theorem tbX8_clear_ok (l : Launch) : tOK l mX8_clear tbX8_clear := ⟨fX8_ok, pX8_ok, fun _ _ _ _ h => tbX8_clear_all l _ (lk_mem h), kX8_ok⟩
set_option maxRecDepth 20000 in
set_option maxHeartbeats 4000000 in
theorem okX8_clear (l : Launch) : aOK l mX8_clear spX8_clear := by
  refine aOK_of rfl fun as S Q h => ?_
  unfold spX8_clear at h
  split at h
  · refine ⟨Nat.le_of_ble_eq_true rfl, wp_ok (tbX8_clear_ok l) Q (fun pc => false) 6 0 _ [] S ?_⟩
    show wp cX8_clear tbX8_clear 1 none Q (fun pc => false) (aGo l mX8_clear Q) 6 0 [(0, .inr (.inr 1))] [] S
    simp only [wp_s, wpC_f, wpC_t, e_wLd, e_wLd0, e_wLd1, e_wLd2, e_get1, e_get2, e_wJ, e_wJo, f40, f41, f42, f43, Nat.reduceAdd, Nat.reduceBEq, Nat.reduceMul, eq_self, true_or, or_true, true_and, dX8_clear_0, dX8_clear_1, dX8_clear_2, dX8_clear_5, e_aload_n, e_iconst, e_putfield, e_return_, e_rv, ic_0, pX8_15, tbX8_clear_f, tbX8_clear_p, tbX8_clear_k, p_1_1]
    exact h
  · exact h.elim
def spX8_addFour : aSp := fun as S Q => match as with
  | [.inr (.inr 1), .inl v] => 0 ≤ S.1 1 1 ∧ S.1 1 1 + 4 ≤ 40 ∧ Q none (upI (stA S 2 (fun j => if S.1 1 1 ≤ (j : Int) ∧ (j : Int) < S.1 1 1 + 4 then bAnd (bUshr v (8 * 4 - 8 - 8 * ((j : Int) - S.1 1 1))) 255 else S.1 2 j)) 1 1 (S.1 1 1 + 4))
  | _ => False
def tbX8_addFour : aTb := (fX8, pX8, fun j => lk [] j, kX8)
theorem tbX8_addFour_f : tbX8_addFour.1 = fX8 := rfl
theorem tbX8_addFour_p : tbX8_addFour.2.1 = pX8 := rfl
theorem tbX8_addFour_k : tbX8_addFour.2.2.2 = kX8 := rfl
theorem tbX8_addFour_all (l : Launch) : ∀ e ∈ ([] : List (Nat × Option Nat × Nat × aSp)), cOK l mX8_addFour e.1 e.2.1 e.2.2.1 e.2.2.2 ∨ mOK mX8_addFour e.1 e.2.1 e.2.2.1 e.2.2.2 := all_nil
theorem tbX8_addFour_ok (l : Launch) : tOK l mX8_addFour tbX8_addFour := ⟨fX8_ok, pX8_ok, fun _ _ _ _ h => tbX8_addFour_all l _ (lk_mem h), kX8_ok⟩
set_option maxRecDepth 20000 in
set_option maxHeartbeats 4000000 in
theorem lpX8_addFour (l : Launch) (Q : Option aV → aS → Prop) : ∀ (n : Nat) (S : aS) (v : Int), 0 ≤ S.1 1 1 ∧ S.1 1 1 + n ≤ 40 ∧ n ≤ 4 → Q none (upI (stA S 2 (fun j => if S.1 1 1 ≤ (j : Int) ∧ (j : Int) < S.1 1 1 + (n : Int) then bAnd (bUshr v (8 * (n : Int) - 8 - 8 * ((j : Int) - S.1 1 1))) 255 else S.1 2 j)) 1 1 (S.1 1 1 + (n : Int))) → aGo l mX8_addFour Q 3 [(0, .inr (.inr 1)), (1, .inl v), (2, .inl (8 * (n : Int) - 8))] [] S := by
  intro n
  induction n using Nat.strongRecOn with
  | _ n ih =>
  intro S  v  h0 h1
  refine wp_go (tbX8_addFour_ok l) (fun pc => pc == 3) 31 dX8_addFour_3 ?_
  show ws1 tbX8_addFour 3 none Q (wp cX8_addFour tbX8_addFour 3 none Q (fun pc => pc == 3) (aGo l mX8_addFour Q) 31) (.iload_n 2) 1 3 [(0, .inr (.inr 1)), (1, .inl v), (2, .inl (8 * (n : Int) - 8))] [] S
  simp only [wp_s, wpC_f, wpC_t, e_wLd, e_wLd0, e_wLd1, e_wLd2, e_get1, e_get2, e_wJ, e_wJo, f40, f41, f42, f43, Nat.reduceAdd, Nat.reduceBEq, Nat.reduceMul, eq_self, true_or, or_true, true_and, dX8_addFour_0, dX8_addFour_2, dX8_addFour_3, dX8_addFour_4, dX8_addFour_7, dX8_addFour_8, dX8_addFour_11, dX8_addFour_12, dX8_addFour_15, dX8_addFour_16, dX8_addFour_19, dX8_addFour_20, dX8_addFour_23, dX8_addFour_24, dX8_addFour_27, dX8_addFour_28, dX8_addFour_29, dX8_addFour_30, dX8_addFour_33, dX8_addFour_34, dX8_addFour_35, dX8_addFour_36, dX8_addFour_37, dX8_addFour_40, dX8_addFour_41, dX8_addFour_42, dX8_addFour_45, dX8_addFour_48, dX8_addFour_51, e_aload_n, e_iload_n, e_istore_n, e_iconst, e_bipush, e_sipush, e_iadd, e_iand, e_iushr, e_dup, e_iinc, e_ifCond, e_if_icmp, e_goto, e_getfield, e_putfield, e_arraylength, e_iastore, e_return_, e_wSt0, e_wSt1, e_wSt2, e_isL0, e_isL1, e_isL2, e_lset, e_lclr0, e_lclr1, e_lclr2, e_lput0, e_lput1, e_lput2, e_wInc, e_wInc0, Nat.reduceLT, not_false_eq_true, Bool.or_false, Bool.false_or, Bool.or_true, Bool.true_or, Bool.and_false, Bool.false_and, Bool.and_true, Bool.true_and, e_wI2, e_rv, e_wDup0, e_wDup1, e_wIf_lt, e_wIc_ge, bp_24, fX8_15, fX8_9, ic_1, jt_16_35, jt_48_m45, jt_4_47, pX8_15, sp_255, tbX8_addFour_f, tbX8_addFour_p, tbX8_addFour_k, p_1_1, s_2, n_2, g_1_0, g_1_1]
  repeat' (with_reducible first | intro _ | refine And.intro ?_ ?_)
  all_goals (try simp (disch := omega) only [wI_id, up_hit, up_obj, upL_hit, upL_obj, up_2, upL_1, Int.toNat_natCast])
  all_goals first
    | omega
    | (refine Eq.mp (congrArg (Q none) ?_) h1; (refine st_ext (fun x y => ?_) (fun x y => ?_) <;> (try simp only [stA, upI, upL, up2]) <;> (repeat' split) <;> first | rfl | omega | (simp_all; done) | (simp_all; omega) | (have hq : y = i := (by omega); subst hq; first | rfl | omega | (simp_all; done) | (simp_all; omega)) | (congr 2 <;> omega) | (congr 3 <;> omega)); done)
    | (have e := ih (n - 1) (by omega) (upI (upI S 2 (S.1 1 1).toNat (bAnd (bUshr v (8 * (n : Int) - 8)) 255)) 1 1 (S.1 1 1 + 1)) v (by simp (disch := omega) only [up_hit, up_obj, upL_hit, upL_obj, up_2, upL_1, Int.toNat_natCast]; omega) (by refine Eq.mp (congrArg (Q none) ?_) h1; (refine st_ext (fun x y => ?_) (fun x y => ?_) <;> (try simp only [stA, upI, upL, up2]) <;> (repeat' split) <;> first | rfl | omega | (simp_all; done) | (simp_all; omega) | (have hq : y = i := (by omega); subst hq; first | rfl | omega | (simp_all; done) | (simp_all; omega)) | (congr 2 <;> omega) | (congr 3 <;> omega)))
       rw [show 8 * ((n - 1 : Nat) : Int) - 8 = 8 * (n : Int) - 8 + -8 from by omega] at e
       exact e)
    | skip
set_option maxRecDepth 20000 in
set_option maxHeartbeats 4000000 in
theorem okX8_addFour (l : Launch) : aOK l mX8_addFour spX8_addFour := by
  refine aOK_of rfl fun as S Q h => ?_
  unfold spX8_addFour at h
  split at h
  · rename_i v
    refine ⟨Nat.le_of_ble_eq_true rfl, wp_ok (tbX8_addFour_ok l) Q (fun pc => pc == 3) 31 0 _ [] S ?_⟩
    show wp cX8_addFour tbX8_addFour 3 none Q (fun pc => pc == 3) (aGo l mX8_addFour Q) 31 0 [(0, .inr (.inr 1)), (1, .inl v)] [] S
    simp only [wp_s, wpC_f, wpC_t, e_wLd, e_wLd0, e_wLd1, e_wLd2, e_get1, e_get2, e_wJ, e_wJo, f40, f41, f42, f43, Nat.reduceAdd, Nat.reduceBEq, Nat.reduceMul, eq_self, true_or, or_true, true_and, dX8_addFour_0, dX8_addFour_2, dX8_addFour_3, dX8_addFour_4, dX8_addFour_7, dX8_addFour_8, dX8_addFour_11, dX8_addFour_12, dX8_addFour_15, dX8_addFour_16, dX8_addFour_19, dX8_addFour_20, dX8_addFour_23, dX8_addFour_24, dX8_addFour_27, dX8_addFour_28, dX8_addFour_29, dX8_addFour_30, dX8_addFour_33, dX8_addFour_34, dX8_addFour_35, dX8_addFour_36, dX8_addFour_37, dX8_addFour_40, dX8_addFour_41, dX8_addFour_42, dX8_addFour_45, dX8_addFour_48, dX8_addFour_51, e_aload_n, e_iload_n, e_istore_n, e_iconst, e_bipush, e_sipush, e_iadd, e_iand, e_iushr, e_dup, e_iinc, e_ifCond, e_if_icmp, e_goto, e_getfield, e_putfield, e_arraylength, e_iastore, e_return_, e_wSt0, e_wSt1, e_wSt2, e_isL0, e_isL1, e_isL2, e_lset, e_lclr0, e_lclr1, e_lclr2, e_lput0, e_lput1, e_lput2, e_wInc, e_wInc0, Nat.reduceLT, not_false_eq_true, Bool.or_false, Bool.false_or, Bool.or_true, Bool.true_or, Bool.and_false, Bool.false_and, Bool.and_true, Bool.true_and, e_wI2, e_rv, e_wDup0, e_wDup1, e_wIf_lt, e_wIc_ge, bp_24, fX8_15, fX8_9, ic_1, jt_16_35, jt_48_m45, jt_4_47, pX8_15, sp_255, tbX8_addFour_f, tbX8_addFour_p, tbX8_addFour_k, p_1_1, s_2, n_2, g_1_0, g_1_1]
    exact lpX8_addFour l Q 4 S v ⟨h.1, h.2.1, by omega⟩ h.2.2
  · exact h.elim
