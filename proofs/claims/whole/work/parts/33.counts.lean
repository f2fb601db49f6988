/-! SLIPHOUSE: counts over entries, slips, pairs -/
def spX11_entriesFitted : aSp := fun as S Q => match as with
  | [.inr (.inr 0), .inl s] => fitQ S ∧ 0 ≤ s ∧ s < 120 ∧ 0 ≤ S.1 14 4 ∧ S.1 14 4 ≤ 12 ∧ Q (some (.inl (cnt (fun j => cb (fitP S s j)) (S.1 14 4).toNat))) S
  | _ => False
def tbX11_entriesFitted : aTb := (fX11, pX11, fun j => lk [(178, (some 11), 3, spX11_isFit)] j, kX11)
theorem tbX11_entriesFitted_f : tbX11_entriesFitted.1 = fX11 := rfl
theorem tbX11_entriesFitted_p : tbX11_entriesFitted.2.1 = pX11 := rfl
theorem tbX11_entriesFitted_k : tbX11_entriesFitted.2.2.2 = kX11 := rfl
theorem tbX11_entriesFitted_c178 : tbX11_entriesFitted.2.2.1 178 = some ((some 11), 3, spX11_isFit) := rfl
theorem tbX11_entriesFitted_all (l : Launch) : ∀ e ∈ ([(178, (some 11), 3, spX11_isFit)] : List (Nat × Option Nat × Nat × aSp)), cOK l mX11_entriesFitted e.1 e.2.1 e.2.2.1 e.2.2.2 ∨ mOK mX11_entriesFitted e.1 e.2.1 e.2.2.1 e.2.2.2 := all_cons (cOK_of (okX11_isFit l) meX11_isFit cfX11_178 (by decide) (by decide)) (all_nil)
theorem tbX11_entriesFitted_ok (l : Launch) : tOK l mX11_entriesFitted tbX11_entriesFitted := ⟨fX11_ok, pX11_ok, fun _ _ _ _ h => tbX11_entriesFitted_all l _ (lk_mem h), kX11_ok⟩
set_option maxRecDepth 20000 in
set_option maxHeartbeats 4000000 in
theorem lpX11_entriesFitted (l : Launch) (Q : Option aV → aS → Prop) : ∀ (n : Nat) (S : aS) (s : Int) (i : Nat), i + n = (S.1 14 4).toNat → Q (some (.inl (cnt (fun j => cb (fitP S s j)) ((S.1 14 4).toNat)))) S → fitQ S → (0 ≤ s ∧ s < 120) → S.1 14 4 ≤ 12 → aGo l mX11_entriesFitted Q 4 [(0, .inr (.inr 0)), (1, .inl s), (2, .inl (cnt (fun j => cb (fitP S s j)) i)), (3, .inl (i : Int))] [] S := by
  intro n
  induction n using Nat.strongRecOn with
  | _ n ih =>
  intro S  s  i  h0 h1 h2 h3 h4
  refine wp_go (tbX11_entriesFitted_ok l) (fun pc => pc == 4) 21 dX11_entriesFitted_4 ?_
  show ws1 tbX11_entriesFitted 4 (some .int) Q (wp cX11_entriesFitted tbX11_entriesFitted 4 (some .int) Q (fun pc => pc == 4) (aGo l mX11_entriesFitted Q) 21) (.iload_n 3) 1 4 [(0, .inr (.inr 0)), (1, .inl s), (2, .inl (cnt (fun j => cb (fitP S s j)) i)), (3, .inl (i : Int))] [] S
  simp only [wp_s, wpC_f, wpC_t, e_wLd, e_wLd0, e_wLd1, e_wLd2, e_get1, e_get2, e_wJ, e_wJo, f40, f41, f42, f43, Nat.reduceAdd, Nat.reduceBEq, Nat.reduceMul, eq_self, true_or, or_true, true_and, dX11_entriesFitted_0, dX11_entriesFitted_1, dX11_entriesFitted_2, dX11_entriesFitted_3, dX11_entriesFitted_4, dX11_entriesFitted_5, dX11_entriesFitted_6, dX11_entriesFitted_9, dX11_entriesFitted_12, dX11_entriesFitted_15, dX11_entriesFitted_16, dX11_entriesFitted_17, dX11_entriesFitted_18, dX11_entriesFitted_21, dX11_entriesFitted_24, dX11_entriesFitted_27, dX11_entriesFitted_30, dX11_entriesFitted_33, dX11_entriesFitted_34, e_aload_n, e_iload_n, e_istore_n, e_iconst, e_iinc, e_ifCond, e_if_icmp, e_goto, e_getfield, e_invokevirtual, e_ireturn, e_wSt0, e_wSt1, e_wSt2, e_isL0, e_isL1, e_isL2, e_lset, e_lclr0, e_lclr1, e_lclr2, e_lput0, e_lput1, e_lput2, e_wInc, e_wInc0, Nat.reduceLT, not_false_eq_true, Bool.or_false, Bool.false_or, Bool.or_true, Bool.true_or, Bool.and_false, Bool.false_and, Bool.and_true, Bool.true_and, e_ri, e_rz, e_wIc_ge, e_wIf_eq, fX11_141, fX11_35, ic_0, jt_12_21, jt_21_6, jt_30_m26, e_call, e_callS0, e_callS1, e_callS2, e_callS3, e_callS4, e_pop0, e_pop1, e_tl0, e_tl1, tbX11_entriesFitted_f, tbX11_entriesFitted_p, tbX11_entriesFitted_k, tbX11_entriesFitted_c178, g_14_4, g_0_3, cv_0_0, cv_0_1, cv_0_2, cv_0_3, cv_0_4, spX11_isFit, bi_0, bi_1, ne_eq, Classical.not_not, em_r, em_l]
  have cbb := cnt_b (fun j => cb (fitP S s j)) i
  repeat' (with_reducible first | intro _ | refine And.intro ?_ ?_)
  all_goals (try simp (disch := omega) only [wI_id, Int.toNat_natCast])
  all_goals first
    | omega
    | assumption
    | (rw [show (S.1 14 4).toNat = i from by omega] at h1; exact h1)
    | (rw [show i = (S.1 14 4).toNat from by omega]; exact h1)
    | (have e := ih (n - 1) (by omega) S s (i + 1) (by omega) h1 h2 h3 h4
       first
         | (rw [cnt_t (cb_t (by assumption))] at e; exact e)
         | (rw [cnt_f (cb_f (by assumption))] at e; exact e))
    | skip
set_option maxRecDepth 20000 in
set_option maxHeartbeats 4000000 in
theorem okX11_entriesFitted (l : Launch) : aOK l mX11_entriesFitted spX11_entriesFitted := by
  refine aOK_of rfl fun as S Q h => ?_
  unfold spX11_entriesFitted at h
  split at h
  · rename_i s
    refine ⟨Nat.le_of_ble_eq_true rfl, wp_ok (tbX11_entriesFitted_ok l) Q (fun pc => pc == 4) 21 0 _ [] S ?_⟩
    show wp cX11_entriesFitted tbX11_entriesFitted 4 (some .int) Q (fun pc => pc == 4) (aGo l mX11_entriesFitted Q) 21 0 [(0, .inr (.inr 0)), (1, .inl s)] [] S
    simp only [wp_s, wpC_f, wpC_t, e_wLd, e_wLd0, e_wLd1, e_wLd2, e_get1, e_get2, e_wJ, e_wJo, f40, f41, f42, f43, Nat.reduceAdd, Nat.reduceBEq, Nat.reduceMul, eq_self, true_or, or_true, true_and, dX11_entriesFitted_0, dX11_entriesFitted_1, dX11_entriesFitted_2, dX11_entriesFitted_3, dX11_entriesFitted_4, dX11_entriesFitted_5, dX11_entriesFitted_6, dX11_entriesFitted_9, dX11_entriesFitted_12, dX11_entriesFitted_15, dX11_entriesFitted_16, dX11_entriesFitted_17, dX11_entriesFitted_18, dX11_entriesFitted_21, dX11_entriesFitted_24, dX11_entriesFitted_27, dX11_entriesFitted_30, dX11_entriesFitted_33, dX11_entriesFitted_34, e_aload_n, e_iload_n, e_istore_n, e_iconst, e_iinc, e_ifCond, e_if_icmp, e_goto, e_getfield, e_invokevirtual, e_ireturn, e_wSt0, e_wSt1, e_wSt2, e_isL0, e_isL1, e_isL2, e_lset, e_lclr0, e_lclr1, e_lclr2, e_lput0, e_lput1, e_lput2, e_wInc, e_wInc0, Nat.reduceLT, not_false_eq_true, Bool.or_false, Bool.false_or, Bool.or_true, Bool.true_or, Bool.and_false, Bool.false_and, Bool.and_true, Bool.true_and, e_ri, e_rz, e_wIc_ge, e_wIf_eq, fX11_141, fX11_35, ic_0, jt_12_21, jt_21_6, jt_30_m26, e_call, e_callS0, e_callS1, e_callS2, e_callS3, e_callS4, e_pop0, e_pop1, e_tl0, e_tl1, tbX11_entriesFitted_f, tbX11_entriesFitted_p, tbX11_entriesFitted_k, tbX11_entriesFitted_c178, g_14_4, g_0_3, cv_0_0, cv_0_1, cv_0_2, cv_0_3, cv_0_4]
    exact lpX11_entriesFitted l Q _ S s 0 (Nat.zero_add _) h.2.2.2.2.2 h.1 ⟨h.2.1, h.2.2.1⟩ h.2.2.2.2.1
  · exact h.elim
def spX11_firstEntryFitted : aSp := fun as S Q => match as with
  | [.inr (.inr 0), .inl s] => fitQ S ∧ 0 ≤ s ∧ s < 120 ∧ 0 ≤ S.1 14 4 ∧ S.1 14 4 ≤ 12 ∧ Q (some (.inl (ff (fun j => cb (fitP S s j)) (S.1 14 4).toNat 0))) S
  | _ => False
def tbX11_firstEntryFitted : aTb := (fX11, pX11, fun j => lk [(178, (some 11), 3, spX11_isFit)] j, kX11)
theorem tbX11_firstEntryFitted_f : tbX11_firstEntryFitted.1 = fX11 := rfl
theorem tbX11_firstEntryFitted_p : tbX11_firstEntryFitted.2.1 = pX11 := rfl
theorem tbX11_firstEntryFitted_k : tbX11_firstEntryFitted.2.2.2 = kX11 := rfl
theorem tbX11_firstEntryFitted_c178 : tbX11_firstEntryFitted.2.2.1 178 = some ((some 11), 3, spX11_isFit) := rfl
theorem tbX11_firstEntryFitted_all (l : Launch) : ∀ e ∈ ([(178, (some 11), 3, spX11_isFit)] : List (Nat × Option Nat × Nat × aSp)), cOK l mX11_firstEntryFitted e.1 e.2.1 e.2.2.1 e.2.2.2 ∨ mOK mX11_firstEntryFitted e.1 e.2.1 e.2.2.1 e.2.2.2 := all_cons (cOK_of (okX11_isFit l) meX11_isFit cfX11_178 (by decide) (by decide)) (all_nil)
theorem tbX11_firstEntryFitted_ok (l : Launch) : tOK l mX11_firstEntryFitted tbX11_firstEntryFitted := ⟨fX11_ok, pX11_ok, fun _ _ _ _ h => tbX11_firstEntryFitted_all l _ (lk_mem h), kX11_ok⟩
set_option maxRecDepth 20000 in
set_option maxHeartbeats 4000000 in
theorem lpX11_firstEntryFitted (l : Launch) (Q : Option aV → aS → Prop) : ∀ (n : Nat) (S : aS) (s : Int) (i : Nat), i + n = (S.1 14 4).toNat → Q (some (.inl (ff (fun j => cb (fitP S s j)) n i))) S → fitQ S → (0 ≤ s ∧ s < 120) → S.1 14 4 ≤ 12 → aGo l mX11_firstEntryFitted Q 2 [(0, .inr (.inr 0)), (1, .inl s), (2, .inl (i : Int))] [] S := by
  intro n
  induction n using Nat.strongRecOn with
  | _ n ih =>
  intro S  s  i  h0 h1 h2 h3 h4
  refine wp_go (tbX11_firstEntryFitted_ok l) (fun pc => pc == 2) 20 dX11_firstEntryFitted_2 ?_
  show ws1 tbX11_firstEntryFitted 3 (some .int) Q (wp cX11_firstEntryFitted tbX11_firstEntryFitted 3 (some .int) Q (fun pc => pc == 2) (aGo l mX11_firstEntryFitted Q) 20) (.iload_n 2) 1 2 [(0, .inr (.inr 0)), (1, .inl s), (2, .inl (i : Int))] [] S
  simp only [wp_s, wpC_f, wpC_t, e_wLd, e_wLd0, e_wLd1, e_wLd2, e_get1, e_get2, e_wJ, e_wJo, f40, f41, f42, f43, Nat.reduceAdd, Nat.reduceBEq, Nat.reduceMul, eq_self, true_or, or_true, true_and, dX11_firstEntryFitted_0, dX11_firstEntryFitted_1, dX11_firstEntryFitted_2, dX11_firstEntryFitted_3, dX11_firstEntryFitted_4, dX11_firstEntryFitted_7, dX11_firstEntryFitted_10, dX11_firstEntryFitted_13, dX11_firstEntryFitted_14, dX11_firstEntryFitted_15, dX11_firstEntryFitted_16, dX11_firstEntryFitted_19, dX11_firstEntryFitted_22, dX11_firstEntryFitted_23, dX11_firstEntryFitted_24, dX11_firstEntryFitted_27, dX11_firstEntryFitted_30, dX11_firstEntryFitted_31, e_aload_n, e_iload_n, e_istore_n, e_iconst, e_iinc, e_ifCond, e_if_icmp, e_goto, e_getfield, e_invokevirtual, e_ireturn, e_wSt0, e_wSt1, e_wSt2, e_isL0, e_isL1, e_isL2, e_lset, e_lclr0, e_lclr1, e_lclr2, e_lput0, e_lput1, e_lput2, e_wInc, e_wInc0, Nat.reduceLT, not_false_eq_true, Bool.or_false, Bool.false_or, Bool.or_true, Bool.true_or, Bool.and_false, Bool.false_and, Bool.and_true, Bool.true_and, e_ri, e_rz, e_wIc_ge, e_wIf_eq, fX11_141, fX11_35, ic_0, ic_m1, jt_10_20, jt_19_5, jt_27_m25, e_call, e_callS0, e_callS1, e_callS2, e_callS3, e_callS4, e_pop0, e_pop1, e_tl0, e_tl1, tbX11_firstEntryFitted_f, tbX11_firstEntryFitted_p, tbX11_firstEntryFitted_k, tbX11_firstEntryFitted_c178, g_14_4, g_0_3, cv_0_0, cv_0_1, cv_0_2, cv_0_3, cv_0_4, spX11_isFit, bi_0, bi_1, ne_eq, Classical.not_not, em_r, em_l]
  repeat' (with_reducible first | intro _ | refine And.intro ?_ ?_)
  all_goals (try simp (disch := omega) only [wI_id, Int.toNat_natCast])
  all_goals first
    | omega
    | assumption
    | (rw [show n = 0 from by omega] at h1; exact h1)
    | (obtain ⟨m, rfl⟩ : ∃ m, n = m + 1 := ⟨n - 1, by omega⟩
       unfold ff at h1
       first
         | (rw [if_pos (cb_t (by assumption))] at h1; exact h1)
         | (rw [if_neg (by rw [cb_f (by assumption)]; decide)] at h1
            exact ih m (by omega) S s (i + 1) (by omega) h1 h2 h3 h4))
    | skip
set_option maxRecDepth 20000 in
set_option maxHeartbeats 4000000 in
theorem okX11_firstEntryFitted (l : Launch) : aOK l mX11_firstEntryFitted spX11_firstEntryFitted := by
  refine aOK_of rfl fun as S Q h => ?_
  unfold spX11_firstEntryFitted at h
  split at h
  · rename_i s
    refine ⟨Nat.le_of_ble_eq_true rfl, wp_ok (tbX11_firstEntryFitted_ok l) Q (fun pc => pc == 2) 20 0 _ [] S ?_⟩
    show wp cX11_firstEntryFitted tbX11_firstEntryFitted 3 (some .int) Q (fun pc => pc == 2) (aGo l mX11_firstEntryFitted Q) 20 0 [(0, .inr (.inr 0)), (1, .inl s)] [] S
    simp only [wp_s, wpC_f, wpC_t, e_wLd, e_wLd0, e_wLd1, e_wLd2, e_get1, e_get2, e_wJ, e_wJo, f40, f41, f42, f43, Nat.reduceAdd, Nat.reduceBEq, Nat.reduceMul, eq_self, true_or, or_true, true_and, dX11_firstEntryFitted_0, dX11_firstEntryFitted_1, dX11_firstEntryFitted_2, dX11_firstEntryFitted_3, dX11_firstEntryFitted_4, dX11_firstEntryFitted_7, dX11_firstEntryFitted_10, dX11_firstEntryFitted_13, dX11_firstEntryFitted_14, dX11_firstEntryFitted_15, dX11_firstEntryFitted_16, dX11_firstEntryFitted_19, dX11_firstEntryFitted_22, dX11_firstEntryFitted_23, dX11_firstEntryFitted_24, dX11_firstEntryFitted_27, dX11_firstEntryFitted_30, dX11_firstEntryFitted_31, e_aload_n, e_iload_n, e_istore_n, e_iconst, e_iinc, e_ifCond, e_if_icmp, e_goto, e_getfield, e_invokevirtual, e_ireturn, e_wSt0, e_wSt1, e_wSt2, e_isL0, e_isL1, e_isL2, e_lset, e_lclr0, e_lclr1, e_lclr2, e_lput0, e_lput1, e_lput2, e_wInc, e_wInc0, Nat.reduceLT, not_false_eq_true, Bool.or_false, Bool.false_or, Bool.or_true, Bool.true_or, Bool.and_false, Bool.false_and, Bool.and_true, Bool.true_and, e_ri, e_rz, e_wIc_ge, e_wIf_eq, fX11_141, fX11_35, ic_0, ic_m1, jt_10_20, jt_19_5, jt_27_m25, e_call, e_callS0, e_callS1, e_callS2, e_callS3, e_callS4, e_pop0, e_pop1, e_tl0, e_tl1, tbX11_firstEntryFitted_f, tbX11_firstEntryFitted_p, tbX11_firstEntryFitted_k, tbX11_firstEntryFitted_c178, g_14_4, g_0_3, cv_0_0, cv_0_1, cv_0_2, cv_0_3, cv_0_4]
    exact lpX11_firstEntryFitted l Q _ S s 0 (Nat.zero_add _) h.2.2.2.2.2 h.1 ⟨h.2.1, h.2.2.1⟩ h.2.2.2.2.1
  · exact h.elim
def dbt (S : aS) (s : Int) : Prop := (0 ≤ s ∧ s < S.1 81 4 ∧ S.1 83 s.toNat = -1 ∧ S.1 84 s.toNat = -1) ∧ 1 < cnt (fun j => cb (fitP S s j)) (S.1 14 4).toNat
def fitR (S : aS) : Prop := fitQ S ∧ S.1 81 4 ≤ 120 ∧ 0 ≤ S.1 14 4 ∧ S.1 14 4 ≤ 12
def spX11_isInDoubt : aSp := fun as S Q => match as with
  | [.inr (.inr 0), .inl s] => fitR S ∧ Q (some (.inl (bi (dbt S s)))) S
  | _ => False
def tbX11_isInDoubt : aTb := (fX11, pX11, fun j => lk [(181, (some 7), 2, spX7_isLoose), (184, (some 11), 2, spX11_entriesFitted)] j, kX11)
theorem tbX11_isInDoubt_f : tbX11_isInDoubt.1 = fX11 := rfl
theorem tbX11_isInDoubt_p : tbX11_isInDoubt.2.1 = pX11 := rfl
theorem tbX11_isInDoubt_k : tbX11_isInDoubt.2.2.2 = kX11 := rfl
theorem tbX11_isInDoubt_c181 : tbX11_isInDoubt.2.2.1 181 = some ((some 7), 2, spX7_isLoose) := rfl
theorem tbX11_isInDoubt_c184 : tbX11_isInDoubt.2.2.1 184 = some ((some 11), 2, spX11_entriesFitted) := rfl
theorem tbX11_isInDoubt_all (l : Launch) : ∀ e ∈ ([(181, (some 7), 2, spX7_isLoose), (184, (some 11), 2, spX11_entriesFitted)] : List (Nat × Option Nat × Nat × aSp)), cOK l mX11_isInDoubt e.1 e.2.1 e.2.2.1 e.2.2.2 ∨ mOK mX11_isInDoubt e.1 e.2.1 e.2.2.1 e.2.2.2 := all_cons (cOK_of (okX7_isLoose l) meX7_isLoose cfX11_181 (by decide) (by decide)) (all_cons (cOK_of (okX11_entriesFitted l) meX11_entriesFitted cfX11_184 (by decide) (by decide)) (all_nil))
theorem tbX11_isInDoubt_ok (l : Launch) : tOK l mX11_isInDoubt tbX11_isInDoubt := ⟨fX11_ok, pX11_ok, fun _ _ _ _ h => tbX11_isInDoubt_all l _ (lk_mem h), kX11_ok⟩
set_option maxRecDepth 20000 in
set_option maxHeartbeats 4000000 in
theorem okX11_isInDoubt (l : Launch) : aOK l mX11_isInDoubt spX11_isInDoubt := by
  refine aOK_of rfl fun as S Q h => ?_
  unfold spX11_isInDoubt at h
  split at h
  · rename_i s
    refine ⟨Nat.le_of_ble_eq_true rfl, wp_ok (tbX11_isInDoubt_ok l) Q (fun pc => false) 16 0 _ [] S ?_⟩
    show wp cX11_isInDoubt tbX11_isInDoubt 2 (some .boolean) Q (fun pc => false) (aGo l mX11_isInDoubt Q) 16 0 [(0, .inr (.inr 0)), (1, .inl s)] [] S
    simp only [wp_s, wpC_f, wpC_t, e_wLd, e_wLd0, e_wLd1, e_wLd2, e_get1, e_get2, e_wJ, e_wJo, f40, f41, f42, f43, Nat.reduceAdd, Nat.reduceBEq, Nat.reduceMul, eq_self, true_or, or_true, true_and, dX11_isInDoubt_0, dX11_isInDoubt_1, dX11_isInDoubt_4, dX11_isInDoubt_5, dX11_isInDoubt_8, dX11_isInDoubt_11, dX11_isInDoubt_12, dX11_isInDoubt_13, dX11_isInDoubt_16, dX11_isInDoubt_17, dX11_isInDoubt_20, dX11_isInDoubt_21, dX11_isInDoubt_24, dX11_isInDoubt_25, e_aload_n, e_iload_n, e_iconst, e_ifCond, e_if_icmp, e_goto, e_getfield, e_invokevirtual, e_ireturn, e_ri, e_rz, e_wIc_le, e_wIf_eq, fX11_42, ic_0, ic_1, jt_17_7, jt_21_4, jt_8_16, e_call, e_callS0, e_callS1, e_callS2, e_callS3, e_callS4, e_pop0, e_pop1, e_tl0, e_tl1, tbX11_isInDoubt_f, tbX11_isInDoubt_p, tbX11_isInDoubt_k, tbX11_isInDoubt_c181, tbX11_isInDoubt_c184, cv_81_0, cv_81_1, cv_81_2, cv_81_3, cv_81_4, g_0_4, cv_0_0, cv_0_1, cv_0_2, cv_0_3, cv_0_4, spX7_isLoose, spX11_entriesFitted, bi_0, bi_1, ne_eq, Classical.not_not, em_r, em_l]
    obtain ⟨⟨h0, h1, h2, h3⟩, h⟩ := h
    repeat' (with_reducible first | intro _ | refine And.intro ?_ ?_)
    all_goals first
      | omega
      | assumption
      | (rw [bi_t (by unfold dbt; exact ⟨by assumption, by omega⟩)] at h; exact h)
      | (rw [bi_f (fun z => absurd z.1 (by assumption))] at h; exact h)
      | (rw [bi_f (fun z => absurd z.2 (by omega))] at h; exact h)
      | skip
  · exact h.elim
def spX11_slipsInDoubt : aSp := fun as S Q => match as with
  | [.inr (.inr 0)] => fitR S ∧ 0 ≤ S.1 81 4 ∧ Q (some (.inl (cnt (fun j => cb (dbt S j)) (S.1 81 4).toNat))) S
  | _ => False
def tbX11_slipsInDoubt : aTb := (fX11, pX11, fun j => lk [(271, (some 11), 2, spX11_isInDoubt)] j, kX11)
theorem tbX11_slipsInDoubt_f : tbX11_slipsInDoubt.1 = fX11 := rfl
theorem tbX11_slipsInDoubt_p : tbX11_slipsInDoubt.2.1 = pX11 := rfl
theorem tbX11_slipsInDoubt_k : tbX11_slipsInDoubt.2.2.2 = kX11 := rfl
theorem tbX11_slipsInDoubt_c271 : tbX11_slipsInDoubt.2.2.1 271 = some ((some 11), 2, spX11_isInDoubt) := rfl
theorem tbX11_slipsInDoubt_all (l : Launch) : ∀ e ∈ ([(271, (some 11), 2, spX11_isInDoubt)] : List (Nat × Option Nat × Nat × aSp)), cOK l mX11_slipsInDoubt e.1 e.2.1 e.2.2.1 e.2.2.2 ∨ mOK mX11_slipsInDoubt e.1 e.2.1 e.2.2.1 e.2.2.2 := all_cons (cOK_of (okX11_isInDoubt l) meX11_isInDoubt cfX11_271 (by decide) (by decide)) (all_nil)
theorem tbX11_slipsInDoubt_ok (l : Launch) : tOK l mX11_slipsInDoubt tbX11_slipsInDoubt := ⟨fX11_ok, pX11_ok, fun _ _ _ _ h => tbX11_slipsInDoubt_all l _ (lk_mem h), kX11_ok⟩
set_option maxRecDepth 20000 in
set_option maxHeartbeats 4000000 in
theorem lpX11_slipsInDoubt (l : Launch) (Q : Option aV → aS → Prop) : ∀ (n : Nat) (S : aS) (i : Nat), i + n = (S.1 81 4).toNat → Q (some (.inl (cnt (fun j => cb (dbt S j)) ((S.1 81 4).toNat)))) S → fitR S → aGo l mX11_slipsInDoubt Q 4 [(0, .inr (.inr 0)), (1, .inl (cnt (fun j => cb (dbt S j)) i)), (2, .inl (i : Int))] [] S := by
  intro n
  induction n using Nat.strongRecOn with
  | _ n ih =>
  intro S  i  h0 h1 h2
  refine wp_go (tbX11_slipsInDoubt_ok l) (fun pc => pc == 4) 20 dX11_slipsInDoubt_4 ?_
  show ws1 tbX11_slipsInDoubt 3 (some .int) Q (wp cX11_slipsInDoubt tbX11_slipsInDoubt 3 (some .int) Q (fun pc => pc == 4) (aGo l mX11_slipsInDoubt Q) 20) (.iload_n 2) 1 4 [(0, .inr (.inr 0)), (1, .inl (cnt (fun j => cb (dbt S j)) i)), (2, .inl (i : Int))] [] S
  simp only [wp_s, wpC_f, wpC_t, e_wLd, e_wLd0, e_wLd1, e_wLd2, e_get1, e_get2, e_wJ, e_wJo, f40, f41, f42, f43, Nat.reduceAdd, Nat.reduceBEq, Nat.reduceMul, eq_self, true_or, or_true, true_and, dX11_slipsInDoubt_0, dX11_slipsInDoubt_1, dX11_slipsInDoubt_2, dX11_slipsInDoubt_3, dX11_slipsInDoubt_4, dX11_slipsInDoubt_5, dX11_slipsInDoubt_6, dX11_slipsInDoubt_9, dX11_slipsInDoubt_12, dX11_slipsInDoubt_15, dX11_slipsInDoubt_16, dX11_slipsInDoubt_17, dX11_slipsInDoubt_20, dX11_slipsInDoubt_23, dX11_slipsInDoubt_26, dX11_slipsInDoubt_29, dX11_slipsInDoubt_32, dX11_slipsInDoubt_33, e_aload_n, e_iload_n, e_istore_n, e_iconst, e_iinc, e_ifCond, e_if_icmp, e_goto, e_getfield, e_invokevirtual, e_ireturn, e_wSt0, e_wSt1, e_wSt2, e_isL0, e_isL1, e_isL2, e_lset, e_lclr0, e_lclr1, e_lclr2, e_lput0, e_lput1, e_lput2, e_wInc, e_wInc0, Nat.reduceLT, not_false_eq_true, Bool.or_false, Bool.false_or, Bool.or_true, Bool.true_or, Bool.and_false, Bool.false_and, Bool.and_true, Bool.true_and, e_ri, e_rz, e_wIc_ge, e_wIf_eq, fX11_128, fX11_42, ic_0, jt_12_20, jt_20_6, jt_29_m25, e_call, e_callS0, e_callS1, e_callS2, e_callS3, e_callS4, e_pop0, e_pop1, e_tl0, e_tl1, tbX11_slipsInDoubt_f, tbX11_slipsInDoubt_p, tbX11_slipsInDoubt_k, tbX11_slipsInDoubt_c271, g_81_4, g_0_4, cv_0_0, cv_0_1, cv_0_2, cv_0_3, cv_0_4, spX11_isInDoubt, bi_0, bi_1, ne_eq, Classical.not_not, em_r, em_l]
  have cbb := cnt_b (fun j => cb (dbt S j)) i
  have h2b := h2.2.1
  repeat' (with_reducible first | intro _ | refine And.intro ?_ ?_)
  all_goals (try simp (disch := omega) only [wI_id, Int.toNat_natCast])
  all_goals first
    | omega
    | assumption
    | (rw [show (S.1 81 4).toNat = i from by omega] at h1; exact h1)
    | (rw [show i = (S.1 81 4).toNat from by omega]; exact h1)
    | (have e := ih (n - 1) (by omega) S (i + 1) (by omega) h1 h2
       first
         | (rw [cnt_t (cb_t (by assumption))] at e; exact e)
         | (rw [cnt_f (cb_f (by assumption))] at e; exact e))
    | skip
set_option maxRecDepth 20000 in
set_option maxHeartbeats 4000000 in
theorem okX11_slipsInDoubt (l : Launch) : aOK l mX11_slipsInDoubt spX11_slipsInDoubt := by
  refine aOK_of rfl fun as S Q h => ?_
  unfold spX11_slipsInDoubt at h
  split at h
  · refine ⟨Nat.le_of_ble_eq_true rfl, wp_ok (tbX11_slipsInDoubt_ok l) Q (fun pc => pc == 4) 20 0 _ [] S ?_⟩
    show wp cX11_slipsInDoubt tbX11_slipsInDoubt 3 (some .int) Q (fun pc => pc == 4) (aGo l mX11_slipsInDoubt Q) 20 0 [(0, .inr (.inr 0))] [] S
    simp only [wp_s, wpC_f, wpC_t, e_wLd, e_wLd0, e_wLd1, e_wLd2, e_get1, e_get2, e_wJ, e_wJo, f40, f41, f42, f43, Nat.reduceAdd, Nat.reduceBEq, Nat.reduceMul, eq_self, true_or, or_true, true_and, dX11_slipsInDoubt_0, dX11_slipsInDoubt_1, dX11_slipsInDoubt_2, dX11_slipsInDoubt_3, dX11_slipsInDoubt_4, dX11_slipsInDoubt_5, dX11_slipsInDoubt_6, dX11_slipsInDoubt_9, dX11_slipsInDoubt_12, dX11_slipsInDoubt_15, dX11_slipsInDoubt_16, dX11_slipsInDoubt_17, dX11_slipsInDoubt_20, dX11_slipsInDoubt_23, dX11_slipsInDoubt_26, dX11_slipsInDoubt_29, dX11_slipsInDoubt_32, dX11_slipsInDoubt_33, e_aload_n, e_iload_n, e_istore_n, e_iconst, e_iinc, e_ifCond, e_if_icmp, e_goto, e_getfield, e_invokevirtual, e_ireturn, e_wSt0, e_wSt1, e_wSt2, e_isL0, e_isL1, e_isL2, e_lset, e_lclr0, e_lclr1, e_lclr2, e_lput0, e_lput1, e_lput2, e_wInc, e_wInc0, Nat.reduceLT, not_false_eq_true, Bool.or_false, Bool.false_or, Bool.or_true, Bool.true_or, Bool.and_false, Bool.false_and, Bool.and_true, Bool.true_and, e_ri, e_rz, e_wIc_ge, e_wIf_eq, fX11_128, fX11_42, ic_0, jt_12_20, jt_20_6, jt_29_m25, e_call, e_callS0, e_callS1, e_callS2, e_callS3, e_callS4, e_pop0, e_pop1, e_tl0, e_tl1, tbX11_slipsInDoubt_f, tbX11_slipsInDoubt_p, tbX11_slipsInDoubt_k, tbX11_slipsInDoubt_c271, g_81_4, g_0_4, cv_0_0, cv_0_1, cv_0_2, cv_0_3, cv_0_4]
    exact lpX11_slipsInDoubt l Q _ S 0 (Nat.zero_add _) h.2.2 h.1
  · exact h.elim
