/-! SLIPHOUSE: slip, entry, form -/
def spX11_slip : aSp := fun as S Q => match as with
  | [.inr (.inr 0), .inl b, .inl n] => (0 ≤ S.1 1 1 ∧ S.1 1 1 ≤ 40) ∧ 0 ≤ S.1 81 4 ∧ ¬ S.1 85 1 = 0 ∧ (¬ ((0 ≤ b ∧ b < S.1 3 7) ∧ S.1 81 4 < 120 ∧ (1 ≤ n ∧ n ≤ 8 ∧ n ≤ S.1 1 1)) → Q (some (.inl (-1))) S) ∧ (((0 ≤ b ∧ b < S.1 3 7) ∧ S.1 81 4 < 120 ∧ (1 ≤ n ∧ n ≤ 8 ∧ n ≤ S.1 1 1)) → ((tpW (S.1 2) (S.1 1 1) n.toNat 0 0) = 0 → Q (some (.inl (-1))) (upI S 1 1 0)) ∧ (¬ (tpW (S.1 2) (S.1 1 1) n.toNat 0 0) = 0 → ruOK (upI S 1 1 0) (tpW (S.1 2) (S.1 1 1) n.toNat 0 0) (S.2 13) (S.2 12) ∧ Q (some (.inl (S.1 81 4))) (slA (upI S 1 1 0) b (tpW (S.1 2) (S.1 1 1) n.toNat 0 0))))
  | _ => False
def tbX11_slip : aTb := (fX11, pX11, fun j => lk [(104, (some 0), 2, spX0_has), (129, (some 11), 2, spX11_tapeHasWord), (132, (some 8), 2, spX8_takeWord), (138, (some 7), 3, spX7_add)] j, kX11)
theorem tbX11_slip_f : tbX11_slip.1 = fX11 := rfl
theorem tbX11_slip_p : tbX11_slip.2.1 = pX11 := rfl
theorem tbX11_slip_k : tbX11_slip.2.2.2 = kX11 := rfl
theorem tbX11_slip_c104 : tbX11_slip.2.2.1 104 = some ((some 0), 2, spX0_has) := rfl
theorem tbX11_slip_c129 : tbX11_slip.2.2.1 129 = some ((some 11), 2, spX11_tapeHasWord) := rfl
theorem tbX11_slip_c132 : tbX11_slip.2.2.1 132 = some ((some 8), 2, spX8_takeWord) := rfl
theorem tbX11_slip_c138 : tbX11_slip.2.2.1 138 = some ((some 7), 3, spX7_add) := rfl
theorem tbX11_slip_all (l : Launch) : ∀ e ∈ ([(104, (some 0), 2, spX0_has), (129, (some 11), 2, spX11_tapeHasWord), (132, (some 8), 2, spX8_takeWord), (138, (some 7), 3, spX7_add)] : List (Nat × Option Nat × Nat × aSp)), cOK l mX11_slip e.1 e.2.1 e.2.2.1 e.2.2.2 ∨ mOK mX11_slip e.1 e.2.1 e.2.2.1 e.2.2.2 := all_cons (cOK_of (okX0_has l) meX0_has cfX11_104 (by decide) (by decide)) (all_cons (cOK_of (okX11_tapeHasWord l) meX11_tapeHasWord cfX11_129 (by decide) (by decide)) (all_cons (cOK_of (okX8_takeWord l) meX8_takeWord cfX11_132 (by decide) (by decide)) (all_cons (cOK_of (okX7_add l) meX7_add cfX11_138 (by decide) (by decide)) (all_nil))))
theorem tbX11_slip_ok (l : Launch) : tOK l mX11_slip tbX11_slip := ⟨fX11_ok, pX11_ok, fun _ _ _ _ h => tbX11_slip_all l _ (lk_mem h), kX11_ok⟩
set_option maxRecDepth 20000 in
set_option maxHeartbeats 4000000 in
theorem okX11_slip (l : Launch) : aOK l mX11_slip spX11_slip := by
  refine aOK_of rfl fun as S Q h => ?_
  unfold spX11_slip at h
  split at h
  · rename_i b n
    refine ⟨Nat.le_of_ble_eq_true rfl, wp_ok (tbX11_slip_ok l) Q (fun pc => false) 35 0 _ [] S ?_⟩
    show wp cX11_slip tbX11_slip 5 (some .int) Q (fun pc => false) (aGo l mX11_slip Q) 35 0 [(0, .inr (.inr 0)), (1, .inl b), (2, .inl n)] [] S
    simp only [wp_s, wpC_f, wpC_t, e_wLd, e_wLd0, e_wLd1, e_wLd2, e_get1, e_get2, e_wJ, e_wJo, f40, f41, f42, f43, Nat.reduceAdd, Nat.reduceBEq, Nat.reduceMul, eq_self, true_or, or_true, true_and, dX11_slip_0, dX11_slip_1, dX11_slip_4, dX11_slip_5, dX11_slip_8, dX11_slip_11, dX11_slip_12, dX11_slip_15, dX11_slip_18, dX11_slip_20, dX11_slip_23, dX11_slip_24, dX11_slip_25, dX11_slip_28, dX11_slip_31, dX11_slip_32, dX11_slip_33, dX11_slip_34, dX11_slip_37, dX11_slip_38, dX11_slip_41, dX11_slip_42, dX11_slip_43, dX11_slip_44, dX11_slip_45, dX11_slip_48, dX11_slip_49, dX11_slip_52, dX11_slip_53, dX11_slip_56, dX11_slip_57, dX11_slip_58, dX11_slip_61, e_aload_n, e_iload_n, e_lload_n, e_lstore_n, e_iconst, e_bipush, e_lconst, e_lcmp, e_ifCond, e_if_icmp, e_goto, e_getfield, e_invokevirtual, e_ireturn, e_wSt0, e_wSt1, e_wSt2, e_isL0, e_isL1, e_isL2, e_lset, e_lclr0, e_lclr1, e_lclr2, e_lput0, e_lput1, e_lput2, e_wInc, e_wInc0, Nat.reduceLT, not_false_eq_true, Bool.or_false, Bool.false_or, Bool.or_true, Bool.true_or, Bool.and_false, Bool.false_and, Bool.and_true, Bool.true_and, lc0, lc1, e_ri, e_rz, e_wCmp, e_wIc_ge, e_wIf_eq, e_wIf_ne, bp_120, fX11_10, fX11_128, fX11_19, fX11_42, ic_m1, jt_20_11, jt_28_5, jt_45_7, jt_49_12, jt_8_23, e_call, e_callS0, e_callS1, e_callS2, e_callS3, e_callS4, e_pop0, e_pop1, e_tl0, e_tl1, tbX11_slip_f, tbX11_slip_p, tbX11_slip_k, tbX11_slip_c104, tbX11_slip_c129, tbX11_slip_c132, tbX11_slip_c138, cv_0_0, cv_0_1, cv_0_2, cv_0_3, cv_0_4, g_0_0, cv_3_0, cv_3_1, cv_3_2, cv_3_3, cv_3_4, g_81_4, g_0_4, cv_1_0, cv_1_1, cv_1_2, cv_1_3, cv_1_4, g_0_1, cv_81_0, cv_81_1, cv_81_2, cv_81_3, cv_81_4, spX0_has, spX11_tapeHasWord, spX8_takeWord, spX7_add, lCmp_0, bi_0, bi_1, ne_eq, Classical.not_not, em_r, em_l]
    obtain ⟨⟨h0, h1⟩, h2, h3, hA, hB⟩ := h
    repeat' (with_reducible first | intro _ | refine And.intro ?_ ?_)
    all_goals (try simp (disch := omega) only [up_obj, up_2, up_f] at *)
    all_goals first
      | omega
      | assumption
      | exact hA (fun z => absurd z.1 (by assumption))
      | exact hA (fun z => absurd z.2.1 (by omega))
      | exact hA (fun z => absurd z.2.2 (by assumption))
      | exact (hB ⟨by assumption, by omega, by assumption⟩).1 (by assumption)
      | exact ((hB ⟨by assumption, by omega, by assumption⟩).2 (by assumption)).1
      | exact ((hB ⟨by assumption, by omega, by assumption⟩).2 (by assumption)).2
      | exact absurd trivial (by assumption)
      | exact absurd rfl (by assumption)
      | skip
  · exact h.elim
def spX11_entry : aSp := fun as S Q => match as with
  | [.inr (.inr 0), .inl n, .inl a, .inl b] => (0 ≤ S.1 1 1 ∧ S.1 1 1 ≤ 40) ∧ (0 ≤ S.1 14 4 ∧ S.1 14 4 ≤ 12) ∧ S.1 18 1 = 0 ∧ (∀ j : Nat, j < 12 → 0 ≤ S.1 15 j ∧ (S.1 14 4 ≤ (j : Int) → S.1 15 j = 0)) ∧ (¬ ((1 ≤ a ∧ a ≤ b ∧ b ≤ 2000) ∧ S.1 14 4 < 12 ∧ (1 ≤ n ∧ n ≤ 8 ∧ n ≤ S.1 1 1)) → Q (some (.inl (-1))) S) ∧ (((1 ≤ a ∧ a ≤ b ∧ b ≤ 2000) ∧ S.1 14 4 < 12 ∧ (1 ≤ n ∧ n ≤ 8 ∧ n ≤ S.1 1 1)) → ((tpW (S.1 2) (S.1 1 1) n.toNat 0 0) = 0 → Q (some (.inl (-1))) (upI S 1 1 0)) ∧ (¬ (tpW (S.1 2) (S.1 1 1) n.toNat 0 0) = 0 → ruOK (upI S 1 1 0) (tpW (S.1 2) (S.1 1 1) n.toNat 0 0) (S.2 12) (S.2 13) ∧ Q (some (.inl (S.1 14 4))) (fmA (upI (upI S 1 1 0) 14 4 (S.1 14 4 + 1)) (S.1 14 4) (tpW (S.1 2) (S.1 1 1) n.toNat 0 0) a b)))
  | _ => False
def tbX11_entry : aTb := (fX11, pX11, fun j => lk [(95, none, 2, spX11_areYears), (129, (some 11), 2, spX11_tapeHasWord), (132, (some 8), 2, spX8_takeWord), (142, (some 2), 4, spX2_add)] j, kX11)
theorem tbX11_entry_f : tbX11_entry.1 = fX11 := rfl
theorem tbX11_entry_p : tbX11_entry.2.1 = pX11 := rfl
theorem tbX11_entry_k : tbX11_entry.2.2.2 = kX11 := rfl
theorem tbX11_entry_c95 : tbX11_entry.2.2.1 95 = some (none, 2, spX11_areYears) := rfl
theorem tbX11_entry_c129 : tbX11_entry.2.2.1 129 = some ((some 11), 2, spX11_tapeHasWord) := rfl
theorem tbX11_entry_c132 : tbX11_entry.2.2.1 132 = some ((some 8), 2, spX8_takeWord) := rfl
theorem tbX11_entry_c142 : tbX11_entry.2.2.1 142 = some ((some 2), 4, spX2_add) := rfl
theorem tbX11_entry_all (l : Launch) : ∀ e ∈ ([(95, none, 2, spX11_areYears), (129, (some 11), 2, spX11_tapeHasWord), (132, (some 8), 2, spX8_takeWord), (142, (some 2), 4, spX2_add)] : List (Nat × Option Nat × Nat × aSp)), cOK l mX11_entry e.1 e.2.1 e.2.2.1 e.2.2.2 ∨ mOK mX11_entry e.1 e.2.1 e.2.2.1 e.2.2.2 := all_cons (cOK_of (okX11_areYears l) meX11_areYears cfX11_95 (by decide) (by decide)) (all_cons (cOK_of (okX11_tapeHasWord l) meX11_tapeHasWord cfX11_129 (by decide) (by decide)) (all_cons (cOK_of (okX8_takeWord l) meX8_takeWord cfX11_132 (by decide) (by decide)) (all_cons (cOK_of (okX2_add l) meX2_add cfX11_142 (by decide) (by decide)) (all_nil))))
theorem tbX11_entry_ok (l : Launch) : tOK l mX11_entry tbX11_entry := ⟨fX11_ok, pX11_ok, fun _ _ _ _ h => tbX11_entry_all l _ (lk_mem h), kX11_ok⟩
set_option maxRecDepth 20000 in
set_option maxHeartbeats 4000000 in
theorem okX11_entry (l : Launch) : aOK l mX11_entry spX11_entry := by
  refine aOK_of rfl fun as S Q h => ?_
  unfold spX11_entry at h
  split at h
  · rename_i n a b
    refine ⟨Nat.le_of_ble_eq_true rfl, wp_ok (tbX11_entry_ok l) Q (fun pc => false) 35 0 _ [] S ?_⟩
    show wp cX11_entry tbX11_entry 6 (some .int) Q (fun pc => false) (aGo l mX11_entry Q) 35 0 [(0, .inr (.inr 0)), (1, .inl n), (2, .inl a), (3, .inl b)] [] S
    simp only [wp_s, wpC_f, wpC_t, e_wLd, e_wLd0, e_wLd1, e_wLd2, e_get1, e_get2, e_wJ, e_wJo, f40, f41, f42, f43, Nat.reduceAdd, Nat.reduceBEq, Nat.reduceMul, eq_self, true_or, or_true, true_and, dX11_entry_0, dX11_entry_1, dX11_entry_2, dX11_entry_5, dX11_entry_8, dX11_entry_9, dX11_entry_12, dX11_entry_15, dX11_entry_17, dX11_entry_20, dX11_entry_21, dX11_entry_22, dX11_entry_25, dX11_entry_28, dX11_entry_29, dX11_entry_30, dX11_entry_31, dX11_entry_34, dX11_entry_35, dX11_entry_38, dX11_entry_40, dX11_entry_42, dX11_entry_43, dX11_entry_44, dX11_entry_47, dX11_entry_48, dX11_entry_51, dX11_entry_52, dX11_entry_55, dX11_entry_57, dX11_entry_58, dX11_entry_59, dX11_entry_62, e_aload_n, e_iload_n, e_lload, e_lstore, e_iconst, e_bipush, e_lconst, e_lcmp, e_ifCond, e_if_icmp, e_goto, e_getfield, e_invokevirtual, e_invokestatic, e_ireturn, e_wSt0, e_wSt1, e_wSt2, e_isL0, e_isL1, e_isL2, e_lset, e_lclr0, e_lclr1, e_lclr2, e_lput0, e_lput1, e_lput2, e_wInc, e_wInc0, Nat.reduceLT, not_false_eq_true, Bool.or_false, Bool.false_or, Bool.or_true, Bool.true_or, Bool.and_false, Bool.false_and, Bool.and_true, Bool.true_and, e_ri, e_rz, e_wCmp, lc0, lc1, e_wIc_ge, e_wIf_eq, e_wIf_ne, bp_12, fX11_10, fX11_141, fX11_35, ic_m1, jt_17_11, jt_25_5, jt_44_7, jt_48_14, jt_5_23, e_call, e_callS0, e_callS1, e_callS2, e_callS3, e_callS4, e_pop0, e_pop1, e_tl0, e_tl1, tbX11_entry_f, tbX11_entry_p, tbX11_entry_k, tbX11_entry_c95, tbX11_entry_c129, tbX11_entry_c132, tbX11_entry_c142, cv_0_0, cv_0_1, cv_0_2, cv_0_3, cv_0_4, g_0_0, g_0_3, g_14_4, cv_1_0, cv_1_1, cv_1_2, cv_1_3, cv_1_4, cv_14_0, cv_14_1, cv_14_2, cv_14_3, cv_14_4, spX11_areYears, spX11_tapeHasWord, spX8_takeWord, spX2_add, lCmp_0, bi_0, bi_1, ne_eq, Classical.not_not, em_r, em_l]
    obtain ⟨⟨h0, h1⟩, h2, h3, h4, hA, hB⟩ := h
    have h4a : ∀ j : Nat, j < 12 → 0 ≤ S.1 15 j := fun j hj => (h4 j hj).1
    repeat' (with_reducible first | intro _ | refine And.intro ?_ ?_)
    all_goals (try simp (disch := omega) only [up_obj, up_2, up_f] at *)
    all_goals first
      | omega
      | assumption
      | exact (h4 _ (by assumption)).1
      | exact (h4 _ (by assumption)).2 (by assumption)
      | exact hA (fun z => absurd z.1 (by assumption))
      | exact hA (fun z => absurd z.2.1 (by omega))
      | exact hA (fun z => absurd z.2.2 (by assumption))
      | exact (hB ⟨by assumption, by omega, by assumption⟩).1 (by assumption)
      | exact ((hB ⟨by assumption, by omega, by assumption⟩).2 (by assumption)).1
      | exact ((hB ⟨by assumption, by omega, by assumption⟩).2 (by assumption)).2
      | exact absurd trivial (by assumption)
      | exact absurd rfl (by assumption)
      | skip
  · exact h.elim
