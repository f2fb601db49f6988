/-! SLIPHOUSE: form, span -/
def spX11_form : aSp := fun as S Q => match as with
  | [.inr (.inr 0), .inl e, .inl n, .inl a, .inl b] => (0 ≤ S.1 1 1 ∧ S.1 1 1 ≤ 40) ∧ (0 ≤ S.1 14 4 ∧ S.1 14 4 ≤ 12) ∧ S.1 18 1 = 0 ∧ (∀ j : Nat, j < 12 → 0 ≤ S.1 15 j) ∧ (¬ ((1 ≤ a ∧ a ≤ b ∧ b ≤ 2000) ∧ (0 ≤ e ∧ e < S.1 14 4 ∧ S.1 15 e.toNat < 5) ∧ (1 ≤ n ∧ n ≤ 8 ∧ n ≤ S.1 1 1)) → Q (some (.inl (-1))) S) ∧ (((1 ≤ a ∧ a ≤ b ∧ b ≤ 2000) ∧ (0 ≤ e ∧ e < S.1 14 4 ∧ S.1 15 e.toNat < 5) ∧ (1 ≤ n ∧ n ≤ 8 ∧ n ≤ S.1 1 1)) → ((tpW (S.1 2) (S.1 1 1) n.toNat 0 0) = 0 → Q (some (.inl (-1))) (upI S 1 1 0)) ∧ (¬ (tpW (S.1 2) (S.1 1 1) n.toNat 0 0) = 0 → ruOK (upI S 1 1 0) (tpW (S.1 2) (S.1 1 1) n.toNat 0 0) (S.2 12) (S.2 13) ∧ Q (some (.inl (S.1 15 e.toNat + 1))) (fmA (upI S 1 1 0) e (tpW (S.1 2) (S.1 1 1) n.toNat 0 0) a b)))
  | _ => False
def tbX11_form : aTb := (fX11, pX11, fun j => lk [(95, none, 2, spX11_areYears), (129, (some 11), 2, spX11_tapeHasWord), (132, (some 8), 2, spX8_takeWord), (145, (some 2), 2, spX2_hasRoomForForm), (148, (some 2), 5, spX2_addForm)] j, kX11)
theorem tbX11_form_f : tbX11_form.1 = fX11 := rfl
theorem tbX11_form_p : tbX11_form.2.1 = pX11 := rfl
theorem tbX11_form_k : tbX11_form.2.2.2 = kX11 := rfl
theorem tbX11_form_c95 : tbX11_form.2.2.1 95 = some (none, 2, spX11_areYears) := rfl
theorem tbX11_form_c129 : tbX11_form.2.2.1 129 = some ((some 11), 2, spX11_tapeHasWord) := rfl
theorem tbX11_form_c132 : tbX11_form.2.2.1 132 = some ((some 8), 2, spX8_takeWord) := rfl
theorem tbX11_form_c145 : tbX11_form.2.2.1 145 = some ((some 2), 2, spX2_hasRoomForForm) := rfl
theorem tbX11_form_c148 : tbX11_form.2.2.1 148 = some ((some 2), 5, spX2_addForm) := rfl
theorem tbX11_form_all (l : Launch) : ∀ e ∈ ([(95, none, 2, spX11_areYears), (129, (some 11), 2, spX11_tapeHasWord), (132, (some 8), 2, spX8_takeWord), (145, (some 2), 2, spX2_hasRoomForForm), (148, (some 2), 5, spX2_addForm)] : List (Nat × Option Nat × Nat × aSp)), cOK l mX11_form e.1 e.2.1 e.2.2.1 e.2.2.2 ∨ mOK mX11_form e.1 e.2.1 e.2.2.1 e.2.2.2 := all_cons (cOK_of (okX11_areYears l) meX11_areYears cfX11_95 (by decide) (by decide)) (all_cons (cOK_of (okX11_tapeHasWord l) meX11_tapeHasWord cfX11_129 (by decide) (by decide)) (all_cons (cOK_of (okX8_takeWord l) meX8_takeWord cfX11_132 (by decide) (by decide)) (all_cons (cOK_of (okX2_hasRoomForForm l) meX2_hasRoomForForm cfX11_145 (by decide) (by decide)) (all_cons (cOK_of (okX2_addForm l) meX2_addForm cfX11_148 (by decide) (by decide)) (all_nil)))))
theorem tbX11_form_ok (l : Launch) : tOK l mX11_form tbX11_form := ⟨fX11_ok, pX11_ok, fun _ _ _ _ h => tbX11_form_all l _ (lk_mem h), kX11_ok⟩
set_option maxRecDepth 20000 in
set_option maxHeartbeats 4000000 in
theorem okX11_form (l : Launch) : aOK l mX11_form spX11_form := by
  refine aOK_of rfl fun as S Q h => ?_
  unfold spX11_form at h
  split at h
  · rename_i e n a b
    refine ⟨Nat.le_of_ble_eq_true rfl, wp_ok (tbX11_form_ok l) Q (fun pc => false) 36 0 _ [] S ?_⟩
    show wp cX11_form tbX11_form 7 (some .int) Q (fun pc => false) (aGo l mX11_form Q) 36 0 [(0, .inr (.inr 0)), (1, .inl e), (2, .inl n), (3, .inl a), (4, .inl b)] [] S
    simp only [wp_s, wpC_f, wpC_t, e_wLd, e_wLd0, e_wLd1, e_wLd2, e_get1, e_get2, e_wJ, e_wJo, f40, f41, f42, f43, Nat.reduceAdd, Nat.reduceBEq, Nat.reduceMul, eq_self, true_or, or_true, true_and, dX11_form_0, dX11_form_1, dX11_form_3, dX11_form_6, dX11_form_9, dX11_form_10, dX11_form_13, dX11_form_14, dX11_form_17, dX11_form_20, dX11_form_21, dX11_form_22, dX11_form_25, dX11_form_28, dX11_form_29, dX11_form_30, dX11_form_31, dX11_form_34, dX11_form_35, dX11_form_38, dX11_form_40, dX11_form_42, dX11_form_43, dX11_form_44, dX11_form_47, dX11_form_48, dX11_form_51, dX11_form_52, dX11_form_55, dX11_form_56, dX11_form_58, dX11_form_59, dX11_form_61, dX11_form_64, e_aload_n, e_iload_n, e_iload, e_lload, e_lstore, e_iconst, e_lconst, e_lcmp, e_ifCond, e_goto, e_getfield, e_invokevirtual, e_invokestatic, e_ireturn, e_wSt0, e_wSt1, e_wSt2, e_isL0, e_isL1, e_isL2, e_lset, e_lclr0, e_lclr1, e_lclr2, e_lput0, e_lput1, e_lput2, e_wInc, e_wInc0, Nat.reduceLT, not_false_eq_true, Bool.or_false, Bool.false_or, Bool.or_true, Bool.true_or, Bool.and_false, Bool.false_and, Bool.and_true, Bool.true_and, lc0, lc1, e_ri, e_rz, e_wCmp, e_wIf_ne, e_wIf_eq, fX11_10, fX11_35, ic_m1, jt_17_11, jt_25_5, jt_44_7, jt_48_16, jt_6_22, e_call, e_callS0, e_callS1, e_callS2, e_callS3, e_callS4, e_pop0, e_pop1, e_tl0, e_tl1, tbX11_form_f, tbX11_form_p, tbX11_form_k, tbX11_form_c95, tbX11_form_c129, tbX11_form_c132, tbX11_form_c145, tbX11_form_c148, cv_14_0, cv_14_1, cv_14_2, cv_14_3, cv_14_4, cv_0_0, cv_0_1, cv_0_2, cv_0_3, cv_0_4, g_0_0, g_0_3, cv_1_0, cv_1_1, cv_1_2, cv_1_3, cv_1_4, spX11_areYears, spX2_hasRoomForForm, spX11_tapeHasWord, spX8_takeWord, spX2_addForm, lCmp_0, bi_0, bi_1, ne_eq, Classical.not_not, em_r, em_l]
    obtain ⟨⟨h0, h1⟩, ⟨h2, h2b⟩, h3, h4, hA, hB⟩ := h
    repeat' (with_reducible first | intro _ | refine And.intro ?_ ?_)
    all_goals (try simp (disch := omega) only [up_obj, up_2, up_f] at *)
    all_goals first
      | omega
      | assumption
      | exact h4 _ (by assumption)
      | exact hA (fun z => absurd z.1 (by assumption))
      | exact hA (fun z => absurd z.2.1 (by assumption))
      | exact hA (fun z => absurd z.2.2 (by assumption))
      | exact (hB ⟨by assumption, by assumption, by assumption⟩).1 (by assumption)
      | exact ((hB ⟨by assumption, by assumption, by assumption⟩).2 (by assumption)).1
      | exact ((hB ⟨by assumption, by assumption, by assumption⟩).2 (by assumption)).2
      | exact absurd trivial (by assumption)
      | exact absurd rfl (by assumption)
      | exact absurd (show 0 ≤ e ∧ e < S.1 14 4 ∧ S.1 15 e.toNat < 5 by assumption) (by assumption)
      | skip
  · exact h.elim
def spX11_span : aSp := fun as S Q => match as with
  | [.inr (.inr 0), .inl b, .inl w] => (0 ≤ S.1 3 7 ∧ S.1 3 7 ≤ 30) ∧ (0 ≤ S.1 81 4 ∧ S.1 81 4 ≤ 120) ∧ (¬ (0 ≤ b ∧ b < S.1 3 7) ∨ w < 0 ∨ 4 < w → Q (some (.inl (-1))) S) ∧ ((0 ≤ b ∧ b < S.1 3 7) → (w = 0 → Q (some (.inl (S.1 6 b.toNat))) S) ∧ (w = 1 → Q (some (.inl (S.1 7 b.toNat))) S) ∧ (w = 2 → Q (some (.inl (S.1 4 b.toNat))) S) ∧ (w = 3 → Q (some (.inl (S.1 5 b.toNat))) S) ∧ (w = 4 → Q (some (.inl (cnt (fun j => S.1 82 j == b) (S.1 81 4).toNat))) S))
  | _ => False
def tbX11_span : aTb := (fX11, pX11, fun j => lk [(104, (some 0), 2, spX0_has), (124, (some 7), 2, spX7_ofBook)] j, kX11)
theorem tbX11_span_f : tbX11_span.1 = fX11 := rfl
theorem tbX11_span_p : tbX11_span.2.1 = pX11 := rfl
theorem tbX11_span_k : tbX11_span.2.2.2 = kX11 := rfl
theorem tbX11_span_c104 : tbX11_span.2.2.1 104 = some ((some 0), 2, spX0_has) := rfl
theorem tbX11_span_c124 : tbX11_span.2.2.1 124 = some ((some 7), 2, spX7_ofBook) := rfl
theorem tbX11_span_all (l : Launch) : ∀ e ∈ ([(104, (some 0), 2, spX0_has), (124, (some 7), 2, spX7_ofBook)] : List (Nat × Option Nat × Nat × aSp)), cOK l mX11_span e.1 e.2.1 e.2.2.1 e.2.2.2 ∨ mOK mX11_span e.1 e.2.1 e.2.2.1 e.2.2.2 := all_cons (cOK_of (okX0_has l) meX0_has cfX11_104 (by decide) (by decide)) (all_cons (cOK_of (okX7_ofBook l) meX7_ofBook cfX11_124 (by decide) (by decide)) (all_nil))
theorem tbX11_span_ok (l : Launch) : tOK l mX11_span tbX11_span := ⟨fX11_ok, pX11_ok, fun _ _ _ _ h => tbX11_span_all l _ (lk_mem h), kX11_ok⟩
set_option maxRecDepth 20000 in
set_option maxHeartbeats 4000000 in
theorem okX11_span (l : Launch) : aOK l mX11_span spX11_span := by
  refine aOK_of rfl fun as S Q h => ?_
  unfold spX11_span at h
  split at h
  · rename_i b w
    refine ⟨Nat.le_of_ble_eq_true rfl, wp_ok (tbX11_span_ok l) Q (fun pc => false) 42 0 _ [] S ?_⟩
    show wp cX11_span tbX11_span 3 (some .int) Q (fun pc => false) (aGo l mX11_span Q) 42 0 [(0, .inr (.inr 0)), (1, .inl b), (2, .inl w)] [] S
    simp only [wp_s, wpC_f, wpC_t, e_wLd, e_wLd0, e_wLd1, e_wLd2, e_get1, e_get2, e_wJ, e_wJo, f40, f41, f42, f43, Nat.reduceAdd, Nat.reduceBEq, Nat.reduceMul, eq_self, true_or, or_true, true_and, dX11_span_0, dX11_span_1, dX11_span_4, dX11_span_5, dX11_span_8, dX11_span_11, dX11_span_12, dX11_span_13, dX11_span_14, dX11_span_48, dX11_span_49, dX11_span_52, dX11_span_55, dX11_span_56, dX11_span_57, dX11_span_58, dX11_span_59, dX11_span_62, dX11_span_65, dX11_span_66, dX11_span_67, dX11_span_68, dX11_span_69, dX11_span_72, dX11_span_75, dX11_span_76, dX11_span_77, dX11_span_78, dX11_span_79, dX11_span_82, dX11_span_85, dX11_span_86, dX11_span_87, dX11_span_88, dX11_span_89, dX11_span_92, dX11_span_93, dX11_span_96, dX11_span_97, dX11_span_98, e_aload_n, e_iload_n, e_iconst, e_ifCond, e_tableswitch, e_getfield, e_iaload, e_invokevirtual, e_ireturn, e_ri, e_rz, e_tsw, e_tsw0, e_tsw1, e_wIf_ne, fX11_111, fX11_115, fX11_118, fX11_121, fX11_19, fX11_42, ic_m1, jt_14_34, jt_14_44, jt_14_54, jt_14_64, jt_14_74, jt_14_83, jt_8_5, e_call, e_callS0, e_callS1, e_callS2, e_callS3, e_callS4, e_pop0, e_pop1, e_tl0, e_tl1, tbX11_span_f, tbX11_span_p, tbX11_span_k, tbX11_span_c104, tbX11_span_c124, cv_81_0, cv_81_1, cv_81_2, cv_81_3, cv_81_4, l_4, g_0_1, g_3_1, l_7, g_0_4, cv_3_0, cv_3_1, cv_3_2, cv_3_3, cv_3_4, g_3_0, l_6, g_3_3, g_3_2, l_5, spX0_has, spX7_ofBook, List.length_cons, List.length_nil, bi_0, bi_1, ne_eq, Classical.not_not, em_r, em_l]
    obtain ⟨⟨h0, h1⟩, ⟨h2, h3⟩, hA, hB⟩ := h
    repeat' (with_reducible first | intro _ | refine And.intro ?_ ?_)
    all_goals first
      | omega
      | exact hA (by omega)
      | exact (hB (by omega)).1 (by omega)
      | exact (hB (by omega)).2.1 (by omega)
      | exact (hB (by omega)).2.2.1 (by omega)
      | exact (hB (by omega)).2.2.2.1 (by omega)
      | exact (hB (by omega)).2.2.2.2 (by omega)
      | decide
      | skip
  · exact h.elim
