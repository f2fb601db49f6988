/-! SLIPHOUSE: public methods, second part -/
def spX11_fits : aSp := fun as S Q => match as with
  | [.inr (.inr 0), .inl s, .inl e] => fitR S ∧ (¬ ((0 ≤ s ∧ s < S.1 81 4) ∧ (0 ≤ e ∧ e < S.1 14 4)) → Q (some (.inl (-1))) S) ∧ (((0 ≤ s ∧ s < S.1 81 4) ∧ (0 ≤ e ∧ e < S.1 14 4)) → Q (some (.inl (bi (fitP S s e)))) S)
  | _ => False
def tbX11_fits : aTb := (fX11, pX11, fun j => lk [(176, (some 7), 2, spX7_has), (177, (some 2), 2, spX2_has), (178, (some 11), 3, spX11_isFit)] j, kX11)
theorem tbX11_fits_f : tbX11_fits.1 = fX11 := rfl
theorem tbX11_fits_p : tbX11_fits.2.1 = pX11 := rfl
theorem tbX11_fits_k : tbX11_fits.2.2.2 = kX11 := rfl
theorem tbX11_fits_c176 : tbX11_fits.2.2.1 176 = some ((some 7), 2, spX7_has) := rfl
theorem tbX11_fits_c177 : tbX11_fits.2.2.1 177 = some ((some 2), 2, spX2_has) := rfl
theorem tbX11_fits_c178 : tbX11_fits.2.2.1 178 = some ((some 11), 3, spX11_isFit) := rfl
theorem tbX11_fits_all (l : Launch) : ∀ e ∈ ([(176, (some 7), 2, spX7_has), (177, (some 2), 2, spX2_has), (178, (some 11), 3, spX11_isFit)] : List (Nat × Option Nat × Nat × aSp)), cOK l mX11_fits e.1 e.2.1 e.2.2.1 e.2.2.2 ∨ mOK mX11_fits e.1 e.2.1 e.2.2.1 e.2.2.2 := all_cons (cOK_of (okX7_has l) meX7_has cfX11_176 (by decide) (by decide)) (all_cons (cOK_of (okX2_has l) meX2_has cfX11_177 (by decide) (by decide)) (all_cons (cOK_of (okX11_isFit l) meX11_isFit cfX11_178 (by decide) (by decide)) (all_nil)))
theorem tbX11_fits_ok (l : Launch) : tOK l mX11_fits tbX11_fits := ⟨fX11_ok, pX11_ok, fun _ _ _ _ h => tbX11_fits_all l _ (lk_mem h), kX11_ok⟩
set_option maxRecDepth 20000 in
set_option maxHeartbeats 4000000 in
theorem okX11_fits (l : Launch) : aOK l mX11_fits spX11_fits := by
  refine aOK_of rfl fun as S Q h => ?_
  unfold spX11_fits at h
  split at h
  · rename_i s e
    refine ⟨Nat.le_of_ble_eq_true rfl, wp_ok (tbX11_fits_ok l) Q (fun pc => false) 23 0 _ [] S ?_⟩
    show wp cX11_fits tbX11_fits 3 (some .int) Q (fun pc => false) (aGo l mX11_fits Q) 23 0 [(0, .inr (.inr 0)), (1, .inl s), (2, .inl e)] [] S
    simp only [wp_s, wpC_f, wpC_t, e_wLd, e_wLd0, e_wLd1, e_wLd2, e_get1, e_get2, e_wJ, e_wJo, f40, f41, f42, f43, Nat.reduceAdd, Nat.reduceBEq, Nat.reduceMul, eq_self, true_or, or_true, true_and, dX11_fits_0, dX11_fits_1, dX11_fits_4, dX11_fits_5, dX11_fits_8, dX11_fits_11, dX11_fits_12, dX11_fits_15, dX11_fits_16, dX11_fits_19, dX11_fits_22, dX11_fits_23, dX11_fits_24, dX11_fits_25, dX11_fits_26, dX11_fits_27, dX11_fits_30, dX11_fits_33, dX11_fits_34, dX11_fits_37, dX11_fits_38, e_aload_n, e_iload_n, e_iconst, e_ifCond, e_goto, e_getfield, e_invokevirtual, e_ireturn, e_ri, e_rz, e_wIf_ne, e_wIf_eq, fX11_35, fX11_42, ic_0, ic_1, ic_m1, jt_19_5, jt_30_7, jt_34_4, jt_8_14, e_call, e_callS0, e_callS1, e_callS2, e_callS3, e_callS4, e_pop0, e_pop1, e_tl0, e_tl1, tbX11_fits_f, tbX11_fits_p, tbX11_fits_k, tbX11_fits_c176, tbX11_fits_c177, tbX11_fits_c178, g_0_4, cv_14_0, cv_14_1, cv_14_2, cv_14_3, cv_14_4, g_0_3, cv_81_0, cv_81_1, cv_81_2, cv_81_3, cv_81_4, cv_0_0, cv_0_1, cv_0_2, cv_0_3, cv_0_4, spX7_has, spX2_has, spX11_isFit, bi_0, bi_1, ne_eq, Classical.not_not, em_r, em_l]
    obtain ⟨⟨g0, g1, g2, g3⟩, hA, hB⟩ := h
    repeat' (with_reducible first | intro _ | refine And.intro ?_ ?_)
    all_goals first
      | omega
      | assumption
      | exact hA (by omega)
      | (have hB' := hB (by omega); rw [bi_t (by assumption)] at hB'; exact hB')
      | (have hB' := hB (by omega); rw [bi_f (by assumption)] at hB'; exact hB')
      | skip
  · exact h.elim
def spX11_octet : aSp := fun as S Q => match as with
  | [.inr (.inr 0), .inl i] => S.1 242 7 ≤ 8000 ∧ (0 ≤ i ∧ i < S.1 242 7 → Q (some (.inl (S.1 243 i.toNat))) S) ∧ (¬ (0 ≤ i ∧ i < S.1 242 7) → Q (some (.inl (-1))) S)
  | _ => False
def tbX11_octet : aTb := (fX11, pX11, fun j => lk [(307, (some 4), 2, spX4_byteAt)] j, kX11)
theorem tbX11_octet_f : tbX11_octet.1 = fX11 := rfl
theorem tbX11_octet_p : tbX11_octet.2.1 = pX11 := rfl
theorem tbX11_octet_k : tbX11_octet.2.2.2 = kX11 := rfl
theorem tbX11_octet_c307 : tbX11_octet.2.2.1 307 = some ((some 4), 2, spX4_byteAt) := rfl
theorem tbX11_octet_all (l : Launch) : ∀ e ∈ ([(307, (some 4), 2, spX4_byteAt)] : List (Nat × Option Nat × Nat × aSp)), cOK l mX11_octet e.1 e.2.1 e.2.2.1 e.2.2.2 ∨ mOK mX11_octet e.1 e.2.1 e.2.2.1 e.2.2.2 := all_cons (cOK_of (okX4_byteAt l) meX4_byteAt cfX11_307 (by decide) (by decide)) (all_nil)
theorem tbX11_octet_ok (l : Launch) : tOK l mX11_octet tbX11_octet := ⟨fX11_ok, pX11_ok, fun _ _ _ _ h => tbX11_octet_all l _ (lk_mem h), kX11_ok⟩
set_option maxRecDepth 20000 in
set_option maxHeartbeats 4000000 in
theorem okX11_octet (l : Launch) : aOK l mX11_octet spX11_octet := by
  refine aOK_of rfl fun as S Q h => ?_
  unfold spX11_octet at h
  split at h
  · rename_i i
    refine ⟨Nat.le_of_ble_eq_true rfl, wp_ok (tbX11_octet_ok l) Q (fun pc => false) 7 0 _ [] S ?_⟩
    show wp cX11_octet tbX11_octet 2 (some .int) Q (fun pc => false) (aGo l mX11_octet Q) 7 0 [(0, .inr (.inr 0)), (1, .inl i)] [] S
    simp only [wp_s, wpC_f, wpC_t, e_wLd, e_wLd0, e_wLd1, e_wLd2, e_get1, e_get2, e_wJ, e_wJo, f40, f41, f42, f43, Nat.reduceAdd, Nat.reduceBEq, Nat.reduceMul, eq_self, true_or, or_true, true_and, dX11_octet_0, dX11_octet_1, dX11_octet_4, dX11_octet_5, dX11_octet_8, e_aload_n, e_iload_n, e_getfield, e_invokevirtual, e_ireturn, e_ri, e_rz, fX11_83, e_call, e_callS0, e_callS1, e_callS2, e_callS3, e_callS4, e_pop0, e_pop1, e_tl0, e_tl1, tbX11_octet_f, tbX11_octet_p, tbX11_octet_k, tbX11_octet_c307, g_0_9, cv_242_0, cv_242_1, cv_242_2, cv_242_3, cv_242_4, spX4_byteAt]
    exact h
  · exact h.elim
def spX11_print : aSp := fun as S Q => match as with
  | [.inr (.inr 0), .inl e] => (¬ (0 ≤ e ∧ e < S.1 14 4) → Q (some (.inl (-1))) S) ∧ (0 ≤ e ∧ e < S.1 14 4 → (0 ≤ S.1 81 4 ∧ S.1 81 4 ≤ 120 ∧ 0 ≤ S.1 3 7 ∧ S.1 3 7 ≤ 30) ∧ cpP (upI (gaT S) 242 7 0) ∧ 0 ≤ e ∧ e < (upI (gaT S) 242 7 0).1 14 4 ∧ Q (some (.inl ((cpS (upI (gaT S) 242 7 0) e).1 242 7))) (cpS (upI (gaT S) 242 7 0) e))
  | _ => False
def tbX11_print : aTb := (fX11, pX11, fun j => lk [(177, (some 2), 2, spX2_has), (304, (some 4), 2, spX4_compose)] j, kX11)
theorem tbX11_print_f : tbX11_print.1 = fX11 := rfl
theorem tbX11_print_p : tbX11_print.2.1 = pX11 := rfl
theorem tbX11_print_k : tbX11_print.2.2.2 = kX11 := rfl
theorem tbX11_print_c177 : tbX11_print.2.2.1 177 = some ((some 2), 2, spX2_has) := rfl
theorem tbX11_print_c304 : tbX11_print.2.2.1 304 = some ((some 4), 2, spX4_compose) := rfl
theorem tbX11_print_all (l : Launch) : ∀ e ∈ ([(177, (some 2), 2, spX2_has), (304, (some 4), 2, spX4_compose)] : List (Nat × Option Nat × Nat × aSp)), cOK l mX11_print e.1 e.2.1 e.2.2.1 e.2.2.2 ∨ mOK mX11_print e.1 e.2.1 e.2.2.1 e.2.2.2 := all_cons (cOK_of (okX2_has l) meX2_has cfX11_177 (by decide) (by decide)) (all_cons (cOK_of (okX4_compose l) meX4_compose cfX11_304 (by decide) (by decide)) (all_nil))
theorem tbX11_print_ok (l : Launch) : tOK l mX11_print tbX11_print := ⟨fX11_ok, pX11_ok, fun _ _ _ _ h => tbX11_print_all l _ (lk_mem h), kX11_ok⟩
set_option maxRecDepth 20000 in
set_option maxHeartbeats 4000000 in
theorem okX11_print (l : Launch) : aOK l mX11_print spX11_print := by
  refine aOK_of rfl fun as S Q h => ?_
  unfold spX11_print at h
  split at h
  · rename_i e
    refine ⟨Nat.le_of_ble_eq_true rfl, wp_ok (tbX11_print_ok l) Q (fun pc => false) 14 0 _ [] S ?_⟩
    show wp cX11_print tbX11_print 2 (some .int) Q (fun pc => false) (aGo l mX11_print Q) 14 0 [(0, .inr (.inr 0)), (1, .inl e)] [] S
    simp only [wp_s, wpC_f, wpC_t, e_wLd, e_wLd0, e_wLd1, e_wLd2, e_get1, e_get2, e_wJ, e_wJo, f40, f41, f42, f43, Nat.reduceAdd, Nat.reduceBEq, Nat.reduceMul, eq_self, true_or, or_true, true_and, dX11_print_0, dX11_print_1, dX11_print_4, dX11_print_5, dX11_print_8, dX11_print_11, dX11_print_12, dX11_print_15, dX11_print_16, dX11_print_19, dX11_print_22, dX11_print_23, e_aload_n, e_iload_n, e_iconst, e_ifCond, e_goto, e_getfield, e_invokevirtual, e_ireturn, e_ri, e_rz, e_wIf_eq, fX11_35, fX11_83, ic_m1, jt_19_4, jt_8_14, e_call, e_callS0, e_callS1, e_callS2, e_callS3, e_callS4, e_pop0, e_pop1, e_tl0, e_tl1, tbX11_print_f, tbX11_print_p, tbX11_print_k, tbX11_print_c177, tbX11_print_c304, cv_14_0, cv_14_1, cv_14_2, cv_14_3, cv_14_4, g_0_3, g_0_9, cv_242_0, cv_242_1, cv_242_2, cv_242_3, cv_242_4, spX2_has, spX4_compose, bi_0, bi_1, ne_eq, Classical.not_not, em_r, em_l]
    exact h
  · exact h.elim
def spX11_edition : aSp := fun as S Q => match as with
  | [.inr (.inr 0)] => (0 ≤ S.1 219 2 ∧ S.1 219 2 ≤ 20) ∧ 0 ≤ S.1 222 4 ∧ 0 ≤ S.1 81 4 ∧ S.1 81 4 ≤ 120 ∧ (0 < cnt (fun j => S.1 221 j == -1) (S.1 219 2).toNat ∨ 8 ≤ S.1 222 4 → Q (some (.inl (-1))) S) ∧ (¬ 0 < cnt (fun j => S.1 221 j == -1) (S.1 219 2).toNat → S.1 222 4 < 8 → Q (some (.inl (S.1 222 4))) (edA S (S.1 222 4)))
  | _ => False
def tbX11_edition : aTb := (fX11, pX11, fun j => lk [(287, (some 3), 1, spX3_loose), (292, (some 1), 1, spX1_add)] j, kX11)
theorem tbX11_edition_f : tbX11_edition.1 = fX11 := rfl
theorem tbX11_edition_p : tbX11_edition.2.1 = pX11 := rfl
theorem tbX11_edition_k : tbX11_edition.2.2.2 = kX11 := rfl
theorem tbX11_edition_c287 : tbX11_edition.2.2.1 287 = some ((some 3), 1, spX3_loose) := rfl
theorem tbX11_edition_c292 : tbX11_edition.2.2.1 292 = some ((some 1), 1, spX1_add) := rfl
theorem tbX11_edition_all (l : Launch) : ∀ e ∈ ([(287, (some 3), 1, spX3_loose), (292, (some 1), 1, spX1_add)] : List (Nat × Option Nat × Nat × aSp)), cOK l mX11_edition e.1 e.2.1 e.2.2.1 e.2.2.2 ∨ mOK mX11_edition e.1 e.2.1 e.2.2.1 e.2.2.2 := all_cons (cOK_of (okX3_loose l) meX3_loose cfX11_287 (by decide) (by decide)) (all_cons (cOK_of (okX1_add l) meX1_add cfX11_292 (by decide) (by decide)) (all_nil))
theorem tbX11_edition_ok (l : Launch) : tOK l mX11_edition tbX11_edition := ⟨fX11_ok, pX11_ok, fun _ _ _ _ h => tbX11_edition_all l _ (lk_mem h), kX11_ok⟩
set_option maxRecDepth 20000 in
set_option maxHeartbeats 4000000 in
theorem okX11_edition (l : Launch) : aOK l mX11_edition spX11_edition := by
  refine aOK_of rfl fun as S Q h => ?_
  unfold spX11_edition at h
  split at h
  · refine ⟨Nat.le_of_ble_eq_true rfl, wp_ok (tbX11_edition_ok l) Q (fun pc => false) 17 0 _ [] S ?_⟩
    show wp cX11_edition tbX11_edition 1 (some .int) Q (fun pc => false) (aGo l mX11_edition Q) 17 0 [(0, .inr (.inr 0))] [] S
    simp only [wp_s, wpC_f, wpC_t, e_wLd, e_wLd0, e_wLd1, e_wLd2, e_get1, e_get2, e_wJ, e_wJo, f40, f41, f42, f43, Nat.reduceAdd, Nat.reduceBEq, Nat.reduceMul, eq_self, true_or, or_true, true_and, dX11_edition_0, dX11_edition_1, dX11_edition_4, dX11_edition_7, dX11_edition_10, dX11_edition_11, dX11_edition_14, dX11_edition_17, dX11_edition_19, dX11_edition_22, dX11_edition_23, dX11_edition_24, dX11_edition_25, dX11_edition_28, dX11_edition_31, e_aload_n, e_iconst, e_bipush, e_ifCond, e_if_icmp, e_getfield, e_invokevirtual, e_ireturn, e_ri, e_rz, e_wIf_gt, e_wIc_lt, bp_8, fX11_291, fX11_65, fX11_74, ic_m1, jt_19_5, jt_7_15, e_call, e_callS0, e_callS1, e_callS2, e_callS3, e_callS4, e_pop0, e_pop1, e_tl0, e_tl1, tbX11_edition_f, tbX11_edition_p, tbX11_edition_k, tbX11_edition_c287, tbX11_edition_c292, g_0_8, g_222_4, g_0_7, cv_219_0, cv_219_1, cv_219_2, cv_219_3, cv_219_4, cv_222_0, cv_222_1, cv_222_2, cv_222_3, cv_222_4, spX3_loose, spX1_add]
    obtain ⟨h0, h1, h2, h3, hA, hC⟩ := h
    repeat' (with_reducible first | intro _ | refine And.intro ?_ ?_)
    all_goals first
      | omega
      | exact hA (by omega)
      | exact hC (by omega) (by omega)
      | skip
  · exact h.elim
def spX11_part : aSp := fun as S Q => match as with
  | [.inr (.inr 0), .inl a] => (¬ (0 ≤ a ∧ a < 40 ∧ ¬ S.1 209 a.toNat = -1) → Q (some (.inl (-1))) S) ∧ ((0 ≤ a ∧ a < 40 ∧ ¬ S.1 209 a.toNat = -1) → (ff (fun j => S.1 209 j == -1) 40 0 = -1 → Q (some (.inl (-1))) S) ∧ ∀ r : Nat, r < 40 → ff (fun j => S.1 209 j == -1) 40 0 = r → Q (some (.inl (r : Int))) (upI (upI S 209 r (S.1 209 a.toNat)) 210 r (S.1 210 a.toNat)))
  | _ => False
def tbX11_part : aTb := (fX11, pX11, fun j => lk [(197, (some 6), 3, spX6_add), (202, (some 6), 2, spX6_has)] j, kX11)
theorem tbX11_part_f : tbX11_part.1 = fX11 := rfl
theorem tbX11_part_p : tbX11_part.2.1 = pX11 := rfl
theorem tbX11_part_k : tbX11_part.2.2.2 = kX11 := rfl
theorem tbX11_part_c197 : tbX11_part.2.2.1 197 = some ((some 6), 3, spX6_add) := rfl
theorem tbX11_part_c202 : tbX11_part.2.2.1 202 = some ((some 6), 2, spX6_has) := rfl
theorem tbX11_part_all (l : Launch) : ∀ e ∈ ([(197, (some 6), 3, spX6_add), (202, (some 6), 2, spX6_has)] : List (Nat × Option Nat × Nat × aSp)), cOK l mX11_part e.1 e.2.1 e.2.2.1 e.2.2.2 ∨ mOK mX11_part e.1 e.2.1 e.2.2.1 e.2.2.2 := all_cons (cOK_of (okX6_add l) meX6_add cfX11_197 (by decide) (by decide)) (all_cons (cOK_of (okX6_has l) meX6_has cfX11_202 (by decide) (by decide)) (all_nil))
theorem tbX11_part_ok (l : Launch) : tOK l mX11_part tbX11_part := ⟨fX11_ok, pX11_ok, fun _ _ _ _ h => tbX11_part_all l _ (lk_mem h), kX11_ok⟩
set_option maxRecDepth 20000 in
set_option maxHeartbeats 4000000 in
theorem okX11_part (l : Launch) : aOK l mX11_part spX11_part := by
  refine aOK_of rfl fun as S Q h => ?_
  unfold spX11_part at h
  split at h
  · rename_i a
    refine ⟨Nat.le_of_ble_eq_true rfl, wp_ok (tbX11_part_ok l) Q (fun pc => false) 23 0 _ [] S ?_⟩
    show wp cX11_part tbX11_part 2 (some .int) Q (fun pc => false) (aGo l mX11_part Q) 23 0 [(0, .inr (.inr 0)), (1, .inl a)] [] S
    simp only [wp_s, wpC_f, wpC_t, e_wLd, e_wLd0, e_wLd1, e_wLd2, e_get1, e_get2, e_wJ, e_wJo, f40, f41, f42, f43, Nat.reduceAdd, Nat.reduceBEq, Nat.reduceMul, eq_self, true_or, or_true, true_and, dX11_part_0, dX11_part_1, dX11_part_4, dX11_part_5, dX11_part_8, dX11_part_11, dX11_part_12, dX11_part_13, dX11_part_14, dX11_part_17, dX11_part_18, dX11_part_21, dX11_part_24, dX11_part_25, dX11_part_26, dX11_part_27, dX11_part_30, dX11_part_33, dX11_part_34, dX11_part_35, dX11_part_38, e_aload_n, e_iload_n, e_iconst, e_ifCond, e_getfield, e_iaload, e_invokevirtual, e_ireturn, e_ri, e_rz, e_wIf_ne, fX11_203, fX11_206, fX11_49, ic_m1, jt_8_5, e_call, e_callS0, e_callS1, e_callS2, e_callS3, e_callS4, e_pop0, e_pop1, e_tl0, e_tl1, tbX11_part_f, tbX11_part_p, tbX11_part_k, tbX11_part_c197, tbX11_part_c202, l_209, cv_208_0, cv_208_1, cv_208_2, cv_208_3, cv_208_4, g_208_1, g_208_0, l_210, g_0_5, spX6_has, spX6_add, bi_0, bi_1, ne_eq, Classical.not_not, em_r, em_l]
    obtain ⟨hA, hB⟩ := h
    first
      | exact ⟨fun q => ⟨by omega, by omega, by omega, by omega, hB q⟩, fun q => hA q⟩
      | exact ⟨fun q => hA q, fun q => ⟨by omega, by omega, by omega, by omega, hB q⟩⟩
  · exact h.elim
def spX11_sense : aSp := fun as S Q => match as with
  | [.inr (.inr 0), .inl e, .inl u] => (¬ ((0 ≤ e ∧ e < S.1 14 4) ∧ (u = -1 ∨ ((0 ≤ u ∧ u < 40 ∧ ¬ S.1 209 u.toNat = -1) ∧ S.1 209 u.toNat = e))) → Q (some (.inl (-1))) S) ∧ ((0 ≤ e ∧ e < S.1 14 4) ∧ (u = -1 ∨ ((0 ≤ u ∧ u < 40 ∧ ¬ S.1 209 u.toNat = -1) ∧ S.1 209 u.toNat = e)) → (ff (fun j => S.1 209 j == -1) 40 0 = -1 → Q (some (.inl (-1))) S) ∧ ∀ r : Nat, r < 40 → ff (fun j => S.1 209 j == -1) 40 0 = r → Q (some (.inl (r : Int))) (upI (upI S 209 r e) 210 r u))
  | _ => False
def tbX11_sense : aTb := (fX11, pX11, fun j => lk [(177, (some 2), 2, spX2_has), (194, (some 11), 3, spX11_isTopOrSenseOf), (197, (some 6), 3, spX6_add)] j, kX11)
theorem tbX11_sense_f : tbX11_sense.1 = fX11 := rfl
theorem tbX11_sense_p : tbX11_sense.2.1 = pX11 := rfl
theorem tbX11_sense_k : tbX11_sense.2.2.2 = kX11 := rfl
theorem tbX11_sense_c177 : tbX11_sense.2.2.1 177 = some ((some 2), 2, spX2_has) := rfl
theorem tbX11_sense_c194 : tbX11_sense.2.2.1 194 = some ((some 11), 3, spX11_isTopOrSenseOf) := rfl
theorem tbX11_sense_c197 : tbX11_sense.2.2.1 197 = some ((some 6), 3, spX6_add) := rfl
theorem tbX11_sense_all (l : Launch) : ∀ e ∈ ([(177, (some 2), 2, spX2_has), (194, (some 11), 3, spX11_isTopOrSenseOf), (197, (some 6), 3, spX6_add)] : List (Nat × Option Nat × Nat × aSp)), cOK l mX11_sense e.1 e.2.1 e.2.2.1 e.2.2.2 ∨ mOK mX11_sense e.1 e.2.1 e.2.2.1 e.2.2.2 := all_cons (cOK_of (okX2_has l) meX2_has cfX11_177 (by decide) (by decide)) (all_cons (cOK_of (okX11_isTopOrSenseOf l) meX11_isTopOrSenseOf cfX11_194 (by decide) (by decide)) (all_cons (cOK_of (okX6_add l) meX6_add cfX11_197 (by decide) (by decide)) (all_nil)))
theorem tbX11_sense_ok (l : Launch) : tOK l mX11_sense tbX11_sense := ⟨fX11_ok, pX11_ok, fun _ _ _ _ h => tbX11_sense_all l _ (lk_mem h), kX11_ok⟩
set_option maxRecDepth 20000 in
set_option maxHeartbeats 4000000 in
theorem okX11_sense (l : Launch) : aOK l mX11_sense spX11_sense := by
  refine aOK_of rfl fun as S Q h => ?_
  unfold spX11_sense at h
  split at h
  · rename_i e u
    refine ⟨Nat.le_of_ble_eq_true rfl, wp_ok (tbX11_sense_ok l) Q (fun pc => false) 20 0 _ [] S ?_⟩
    show wp cX11_sense tbX11_sense 3 (some .int) Q (fun pc => false) (aGo l mX11_sense Q) 20 0 [(0, .inr (.inr 0)), (1, .inl e), (2, .inl u)] [] S
    simp only [wp_s, wpC_f, wpC_t, e_wLd, e_wLd0, e_wLd1, e_wLd2, e_get1, e_get2, e_wJ, e_wJo, f40, f41, f42, f43, Nat.reduceAdd, Nat.reduceBEq, Nat.reduceMul, eq_self, true_or, or_true, true_and, dX11_sense_0, dX11_sense_1, dX11_sense_4, dX11_sense_5, dX11_sense_8, dX11_sense_11, dX11_sense_12, dX11_sense_13, dX11_sense_14, dX11_sense_17, dX11_sense_20, dX11_sense_21, dX11_sense_22, dX11_sense_23, dX11_sense_26, dX11_sense_27, dX11_sense_28, dX11_sense_31, e_aload_n, e_iload_n, e_iconst, e_ifCond, e_getfield, e_invokevirtual, e_ireturn, e_ri, e_rz, e_wIf_ne, e_wIf_eq, fX11_35, fX11_49, ic_m1, jt_17_5, jt_8_12, e_call, e_callS0, e_callS1, e_callS2, e_callS3, e_callS4, e_pop0, e_pop1, e_tl0, e_tl1, tbX11_sense_f, tbX11_sense_p, tbX11_sense_k, tbX11_sense_c177, tbX11_sense_c194, tbX11_sense_c197, cv_208_0, cv_208_1, cv_208_2, cv_208_3, cv_208_4, cv_14_0, cv_14_1, cv_14_2, cv_14_3, cv_14_4, g_0_3, cv_0_0, cv_0_1, cv_0_2, cv_0_3, cv_0_4, g_0_5, spX2_has, spX11_isTopOrSenseOf, spX6_add, bi_0, bi_1, ne_eq, Classical.not_not, em_r, em_l]
    obtain ⟨hA, hB⟩ := h
    refine ⟨fun q => hA (fun z => q z.1), fun q => ?_⟩
    first
      | exact ⟨fun q2 => hB ⟨q, q2⟩, fun q2 => hA (fun z => q2 z.2)⟩
      | exact ⟨fun q2 => hA (fun z => q2 z.2), fun q2 => hB ⟨q, q2⟩⟩
  · exact h.elim
