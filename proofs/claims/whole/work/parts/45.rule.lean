/-! SLIPHOUSE: rule, told, count -/
theorem adS_1 {S : aS} {b0 N le i a b : Nat} {o f : Int} (h : ¬ a = le) : (adS S b0 N le i o f).1 a b = S.1 a b := if_neg (fun q => h q.1)
theorem adS_2 {S : aS} {b0 N le i a b : Nat} {o f : Int} (h : ¬ (b0 ≤ a ∧ a < b0 + N)) : (adS S b0 N le i o f).2 a b = S.2 a b := if_neg (fun q => h ⟨by omega, by omega⟩)
theorem adS_2f {S : aS} {b0 N le i a : Nat} {o f : Int} (h : ¬ (b0 ≤ a ∧ a < b0 + N)) : (adS S b0 N le i o f).2 a = S.2 a := funext fun b => adS_2 h
def ruA (S : aS) (o r : Int) : aS := upI (upL (upL (upI S 1 1 0) 12 (S.1 11 2).toNat o) 13 (S.1 11 2).toNat r) 11 2 (S.1 11 2 + 1)
def ruT (S : aS) (o r : Int) : aS := adS (adS (ruA S o r) 20 60 80 0 o r) 87 120 207 0 r o
def ruC (S : aS) (o r : Int) : Prop := (∀ i : Nat, i < 60 → S.1 80 i ≤ 81 ∧ (0 < S.1 80 i → chOK (S.2 (20 + i) 0) o r)) ∧ (∀ i : Nat, i < 120 → S.1 207 i ≤ 81 ∧ (0 < S.1 207 i → chOK (S.2 (87 + i) 0) r o))
theorem ruA_1 {S : aS} {o r : Int} {a b : Nat} (h1 : ¬ a = 1) (h2 : ¬ a = 11) : (ruA S o r).1 a b = S.1 a b := by
  unfold ruA
  rw [up_obj h2, upL_1, upL_1, up_obj h1]
theorem ruA_2 {S : aS} {o r : Int} {a b : Nat} (h1 : ¬ a = 12) (h2 : ¬ a = 13) : (ruA S o r).2 a b = S.2 a b := by
  unfold ruA
  rw [up_2, upL_obj h2, upL_obj h1, up_2]
theorem ruC_A {S : aS} {o r : Int} (h : ruC S o r) : ruC (ruA S o r) o r := by
  refine ⟨fun i hi => ?_, fun i hi => ?_⟩
  · rw [ruA_1 (by omega) (by omega), ruA_2 (by omega) (by omega)]; exact h.1 i hi
  · rw [ruA_1 (by omega) (by omega), ruA_2 (by omega) (by omega)]; exact h.2 i hi
theorem ruA_r {S : aS} {o r : Int} : (ruA S o r).1 11 2 = S.1 11 2 + 1 := up_hit
theorem ruA_o {S : aS} {o r : Int} : (ruA S o r).2 12 (S.1 11 2).toNat = o := by
  unfold ruA
  rw [up_2, upL_obj (by decide), upL_hit]
theorem ruA_f {S : aS} {o r : Int} : (ruA S o r).2 13 (S.1 11 2).toNat = r := by
  unfold ruA
  rw [up_2, upL_hit]
def spX11_rule : aSp := fun as S Q => match as with
  | [.inr (.inr 0), .inl n, .inl m] => (0 ≤ S.1 1 1 ∧ S.1 1 1 ≤ 40) ∧ (0 ≤ S.1 11 2 ∧ S.1 11 2 ≤ 10) ∧ S.1 18 1 = 0 ∧ ¬ S.1 85 1 = 0 ∧ (¬ ((1 ≤ n ∧ n ≤ 2) ∧ (1 ≤ m ∧ m ≤ 2) ∧ n + m ≤ S.1 1 1 ∧ S.1 11 2 < 10) → Q (some (.inl (-1))) S) ∧ (((1 ≤ n ∧ n ≤ 2) ∧ (1 ≤ m ∧ m ≤ 2) ∧ n + m ≤ S.1 1 1 ∧ S.1 11 2 < 10) → (((tpW (S.1 2) (S.1 1 1) n.toNat 0 0) = 0 ∨ (tpW (S.1 2) (S.1 1 1) m.toNat n.toNat 0) = 0 ∨ (tpW (S.1 2) (S.1 1 1) n.toNat 0 0) = (tpW (S.1 2) (S.1 1 1) m.toNat n.toNat 0)) → Q (some (.inl (-1))) (upI S 1 1 0)) ∧ (¬ ((tpW (S.1 2) (S.1 1 1) n.toNat 0 0) = 0 ∨ (tpW (S.1 2) (S.1 1 1) m.toNat n.toNat 0) = 0 ∨ (tpW (S.1 2) (S.1 1 1) n.toNat 0 0) = (tpW (S.1 2) (S.1 1 1) m.toNat n.toNat 0)) → ruC S (tpW (S.1 2) (S.1 1 1) n.toNat 0 0) (tpW (S.1 2) (S.1 1 1) m.toNat n.toNat 0) ∧ Q (some (.inl (S.1 11 2))) (ruT S (tpW (S.1 2) (S.1 1 1) n.toNat 0 0) (tpW (S.1 2) (S.1 1 1) m.toNat n.toNat 0))))
  | _ => False
def tbX11_rule : aTb := (fX11, pX11, fun j => lk [(152, none, 1, spX11_isRuleLength), (156, (some 8), 3, spX8_wordAt), (160, (some 8), 1, spX8_clear), (163, (some 5), 3, spX5_add), (170, (some 10), 2, spX10_addNeighbours)] j, kX11)
theorem tbX11_rule_f : tbX11_rule.1 = fX11 := rfl
theorem tbX11_rule_p : tbX11_rule.2.1 = pX11 := rfl
theorem tbX11_rule_k : tbX11_rule.2.2.2 = kX11 := rfl
theorem tbX11_rule_c152 : tbX11_rule.2.2.1 152 = some (none, 1, spX11_isRuleLength) := rfl
theorem tbX11_rule_c156 : tbX11_rule.2.2.1 156 = some ((some 8), 3, spX8_wordAt) := rfl
theorem tbX11_rule_c160 : tbX11_rule.2.2.1 160 = some ((some 8), 1, spX8_clear) := rfl
theorem tbX11_rule_c163 : tbX11_rule.2.2.1 163 = some ((some 5), 3, spX5_add) := rfl
theorem tbX11_rule_c170 : tbX11_rule.2.2.1 170 = some ((some 10), 2, spX10_addNeighbours) := rfl
theorem tbX11_rule_all (l : Launch) : ∀ e ∈ ([(152, none, 1, spX11_isRuleLength), (156, (some 8), 3, spX8_wordAt), (160, (some 8), 1, spX8_clear), (163, (some 5), 3, spX5_add), (170, (some 10), 2, spX10_addNeighbours)] : List (Nat × Option Nat × Nat × aSp)), cOK l mX11_rule e.1 e.2.1 e.2.2.1 e.2.2.2 ∨ mOK mX11_rule e.1 e.2.1 e.2.2.1 e.2.2.2 := all_cons (cOK_of (okX11_isRuleLength l) meX11_isRuleLength cfX11_152 (by decide) (by decide)) (all_cons (cOK_of (okX8_wordAt l) meX8_wordAt cfX11_156 (by decide) (by decide)) (all_cons (cOK_of (okX8_clear l) meX8_clear cfX11_160 (by decide) (by decide)) (all_cons (cOK_of (okX5_add l) meX5_add cfX11_163 (by decide) (by decide)) (all_cons (cOK_of (okX10_addNeighbours l) meX10_addNeighbours cfX11_170 (by decide) (by decide)) (all_nil)))))
theorem tbX11_rule_ok (l : Launch) : tOK l mX11_rule tbX11_rule := ⟨fX11_ok, pX11_ok, fun _ _ _ _ h => tbX11_rule_all l _ (lk_mem h), kX11_ok⟩
set_option maxRecDepth 20000 in
set_option maxHeartbeats 4000000 in
theorem okX11_rule (l : Launch) : aOK l mX11_rule spX11_rule := by
  refine aOK_of rfl fun as S Q h => ?_
  unfold spX11_rule at h
  split at h
  · rename_i n m
    refine ⟨Nat.le_of_ble_eq_true rfl, wp_ok (tbX11_rule_ok l) Q (fun pc => false) 69 0 _ [] S ?_⟩
    show wp cX11_rule tbX11_rule 8 (some .int) Q (fun pc => false) (aGo l mX11_rule Q) 69 0 [(0, .inr (.inr 0)), (1, .inl n), (2, .inl m)] [] S
    simp only [wp_s, wpC_f, wpC_t, e_wLd, e_wLd0, e_wLd1, e_wLd2, e_get1, e_get2, e_wJ, e_wJo, f40, f41, f42, f43, Nat.reduceAdd, Nat.reduceBEq, Nat.reduceMul, eq_self, true_or, or_true, true_and, dX11_rule_0, dX11_rule_1, dX11_rule_4, dX11_rule_7, dX11_rule_8, dX11_rule_11, dX11_rule_14, dX11_rule_15, dX11_rule_18, dX11_rule_21, dX11_rule_22, dX11_rule_23, dX11_rule_24, dX11_rule_27, dX11_rule_28, dX11_rule_31, dX11_rule_34, dX11_rule_36, dX11_rule_39, dX11_rule_40, dX11_rule_41, dX11_rule_42, dX11_rule_45, dX11_rule_46, dX11_rule_47, dX11_rule_50, dX11_rule_51, dX11_rule_52, dX11_rule_55, dX11_rule_56, dX11_rule_57, dX11_rule_60, dX11_rule_62, dX11_rule_63, dX11_rule_66, dX11_rule_69, dX11_rule_70, dX11_rule_71, dX11_rule_72, dX11_rule_75, dX11_rule_77, dX11_rule_78, dX11_rule_79, dX11_rule_82, dX11_rule_83, dX11_rule_85, dX11_rule_86, dX11_rule_89, dX11_rule_90, dX11_rule_91, dX11_rule_92, dX11_rule_95, dX11_rule_96, dX11_rule_98, dX11_rule_101, dX11_rule_103, dX11_rule_104, dX11_rule_107, dX11_rule_110, dX11_rule_112, dX11_rule_115, dX11_rule_116, dX11_rule_119, dX11_rule_122, dX11_rule_124, dX11_rule_127, dX11_rule_129, e_aload_n, e_iload_n, e_iload, e_lload_n, e_lload, e_istore, e_lstore_n, e_lstore, e_iconst, e_bipush, e_lconst, e_iadd, e_lcmp, e_ifCond, e_if_icmp, e_getfield, e_invokevirtual, e_invokestatic, e_ireturn, e_wSt0, e_wSt1, e_wSt2, e_isL0, e_isL1, e_isL2, e_lset, e_lclr0, e_lclr1, e_lclr2, e_lput0, e_lput1, e_lput2, e_wInc, e_wInc0, Nat.reduceLT, not_false_eq_true, Bool.or_false, Bool.false_or, Bool.or_true, Bool.true_or, Bool.and_false, Bool.false_and, Bool.and_true, Bool.true_and, lc0, lc1, e_wI2, e_wCmp, e_ri, e_rz, e_wIc_lt, e_wIf_ne, e_wIf_eq, bp_10, fX11_10, fX11_155, fX11_166, fX11_173, fX11_26, fX11_35, fX11_42, fX11_87, ic_0, ic_m1, jt_11_28, jt_24_15, jt_36_5, jt_4_35, jt_72_17, jt_79_10, jt_86_5, e_call, e_callS0, e_callS1, e_callS2, e_callS3, e_callS4, e_pop0, e_pop1, e_tl0, e_tl1, tbX11_rule_f, tbX11_rule_p, tbX11_rule_k, tbX11_rule_c152, tbX11_rule_c156, tbX11_rule_c160, tbX11_rule_c163, tbX11_rule_c170, cv_11_0, cv_11_1, cv_11_2, cv_11_3, cv_11_4, g_0_0, g_0_3, g_1_1, g_14_3, g_81_3, cv_18_0, cv_18_1, cv_18_2, cv_18_3, cv_18_4, cv_85_0, cv_85_1, cv_85_2, cv_85_3, cv_85_4, cv_1_0, cv_1_1, cv_1_2, cv_1_3, cv_1_4, g_0_4, g_0_2, g_11_2, spX11_isRuleLength, spX8_wordAt, spX8_clear, spX5_add, spX10_addNeighbours, lCmp_0, bi_0, bi_1, ne_eq, Classical.not_not, em_r, em_l]
    obtain ⟨⟨h0, h1⟩, ⟨h2, h3⟩, h4, h5, hA, hB⟩ := h
    by_cases hc : (1 ≤ n ∧ n ≤ 2) ∧ (1 ≤ m ∧ m ≤ 2) ∧ n + m ≤ S.1 1 1 ∧ S.1 11 2 < 10
    · by_cases hd : ((tpW (S.1 2) (S.1 1 1) n.toNat 0 0) = 0 ∨ (tpW (S.1 2) (S.1 1 1) m.toNat n.toNat 0) = 0 ∨ (tpW (S.1 2) (S.1 1 1) n.toNat 0 0) = (tpW (S.1 2) (S.1 1 1) m.toNat n.toNat 0))
      · have hA' := (hB hc).1 hd
        repeat' (with_reducible first | intro _ | refine And.intro ?_ ?_)
        all_goals (try simp (disch := first | omega | decide) only [wI_id, up_hit, up_obj, Int.toNat_zero])
        all_goals (try simp (disch := first | omega | decide) only [wI_id, up_obj, Int.toNat_zero] at *)
        all_goals first | omega | exact hA' | (exfalso; rcases hd with q | q | q <;> contradiction) | contradiction | skip
      · obtain ⟨hC, hQ⟩ := (hB hc).2 hd
        repeat' (with_reducible first | intro _ | refine And.intro ?_ ?_)
        all_goals (try simp (disch := first | omega | decide) only [wI_id, up_hit, up_obj, upL_hit, upL_obj, up_2, upL_1, adS_1, adS_2, Int.toNat_zero])
        all_goals (try simp (disch := first | omega | decide) only [wI_id, up_obj, Int.toNat_zero] at *)
        all_goals first | omega | exact hQ | exact (hC.1 _ (by assumption)).1 | exact (hC.2 _ (by assumption)).1 | exact (hC.1 _ (by assumption)).2 (by assumption) | exact (hC.2 _ (by assumption)).2 (by assumption) | exact absurd (Or.inl (by assumption)) hd | exact absurd (Or.inr (Or.inl (by assumption))) hd | exact absurd (Or.inr (Or.inr (by assumption))) hd | contradiction | skip
    · have hA' := hA hc
      repeat' (with_reducible first | intro _ | refine And.intro ?_ ?_)
      all_goals (try simp (disch := first | omega | decide) only [wI_id, up_obj, Int.toNat_zero] at *)
      all_goals first | omega | exact hA' | skip
  · exact h.elim
