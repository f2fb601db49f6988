/-! THE REFERENCE: rule, span, edition, as, differ -/
theorem narB_0 : narB 0 = 0 := by decide
def zkM (S : aS) (i : Nat) : aS := stA S 259 (fun j => if i ≤ j ∧ j < 7200 then 0 else S.1 259 j)
def ruM (S : aS) (o r : Int) : aS := upI (upL (upL S 264 (S.1 245 14).toNat o) 265 (S.1 245 14).toNat r) 245 14 (S.1 245 14 + 1)
def ruZ (S : aS) (o r : Int) : aS := zkM (ruM S o r) 0
section ZK
variable {S : aS} {i : Nat}
theorem zk_end (h : 7200 ≤ i) : zkM S i = S := by
  unfold zkM
  (refine st_ext (fun x y => ?_) (fun x y => ?_) <;> (try simp only [stA, upI, upL, up2]) <;> (repeat' split) <;> first | rfl | omega | (simp_all; done) | (simp_all; omega) | (have hq : y = i := (by omega); subst hq; first | rfl | omega | (simp_all; done) | (simp_all; omega)) | (congr 2 <;> omega) | (congr 3 <;> omega))
theorem zk_yes (h : i < 7200) : zkM (upI S 259 i 0) (i + 1) = zkM S i := by
  unfold zkM
  (refine st_ext (fun x y => ?_) (fun x y => ?_) <;> (try simp only [stA, upI, upL, up2]) <;> (repeat' split) <;> first | rfl | omega | (simp_all; done) | (simp_all; omega) | (have hq : y = i := (by omega); subst hq; first | rfl | omega | (simp_all; done) | (simp_all; omega)) | (congr 2 <;> omega) | (congr 3 <;> omega))
end ZK
def spX12_rule : aSp := fun as S Q => match as with
  | [.inr (.inr 245), .inl n, .inl m] => (0 ≤ S.1 245 14 ∧ S.1 245 14 ≤ 10) ∧ S.1 245 2 ≤ 40 ∧ (¬ ((1 ≤ n ∧ n ≤ 2) ∧ (1 ≤ m ∧ m ≤ 2) ∧ ¬ S.1 245 14 = 10 ∧ n + m ≤ S.1 245 2) → Q (some (.inl (-1))) S) ∧ ((1 ≤ n ∧ n ≤ 2) ∧ (1 ≤ m ∧ m ≤ 2) ∧ ¬ S.1 245 14 = 10 ∧ n + m ≤ S.1 245 2 → (((tkW S (n + m) n 0) = 0 ∨ (tkW S (n + m) m n) = 0 ∨ (tkW S (n + m) n 0) = (tkW S (n + m) m n)) → Q (some (.inl (-1))) (tkS S (n + m))) ∧ (¬ ((tkW S (n + m) n 0) = 0 ∨ (tkW S (n + m) m n) = 0 ∨ (tkW S (n + m) n 0) = (tkW S (n + m) m n)) → Q (some (.inl (S.1 245 14))) (ruZ (tkS S (n + m)) (tkW S (n + m) n 0) (tkW S (n + m) m n))))
  | _ => False
def tbX12_rule : aTb := (fX12, pX12, fun j => lk [(138, (some 12), 2, spX12_takes), (141, (some 12), 3, spX12_word)] j, kX12)
theorem tbX12_rule_f : tbX12_rule.1 = fX12 := rfl
theorem tbX12_rule_p : tbX12_rule.2.1 = pX12 := rfl
theorem tbX12_rule_k : tbX12_rule.2.2.2 = kX12 := rfl
theorem tbX12_rule_c138 : tbX12_rule.2.2.1 138 = some ((some 12), 2, spX12_takes) := rfl
theorem tbX12_rule_c141 : tbX12_rule.2.2.1 141 = some ((some 12), 3, spX12_word) := rfl
theorem tbX12_rule_all (l : Launch) : ∀ e ∈ ([(138, (some 12), 2, spX12_takes), (141, (some 12), 3, spX12_word)] : List (Nat × Option Nat × Nat × aSp)), cOK l mX12_rule e.1 e.2.1 e.2.2.1 e.2.2.2 ∨ mOK mX12_rule e.1 e.2.1 e.2.2.1 e.2.2.2 := all_cons (cOK_of (okX12_takes l) meX12_takes cfX12_138 (by decide) (by decide)) (all_cons (cOK_of (okX12_word l) meX12_word cfX12_141 (by decide) (by decide)) (all_nil))
theorem tbX12_rule_ok (l : Launch) : tOK l mX12_rule tbX12_rule := ⟨fX12_ok, pX12_ok, fun _ _ _ _ h => tbX12_rule_all l _ (lk_mem h), kX12_ok⟩
theorem lCmp_e {x y : Int} : (lCmp x y = 0) = (x = y) := by
  unfold lCmp
  apply propext
  split
  · constructor <;> omega
  · split <;> constructor <;> omega
set_option maxRecDepth 20000 in
set_option maxHeartbeats 4000000 in
theorem lpX12_rule (l : Launch) (Q : Option aV → aS → Prop) : ∀ (n : Nat) (S : aS) (a b c d r : Int) (i : Nat), i + n = 7200 → S.1 245 14 = r + 1 → (0 ≤ r ∧ r ≤ 10) → Q (some (.inl r)) (zkM S i) → aGo l mX12_rule Q 119 [(0, .inr (.inr 245)), (1, .inl a), (2, .inl b), (3, .inr (.inl c)), (5, .inr (.inl d)), (7, .inl (i : Int))] [] S := by
  intro n
  induction n using Nat.strongRecOn with
  | _ n ih =>
  intro S  a b c d r  i  h0 h1 h2 h3
  refine wp_go (tbX12_rule_ok l) (fun pc => pc == 119) 90 dX12_rule_119 ?_
  show ws1 tbX12_rule 8 (some .int) Q (wp cX12_rule tbX12_rule 8 (some .int) Q (fun pc => pc == 119) (aGo l mX12_rule Q) 90) (.iload 7) 2 119 [(0, .inr (.inr 245)), (1, .inl a), (2, .inl b), (3, .inr (.inl c)), (5, .inr (.inl d)), (7, .inl (i : Int))] [] S
  simp only [wp_s, wpC_f, wpC_t, e_wLd, e_wLd0, e_wLd1, e_wLd2, e_get1, e_get2, e_wJ, e_wJo, f40, f41, f42, f43, Nat.reduceAdd, Nat.reduceBEq, Nat.reduceMul, eq_self, true_or, or_true, true_and, dX12_rule_0, dX12_rule_1, dX12_rule_2, dX12_rule_5, dX12_rule_6, dX12_rule_7, dX12_rule_10, dX12_rule_11, dX12_rule_12, dX12_rule_15, dX12_rule_16, dX12_rule_17, dX12_rule_20, dX12_rule_21, dX12_rule_24, dX12_rule_26, dX12_rule_29, dX12_rule_30, dX12_rule_31, dX12_rule_32, dX12_rule_33, dX12_rule_36, dX12_rule_39, dX12_rule_40, dX12_rule_41, dX12_rule_42, dX12_rule_43, dX12_rule_44, dX12_rule_45, dX12_rule_48, dX12_rule_49, dX12_rule_50, dX12_rule_51, dX12_rule_54, dX12_rule_55, dX12_rule_56, dX12_rule_57, dX12_rule_58, dX12_rule_61, dX12_rule_63, dX12_rule_64, dX12_rule_65, dX12_rule_66, dX12_rule_69, dX12_rule_71, dX12_rule_72, dX12_rule_73, dX12_rule_76, dX12_rule_77, dX12_rule_79, dX12_rule_80, dX12_rule_83, dX12_rule_84, dX12_rule_85, dX12_rule_86, dX12_rule_89, dX12_rule_90, dX12_rule_93, dX12_rule_94, dX12_rule_95, dX12_rule_96, dX12_rule_99, dX12_rule_100, dX12_rule_103, dX12_rule_105, dX12_rule_106, dX12_rule_107, dX12_rule_108, dX12_rule_111, dX12_rule_112, dX12_rule_113, dX12_rule_116, dX12_rule_117, dX12_rule_119, dX12_rule_121, dX12_rule_124, dX12_rule_127, dX12_rule_128, dX12_rule_131, dX12_rule_133, dX12_rule_134, dX12_rule_135, dX12_rule_138, dX12_rule_141, dX12_rule_142, dX12_rule_145, dX12_rule_146, dX12_rule_147, e_aload_n, e_iload_n, e_iload, e_lload_n, e_lload, e_istore, e_lstore_n, e_lstore, e_iconst, e_bipush, e_sipush, e_lconst, e_iadd, e_isub, e_lcmp, e_iinc, e_ifCond, e_if_icmp, e_goto, e_getfield, e_putfield, e_bastore, e_lastore, e_invokevirtual, e_ireturn, e_wSt0, e_wSt1, e_wSt2, e_isL0, e_isL1, e_isL2, e_lset, e_lclr0, e_lclr1, e_lclr2, e_lput0, e_lput1, e_lput2, e_wInc, e_wInc0, Nat.reduceLT, not_false_eq_true, Bool.or_false, Bool.false_or, Bool.or_true, Bool.true_or, Bool.and_false, Bool.false_and, Bool.and_true, Bool.true_and, e_wCmp, e_wI2, e_ri, e_rz, lc0, lc1, e_wIc_lt, e_wIc_gt, e_wIf_ne, e_wIc_le, e_wIc_eq, e_wIf_eq, e_wIc_ge, bp_10, fX12_103, fX12_155, fX12_52, fX12_67, fX12_70, ic_0, ic_1, ic_2, ic_m1, jt_124_17, jt_12_27, jt_138_m19, jt_17_22, jt_26_13, jt_2_37, jt_36_5, jt_66_17, jt_73_10, jt_7_32, jt_80_5, pX12_155, sp_7200, e_call, e_callS0, e_callS1, e_callS2, e_callS3, e_callS4, e_pop0, e_pop1, e_tl0, e_tl1, tbX12_rule_f, tbX12_rule_p, tbX12_rule_k, tbX12_rule_c138, tbX12_rule_c141, g_245_25, s_265, s_259, g_245_2, cv_245_0, cv_245_1, cv_245_2, cv_245_3, cv_245_4, g_245_24, s_264, g_245_14, p_245_14, g_245_19, spX12_takes, spX12_word, lCmp_e, narB_0, bi_0, bi_1, ne_eq, Classical.not_not, em_r, em_l]
  simp only [h1]
  simp (disch := omega) only [wI_id, Int.toNat_natCast, Int.add_sub_cancel]
  refine ⟨fun q => ?_, fun q => ⟨by omega, by omega, ?_⟩⟩
  · rw [zk_end (by omega)] at h3; exact h3
  · exact ih (n - 1) (by omega) _ a b c d r (i + 1) (by omega) (by rw [up_obj (by decide)]; exact h1) h2 (by rw [zk_yes (by omega)]; exact h3)
set_option maxRecDepth 20000 in
set_option maxHeartbeats 4000000 in
theorem okX12_rule (l : Launch) : aOK l mX12_rule spX12_rule := by
  refine aOK_of rfl fun as S Q h => ?_
  unfold spX12_rule at h
  split at h
  · rename_i n m
    refine ⟨Nat.le_of_ble_eq_true rfl, wp_ok (tbX12_rule_ok l) Q (fun pc => pc == 119) 90 0 _ [] S ?_⟩
    show wp cX12_rule tbX12_rule 8 (some .int) Q (fun pc => pc == 119) (aGo l mX12_rule Q) 90 0 [(0, .inr (.inr 245)), (1, .inl n), (2, .inl m)] [] S
    simp only [wp_s, wpC_f, wpC_t, e_wLd, e_wLd0, e_wLd1, e_wLd2, e_get1, e_get2, e_wJ, e_wJo, f40, f41, f42, f43, Nat.reduceAdd, Nat.reduceBEq, Nat.reduceMul, eq_self, true_or, or_true, true_and, dX12_rule_0, dX12_rule_1, dX12_rule_2, dX12_rule_5, dX12_rule_6, dX12_rule_7, dX12_rule_10, dX12_rule_11, dX12_rule_12, dX12_rule_15, dX12_rule_16, dX12_rule_17, dX12_rule_20, dX12_rule_21, dX12_rule_24, dX12_rule_26, dX12_rule_29, dX12_rule_30, dX12_rule_31, dX12_rule_32, dX12_rule_33, dX12_rule_36, dX12_rule_39, dX12_rule_40, dX12_rule_41, dX12_rule_42, dX12_rule_43, dX12_rule_44, dX12_rule_45, dX12_rule_48, dX12_rule_49, dX12_rule_50, dX12_rule_51, dX12_rule_54, dX12_rule_55, dX12_rule_56, dX12_rule_57, dX12_rule_58, dX12_rule_61, dX12_rule_63, dX12_rule_64, dX12_rule_65, dX12_rule_66, dX12_rule_69, dX12_rule_71, dX12_rule_72, dX12_rule_73, dX12_rule_76, dX12_rule_77, dX12_rule_79, dX12_rule_80, dX12_rule_83, dX12_rule_84, dX12_rule_85, dX12_rule_86, dX12_rule_89, dX12_rule_90, dX12_rule_93, dX12_rule_94, dX12_rule_95, dX12_rule_96, dX12_rule_99, dX12_rule_100, dX12_rule_103, dX12_rule_105, dX12_rule_106, dX12_rule_107, dX12_rule_108, dX12_rule_111, dX12_rule_112, dX12_rule_113, dX12_rule_116, dX12_rule_117, dX12_rule_119, dX12_rule_121, dX12_rule_124, dX12_rule_127, dX12_rule_128, dX12_rule_131, dX12_rule_133, dX12_rule_134, dX12_rule_135, dX12_rule_138, dX12_rule_141, dX12_rule_142, dX12_rule_145, dX12_rule_146, dX12_rule_147, e_aload_n, e_iload_n, e_iload, e_lload_n, e_lload, e_istore, e_lstore_n, e_lstore, e_iconst, e_bipush, e_sipush, e_lconst, e_iadd, e_isub, e_lcmp, e_iinc, e_ifCond, e_if_icmp, e_goto, e_getfield, e_putfield, e_bastore, e_lastore, e_invokevirtual, e_ireturn, e_wSt0, e_wSt1, e_wSt2, e_isL0, e_isL1, e_isL2, e_lset, e_lclr0, e_lclr1, e_lclr2, e_lput0, e_lput1, e_lput2, e_wInc, e_wInc0, Nat.reduceLT, not_false_eq_true, Bool.or_false, Bool.false_or, Bool.or_true, Bool.true_or, Bool.and_false, Bool.false_and, Bool.and_true, Bool.true_and, e_wCmp, e_wI2, e_ri, e_rz, lc0, lc1, e_wIc_lt, e_wIc_gt, e_wIf_ne, e_wIc_le, e_wIc_eq, e_wIf_eq, e_wIc_ge, bp_10, fX12_103, fX12_155, fX12_52, fX12_67, fX12_70, ic_0, ic_1, ic_2, ic_m1, jt_124_17, jt_12_27, jt_138_m19, jt_17_22, jt_26_13, jt_2_37, jt_36_5, jt_66_17, jt_73_10, jt_7_32, jt_80_5, pX12_155, sp_7200, e_call, e_callS0, e_callS1, e_callS2, e_callS3, e_callS4, e_pop0, e_pop1, e_tl0, e_tl1, tbX12_rule_f, tbX12_rule_p, tbX12_rule_k, tbX12_rule_c138, tbX12_rule_c141, g_245_25, s_265, s_259, g_245_2, cv_245_0, cv_245_1, cv_245_2, cv_245_3, cv_245_4, g_245_24, s_264, g_245_14, p_245_14, g_245_19, spX12_takes, spX12_word, lCmp_e, narB_0, bi_0, bi_1, ne_eq, Classical.not_not, em_r, em_l]
    obtain ⟨h0, h1, hA, hB⟩ := h
    by_cases hc : (1 ≤ n ∧ n ≤ 2) ∧ (1 ≤ m ∧ m ≤ 2) ∧ ¬ S.1 245 14 = 10 ∧ n + m ≤ S.1 245 2
    · have en : wI (n + m) = n + m := wI_id (by omega) (by omega)
      have e14 : (tkS S (n + m)).1 245 14 = S.1 245 14 := tk_f (by decide)
      have eW1 : wd8 ((tkS S (n + m)).1 247) n.toNat 0 0 = tkW S (n + m) n 0 := rfl
      have eW2 : wd8 ((tkS S (n + m)).1 247) m.toNat n.toNat 0 = tkW S (n + m) m n := rfl
      simp only [en, Int.toNat_zero, eW1, eW2]
      clear eW1 eW2
      generalize tkW S (n + m) n 0 = W1 at *
      generalize tkW S (n + m) m n = W2 at *
      simp (disch := first | omega | decide) only [upL_1, e14, wI_id]
      unfold ruZ ruM at hB
      simp only [e14] at hB
      replace hA := hid hA
      replace hB := hid hB
      repeat' (with_reducible first | intro _ | refine And.intro ?_ ?_)
      all_goals first
        | omega
        | exact (hB hc).1 (Or.inl (by assumption))
        | exact (hB hc).1 (Or.inr (Or.inl (by assumption)))
        | exact (hB hc).1 (Or.inr (Or.inr (by assumption)))
        | exact lpX12_rule l Q 7200 _ _ _ _ _ (S.1 245 14) 0 rfl up_hit ⟨by omega, by omega⟩ ((hB hc).2 (by omega))
        | skip
    · repeat' (with_reducible first | intro _ | refine And.intro ?_ ?_)
      all_goals (try simp (disch := omega) only [wI_id] at *)
      all_goals first
        | omega
        | exact hA hc
        | exact absurd (by omega) hc
        | skip
  · exact h.elim
def spX12_span : aSp := fun as S Q => match as with
  | [.inr (.inr 245), .inl b, .inl w] => (0 ≤ S.1 245 3 ∧ S.1 245 3 ≤ 30) ∧ (0 ≤ S.1 245 12 ∧ S.1 245 12 ≤ 120) ∧ (¬ (0 ≤ b ∧ b < S.1 245 3) ∨ w < 0 ∨ 4 < w → Q (some (.inl (-1))) S) ∧ ((0 ≤ b ∧ b < S.1 245 3) → (w = 0 → Q (some (.inl (S.1 250 b.toNat))) S) ∧ (w = 1 → Q (some (.inl (S.1 251 b.toNat))) S) ∧ (w = 2 → Q (some (.inl (S.1 248 b.toNat))) S) ∧ (w = 3 → Q (some (.inl (S.1 249 b.toNat))) S) ∧ (w = 4 → Q (some (.inl (cnt (fun j => S.1 255 j == b) (S.1 245 12).toNat))) S))
  | _ => False
def tbX12_span : aTb := (fX12, pX12, fun j => lk [(125, (some 12), 2, spX12_isBook)] j, kX12)
theorem tbX12_span_f : tbX12_span.1 = fX12 := rfl
theorem tbX12_span_p : tbX12_span.2.1 = pX12 := rfl
theorem tbX12_span_k : tbX12_span.2.2.2 = kX12 := rfl
theorem tbX12_span_c125 : tbX12_span.2.2.1 125 = some ((some 12), 2, spX12_isBook) := rfl
theorem tbX12_span_all (l : Launch) : ∀ e ∈ ([(125, (some 12), 2, spX12_isBook)] : List (Nat × Option Nat × Nat × aSp)), cOK l mX12_span e.1 e.2.1 e.2.2.1 e.2.2.2 ∨ mOK mX12_span e.1 e.2.1 e.2.2.1 e.2.2.2 := all_cons (cOK_of (okX12_isBook l) meX12_isBook cfX12_125 (by decide) (by decide)) (all_nil)
theorem tbX12_span_ok (l : Launch) : tOK l mX12_span tbX12_span := ⟨fX12_ok, pX12_ok, fun _ _ _ _ h => tbX12_span_all l _ (lk_mem h), kX12_ok⟩
set_option maxRecDepth 20000 in
set_option maxHeartbeats 4000000 in
theorem lpX12_span (l : Launch) (Q : Option aV → aS → Prop) : ∀ (n : Nat) (S : aS) (b w : Int) (i : Nat), i + n = (S.1 245 12).toNat → Q (some (.inl (cnt (fun j => S.1 255 j == b) ((S.1 245 12).toNat)))) S → S.1 245 12 ≤ 120 → aGo l mX12_span Q 79 [(0, .inr (.inr 245)), (1, .inl b), (2, .inl w), (3, .inl (cnt (fun j => S.1 255 j == b) i)), (4, .inl (i : Int))] [] S := by
  intro n
  induction n using Nat.strongRecOn with
  | _ n ih =>
  intro S  b w  i  h0 h1 h2
  refine wp_go (tbX12_span_ok l) (fun pc => pc == 79) 56 dX12_span_79 ?_
  show ws1 tbX12_span 5 (some .int) Q (wp cX12_span tbX12_span 5 (some .int) Q (fun pc => pc == 79) (aGo l mX12_span Q) 56) (.iload 4) 2 79 [(0, .inr (.inr 245)), (1, .inl b), (2, .inl w), (3, .inl (cnt (fun j => S.1 255 j == b) i)), (4, .inl (i : Int))] [] S
  simp only [wp_s, wpC_f, wpC_t, e_wLd, e_wLd0, e_wLd1, e_wLd2, e_get1, e_get2, e_wJ, e_wJo, f40, f41, f42, f43, Nat.reduceAdd, Nat.reduceBEq, Nat.reduceMul, eq_self, true_or, or_true, true_and, dX12_span_0, dX12_span_1, dX12_span_2, dX12_span_5, dX12_span_8, dX12_span_9, dX12_span_10, dX12_span_11, dX12_span_12, dX12_span_13, dX12_span_48, dX12_span_49, dX12_span_52, dX12_span_53, dX12_span_54, dX12_span_55, dX12_span_56, dX12_span_59, dX12_span_60, dX12_span_61, dX12_span_62, dX12_span_63, dX12_span_66, dX12_span_67, dX12_span_68, dX12_span_69, dX12_span_70, dX12_span_73, dX12_span_74, dX12_span_75, dX12_span_76, dX12_span_77, dX12_span_79, dX12_span_81, dX12_span_82, dX12_span_85, dX12_span_88, dX12_span_89, dX12_span_90, dX12_span_93, dX12_span_95, dX12_span_96, dX12_span_97, dX12_span_100, dX12_span_101, dX12_span_104, dX12_span_105, dX12_span_106, dX12_span_107, dX12_span_110, dX12_span_113, dX12_span_114, dX12_span_115, dX12_span_116, e_aload_n, e_iload_n, e_iload, e_istore_n, e_istore, e_iconst, e_iadd, e_iinc, e_ifCond, e_if_icmp, e_goto, e_tableswitch, e_getfield, e_iaload, e_invokevirtual, e_ireturn, e_wSt0, e_wSt1, e_wSt2, e_isL0, e_isL1, e_isL2, e_lset, e_lclr0, e_lclr1, e_lclr2, e_lput0, e_lput1, e_lput2, e_wInc, e_wInc0, Nat.reduceLT, not_false_eq_true, Bool.or_false, Bool.false_or, Bool.or_true, Bool.true_or, Bool.and_false, Bool.false_and, Bool.and_true, Bool.true_and, e_tsw, e_tsw0, e_tsw1, e_ri, e_rz, e_wI2, e_wIf_ne, e_wIc_ne, e_wIc_ge, fX12_132, fX12_16, fX12_20, fX12_23, fX12_26, fX12_39, ic_0, ic_1, ic_m1, jt_101_4, jt_110_m31, jt_13_102, jt_13_35, jt_13_42, jt_13_49, jt_13_56, jt_13_63, jt_5_5, jt_85_28, jt_97_7, e_call, e_callS0, e_callS1, e_callS2, e_callS3, e_callS4, e_pop0, e_pop1, e_tl0, e_tl1, tbX12_span_f, tbX12_span_p, tbX12_span_k, tbX12_span_c125, g_245_15, l_255, l_249, g_245_12, g_245_8, l_248, g_245_5, l_251, cv_245_0, cv_245_1, cv_245_2, cv_245_3, cv_245_4, g_245_7, l_250, g_245_6, spX12_isBook, bi_0, bi_1, ne_eq, Classical.not_not, em_r, em_l]
  have cb := cnt_b (fun j => S.1 255 j == b) i
  repeat' (with_reducible first | intro _ | refine And.intro ?_ ?_)
  all_goals (try simp (disch := omega) only [wI_id, Int.toNat_natCast, Int.add_zero] at *)
  all_goals first
    | omega
    | (rw [show (S.1 245 12).toNat = i from by omega] at h1; exact h1)
    | (have e := ih (n - 1) (by omega) S b w (i + 1) (by omega) h1 h2; rw [cnt_f (by first | (simp_all; done) | (simp; omega))] at e; exact e)
    | (have e := ih (n - 1) (by omega) S b w (i + 1) (by omega) h1 h2; rw [cnt_t (by first | (simp_all; done) | (simp; omega))] at e; exact e)
    | skip
set_option maxRecDepth 20000 in
set_option maxHeartbeats 4000000 in
theorem okX12_span (l : Launch) : aOK l mX12_span spX12_span := by
  refine aOK_of rfl fun as S Q h => ?_
  unfold spX12_span at h
  split at h
  · rename_i b w
    refine ⟨Nat.le_of_ble_eq_true rfl, wp_ok (tbX12_span_ok l) Q (fun pc => pc == 79) 56 0 _ [] S ?_⟩
    show wp cX12_span tbX12_span 5 (some .int) Q (fun pc => pc == 79) (aGo l mX12_span Q) 56 0 [(0, .inr (.inr 245)), (1, .inl b), (2, .inl w)] [] S
    simp only [wp_s, wpC_f, wpC_t, e_wLd, e_wLd0, e_wLd1, e_wLd2, e_get1, e_get2, e_wJ, e_wJo, f40, f41, f42, f43, Nat.reduceAdd, Nat.reduceBEq, Nat.reduceMul, eq_self, true_or, or_true, true_and, dX12_span_0, dX12_span_1, dX12_span_2, dX12_span_5, dX12_span_8, dX12_span_9, dX12_span_10, dX12_span_11, dX12_span_12, dX12_span_13, dX12_span_48, dX12_span_49, dX12_span_52, dX12_span_53, dX12_span_54, dX12_span_55, dX12_span_56, dX12_span_59, dX12_span_60, dX12_span_61, dX12_span_62, dX12_span_63, dX12_span_66, dX12_span_67, dX12_span_68, dX12_span_69, dX12_span_70, dX12_span_73, dX12_span_74, dX12_span_75, dX12_span_76, dX12_span_77, dX12_span_79, dX12_span_81, dX12_span_82, dX12_span_85, dX12_span_88, dX12_span_89, dX12_span_90, dX12_span_93, dX12_span_95, dX12_span_96, dX12_span_97, dX12_span_100, dX12_span_101, dX12_span_104, dX12_span_105, dX12_span_106, dX12_span_107, dX12_span_110, dX12_span_113, dX12_span_114, dX12_span_115, dX12_span_116, e_aload_n, e_iload_n, e_iload, e_istore_n, e_istore, e_iconst, e_iadd, e_iinc, e_ifCond, e_if_icmp, e_goto, e_tableswitch, e_getfield, e_iaload, e_invokevirtual, e_ireturn, e_wSt0, e_wSt1, e_wSt2, e_isL0, e_isL1, e_isL2, e_lset, e_lclr0, e_lclr1, e_lclr2, e_lput0, e_lput1, e_lput2, e_wInc, e_wInc0, Nat.reduceLT, not_false_eq_true, Bool.or_false, Bool.false_or, Bool.or_true, Bool.true_or, Bool.and_false, Bool.false_and, Bool.and_true, Bool.true_and, e_tsw, e_tsw0, e_tsw1, e_ri, e_rz, e_wI2, e_wIf_ne, e_wIc_ne, e_wIc_ge, fX12_132, fX12_16, fX12_20, fX12_23, fX12_26, fX12_39, ic_0, ic_1, ic_m1, jt_101_4, jt_110_m31, jt_13_102, jt_13_35, jt_13_42, jt_13_49, jt_13_56, jt_13_63, jt_5_5, jt_85_28, jt_97_7, e_call, e_callS0, e_callS1, e_callS2, e_callS3, e_callS4, e_pop0, e_pop1, e_tl0, e_tl1, tbX12_span_f, tbX12_span_p, tbX12_span_k, tbX12_span_c125, g_245_15, l_255, l_249, g_245_12, g_245_8, l_248, g_245_5, l_251, cv_245_0, cv_245_1, cv_245_2, cv_245_3, cv_245_4, g_245_7, l_250, g_245_6, spX12_isBook, bi_0, bi_1, ne_eq, Classical.not_not, em_r, em_l]
    obtain ⟨h0, h1, hA, hB⟩ := h
    replace hA := hid hA
    replace hB := hid hB
    repeat' (with_reducible first | intro _ | refine And.intro ?_ ?_)
    all_goals first
      | omega
      | decide
      | exact hA (Or.inl (by assumption))
      | exact hA (Or.inr (by omega))
      | exact (hB (by omega)).1 (by omega)
      | exact (hB (by omega)).2.1 (by omega)
      | exact (hB (by omega)).2.2.1 (by omega)
      | exact (hB (by omega)).2.2.2.1 (by omega)
      | exact lpX12_span l Q _ S b w 0 (Nat.zero_add _) ((hB (by omega)).2.2.2.2 (by omega)) h1.2
      | skip
  · exact h.elim
def edM (S : aS) (e i : Nat) : aS := stA (stA S 272 (fun j => if 120 * e + i ≤ j ∧ (j : Int) < 120 * (e : Int) + S.1 245 12 then S.1 256 (j - 120 * e) else S.1 272 j)) 273 (fun j => if 120 * e + i ≤ j ∧ (j : Int) < 120 * (e : Int) + S.1 245 12 then S.1 257 (j - 120 * e) else S.1 273 j)
def edN (S : aS) (e i : Nat) : aS := upI (upI (edM S e i) 271 e (S.1 245 12)) 245 37 ((e : Int) + 1)
section ED
variable {S : aS} {e i : Nat}
theorem edM_end (h : S.1 245 12 ≤ i) : edM S e i = S := by
  unfold edM
  (refine st_ext (fun x y => ?_) (fun x y => ?_) <;> (try simp only [stA, upI, upL, up2]) <;> (repeat' split) <;> first | rfl | omega | (simp_all; done) | (simp_all; omega) | (have hq : y = i := (by omega); subst hq; first | rfl | omega | (simp_all; done) | (simp_all; omega)) | (congr 2 <;> omega) | (congr 3 <;> omega))
theorem edM_yes (h : i < S.1 245 12) : edM (upI (upI S 272 (120 * e + i) (S.1 256 i)) 273 (120 * e + i) (S.1 257 i)) e (i + 1) = edM S e i := by
  unfold edM
  refine st_ext (fun x y => ?_) (fun x y => rfl)
  simp only [stA, upI, up2]
  by_cases h1 : x = 272
  · subst h1
    simp (disch := decide) only [if_false, if_true, if_neg, if_pos, false_and, true_and]
    by_cases h2 : y = 120 * e + i
    · subst h2; simp; omega
    · simp [h2]; split <;> split <;> first | rfl | omega
  · by_cases h3 : x = 273
    · subst h3
      by_cases h2 : y = 120 * e + i
      · subst h2; simp; omega
      · simp [h2]; split <;> split <;> first | rfl | omega
    · simp [h1, h3]
end ED
def spX12_edition : aSp := fun as S Q => match as with
  | [.inr (.inr 245)] => (0 ≤ S.1 245 29 ∧ S.1 245 29 ≤ 20) ∧ (0 ≤ S.1 245 37 ∧ S.1 245 37 ≤ 8) ∧ (0 ≤ S.1 245 12 ∧ S.1 245 12 ≤ 120) ∧ (0 < cnt (fun j => S.1 270 j == -1) (S.1 245 29).toNat ∨ S.1 245 37 = 8 → Q (some (.inl (-1))) S) ∧ (¬ 0 < cnt (fun j => S.1 270 j == -1) (S.1 245 29).toNat → ¬ S.1 245 37 = 8 → Q (some (.inl (S.1 245 37))) (edN S (S.1 245 37).toNat 0))
  | _ => False
def tbX12_edition : aTb := (fX12, pX12, fun j => lk [(262, (some 12), 1, spX12_loosePointers)] j, kX12)
theorem tbX12_edition_f : tbX12_edition.1 = fX12 := rfl
theorem tbX12_edition_p : tbX12_edition.2.1 = pX12 := rfl
theorem tbX12_edition_k : tbX12_edition.2.2.2 = kX12 := rfl
theorem tbX12_edition_c262 : tbX12_edition.2.2.1 262 = some ((some 12), 1, spX12_loosePointers) := rfl
theorem tbX12_edition_all (l : Launch) : ∀ e ∈ ([(262, (some 12), 1, spX12_loosePointers)] : List (Nat × Option Nat × Nat × aSp)), cOK l mX12_edition e.1 e.2.1 e.2.2.1 e.2.2.2 ∨ mOK mX12_edition e.1 e.2.1 e.2.2.1 e.2.2.2 := all_cons (cOK_of (okX12_loosePointers l) meX12_loosePointers cfX12_262 (by decide) (by decide)) (all_nil)
theorem tbX12_edition_ok (l : Launch) : tOK l mX12_edition tbX12_edition := ⟨fX12_ok, pX12_ok, fun _ _ _ _ h => tbX12_edition_all l _ (lk_mem h), kX12_ok⟩
set_option maxRecDepth 20000 in
set_option maxHeartbeats 4000000 in
theorem lpX12_edition (l : Launch) (Q : Option aV → aS → Prop) : ∀ (n : Nat) (S : aS) (e i : Nat), i + n = (S.1 245 12).toNat → S.1 245 12 ≤ 120 → S.1 245 37 = (e : Int) → e < 8 → Q (some (.inl (e : Int))) (edN S e i) → aGo l mX12_edition Q 20 [(0, .inr (.inr 245)), (1, .inl (i : Int))] [] S := by
  intro n
  induction n using Nat.strongRecOn with
  | _ n ih =>
  intro S  e i  h0 h1 h2 h3 h4
  refine wp_go (tbX12_edition_ok l) (fun pc => pc == 20) 63 dX12_edition_20 ?_
  show ws1 tbX12_edition 2 (some .int) Q (wp cX12_edition tbX12_edition 2 (some .int) Q (fun pc => pc == 20) (aGo l mX12_edition Q) 63) (.iload_n 1) 1 20 [(0, .inr (.inr 245)), (1, .inl (i : Int))] [] S
  simp only [wp_s, wpC_f, wpC_t, e_wLd, e_wLd0, e_wLd1, e_wLd2, e_get1, e_get2, e_wJ, e_wJo, f40, f41, f42, f43, Nat.reduceAdd, Nat.reduceBEq, Nat.reduceMul, eq_self, true_or, or_true, true_and, dX12_edition_0, dX12_edition_1, dX12_edition_4, dX12_edition_7, dX12_edition_8, dX12_edition_11, dX12_edition_13, dX12_edition_16, dX12_edition_17, dX12_edition_18, dX12_edition_19, dX12_edition_20, dX12_edition_21, dX12_edition_22, dX12_edition_25, dX12_edition_28, dX12_edition_29, dX12_edition_32, dX12_edition_34, dX12_edition_35, dX12_edition_38, dX12_edition_39, dX12_edition_40, dX12_edition_41, dX12_edition_42, dX12_edition_45, dX12_edition_46, dX12_edition_47, dX12_edition_48, dX12_edition_49, dX12_edition_52, dX12_edition_54, dX12_edition_55, dX12_edition_58, dX12_edition_59, dX12_edition_60, dX12_edition_61, dX12_edition_62, dX12_edition_65, dX12_edition_66, dX12_edition_67, dX12_edition_68, dX12_edition_71, dX12_edition_74, dX12_edition_75, dX12_edition_78, dX12_edition_79, dX12_edition_82, dX12_edition_83, dX12_edition_86, dX12_edition_87, dX12_edition_88, dX12_edition_89, dX12_edition_92, dX12_edition_93, dX12_edition_94, dX12_edition_97, dX12_edition_98, dX12_edition_101, dX12_edition_102, dX12_edition_103, e_aload_n, e_iload_n, e_istore_n, e_iconst, e_bipush, e_iadd, e_isub, e_imul, e_iinc, e_ifCond, e_if_icmp, e_goto, e_getfield, e_putfield, e_iaload, e_iastore, e_invokevirtual, e_ireturn, e_wSt0, e_wSt1, e_wSt2, e_isL0, e_isL1, e_isL2, e_lset, e_lclr0, e_lclr1, e_lclr2, e_lput0, e_lput1, e_lput2, e_wInc, e_wInc0, Nat.reduceLT, not_false_eq_true, Bool.or_false, Bool.false_or, Bool.or_true, Bool.true_or, Bool.and_false, Bool.false_and, Bool.and_true, Bool.true_and, e_wI2, e_ri, e_rz, e_wIf_gt, e_wIc_ne, e_wIc_ge, bp_120, bp_8, fX12_132, fX12_266, fX12_42, fX12_45, fX12_88, fX12_91, fX12_94, ic_0, ic_1, ic_m1, jt_13_5, jt_25_49, jt_4_12, jt_71_m51, pX12_266, e_call, e_callS0, e_callS1, e_callS2, e_callS3, e_callS4, e_pop0, e_pop1, e_tl0, e_tl1, tbX12_edition_f, tbX12_edition_p, tbX12_edition_k, tbX12_edition_c262, g_245_38, g_245_12, g_245_37, l_271, s_271, g_245_40, cv_245_0, cv_245_1, cv_245_2, cv_245_3, cv_245_4, p_245_37, l_273, s_273, g_245_17, l_257, s_257, g_245_39, g_245_16, l_256, s_256, l_272, s_272, spX12_loosePointers]
  refine ⟨fun q => ?_, fun q => ?_⟩
  · simp (disch := first | omega | decide) only [up_hit, up_obj, up_cell, h2, wI_id, Int.add_sub_cancel, Int.toNat_natCast]
    have z := h4
    unfold edN at z
    rw [edM_end (by omega)] at z
    exact ⟨by omega, by omega, z⟩
  · have e1 : wI (wI (120 * S.1 245 37) + (i : Int)) = 120 * (e : Int) + i := by
      rw [h2]
      simp (disch := omega) only [wI_id]
    have e2 : (120 * (e : Int) + i).toNat = 120 * e + i := by omega
    simp (disch := decide) only [up_obj]
    simp only [e1, e2]
    simp (disch := omega) only [wI_id, Int.toNat_natCast]
    refine ⟨by omega, by omega, by omega, by omega, by omega, by omega, by omega, by omega, ?_⟩
    have a12 : (upI (upI S 272 (120 * e + i) (S.1 256 i)) 273 (120 * e + i) (S.1 257 i)).1 245 12 = S.1 245 12 := by rw [up_obj (by decide), up_obj (by decide)]
    have a37 : (upI (upI S 272 (120 * e + i) (S.1 256 i)) 273 (120 * e + i) (S.1 257 i)).1 245 37 = S.1 245 37 := by rw [up_obj (by decide), up_obj (by decide)]
    refine ih (n - 1) (by omega) _ e (i + 1) (by rw [a12]; omega) (by rw [a12]; exact h1) (by rw [a37]; exact h2) h3 ?_
    unfold edN at h4 ⊢
    rw [edM_yes (by omega), a12]
    exact h4
set_option maxRecDepth 20000 in
set_option maxHeartbeats 4000000 in
theorem okX12_edition (l : Launch) : aOK l mX12_edition spX12_edition := by
  refine aOK_of rfl fun as S Q h => ?_
  unfold spX12_edition at h
  split at h
  · refine ⟨Nat.le_of_ble_eq_true rfl, wp_ok (tbX12_edition_ok l) Q (fun pc => pc == 20) 63 0 _ [] S ?_⟩
    show wp cX12_edition tbX12_edition 2 (some .int) Q (fun pc => pc == 20) (aGo l mX12_edition Q) 63 0 [(0, .inr (.inr 245))] [] S
    simp only [wp_s, wpC_f, wpC_t, e_wLd, e_wLd0, e_wLd1, e_wLd2, e_get1, e_get2, e_wJ, e_wJo, f40, f41, f42, f43, Nat.reduceAdd, Nat.reduceBEq, Nat.reduceMul, eq_self, true_or, or_true, true_and, dX12_edition_0, dX12_edition_1, dX12_edition_4, dX12_edition_7, dX12_edition_8, dX12_edition_11, dX12_edition_13, dX12_edition_16, dX12_edition_17, dX12_edition_18, dX12_edition_19, dX12_edition_20, dX12_edition_21, dX12_edition_22, dX12_edition_25, dX12_edition_28, dX12_edition_29, dX12_edition_32, dX12_edition_34, dX12_edition_35, dX12_edition_38, dX12_edition_39, dX12_edition_40, dX12_edition_41, dX12_edition_42, dX12_edition_45, dX12_edition_46, dX12_edition_47, dX12_edition_48, dX12_edition_49, dX12_edition_52, dX12_edition_54, dX12_edition_55, dX12_edition_58, dX12_edition_59, dX12_edition_60, dX12_edition_61, dX12_edition_62, dX12_edition_65, dX12_edition_66, dX12_edition_67, dX12_edition_68, dX12_edition_71, dX12_edition_74, dX12_edition_75, dX12_edition_78, dX12_edition_79, dX12_edition_82, dX12_edition_83, dX12_edition_86, dX12_edition_87, dX12_edition_88, dX12_edition_89, dX12_edition_92, dX12_edition_93, dX12_edition_94, dX12_edition_97, dX12_edition_98, dX12_edition_101, dX12_edition_102, dX12_edition_103, e_aload_n, e_iload_n, e_istore_n, e_iconst, e_bipush, e_iadd, e_isub, e_imul, e_iinc, e_ifCond, e_if_icmp, e_goto, e_getfield, e_putfield, e_iaload, e_iastore, e_invokevirtual, e_ireturn, e_wSt0, e_wSt1, e_wSt2, e_isL0, e_isL1, e_isL2, e_lset, e_lclr0, e_lclr1, e_lclr2, e_lput0, e_lput1, e_lput2, e_wInc, e_wInc0, Nat.reduceLT, not_false_eq_true, Bool.or_false, Bool.false_or, Bool.or_true, Bool.true_or, Bool.and_false, Bool.false_and, Bool.and_true, Bool.true_and, e_wI2, e_ri, e_rz, e_wIf_gt, e_wIc_ne, e_wIc_ge, bp_120, bp_8, fX12_132, fX12_266, fX12_42, fX12_45, fX12_88, fX12_91, fX12_94, ic_0, ic_1, ic_m1, jt_13_5, jt_25_49, jt_4_12, jt_71_m51, pX12_266, e_call, e_callS0, e_callS1, e_callS2, e_callS3, e_callS4, e_pop0, e_pop1, e_tl0, e_tl1, tbX12_edition_f, tbX12_edition_p, tbX12_edition_k, tbX12_edition_c262, g_245_38, g_245_12, g_245_37, l_271, s_271, g_245_40, cv_245_0, cv_245_1, cv_245_2, cv_245_3, cv_245_4, p_245_37, l_273, s_273, g_245_17, l_257, s_257, g_245_39, g_245_16, l_256, s_256, l_272, s_272, spX12_loosePointers]
    obtain ⟨h0, h1, h2, hA, hB⟩ := h
    generalize cnt (fun j => S.1 270 j == -1) (S.1 245 29).toNat = C at *
    replace hA := hid hA
    replace hB := hid hB
    repeat' (with_reducible first | intro _ | refine And.intro ?_ ?_)
    all_goals first
      | omega
      | exact hA (Or.inl (by assumption))
      | exact hA (Or.inr (by assumption))
      | exact lpX12_edition l Q _ S (S.1 245 37).toNat 0 (Nat.zero_add _) h2.2 (by omega) (by omega) (by rw [show (((S.1 245 37).toNat : Nat) : Int) = S.1 245 37 from by omega]; exact hB (by assumption) (by assumption))
      | skip
  · exact h.elim
def spX12_as : aSp := fun as S Q => match as with
  | [.inr (.inr 245), .inl e, .inl s, .inl w] => (0 ≤ S.1 245 37 ∧ S.1 245 37 ≤ 8) ∧ (0 ≤ S.1 245 12 ∧ S.1 245 12 ≤ 120) ∧ (¬ ((0 ≤ e ∧ e < S.1 245 37) ∧ (0 ≤ s ∧ s < S.1 245 12) ∧ (w = 0 ∨ w = 1)) → Q (some (.inl (-1))) S) ∧ (((0 ≤ e ∧ e < S.1 245 37) ∧ (0 ≤ s ∧ s < S.1 245 12) ∧ (w = 0 ∨ w = 1)) → (S.1 271 e.toNat ≤ s → Q (some (.inl (-2))) S) ∧ (¬ S.1 271 e.toNat ≤ s → (w = 0 → Q (some (.inl (S.1 272 (120 * e + s).toNat))) S) ∧ (w = 1 → Q (some (.inl (S.1 273 (120 * e + s).toNat))) S)))
  | _ => False
def tbX12_as : aTb := (fX12, pX12, fun j => lk [(183, (some 12), 2, spX12_isSlip), (269, (some 12), 2, spX12_isEdition)] j, kX12)
theorem tbX12_as_f : tbX12_as.1 = fX12 := rfl
theorem tbX12_as_p : tbX12_as.2.1 = pX12 := rfl
theorem tbX12_as_k : tbX12_as.2.2.2 = kX12 := rfl
theorem tbX12_as_c183 : tbX12_as.2.2.1 183 = some ((some 12), 2, spX12_isSlip) := rfl
theorem tbX12_as_c269 : tbX12_as.2.2.1 269 = some ((some 12), 2, spX12_isEdition) := rfl
theorem tbX12_as_all (l : Launch) : ∀ e ∈ ([(183, (some 12), 2, spX12_isSlip), (269, (some 12), 2, spX12_isEdition)] : List (Nat × Option Nat × Nat × aSp)), cOK l mX12_as e.1 e.2.1 e.2.2.1 e.2.2.2 ∨ mOK mX12_as e.1 e.2.1 e.2.2.1 e.2.2.2 := all_cons (cOK_of (okX12_isSlip l) meX12_isSlip cfX12_183 (by decide) (by decide)) (all_cons (cOK_of (okX12_isEdition l) meX12_isEdition cfX12_269 (by decide) (by decide)) (all_nil))
theorem tbX12_as_ok (l : Launch) : tOK l mX12_as tbX12_as := ⟨fX12_ok, pX12_ok, fun _ _ _ _ h => tbX12_as_all l _ (lk_mem h), kX12_ok⟩
set_option maxRecDepth 20000 in
set_option maxHeartbeats 4000000 in
theorem okX12_as (l : Launch) : aOK l mX12_as spX12_as := by
  refine aOK_of rfl fun as S Q h => ?_
  unfold spX12_as at h
  split at h
  · rename_i e s w
    refine ⟨Nat.le_of_ble_eq_true rfl, wp_ok (tbX12_as_ok l) Q (fun pc => false) 45 0 _ [] S ?_⟩
    show wp cX12_as tbX12_as 4 (some .int) Q (fun pc => false) (aGo l mX12_as Q) 45 0 [(0, .inr (.inr 245)), (1, .inl e), (2, .inl s), (3, .inl w)] [] S
    simp only [wp_s, wpC_f, wpC_t, e_wLd, e_wLd0, e_wLd1, e_wLd2, e_get1, e_get2, e_wJ, e_wJo, f40, f41, f42, f43, Nat.reduceAdd, Nat.reduceBEq, Nat.reduceMul, eq_self, true_or, or_true, true_and, dX12_as_0, dX12_as_1, dX12_as_2, dX12_as_5, dX12_as_8, dX12_as_9, dX12_as_10, dX12_as_13, dX12_as_16, dX12_as_17, dX12_as_20, dX12_as_21, dX12_as_22, dX12_as_25, dX12_as_26, dX12_as_27, dX12_as_28, dX12_as_29, dX12_as_32, dX12_as_33, dX12_as_34, dX12_as_37, dX12_as_39, dX12_as_40, dX12_as_41, dX12_as_44, dX12_as_45, dX12_as_48, dX12_as_50, dX12_as_51, dX12_as_52, dX12_as_53, dX12_as_54, dX12_as_55, dX12_as_58, dX12_as_59, dX12_as_62, dX12_as_64, dX12_as_65, dX12_as_66, dX12_as_67, dX12_as_68, dX12_as_69, e_aload_n, e_iload_n, e_iconst, e_bipush, e_iadd, e_imul, e_ifCond, e_if_icmp, e_goto, e_getfield, e_iaload, e_invokevirtual, e_ireturn, e_wI2, e_ri, e_rz, e_wIc_lt, e_wIf_ne, e_wIc_le, e_wIf_lt, e_wIf_eq, bp_120, bp_m2, fX12_88, fX12_91, fX12_94, ic_1, ic_m1, jt_13_12, jt_17_8, jt_22_5, jt_34_6, jt_41_17, jt_55_14, jt_5_20, e_call, e_callS0, e_callS1, e_callS2, e_callS3, e_callS4, e_pop0, e_pop1, e_tl0, e_tl1, tbX12_as_f, tbX12_as_p, tbX12_as_k, tbX12_as_c183, tbX12_as_c269, g_245_38, l_271, g_245_40, cv_245_0, cv_245_1, cv_245_2, cv_245_3, cv_245_4, l_273, g_245_39, l_272, spX12_isEdition, spX12_isSlip, bi_0, bi_1, ne_eq, Classical.not_not, em_r, em_l]
    obtain ⟨h0, h1, hA, hB⟩ := h
    by_cases hc : ((0 ≤ e ∧ e < S.1 245 37) ∧ (0 ≤ s ∧ s < S.1 245 12) ∧ (w = 0 ∨ w = 1))
    · have ei : wI (wI (120 * e) + s) = 120 * e + s := by simp (disch := omega) only [wI_id]
      simp only [ei]
      replace hA := hid hA
      replace hB := hid hB
      repeat' (with_reducible first | intro _ | refine And.intro ?_ ?_)
      all_goals first
        | omega
        | exact (hB hc).1 (by omega)
        | exact ((hB hc).2 (by omega)).1 (by omega)
        | exact ((hB hc).2 (by omega)).2 (by omega)
        | skip
    · repeat' (with_reducible first | intro _ | refine And.intro ?_ ?_)
      all_goals first
        | omega
        | exact hA hc
        | (exfalso; omega)
        | skip
  · exact h.elim
def othM (S : aS) (a b : Int) (s : Nat) : Prop := ¬ (((s : Int) < S.1 271 a.toNat ↔ (s : Int) < S.1 271 b.toNat) ∧ ((s : Int) < S.1 271 a.toNat → S.1 272 (120 * a + s).toNat = S.1 272 (120 * b + s).toNat ∧ S.1 273 (120 * a + s).toNat = S.1 273 (120 * b + s).toNat))
def spX12_differ : aSp := fun as S Q => match as with
  | [.inr (.inr 245), .inl a, .inl b, .inl x] => (0 ≤ S.1 245 37 ∧ S.1 245 37 ≤ 8) ∧ (0 ≤ S.1 245 12 ∧ S.1 245 12 ≤ 120) ∧ (¬ ((0 ≤ a ∧ a < S.1 245 37) ∧ (0 ≤ b ∧ b < S.1 245 37) ∧ -1 ≤ x) → Q (some (.inl (-1))) S) ∧ (((0 ≤ a ∧ a < S.1 245 37) ∧ (0 ≤ b ∧ b < S.1 245 37) ∧ -1 ≤ x) → Q (some (.inl (nthE (fun j => cb (othM S a b j)) x (S.1 245 12).toNat 0 0))) S)
  | _ => False
def tbX12_differ : aTb := (fX12, pX12, fun j => lk [(269, (some 12), 2, spX12_isEdition)] j, kX12)
theorem tbX12_differ_f : tbX12_differ.1 = fX12 := rfl
theorem tbX12_differ_p : tbX12_differ.2.1 = pX12 := rfl
theorem tbX12_differ_k : tbX12_differ.2.2.2 = kX12 := rfl
theorem tbX12_differ_c269 : tbX12_differ.2.2.1 269 = some ((some 12), 2, spX12_isEdition) := rfl
theorem tbX12_differ_all (l : Launch) : ∀ e ∈ ([(269, (some 12), 2, spX12_isEdition)] : List (Nat × Option Nat × Nat × aSp)), cOK l mX12_differ e.1 e.2.1 e.2.2.1 e.2.2.2 ∨ mOK mX12_differ e.1 e.2.1 e.2.2.1 e.2.2.2 := all_cons (cOK_of (okX12_isEdition l) meX12_isEdition cfX12_269 (by decide) (by decide)) (all_nil)
theorem tbX12_differ_ok (l : Launch) : tOK l mX12_differ tbX12_differ := ⟨fX12_ok, pX12_ok, fun _ _ _ _ h => tbX12_differ_all l _ (lk_mem h), kX12_ok⟩
set_option maxRecDepth 20000 in
set_option maxHeartbeats 4000000 in
theorem lpX12_differ (l : Launch) (Q : Option aV → aS → Prop) : ∀ (n : Nat) (S : aS) (a b x c : Int) (i : Nat), i + n = (S.1 245 12).toNat → S.1 245 12 ≤ 120 → (0 ≤ a ∧ a < 8) ∧ (0 ≤ b ∧ b < 8) → (0 ≤ c ∧ c ≤ i) → Q (some (.inl (nthE (fun j => cb (othM S a b j)) x n i c))) S → aGo l mX12_differ Q 29 [(0, .inr (.inr 245)), (1, .inl a), (2, .inl b), (3, .inl x), (4, .inl c), (5, .inl (i : Int))] [] S := by
  intro n
  induction n using Nat.strongRecOn with
  | _ n ih =>
  intro S  a b x c  i  h0 h1 h2 h3 h4
  refine wp_go (tbX12_differ_ok l) (fun pc => pc == 29) 107 dX12_differ_29 ?_
  show ws1 tbX12_differ 9 (some .int) Q (wp cX12_differ tbX12_differ 9 (some .int) Q (fun pc => pc == 29) (aGo l mX12_differ Q) 107) (.iload 5) 2 29 [(0, .inr (.inr 245)), (1, .inl a), (2, .inl b), (3, .inl x), (4, .inl c), (5, .inl (i : Int))] [] S
  simp only [wp_s, wpC_f, wpC_t, e_wLd, e_wLd0, e_wLd1, e_wLd2, e_get1, e_get2, e_wJ, e_wJo, f40, f41, f42, f43, Nat.reduceAdd, Nat.reduceBEq, Nat.reduceMul, eq_self, true_or, or_true, true_and, dX12_differ_0, dX12_differ_1, dX12_differ_2, dX12_differ_5, dX12_differ_8, dX12_differ_9, dX12_differ_10, dX12_differ_13, dX12_differ_16, dX12_differ_17, dX12_differ_18, dX12_differ_21, dX12_differ_22, dX12_differ_23, dX12_differ_24, dX12_differ_26, dX12_differ_27, dX12_differ_29, dX12_differ_31, dX12_differ_32, dX12_differ_35, dX12_differ_38, dX12_differ_40, dX12_differ_41, dX12_differ_44, dX12_differ_45, dX12_differ_46, dX12_differ_49, dX12_differ_50, dX12_differ_53, dX12_differ_54, dX12_differ_56, dX12_differ_58, dX12_differ_59, dX12_differ_62, dX12_differ_63, dX12_differ_64, dX12_differ_67, dX12_differ_68, dX12_differ_71, dX12_differ_72, dX12_differ_74, dX12_differ_76, dX12_differ_78, dX12_differ_81, dX12_differ_83, dX12_differ_86, dX12_differ_87, dX12_differ_90, dX12_differ_92, dX12_differ_93, dX12_differ_94, dX12_differ_96, dX12_differ_97, dX12_differ_98, dX12_differ_99, dX12_differ_102, dX12_differ_104, dX12_differ_105, dX12_differ_106, dX12_differ_108, dX12_differ_109, dX12_differ_110, dX12_differ_113, dX12_differ_114, dX12_differ_117, dX12_differ_119, dX12_differ_120, dX12_differ_121, dX12_differ_123, dX12_differ_124, dX12_differ_125, dX12_differ_126, dX12_differ_129, dX12_differ_131, dX12_differ_132, dX12_differ_133, dX12_differ_135, dX12_differ_136, dX12_differ_137, dX12_differ_140, dX12_differ_141, dX12_differ_144, dX12_differ_145, dX12_differ_147, dX12_differ_149, dX12_differ_152, dX12_differ_155, dX12_differ_157, dX12_differ_158, dX12_differ_161, dX12_differ_163, dX12_differ_164, dX12_differ_166, dX12_differ_167, dX12_differ_168, dX12_differ_170, dX12_differ_173, dX12_differ_176, dX12_differ_177, dX12_differ_178, dX12_differ_181, dX12_differ_183, dX12_differ_186, dX12_differ_187, e_aload_n, e_iload_n, e_iload, e_istore, e_iconst, e_bipush, e_iadd, e_imul, e_iinc, e_ifCond, e_if_icmp, e_goto, e_getfield, e_iaload, e_invokevirtual, e_ireturn, e_wSt0, e_wSt1, e_wSt2, e_isL0, e_isL1, e_isL2, e_lset, e_lclr0, e_lclr1, e_lclr2, e_lput0, e_lput1, e_lput2, e_wInc, e_wInc0, Nat.reduceLT, not_false_eq_true, Bool.or_false, Bool.false_or, Bool.or_true, Bool.true_or, Bool.and_false, Bool.false_and, Bool.and_true, Bool.true_and, e_wI2, e_ri, e_rz, e_wIc_ne, e_wIf_eq, e_wIc_ge, bp_120, fX12_132, fX12_88, fX12_91, fX12_94, ic_0, ic_1, ic_m1, jt_110_34, jt_137_7, jt_13_8, jt_141_4, jt_149_6, jt_152_18, jt_158_6, jt_173_m144, jt_178_8, jt_183_4, jt_18_5, jt_35_141, jt_46_7, jt_50_4, jt_5_16, jt_64_7, jt_68_4, jt_78_66, jt_83_57, e_call, e_callS0, e_callS1, e_callS2, e_callS3, e_callS4, e_pop0, e_pop1, e_tl0, e_tl1, tbX12_differ_f, tbX12_differ_p, tbX12_differ_k, tbX12_differ_c269, g_245_38, g_245_12, l_271, g_245_40, cv_245_0, cv_245_1, cv_245_2, cv_245_3, cv_245_4, l_273, g_245_39, l_272, spX12_isEdition]
  rcases n with _ | n
  · refine ⟨fun _ => ?_, fun q => absurd q (by omega)⟩
    unfold nthE at h4
    exact ⟨fun q => by rw [if_neg q] at h4; exact h4, fun q => by rw [if_pos q] at h4; exact h4⟩
  · have ea : wI (wI (120 * a) + (i : Int)) = 120 * a + i := by simp (disch := omega) only [wI_id]
    have eb : wI (wI (120 * b) + (i : Int)) = 120 * b + i := by simp (disch := omega) only [wI_id]
    simp only [ea, eb]
    simp (disch := omega) only [wI_id]
    have hno : ¬ othM S a b i → aGo l mX12_differ Q 29 [(0, .inr (.inr 245)), (1, .inl a), (2, .inl b), (3, .inl x), (4, .inl c), (5, .inl ((i : Int) + 1))] [] S := by
      intro q
      unfold nthE at h4
      rw [if_neg (by rw [cb_f q]; decide)] at h4
      exact ih n (by omega) S a b x c (i + 1) (by omega) h1 h2 (by omega) h4
    have hye : othM S a b i → ¬ c = x → aGo l mX12_differ Q 29 [(0, .inr (.inr 245)), (1, .inl a), (2, .inl b), (3, .inl x), (4, .inl (c + 1)), (5, .inl ((i : Int) + 1))] [] S := by
      intro q q2
      unfold nthE at h4
      rw [if_pos (cb_t q), if_neg q2] at h4
      exact ih n (by omega) S a b x (c + 1) (i + 1) (by omega) h1 h2 (by omega) h4
    have hex : othM S a b i → c = x → Q (some (.inl (i : Int))) S := by
      intro q q2
      unfold nthE at h4
      rw [if_pos (cb_t q), if_pos q2] at h4
      exact h4
    clear h4 ih
    unfold othM at hno hye hex
    replace hno := hid hno
    replace hye := hid hye
    replace hex := hid hex
    have sb : ∀ (L : aL) (g h k : aV), ∀ q ∈ L, q ∈ L ++ [(6, g), (7, h), (8, k)] := fun L g h k q hq => List.mem_append_left _ hq
    repeat' (with_reducible first | intro _ | refine And.intro ?_ ?_)
    all_goals first
      | omega
      | exact absurd trivial (by assumption)
      | exact aGo_sub (hno (by omega)) (sb _ _ _ _)
      | exact aGo_sub (hye (by omega) (by assumption)) (sb _ _ _ _)
      | exact hex (by omega) (by assumption)
      | skip
set_option maxRecDepth 20000 in
set_option maxHeartbeats 4000000 in
theorem okX12_differ (l : Launch) : aOK l mX12_differ spX12_differ := by
  refine aOK_of rfl fun as S Q h => ?_
  unfold spX12_differ at h
  split at h
  · rename_i a b x
    refine ⟨Nat.le_of_ble_eq_true rfl, wp_ok (tbX12_differ_ok l) Q (fun pc => pc == 29) 107 0 _ [] S ?_⟩
    show wp cX12_differ tbX12_differ 9 (some .int) Q (fun pc => pc == 29) (aGo l mX12_differ Q) 107 0 [(0, .inr (.inr 245)), (1, .inl a), (2, .inl b), (3, .inl x)] [] S
    simp only [wp_s, wpC_f, wpC_t, e_wLd, e_wLd0, e_wLd1, e_wLd2, e_get1, e_get2, e_wJ, e_wJo, f40, f41, f42, f43, Nat.reduceAdd, Nat.reduceBEq, Nat.reduceMul, eq_self, true_or, or_true, true_and, dX12_differ_0, dX12_differ_1, dX12_differ_2, dX12_differ_5, dX12_differ_8, dX12_differ_9, dX12_differ_10, dX12_differ_13, dX12_differ_16, dX12_differ_17, dX12_differ_18, dX12_differ_21, dX12_differ_22, dX12_differ_23, dX12_differ_24, dX12_differ_26, dX12_differ_27, dX12_differ_29, dX12_differ_31, dX12_differ_32, dX12_differ_35, dX12_differ_38, dX12_differ_40, dX12_differ_41, dX12_differ_44, dX12_differ_45, dX12_differ_46, dX12_differ_49, dX12_differ_50, dX12_differ_53, dX12_differ_54, dX12_differ_56, dX12_differ_58, dX12_differ_59, dX12_differ_62, dX12_differ_63, dX12_differ_64, dX12_differ_67, dX12_differ_68, dX12_differ_71, dX12_differ_72, dX12_differ_74, dX12_differ_76, dX12_differ_78, dX12_differ_81, dX12_differ_83, dX12_differ_86, dX12_differ_87, dX12_differ_90, dX12_differ_92, dX12_differ_93, dX12_differ_94, dX12_differ_96, dX12_differ_97, dX12_differ_98, dX12_differ_99, dX12_differ_102, dX12_differ_104, dX12_differ_105, dX12_differ_106, dX12_differ_108, dX12_differ_109, dX12_differ_110, dX12_differ_113, dX12_differ_114, dX12_differ_117, dX12_differ_119, dX12_differ_120, dX12_differ_121, dX12_differ_123, dX12_differ_124, dX12_differ_125, dX12_differ_126, dX12_differ_129, dX12_differ_131, dX12_differ_132, dX12_differ_133, dX12_differ_135, dX12_differ_136, dX12_differ_137, dX12_differ_140, dX12_differ_141, dX12_differ_144, dX12_differ_145, dX12_differ_147, dX12_differ_149, dX12_differ_152, dX12_differ_155, dX12_differ_157, dX12_differ_158, dX12_differ_161, dX12_differ_163, dX12_differ_164, dX12_differ_166, dX12_differ_167, dX12_differ_168, dX12_differ_170, dX12_differ_173, dX12_differ_176, dX12_differ_177, dX12_differ_178, dX12_differ_181, dX12_differ_183, dX12_differ_186, dX12_differ_187, e_aload_n, e_iload_n, e_iload, e_istore, e_iconst, e_bipush, e_iadd, e_imul, e_iinc, e_ifCond, e_if_icmp, e_goto, e_getfield, e_iaload, e_invokevirtual, e_ireturn, e_wSt0, e_wSt1, e_wSt2, e_isL0, e_isL1, e_isL2, e_lset, e_lclr0, e_lclr1, e_lclr2, e_lput0, e_lput1, e_lput2, e_wInc, e_wInc0, Nat.reduceLT, not_false_eq_true, Bool.or_false, Bool.false_or, Bool.or_true, Bool.true_or, Bool.and_false, Bool.false_and, Bool.and_true, Bool.true_and, e_wI2, e_ri, e_rz, e_wIc_ne, e_wIf_eq, e_wIc_ge, bp_120, fX12_132, fX12_88, fX12_91, fX12_94, ic_0, ic_1, ic_m1, jt_110_34, jt_137_7, jt_13_8, jt_141_4, jt_149_6, jt_152_18, jt_158_6, jt_173_m144, jt_178_8, jt_183_4, jt_18_5, jt_35_141, jt_46_7, jt_50_4, jt_5_16, jt_64_7, jt_68_4, jt_78_66, jt_83_57, e_call, e_callS0, e_callS1, e_callS2, e_callS3, e_callS4, e_pop0, e_pop1, e_tl0, e_tl1, tbX12_differ_f, tbX12_differ_p, tbX12_differ_k, tbX12_differ_c269, g_245_38, g_245_12, l_271, g_245_40, cv_245_0, cv_245_1, cv_245_2, cv_245_3, cv_245_4, l_273, g_245_39, l_272, spX12_isEdition, bi_0, bi_1, ne_eq, Classical.not_not, em_r, em_l]
    obtain ⟨h0, h1, hA, hB⟩ := h
    replace hA := hid hA
    replace hB := hid hB
    repeat' (with_reducible first | intro _ | refine And.intro ?_ ?_)
    all_goals first
      | omega
      | exact hA (by omega)
      | exact lpX12_differ l Q _ S a b x 0 0 (Nat.zero_add _) h1.2 (by omega) (by omega) (hB (by omega))
      | skip
  · exact h.elim
