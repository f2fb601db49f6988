/-! THE REFERENCE: book, before -/
def boM (S : aS) (a b : Int) : aS := upI (upI (upI S 248 (S.1 245 3).toNat a) 249 (S.1 245 3).toNat b) 245 3 (S.1 245 3 + 1)
def beM (S : aS) (a b : Int) : aS := upI (upI (upI S 252 (S.1 245 4).toNat a) 253 (S.1 245 4).toNat b) 245 4 (S.1 245 4 + 1)
def unB (S : aS) (x : Int) : aS := upI S 245 4 x
def teM (S : aS) (a b : Int) : Prop := ∃ k : Nat, (k : Int) < S.1 245 4 ∧ S.1 252 k = a ∧ S.1 253 k = b
def spX12_book : aSp := fun as S Q => match as with
  | [.inr (.inr 245), .inl a, .inl b] => (0 ≤ S.1 245 3 ∧ S.1 245 3 ≤ 30) ∧ (¬ ((1 ≤ a ∧ b ≤ 2000 ∧ a ≤ b) ∧ ¬ S.1 245 3 = 30) → Q (some (.inl (-1))) S) ∧ (((1 ≤ a ∧ b ≤ 2000 ∧ a ≤ b) ∧ ¬ S.1 245 3 = 30) → tgS (boM S a b) ∧ (∀ f l, FeL (boM S a b) f l → Q (some (.inl (S.1 245 3))) (st2 (boM S a b) f l)) ∧ ((¬ ∃ F L, Fe (boM S a b) F L) → ∀ f l, Q (some (.inl (S.1 245 3))) (st2 (boM S a b) f l)))
  | _ => False
def tbX12_book : aTb := (fX12, pX12, fun j => lk [(114, none, 2, spX12_areYears), (118, (some 12), 1, spX12_tightens)] j, kX12)
theorem tbX12_book_f : tbX12_book.1 = fX12 := rfl
theorem tbX12_book_p : tbX12_book.2.1 = pX12 := rfl
theorem tbX12_book_k : tbX12_book.2.2.2 = kX12 := rfl
theorem tbX12_book_c114 : tbX12_book.2.2.1 114 = some (none, 2, spX12_areYears) := rfl
theorem tbX12_book_c118 : tbX12_book.2.2.1 118 = some ((some 12), 1, spX12_tightens) := rfl
theorem tbX12_book_all (l : Launch) : ∀ e ∈ ([(114, none, 2, spX12_areYears), (118, (some 12), 1, spX12_tightens)] : List (Nat × Option Nat × Nat × aSp)), cOK l mX12_book e.1 e.2.1 e.2.2.1 e.2.2.2 ∨ mOK mX12_book e.1 e.2.1 e.2.2.1 e.2.2.2 := all_cons (cOK_of (okX12_areYears l) meX12_areYears cfX12_114 (by decide) (by decide)) (all_cons (cOK_of (okX12_tightens l) meX12_tightens cfX12_118 (by decide) (by decide)) (all_nil))
theorem tbX12_book_ok (l : Launch) : tOK l mX12_book tbX12_book := ⟨fX12_ok, pX12_ok, fun _ _ _ _ h => tbX12_book_all l _ (lk_mem h), kX12_ok⟩
set_option maxRecDepth 20000 in
set_option maxHeartbeats 4000000 in
theorem okX12_book (l : Launch) : aOK l mX12_book spX12_book := by
  refine aOK_of rfl fun as S Q h => ?_
  unfold spX12_book at h
  split at h
  · rename_i a b
    refine ⟨Nat.le_of_ble_eq_true rfl, wp_ok (tbX12_book_ok l) Q (fun pc => false) 38 0 _ [] S ?_⟩
    show wp cX12_book tbX12_book 3 (some .int) Q (fun pc => false) (aGo l mX12_book Q) 38 0 [(0, .inr (.inr 245)), (1, .inl a), (2, .inl b)] [] S
    simp only [wp_s, wpC_f, wpC_t, e_wLd, e_wLd0, e_wLd1, e_wLd2, e_get1, e_get2, e_wJ, e_wJo, f40, f41, f42, f43, Nat.reduceAdd, Nat.reduceBEq, Nat.reduceMul, eq_self, true_or, or_true, true_and, dX12_book_0, dX12_book_1, dX12_book_2, dX12_book_5, dX12_book_8, dX12_book_9, dX12_book_12, dX12_book_14, dX12_book_17, dX12_book_18, dX12_book_19, dX12_book_20, dX12_book_23, dX12_book_24, dX12_book_27, dX12_book_28, dX12_book_29, dX12_book_30, dX12_book_33, dX12_book_34, dX12_book_37, dX12_book_38, dX12_book_39, dX12_book_40, dX12_book_41, dX12_book_44, dX12_book_45, dX12_book_46, dX12_book_49, dX12_book_50, dX12_book_53, dX12_book_54, dX12_book_55, dX12_book_58, dX12_book_59, dX12_book_60, e_aload_n, e_iload_n, e_iconst, e_bipush, e_iadd, e_isub, e_pop, e_ifCond, e_if_icmp, e_getfield, e_putfield, e_iastore, e_invokevirtual, e_invokestatic, e_ireturn, e_wI2, e_ri, e_rz, e_wPop, e_wIf_eq, e_wIc_ne, bp_30, fX12_111, fX12_16, fX12_20, ic_1, ic_m1, jt_14_5, jt_5_12, pX12_111, e_call, e_callS0, e_callS1, e_callS2, e_callS3, e_callS4, e_pop0, e_pop1, e_tl0, e_tl1, tbX12_book_f, tbX12_book_p, tbX12_book_k, tbX12_book_c114, tbX12_book_c118, g_245_3, s_248, g_245_5, p_245_3, s_249, cv_245_0, cv_245_1, cv_245_2, cv_245_3, cv_245_4, g_245_6, spX12_areYears, spX12_tightens, bi_0, bi_1, ne_eq, Classical.not_not, em_r, em_l]
    obtain ⟨h0, hA, hB⟩ := h
    by_cases hc : ((1 ≤ a ∧ b ≤ 2000 ∧ a ≤ b) ∧ ¬ S.1 245 3 = 30)
    · obtain ⟨k1, k2, k3⟩ := hB hc
      clear hA hB
      simp (disch := first | omega | decide) only [up_obj, wI_id]
      have e : upI (upI (upI S 248 (S.1 245 3).toNat a) 249 (S.1 245 3).toNat b) 245 3 (S.1 245 3 + 1) = boM S a b := rfl
      have e3 : (boM S a b).1 245 3 = S.1 245 3 + 1 := up_hit
      simp only [e]
      simp (disch := first | omega | decide) only [s2_o, e3, wI_id, Int.add_sub_cancel]
      refine ⟨fun q => absurd hc.1 q, fun _ => ⟨fun _ => ?_, fun q => absurd q hc.2⟩⟩
      exact ⟨by omega, by omega, by omega, by omega, k1, k2, k3⟩
    · have hA' := hA hc
      refine ⟨fun _ => hA', fun q => ⟨fun q2 => absurd ⟨q, q2⟩ hc, fun _ => hA'⟩⟩
  · exact h.elim
def spX12_before : aSp := fun as S Q => match as with
  | [.inr (.inr 245), .inl a, .inl b] => (0 ≤ S.1 245 4 ∧ S.1 245 4 ≤ 60) ∧ (0 ≤ S.1 245 3 ∧ S.1 245 3 ≤ 30) ∧ (¬ ((0 ≤ a ∧ a < S.1 245 3) ∧ (0 ≤ b ∧ b < S.1 245 3) ∧ ¬ a = b ∧ ¬ S.1 245 4 = 60) ∨ teM S a b → Q (some (.inl 0)) S) ∧ (((0 ≤ a ∧ a < S.1 245 3) ∧ (0 ≤ b ∧ b < S.1 245 3) ∧ ¬ a = b ∧ ¬ S.1 245 4 = 60) → ¬ teM S a b → tgS (beM S a b) ∧ (∀ f l, FeL (beM S a b) f l → clP (st2 (beM S a b) f l) ∧ ∀ e, clS (st2 (beM S a b) f l) e → Q (some (.inl 1)) (stA (st2 (beM S a b) f l) 254 e)) ∧ ((¬ ∃ F L, Fe (beM S a b) F L) → ∀ f l, tgS (unB (st2 (beM S a b) f l) (S.1 245 4)) ∧ (∀ f2 l2, FeL (unB (st2 (beM S a b) f l) (S.1 245 4)) f2 l2 → Q (some (.inl 0)) (st2 (unB (st2 (beM S a b) f l) (S.1 245 4)) f2 l2)) ∧ ((¬ ∃ F L, Fe (unB (st2 (beM S a b) f l) (S.1 245 4)) F L) → ∀ f2 l2, Q (some (.inl 0)) (st2 (unB (st2 (beM S a b) f l) (S.1 245 4)) f2 l2))))
  | _ => False
def tbX12_before : aTb := (fX12, pX12, fun j => lk [(118, (some 12), 1, spX12_tightens), (125, (some 12), 2, spX12_isBook), (129, (some 12), 1, spX12_closes)] j, kX12)
theorem tbX12_before_f : tbX12_before.1 = fX12 := rfl
theorem tbX12_before_p : tbX12_before.2.1 = pX12 := rfl
theorem tbX12_before_k : tbX12_before.2.2.2 = kX12 := rfl
theorem tbX12_before_c118 : tbX12_before.2.2.1 118 = some ((some 12), 1, spX12_tightens) := rfl
theorem tbX12_before_c125 : tbX12_before.2.2.1 125 = some ((some 12), 2, spX12_isBook) := rfl
theorem tbX12_before_c129 : tbX12_before.2.2.1 129 = some ((some 12), 1, spX12_closes) := rfl
theorem tbX12_before_all (l : Launch) : ∀ e ∈ ([(118, (some 12), 1, spX12_tightens), (125, (some 12), 2, spX12_isBook), (129, (some 12), 1, spX12_closes)] : List (Nat × Option Nat × Nat × aSp)), cOK l mX12_before e.1 e.2.1 e.2.2.1 e.2.2.2 ∨ mOK mX12_before e.1 e.2.1 e.2.2.1 e.2.2.2 := all_cons (cOK_of (okX12_tightens l) meX12_tightens cfX12_118 (by decide) (by decide)) (all_cons (cOK_of (okX12_isBook l) meX12_isBook cfX12_125 (by decide) (by decide)) (all_cons (cOK_of (okX12_closes l) meX12_closes cfX12_129 (by decide) (by decide)) (all_nil)))
theorem tbX12_before_ok (l : Launch) : tOK l mX12_before tbX12_before := ⟨fX12_ok, pX12_ok, fun _ _ _ _ h => tbX12_before_all l _ (lk_mem h), kX12_ok⟩
set_option maxRecDepth 20000 in
set_option maxHeartbeats 4000000 in
theorem lpB (l : Launch) (Q : Option aV → aS → Prop) : ∀ (n : Nat) (S : aS) (a b : Int) (i : Nat), i + n = (S.1 245 4).toNat → S.1 245 4 ≤ 60 → (teM S a b → Q (some (.inl 0)) S) → (∀ k : Nat, k < i → ¬ (S.1 252 k = a ∧ S.1 253 k = b)) → (¬ teM S a b → aGo l mX12_before Q 70 [(0, .inr (.inr 245)), (1, .inl a), (2, .inl b)] [] S) → aGo l mX12_before Q 34 [(0, .inr (.inr 245)), (1, .inl a), (2, .inl b), (3, .inl (i : Int))] [] S := by
  intro n
  induction n using Nat.strongRecOn with
  | _ n ih =>
  intro S  a b  i  h0 h1 h2 h3 h4
  refine wp_go (tbX12_before_ok l) (fun pc => pc == 34 || pc == 70) 77 dX12_before_34 ?_
  show ws1 tbX12_before 4 (some .boolean) Q (wp cX12_before tbX12_before 4 (some .boolean) Q (fun pc => pc == 34 || pc == 70) (aGo l mX12_before Q) 77) (.iload_n 3) 1 34 [(0, .inr (.inr 245)), (1, .inl a), (2, .inl b), (3, .inl (i : Int))] [] S
  simp only [wp_s, wpC_f, wpC_t, e_wLd, e_wLd0, e_wLd1, e_wLd2, e_get1, e_get2, e_wJ, e_wJo, f40, f41, f42, f43, Nat.reduceAdd, Nat.reduceBEq, Nat.reduceMul, eq_self, true_or, or_true, true_and, dX12_before_0, dX12_before_1, dX12_before_2, dX12_before_5, dX12_before_8, dX12_before_9, dX12_before_10, dX12_before_13, dX12_before_16, dX12_before_17, dX12_before_18, dX12_before_21, dX12_before_22, dX12_before_25, dX12_before_27, dX12_before_30, dX12_before_31, dX12_before_32, dX12_before_33, dX12_before_34, dX12_before_35, dX12_before_36, dX12_before_39, dX12_before_42, dX12_before_43, dX12_before_46, dX12_before_47, dX12_before_48, dX12_before_49, dX12_before_52, dX12_before_53, dX12_before_56, dX12_before_57, dX12_before_58, dX12_before_59, dX12_before_62, dX12_before_63, dX12_before_64, dX12_before_67, dX12_before_70, dX12_before_71, dX12_before_74, dX12_before_75, dX12_before_78, dX12_before_79, dX12_before_80, dX12_before_81, dX12_before_84, dX12_before_85, dX12_before_88, dX12_before_89, dX12_before_90, dX12_before_91, dX12_before_92, dX12_before_95, dX12_before_96, dX12_before_97, dX12_before_100, dX12_before_101, dX12_before_104, dX12_before_107, dX12_before_108, dX12_before_111, dX12_before_112, dX12_before_113, dX12_before_114, dX12_before_115, dX12_before_118, dX12_before_119, dX12_before_120, dX12_before_123, dX12_before_124, dX12_before_127, dX12_before_128, dX12_before_129, e_aload_n, e_iload_n, e_istore_n, e_iconst, e_bipush, e_iadd, e_isub, e_pop, e_iinc, e_ifCond, e_if_icmp, e_goto, e_getfield, e_putfield, e_iaload, e_iastore, e_invokevirtual, e_ireturn, e_wSt0, e_wSt1, e_wSt2, e_isL0, e_isL1, e_isL2, e_lset, e_lclr0, e_lclr1, e_lclr2, e_lput0, e_lput1, e_lput2, e_wInc, e_wInc0, Nat.reduceLT, not_false_eq_true, Bool.or_false, Bool.false_or, Bool.or_true, Bool.true_or, Bool.and_false, Bool.false_and, Bool.and_true, Bool.true_and, e_wPop, e_wI2, e_ri, e_rz, e_wIf_eq, e_wIc_ne, e_wIc_ge, e_wIc_eq, bp_60, fX12_122, fX12_29, fX12_32, ic_0, ic_1, jt_104_9, jt_13_17, jt_18_12, jt_27_5, jt_39_31, jt_49_15, jt_59_5, jt_5_25, jt_67_m33, pX12_122, e_call, e_callS0, e_callS1, e_callS2, e_callS3, e_callS4, e_pop0, e_pop1, e_tl0, e_tl1, tbX12_before_f, tbX12_before_p, tbX12_before_k, tbX12_before_c118, tbX12_before_c125, tbX12_before_c129, g_245_9, p_245_4, g_245_4, l_253, s_253, g_245_10, cv_245_0, cv_245_1, cv_245_2, cv_245_3, cv_245_4, l_252, s_252, spX12_isBook, spX12_tightens, spX12_closes, bi_0, bi_1, ne_eq, Classical.not_not, em_r, em_l]
  simp (disch := omega) only [wI_id, Int.toNat_natCast]
  refine ⟨fun q => ?_, fun q => ?_⟩
  · refine aGo_sub (h4 (fun ⟨k, k1, k2⟩ => h3 k (by omega) k2)) (fun q hq => List.mem_append_left ([(3, Sum.inl _)] : aL) hq)
  · have no : ¬ (S.1 252 i = a ∧ S.1 253 i = b) → aGo l mX12_before Q 34 [(0, .inr (.inr 245)), (1, .inl a), (2, .inl b), (3, .inl ((i : Int) + 1))] [] S := fun z => ih (n - 1) (by omega) S a b (i + 1) (by omega) h1 h2 (fun k hk => by
      by_cases e : k = i
      · subst e; exact z
      · exact h3 k (by omega)) h4
    exact ⟨by omega, by omega, fun q1 => no (fun z => q1 z.1), fun q1 => ⟨by omega, by omega, fun q2 => no (fun z => q2 z.2), fun q2 => h2 ⟨i, by omega, q1, q2⟩⟩⟩
set_option maxRecDepth 20000 in
set_option maxHeartbeats 4000000 in
theorem sgB (l : Launch) (Q : Option aV → aS → Prop) (S : aS) (a b : Int) (h0 : 0 ≤ S.1 245 4 ∧ S.1 245 4 < 60) (h1 : tgS (beM S a b)) (h2 : (∀ f l, FeL (beM S a b) f l → clP (st2 (beM S a b) f l) ∧ ∀ e, clS (st2 (beM S a b) f l) e → Q (some (.inl 1)) (stA (st2 (beM S a b) f l) 254 e))) (h3 : ((¬ ∃ F L, Fe (beM S a b) F L) → ∀ f l, tgS (unB (st2 (beM S a b) f l) (S.1 245 4)) ∧ (∀ f2 l2, FeL (unB (st2 (beM S a b) f l) (S.1 245 4)) f2 l2 → Q (some (.inl 0)) (st2 (unB (st2 (beM S a b) f l) (S.1 245 4)) f2 l2)) ∧ ((¬ ∃ F L, Fe (unB (st2 (beM S a b) f l) (S.1 245 4)) F L) → ∀ f2 l2, Q (some (.inl 0)) (st2 (unB (st2 (beM S a b) f l) (S.1 245 4)) f2 l2)))) : aGo l mX12_before Q 70 [(0, .inr (.inr 245)), (1, .inl a), (2, .inl b)] [] S := by
  refine wp_go (tbX12_before_ok l) (fun pc => false) 77 dX12_before_70 ?_
  show ws1 tbX12_before 4 (some .boolean) Q (wp cX12_before tbX12_before 4 (some .boolean) Q (fun pc => false) (aGo l mX12_before Q) 77) (.aload_n 0) 1 70 [(0, .inr (.inr 245)), (1, .inl a), (2, .inl b)] [] S
  simp only [wp_s, wpC_f, wpC_t, e_wLd, e_wLd0, e_wLd1, e_wLd2, e_get1, e_get2, e_wJ, e_wJo, f40, f41, f42, f43, Nat.reduceAdd, Nat.reduceBEq, Nat.reduceMul, eq_self, true_or, or_true, true_and, dX12_before_0, dX12_before_1, dX12_before_2, dX12_before_5, dX12_before_8, dX12_before_9, dX12_before_10, dX12_before_13, dX12_before_16, dX12_before_17, dX12_before_18, dX12_before_21, dX12_before_22, dX12_before_25, dX12_before_27, dX12_before_30, dX12_before_31, dX12_before_32, dX12_before_33, dX12_before_34, dX12_before_35, dX12_before_36, dX12_before_39, dX12_before_42, dX12_before_43, dX12_before_46, dX12_before_47, dX12_before_48, dX12_before_49, dX12_before_52, dX12_before_53, dX12_before_56, dX12_before_57, dX12_before_58, dX12_before_59, dX12_before_62, dX12_before_63, dX12_before_64, dX12_before_67, dX12_before_70, dX12_before_71, dX12_before_74, dX12_before_75, dX12_before_78, dX12_before_79, dX12_before_80, dX12_before_81, dX12_before_84, dX12_before_85, dX12_before_88, dX12_before_89, dX12_before_90, dX12_before_91, dX12_before_92, dX12_before_95, dX12_before_96, dX12_before_97, dX12_before_100, dX12_before_101, dX12_before_104, dX12_before_107, dX12_before_108, dX12_before_111, dX12_before_112, dX12_before_113, dX12_before_114, dX12_before_115, dX12_before_118, dX12_before_119, dX12_before_120, dX12_before_123, dX12_before_124, dX12_before_127, dX12_before_128, dX12_before_129, e_aload_n, e_iload_n, e_istore_n, e_iconst, e_bipush, e_iadd, e_isub, e_pop, e_iinc, e_ifCond, e_if_icmp, e_goto, e_getfield, e_putfield, e_iaload, e_iastore, e_invokevirtual, e_ireturn, e_wSt0, e_wSt1, e_wSt2, e_isL0, e_isL1, e_isL2, e_lset, e_lclr0, e_lclr1, e_lclr2, e_lput0, e_lput1, e_lput2, e_wInc, e_wInc0, Nat.reduceLT, not_false_eq_true, Bool.or_false, Bool.false_or, Bool.or_true, Bool.true_or, Bool.and_false, Bool.false_and, Bool.and_true, Bool.true_and, e_wPop, e_wI2, e_ri, e_rz, e_wIf_eq, e_wIc_ne, e_wIc_ge, e_wIc_eq, bp_60, fX12_122, fX12_29, fX12_32, ic_0, ic_1, jt_104_9, jt_13_17, jt_18_12, jt_27_5, jt_39_31, jt_49_15, jt_59_5, jt_5_25, jt_67_m33, pX12_122, e_call, e_callS0, e_callS1, e_callS2, e_callS3, e_callS4, e_pop0, e_pop1, e_tl0, e_tl1, tbX12_before_f, tbX12_before_p, tbX12_before_k, tbX12_before_c118, tbX12_before_c125, tbX12_before_c129, g_245_9, p_245_4, g_245_4, l_253, s_253, g_245_10, cv_245_0, cv_245_1, cv_245_2, cv_245_3, cv_245_4, l_252, s_252, spX12_isBook, spX12_tightens, spX12_closes, bi_0, bi_1, ne_eq, Classical.not_not, em_r, em_l]
  simp (disch := first | omega | decide) only [up_obj, wI_id]
  have e : upI (upI (upI S 252 (S.1 245 4).toNat a) 253 (S.1 245 4).toNat b) 245 4 (S.1 245 4 + 1) = beM S a b := rfl
  have e4 : (beM S a b).1 245 4 = S.1 245 4 + 1 := up_hit
  simp only [e]
  simp (disch := first | omega | decide) only [s2_o, e4, wI_id, Int.add_sub_cancel]
  exact ⟨by omega, by omega, by omega, by omega, h1, fun f l hf => ⟨fun q => absurd q (by decide), fun _ => h2 f l hf⟩, fun hn f l => ⟨fun _ => h3 hn f l, fun q => absurd trivial q⟩⟩
set_option maxRecDepth 20000 in
set_option maxHeartbeats 4000000 in
theorem okX12_before (l : Launch) : aOK l mX12_before spX12_before := by
  refine aOK_of rfl fun as S Q h => ?_
  unfold spX12_before at h
  split at h
  · rename_i a b
    refine ⟨Nat.le_of_ble_eq_true rfl, wp_ok (tbX12_before_ok l) Q (fun pc => pc == 34 || pc == 70) 77 0 _ [] S ?_⟩
    show wp cX12_before tbX12_before 4 (some .boolean) Q (fun pc => pc == 34 || pc == 70) (aGo l mX12_before Q) 77 0 [(0, .inr (.inr 245)), (1, .inl a), (2, .inl b)] [] S
    simp only [wp_s, wpC_f, wpC_t, e_wLd, e_wLd0, e_wLd1, e_wLd2, e_get1, e_get2, e_wJ, e_wJo, f40, f41, f42, f43, Nat.reduceAdd, Nat.reduceBEq, Nat.reduceMul, eq_self, true_or, or_true, true_and, dX12_before_0, dX12_before_1, dX12_before_2, dX12_before_5, dX12_before_8, dX12_before_9, dX12_before_10, dX12_before_13, dX12_before_16, dX12_before_17, dX12_before_18, dX12_before_21, dX12_before_22, dX12_before_25, dX12_before_27, dX12_before_30, dX12_before_31, dX12_before_32, dX12_before_33, dX12_before_34, dX12_before_35, dX12_before_36, dX12_before_39, dX12_before_42, dX12_before_43, dX12_before_46, dX12_before_47, dX12_before_48, dX12_before_49, dX12_before_52, dX12_before_53, dX12_before_56, dX12_before_57, dX12_before_58, dX12_before_59, dX12_before_62, dX12_before_63, dX12_before_64, dX12_before_67, dX12_before_70, dX12_before_71, dX12_before_74, dX12_before_75, dX12_before_78, dX12_before_79, dX12_before_80, dX12_before_81, dX12_before_84, dX12_before_85, dX12_before_88, dX12_before_89, dX12_before_90, dX12_before_91, dX12_before_92, dX12_before_95, dX12_before_96, dX12_before_97, dX12_before_100, dX12_before_101, dX12_before_104, dX12_before_107, dX12_before_108, dX12_before_111, dX12_before_112, dX12_before_113, dX12_before_114, dX12_before_115, dX12_before_118, dX12_before_119, dX12_before_120, dX12_before_123, dX12_before_124, dX12_before_127, dX12_before_128, dX12_before_129, e_aload_n, e_iload_n, e_istore_n, e_iconst, e_bipush, e_iadd, e_isub, e_pop, e_iinc, e_ifCond, e_if_icmp, e_goto, e_getfield, e_putfield, e_iaload, e_iastore, e_invokevirtual, e_ireturn, e_wSt0, e_wSt1, e_wSt2, e_isL0, e_isL1, e_isL2, e_lset, e_lclr0, e_lclr1, e_lclr2, e_lput0, e_lput1, e_lput2, e_wInc, e_wInc0, Nat.reduceLT, not_false_eq_true, Bool.or_false, Bool.false_or, Bool.or_true, Bool.true_or, Bool.and_false, Bool.false_and, Bool.and_true, Bool.true_and, e_wPop, e_wI2, e_ri, e_rz, e_wIf_eq, e_wIc_ne, e_wIc_ge, e_wIc_eq, bp_60, fX12_122, fX12_29, fX12_32, ic_0, ic_1, jt_104_9, jt_13_17, jt_18_12, jt_27_5, jt_39_31, jt_49_15, jt_59_5, jt_5_25, jt_67_m33, pX12_122, e_call, e_callS0, e_callS1, e_callS2, e_callS3, e_callS4, e_pop0, e_pop1, e_tl0, e_tl1, tbX12_before_f, tbX12_before_p, tbX12_before_k, tbX12_before_c118, tbX12_before_c125, tbX12_before_c129, g_245_9, p_245_4, g_245_4, l_253, s_253, g_245_10, cv_245_0, cv_245_1, cv_245_2, cv_245_3, cv_245_4, l_252, s_252, spX12_isBook, spX12_tightens, spX12_closes, bi_0, bi_1, ne_eq, Classical.not_not, em_r, em_l]
    obtain ⟨h0, h1, hA, hB⟩ := h
    have lo : (¬ teM S a b → aGo l mX12_before Q 70 [(0, .inr (.inr 245)), (1, .inl a), (2, .inl b)] [] S) → aGo l mX12_before Q 34 [(0, .inr (.inr 245)), (1, .inl a), (2, .inl b), (3, .inl 0)] [] S := fun z => lpB l Q _ S a b 0 (Nat.zero_add _) h0.2 (fun y => hA (Or.inr y)) (fun k hk => absurd hk (by omega)) z
    refine ⟨fun q => hA (Or.inl (fun z => q z.1)), fun q => ⟨fun q2 => hA (Or.inl (fun z => q2 z.2.1)), fun q2 => ⟨fun q3 => hA (Or.inl (fun z => z.2.2.1 q3)), fun q3 => ⟨fun q4 => lo (fun z => ?_), fun q4 => hA (Or.inl (fun z => z.2.2.2 q4))⟩⟩⟩⟩
    obtain ⟨k1, k2, k3⟩ := hB ⟨q, q2, q3, q4⟩ z
    exact sgB l Q S a b ⟨h0.1, by omega⟩ k1 k2 k3
  · exact h.elim
