/-! THE REFERENCE: words that lead -/
def mk8 (b : Int) : Int := wL (lShl 1 b - 1)
def chgQ (w o r p : Int) : Int := lOr (lOr (if p + sz8 8 r = 8 then 0 else lShl (if p + sz8 8 o = 8 then 0 else lUshr w (8 * (p + sz8 8 o))) (8 * (p + sz8 8 r))) (lShl r (8 * p))) (lAnd w (mk8 (8 * p)))
noncomputable def chg8 (w o r p : Int) : Int := @ite _ (sz8 8 w < p + sz8 8 o ∨ 8 < sz8 8 w - sz8 8 o + sz8 8 r) (Classical.propDecidable _) 0 (@ite _ (lAnd (lUshr w (8 * p)) (mk8 (8 * sz8 8 o)) = o) (Classical.propDecidable _) (chgQ w o r p) 0)
def spX12_changed : aSp := fun as S Q => match as with
  | [.inr (.inr 245), .inr (.inl w), .inl r, .inl p] => wrd8 w ∧ (0 ≤ r ∧ r < 10) ∧ wrd8 (S.2 264 r.toNat) ∧ wrd8 (S.2 265 r.toNat) ∧ (0 ≤ p ∧ p < 8) ∧ Q (some (.inr (.inl (chg8 w (S.2 264 r.toNat) (S.2 265 r.toNat) p)))) S
  | _ => False
def tbX12_changed : aTb := (fX12, pX12, fun j => lk [(158, none, 1, spX12_size)] j, kX12)
theorem tbX12_changed_f : tbX12_changed.1 = fX12 := rfl
theorem tbX12_changed_p : tbX12_changed.2.1 = pX12 := rfl
theorem tbX12_changed_k : tbX12_changed.2.2.2 = kX12 := rfl
theorem tbX12_changed_c158 : tbX12_changed.2.2.1 158 = some (none, 1, spX12_size) := rfl
theorem tbX12_changed_all (l : Launch) : ∀ e ∈ ([(158, none, 1, spX12_size)] : List (Nat × Option Nat × Nat × aSp)), cOK l mX12_changed e.1 e.2.1 e.2.2.1 e.2.2.2 ∨ mOK mX12_changed e.1 e.2.1 e.2.2.1 e.2.2.2 := all_cons (cOK_of (okX12_size l) meX12_size cfX12_158 (by decide) (by decide)) (all_nil)
theorem tbX12_changed_ok (l : Launch) : tOK l mX12_changed tbX12_changed := ⟨fX12_ok, pX12_ok, fun _ _ _ _ h => tbX12_changed_all l _ (lk_mem h), kX12_ok⟩
set_option maxRecDepth 20000 in
set_option maxHeartbeats 4000000 in
theorem okX12_changed (l : Launch) : aOK l mX12_changed spX12_changed := by
  refine aOK_of rfl fun as S Q h => ?_
  unfold spX12_changed at h
  split at h
  · rename_i w r p
    refine ⟨Nat.le_of_ble_eq_true rfl, wp_ok (tbX12_changed_ok l) Q (fun pc => false) 107 0 _ [] S ?_⟩
    show wp cX12_changed tbX12_changed 16 (some .long) Q (fun pc => false) (aGo l mX12_changed Q) 107 0 [(0, .inr (.inr 245)), (1, .inr (.inl w)), (3, .inl r), (4, .inl p)] [] S
    simp only [wp_s, wpC_f, wpC_t, e_wLd, e_wLd0, e_wLd1, e_wLd2, e_get1, e_get2, e_wJ, e_wJo, f40, f41, f42, f43, Nat.reduceAdd, Nat.reduceBEq, Nat.reduceMul, eq_self, true_or, or_true, true_and, dX12_changed_0, dX12_changed_1, dX12_changed_4, dX12_changed_6, dX12_changed_7, dX12_changed_10, dX12_changed_11, dX12_changed_12, dX12_changed_15, dX12_changed_17, dX12_changed_18, dX12_changed_21, dX12_changed_22, dX12_changed_23, dX12_changed_26, dX12_changed_28, dX12_changed_30, dX12_changed_32, dX12_changed_33, dX12_changed_35, dX12_changed_38, dX12_changed_40, dX12_changed_42, dX12_changed_43, dX12_changed_45, dX12_changed_46, dX12_changed_48, dX12_changed_51, dX12_changed_52, dX12_changed_53, dX12_changed_54, dX12_changed_56, dX12_changed_58, dX12_changed_59, dX12_changed_60, dX12_changed_61, dX12_changed_62, dX12_changed_64, dX12_changed_65, dX12_changed_67, dX12_changed_69, dX12_changed_70, dX12_changed_71, dX12_changed_73, dX12_changed_74, dX12_changed_75, dX12_changed_78, dX12_changed_79, dX12_changed_80, dX12_changed_81, dX12_changed_84, dX12_changed_85, dX12_changed_86, dX12_changed_87, dX12_changed_88, dX12_changed_90, dX12_changed_92, dX12_changed_93, dX12_changed_94, dX12_changed_95, dX12_changed_96, dX12_changed_97, dX12_changed_99, dX12_changed_101, dX12_changed_103, dX12_changed_104, dX12_changed_106, dX12_changed_109, dX12_changed_110, dX12_changed_113, dX12_changed_114, dX12_changed_116, dX12_changed_118, dX12_changed_120, dX12_changed_121, dX12_changed_122, dX12_changed_123, dX12_changed_125, dX12_changed_127, dX12_changed_129, dX12_changed_130, dX12_changed_132, dX12_changed_135, dX12_changed_136, dX12_changed_139, dX12_changed_141, dX12_changed_143, dX12_changed_145, dX12_changed_147, dX12_changed_148, dX12_changed_149, dX12_changed_150, dX12_changed_152, dX12_changed_154, dX12_changed_155, dX12_changed_158, dX12_changed_159, dX12_changed_160, dX12_changed_162, dX12_changed_164, dX12_changed_165, dX12_changed_166, dX12_changed_167, dX12_changed_169, dX12_changed_170, e_aload_n, e_iload_n, e_iload, e_lload_n, e_lload, e_istore, e_lstore, e_bipush, e_lconst, e_iadd, e_isub, e_imul, e_lsub, e_land, e_lor, e_lshl, e_lushr, e_lcmp, e_ifCond, e_if_icmp, e_goto, e_getfield, e_laload, e_invokestatic, e_lreturn, e_wSt0, e_wSt1, e_wSt2, e_isL0, e_isL1, e_isL2, e_lset, e_lclr0, e_lclr1, e_lclr2, e_lput0, e_lput1, e_lput2, e_wInc, e_wInc0, Nat.reduceLT, not_false_eq_true, Bool.or_false, Bool.false_or, Bool.or_true, Bool.true_or, Bool.and_false, Bool.false_and, Bool.and_true, Bool.true_and, e_wLI2, e_wI2, lc0, lc1, e_wCmp, e_rl, e_wL2, e_wIc_ne, e_wIc_gt, e_wIf_eq, e_wIc_le, bp_8, fX12_67, fX12_70, jt_106_7, jt_110_13, jt_132_7, jt_136_14, jt_35_16, jt_48_5, jt_81_5, e_call, e_callS0, e_callS1, e_callS2, e_callS3, e_callS4, e_pop0, e_pop1, e_tl0, e_tl1, tbX12_changed_f, tbX12_changed_p, tbX12_changed_k, tbX12_changed_c158, l_265, l_264, g_245_24, g_245_25, spX12_size]
    obtain ⟨h0, h1, h2, h3, h4, h5⟩ := h
    generalize S.2 264 r.toNat = o at *
    generalize S.2 265 r.toNat = n at *
    have b1 := sz8_b 8 w
    have b2 := sz8_b 8 o
    have b3 := sz8_b 8 n
    have em : ∀ b : Int, wL (lShl 1 b - 1) = mk8 b := fun _ => rfl
    unfold chg8 chgQ at h5
    simp (disch := omega) only [wI_id, em, lCmp_e]
    by_cases c1 : sz8 8 w < p + sz8 8 o ∨ 8 < sz8 8 w - sz8 8 o + sz8 8 n
    · rw [if_pos c1] at h5
      repeat' (with_reducible first | intro _ | refine And.intro ?_ ?_)
      all_goals first
        | omega
        | assumption
        | skip
    · rw [if_neg c1] at h5
      by_cases c2 : lAnd (lUshr w (8 * p)) (mk8 (8 * sz8 8 o)) = o
      · rw [if_pos c2] at h5
        by_cases c3 : p + sz8 8 o = 8
        · rw [if_pos c3] at h5
          by_cases c4 : p + sz8 8 n = 8
          · rw [if_pos c4] at h5
            repeat' (with_reducible first | intro _ | refine And.intro ?_ ?_)
            all_goals first
              | omega
              | assumption
              | contradiction
              | skip
          · rw [if_neg c4] at h5
            repeat' (with_reducible first | intro _ | refine And.intro ?_ ?_)
            all_goals first
              | omega
              | assumption
              | contradiction
              | skip
        · rw [if_neg c3] at h5
          by_cases c4 : p + sz8 8 n = 8
          · rw [if_pos c4] at h5
            repeat' (with_reducible first | intro _ | refine And.intro ?_ ?_)
            all_goals first
              | omega
              | assumption
              | contradiction
              | skip
          · rw [if_neg c4] at h5
            repeat' (with_reducible first | intro _ | refine And.intro ?_ ?_)
            all_goals first
              | omega
              | assumption
              | contradiction
              | skip
      · rw [if_neg c2] at h5
        repeat' (with_reducible first | intro _ | refine And.intro ?_ ?_)
        all_goals first
          | omega
          | assumption
          | contradiction
          | skip
  · exact h.elim
def ruP (S : aS) : Prop := (0 ≤ S.1 245 14 ∧ S.1 245 14 ≤ 10) ∧ ∀ r : Nat, (r : Int) < S.1 245 14 → wrd8 (S.2 264 r) ∧ wrd8 (S.2 265 r)
noncomputable def chR (S : aS) (w : Int) (r p : Nat) : Int := chg8 w (S.2 264 r) (S.2 265 r) p
def l1M (S : aS) (w t : Int) : Prop := ∃ r : Nat, (r : Int) < S.1 245 14 ∧ ∃ p : Nat, p < 8 ∧ chR S w r p = t
def l2P (S : aS) (w t : Int) (r p : Nat) : Prop := ¬ chR S w r p = 0 ∧ l1M S (chR S w r p) t
def ldM (S : aS) (w t : Int) : Prop := w = t ∨ l1M S w t ∨ ∃ r : Nat, (r : Int) < S.1 245 14 ∧ ∃ p : Nat, p < 8 ∧ l2P S w t r p
def cwP (S : aS) (w : Int) : Prop := wrd8 w ∧ ∀ r : Nat, (r : Int) < S.1 245 14 → ∀ p : Nat, p < 8 → wrd8 (chR S w r p)
def spX12_leadsByOne : aSp := fun as S Q => match as with
  | [.inr (.inr 245), .inr (.inl w), .inr (.inl t)] => ruP S ∧ wrd8 w ∧ Q (some (.inl (bi (l1M S w t)))) S
  | _ => False
def tbX12_leadsByOne : aTb := (fX12, pX12, fun j => lk [(162, (some 12), 4, spX12_changed)] j, kX12)
theorem tbX12_leadsByOne_f : tbX12_leadsByOne.1 = fX12 := rfl
theorem tbX12_leadsByOne_p : tbX12_leadsByOne.2.1 = pX12 := rfl
theorem tbX12_leadsByOne_k : tbX12_leadsByOne.2.2.2 = kX12 := rfl
theorem tbX12_leadsByOne_c162 : tbX12_leadsByOne.2.2.1 162 = some ((some 12), 4, spX12_changed) := rfl
theorem tbX12_leadsByOne_all (l : Launch) : ∀ e ∈ ([(162, (some 12), 4, spX12_changed)] : List (Nat × Option Nat × Nat × aSp)), cOK l mX12_leadsByOne e.1 e.2.1 e.2.2.1 e.2.2.2 ∨ mOK mX12_leadsByOne e.1 e.2.1 e.2.2.1 e.2.2.2 := all_cons (cOK_of (okX12_changed l) meX12_changed cfX12_162 (by decide) (by decide)) (all_nil)
theorem tbX12_leadsByOne_ok (l : Launch) : tOK l mX12_leadsByOne tbX12_leadsByOne := ⟨fX12_ok, pX12_ok, fun _ _ _ _ h => tbX12_leadsByOne_all l _ (lk_mem h), kX12_ok⟩
set_option maxRecDepth 20000 in
set_option maxHeartbeats 4000000 in
theorem lpL1 (l : Launch) (Q : Option aV → aS → Prop) : ∀ (n : Nat) (S : aS) (w t : Int) (r i : Nat), i + n = 8 → ruP S → wrd8 w → (r : Int) < S.1 245 14 → (∀ j : Nat, j < i → ¬ chR S w r j = t) → (l1M S w t → Q (some (.inl 1)) S) → ((∀ j : Nat, j < 8 → ¬ chR S w r j = t) → aGo l mX12_leadsByOne Q 44 [(0, .inr (.inr 245)), (1, .inr (.inl w)), (3, .inr (.inl t)), (5, .inl (r : Int))] [] S) → aGo l mX12_leadsByOne Q 15 [(0, .inr (.inr 245)), (1, .inr (.inl w)), (3, .inr (.inl t)), (5, .inl (r : Int)), (6, .inl (i : Int))] [] S := by
  intro n
  induction n using Nat.strongRecOn with
  | _ n ih =>
  intro S  w t  r i  h0 h1 h2 h3 h4 h5 h6
  refine wp_go (tbX12_leadsByOne_ok l) (fun pc => pc == 15 || pc == 44) 29 dX12_leadsByOne_15 ?_
  show ws1 tbX12_leadsByOne 7 (some .boolean) Q (wp cX12_leadsByOne tbX12_leadsByOne 7 (some .boolean) Q (fun pc => pc == 15 || pc == 44) (aGo l mX12_leadsByOne Q) 29) (.iload 6) 2 15 [(0, .inr (.inr 245)), (1, .inr (.inl w)), (3, .inr (.inl t)), (5, .inl (r : Int)), (6, .inl (i : Int))] [] S
  simp only [wp_s, wpC_f, wpC_t, e_wLd, e_wLd0, e_wLd1, e_wLd2, e_get1, e_get2, e_wJ, e_wJo, f40, f41, f42, f43, Nat.reduceAdd, Nat.reduceBEq, Nat.reduceMul, eq_self, true_or, or_true, true_and, dX12_leadsByOne_0, dX12_leadsByOne_1, dX12_leadsByOne_3, dX12_leadsByOne_5, dX12_leadsByOne_6, dX12_leadsByOne_9, dX12_leadsByOne_12, dX12_leadsByOne_13, dX12_leadsByOne_15, dX12_leadsByOne_17, dX12_leadsByOne_19, dX12_leadsByOne_22, dX12_leadsByOne_23, dX12_leadsByOne_24, dX12_leadsByOne_26, dX12_leadsByOne_28, dX12_leadsByOne_31, dX12_leadsByOne_32, dX12_leadsByOne_33, dX12_leadsByOne_36, dX12_leadsByOne_37, dX12_leadsByOne_38, dX12_leadsByOne_41, dX12_leadsByOne_44, dX12_leadsByOne_47, dX12_leadsByOne_50, dX12_leadsByOne_51, e_aload_n, e_iload, e_lload_n, e_istore, e_iconst, e_bipush, e_lcmp, e_iinc, e_ifCond, e_if_icmp, e_goto, e_getfield, e_invokevirtual, e_ireturn, e_wSt0, e_wSt1, e_wSt2, e_isL0, e_isL1, e_isL2, e_lset, e_lclr0, e_lclr1, e_lclr2, e_lput0, e_lput1, e_lput2, e_wInc, e_wInc0, Nat.reduceLT, not_false_eq_true, Bool.or_false, Bool.false_or, Bool.or_true, Bool.true_or, Bool.and_false, Bool.false_and, Bool.and_true, Bool.true_and, e_wCmp, e_ri, e_rz, e_wIc_ge, e_wIf_ne, bp_8, fX12_155, ic_0, ic_1, jt_19_25, jt_33_5, jt_41_m26, jt_47_m44, jt_9_41, e_call, e_callS0, e_callS1, e_callS2, e_callS3, e_callS4, e_pop0, e_pop1, e_tl0, e_tl1, tbX12_leadsByOne_f, tbX12_leadsByOne_p, tbX12_leadsByOne_k, tbX12_leadsByOne_c162, cv_245_0, cv_245_1, cv_245_2, cv_245_3, cv_245_4, g_245_14, spX12_changed, lCmp_e]
  have h1' := h1
  obtain ⟨g0, g1⟩ := h1'
  simp (disch := omega) only [wI_id, Int.toNat_natCast]
  refine ⟨fun q => ?_, fun q => ?_⟩
  · obtain rfl : i = 8 := by omega
    exact aGo_sub (h6 h4) (fun q hq => List.mem_append_left ([(6, Sum.inl _)] : aL) hq)
  · refine ⟨h2, ⟨by omega, by omega⟩, (g1 r h3).1, (g1 r h3).2, ⟨by omega, by omega⟩, fun q1 => ?_, fun q1 => ?_⟩
    · exact ih (n - 1) (by omega) S w t r (i + 1) (by omega) h1 h2 h3 (fun j hj => by
        by_cases e : j = i
        · subst e; exact q1
        · exact h4 j (by omega)) h5 h6
    · exact h5 ⟨r, h3, i, by omega, q1⟩
set_option maxRecDepth 20000 in
set_option maxHeartbeats 4000000 in
theorem lpL3 (l : Launch) (Q : Option aV → aS → Prop) (S : aS) (w t : Int) (r : Nat) (h0 : r < 10) (h1 : aGo l mX12_leadsByOne Q 3 [(0, .inr (.inr 245)), (1, .inr (.inl w)), (3, .inr (.inl t)), (5, .inl ((r : Int) + 1))] [] S) : aGo l mX12_leadsByOne Q 44 [(0, .inr (.inr 245)), (1, .inr (.inl w)), (3, .inr (.inl t)), (5, .inl (r : Int))] [] S := by
  refine wp_go (tbX12_leadsByOne_ok l) (fun pc => pc == 3) 29 dX12_leadsByOne_44 ?_
  show ws1 tbX12_leadsByOne 7 (some .boolean) Q (wp cX12_leadsByOne tbX12_leadsByOne 7 (some .boolean) Q (fun pc => pc == 3) (aGo l mX12_leadsByOne Q) 29) (.iinc 5 1) 3 44 [(0, .inr (.inr 245)), (1, .inr (.inl w)), (3, .inr (.inl t)), (5, .inl (r : Int))] [] S
  simp only [wp_s, wpC_f, wpC_t, e_wLd, e_wLd0, e_wLd1, e_wLd2, e_get1, e_get2, e_wJ, e_wJo, f40, f41, f42, f43, Nat.reduceAdd, Nat.reduceBEq, Nat.reduceMul, eq_self, true_or, or_true, true_and, dX12_leadsByOne_0, dX12_leadsByOne_1, dX12_leadsByOne_3, dX12_leadsByOne_5, dX12_leadsByOne_6, dX12_leadsByOne_9, dX12_leadsByOne_12, dX12_leadsByOne_13, dX12_leadsByOne_15, dX12_leadsByOne_17, dX12_leadsByOne_19, dX12_leadsByOne_22, dX12_leadsByOne_23, dX12_leadsByOne_24, dX12_leadsByOne_26, dX12_leadsByOne_28, dX12_leadsByOne_31, dX12_leadsByOne_32, dX12_leadsByOne_33, dX12_leadsByOne_36, dX12_leadsByOne_37, dX12_leadsByOne_38, dX12_leadsByOne_41, dX12_leadsByOne_44, dX12_leadsByOne_47, dX12_leadsByOne_50, dX12_leadsByOne_51, e_aload_n, e_iload, e_lload_n, e_istore, e_iconst, e_bipush, e_lcmp, e_iinc, e_ifCond, e_if_icmp, e_goto, e_getfield, e_invokevirtual, e_ireturn, e_wSt0, e_wSt1, e_wSt2, e_isL0, e_isL1, e_isL2, e_lset, e_lclr0, e_lclr1, e_lclr2, e_lput0, e_lput1, e_lput2, e_wInc, e_wInc0, Nat.reduceLT, not_false_eq_true, Bool.or_false, Bool.false_or, Bool.or_true, Bool.true_or, Bool.and_false, Bool.false_and, Bool.and_true, Bool.true_and, e_wCmp, e_ri, e_rz, e_wIc_ge, e_wIf_ne, bp_8, fX12_155, ic_0, ic_1, jt_19_25, jt_33_5, jt_41_m26, jt_47_m44, jt_9_41, e_call, e_callS0, e_callS1, e_callS2, e_callS3, e_callS4, e_pop0, e_pop1, e_tl0, e_tl1, tbX12_leadsByOne_f, tbX12_leadsByOne_p, tbX12_leadsByOne_k, tbX12_leadsByOne_c162, cv_245_0, cv_245_1, cv_245_2, cv_245_3, cv_245_4, g_245_14]
  simp (disch := omega) only [wI_id]
  exact h1
set_option maxRecDepth 20000 in
set_option maxHeartbeats 4000000 in
theorem lpL2 (l : Launch) (Q : Option aV → aS → Prop) : ∀ (n : Nat) (S : aS) (w t : Int) (i : Nat), i + n = (S.1 245 14).toNat → ruP S → wrd8 w → (∀ j : Nat, j < i → ∀ p : Nat, p < 8 → ¬ chR S w j p = t) → Q (some (.inl (bi (l1M S w t)))) S → aGo l mX12_leadsByOne Q 3 [(0, .inr (.inr 245)), (1, .inr (.inl w)), (3, .inr (.inl t)), (5, .inl (i : Int))] [] S := by
  intro n
  induction n using Nat.strongRecOn with
  | _ n ih =>
  intro S  w t  i  h0 h1 h2 h3 h4
  refine wp_go (tbX12_leadsByOne_ok l) (fun pc => pc == 3 || pc == 15) 29 dX12_leadsByOne_3 ?_
  show ws1 tbX12_leadsByOne 7 (some .boolean) Q (wp cX12_leadsByOne tbX12_leadsByOne 7 (some .boolean) Q (fun pc => pc == 3 || pc == 15) (aGo l mX12_leadsByOne Q) 29) (.iload 5) 2 3 [(0, .inr (.inr 245)), (1, .inr (.inl w)), (3, .inr (.inl t)), (5, .inl (i : Int))] [] S
  simp only [wp_s, wpC_f, wpC_t, e_wLd, e_wLd0, e_wLd1, e_wLd2, e_get1, e_get2, e_wJ, e_wJo, f40, f41, f42, f43, Nat.reduceAdd, Nat.reduceBEq, Nat.reduceMul, eq_self, true_or, or_true, true_and, dX12_leadsByOne_0, dX12_leadsByOne_1, dX12_leadsByOne_3, dX12_leadsByOne_5, dX12_leadsByOne_6, dX12_leadsByOne_9, dX12_leadsByOne_12, dX12_leadsByOne_13, dX12_leadsByOne_15, dX12_leadsByOne_17, dX12_leadsByOne_19, dX12_leadsByOne_22, dX12_leadsByOne_23, dX12_leadsByOne_24, dX12_leadsByOne_26, dX12_leadsByOne_28, dX12_leadsByOne_31, dX12_leadsByOne_32, dX12_leadsByOne_33, dX12_leadsByOne_36, dX12_leadsByOne_37, dX12_leadsByOne_38, dX12_leadsByOne_41, dX12_leadsByOne_44, dX12_leadsByOne_47, dX12_leadsByOne_50, dX12_leadsByOne_51, e_aload_n, e_iload, e_lload_n, e_istore, e_iconst, e_bipush, e_lcmp, e_iinc, e_ifCond, e_if_icmp, e_goto, e_getfield, e_invokevirtual, e_ireturn, e_wSt0, e_wSt1, e_wSt2, e_isL0, e_isL1, e_isL2, e_lset, e_lclr0, e_lclr1, e_lclr2, e_lput0, e_lput1, e_lput2, e_wInc, e_wInc0, Nat.reduceLT, not_false_eq_true, Bool.or_false, Bool.false_or, Bool.or_true, Bool.true_or, Bool.and_false, Bool.false_and, Bool.and_true, Bool.true_and, e_wCmp, e_ri, e_rz, e_wIc_ge, e_wIf_ne, bp_8, fX12_155, ic_0, ic_1, jt_19_25, jt_33_5, jt_41_m26, jt_47_m44, jt_9_41, e_call, e_callS0, e_callS1, e_callS2, e_callS3, e_callS4, e_pop0, e_pop1, e_tl0, e_tl1, tbX12_leadsByOne_f, tbX12_leadsByOne_p, tbX12_leadsByOne_k, tbX12_leadsByOne_c162, cv_245_0, cv_245_1, cv_245_2, cv_245_3, cv_245_4, g_245_14, spX12_changed, lCmp_e]
  have h1' := h1
  obtain ⟨g0, g1⟩ := h1'
  refine ⟨fun q => ?_, fun q => ?_⟩
  · have hn : ¬ l1M S w t := fun ⟨r, hr, p, hp, e⟩ => h3 r (by omega) p hp e
    rw [bi_f hn] at h4; exact h4
  · refine lpL1 l Q 8 S w t i 0 rfl h1 h2 (by omega) (fun j hj => absurd hj (by omega)) (fun z => by rw [bi_t z] at h4; exact h4) (fun z => ?_)
    refine lpL3 l Q S w t i (by omega) (ih (n - 1) (by omega) S w t (i + 1) (by omega) h1 h2 (fun j hj p hp => ?_) h4)
    by_cases e : j = i
    · subst e; exact z p hp
    · exact h3 j (by omega) p hp
set_option maxRecDepth 20000 in
set_option maxHeartbeats 4000000 in
theorem okX12_leadsByOne (l : Launch) : aOK l mX12_leadsByOne spX12_leadsByOne := by
  refine aOK_of rfl fun as S Q h => ?_
  unfold spX12_leadsByOne at h
  split at h
  · rename_i w t
    refine ⟨Nat.le_of_ble_eq_true rfl, wp_ok (tbX12_leadsByOne_ok l) Q (fun pc => pc == 3) 29 0 _ [] S ?_⟩
    show wp cX12_leadsByOne tbX12_leadsByOne 7 (some .boolean) Q (fun pc => pc == 3) (aGo l mX12_leadsByOne Q) 29 0 [(0, .inr (.inr 245)), (1, .inr (.inl w)), (3, .inr (.inl t))] [] S
    simp only [wp_s, wpC_f, wpC_t, e_wLd, e_wLd0, e_wLd1, e_wLd2, e_get1, e_get2, e_wJ, e_wJo, f40, f41, f42, f43, Nat.reduceAdd, Nat.reduceBEq, Nat.reduceMul, eq_self, true_or, or_true, true_and, dX12_leadsByOne_0, dX12_leadsByOne_1, dX12_leadsByOne_3, dX12_leadsByOne_5, dX12_leadsByOne_6, dX12_leadsByOne_9, dX12_leadsByOne_12, dX12_leadsByOne_13, dX12_leadsByOne_15, dX12_leadsByOne_17, dX12_leadsByOne_19, dX12_leadsByOne_22, dX12_leadsByOne_23, dX12_leadsByOne_24, dX12_leadsByOne_26, dX12_leadsByOne_28, dX12_leadsByOne_31, dX12_leadsByOne_32, dX12_leadsByOne_33, dX12_leadsByOne_36, dX12_leadsByOne_37, dX12_leadsByOne_38, dX12_leadsByOne_41, dX12_leadsByOne_44, dX12_leadsByOne_47, dX12_leadsByOne_50, dX12_leadsByOne_51, e_aload_n, e_iload, e_lload_n, e_istore, e_iconst, e_bipush, e_lcmp, e_iinc, e_ifCond, e_if_icmp, e_goto, e_getfield, e_invokevirtual, e_ireturn, e_wSt0, e_wSt1, e_wSt2, e_isL0, e_isL1, e_isL2, e_lset, e_lclr0, e_lclr1, e_lclr2, e_lput0, e_lput1, e_lput2, e_wInc, e_wInc0, Nat.reduceLT, not_false_eq_true, Bool.or_false, Bool.false_or, Bool.or_true, Bool.true_or, Bool.and_false, Bool.false_and, Bool.and_true, Bool.true_and, e_wCmp, e_ri, e_rz, e_wIc_ge, e_wIf_ne, bp_8, fX12_155, ic_0, ic_1, jt_19_25, jt_33_5, jt_41_m26, jt_47_m44, jt_9_41, e_call, e_callS0, e_callS1, e_callS2, e_callS3, e_callS4, e_pop0, e_pop1, e_tl0, e_tl1, tbX12_leadsByOne_f, tbX12_leadsByOne_p, tbX12_leadsByOne_k, tbX12_leadsByOne_c162, cv_245_0, cv_245_1, cv_245_2, cv_245_3, cv_245_4, g_245_14]
    exact lpL2 l Q _ S w t 0 (Nat.zero_add _) h.1 h.2.1 (fun j hj => absurd hj (by omega)) h.2.2
  · exact h.elim
def spX12_leads : aSp := fun as S Q => match as with
  | [.inr (.inr 245), .inr (.inl w), .inr (.inl t)] => ruP S ∧ cwP S w ∧ Q (some (.inl (bi (ldM S w t)))) S
  | _ => False
def tbX12_leads : aTb := (fX12, pX12, fun j => lk [(162, (some 12), 4, spX12_changed), (166, (some 12), 3, spX12_leadsByOne)] j, kX12)
theorem tbX12_leads_f : tbX12_leads.1 = fX12 := rfl
theorem tbX12_leads_p : tbX12_leads.2.1 = pX12 := rfl
theorem tbX12_leads_k : tbX12_leads.2.2.2 = kX12 := rfl
theorem tbX12_leads_c162 : tbX12_leads.2.2.1 162 = some ((some 12), 4, spX12_changed) := rfl
theorem tbX12_leads_c166 : tbX12_leads.2.2.1 166 = some ((some 12), 3, spX12_leadsByOne) := rfl
theorem tbX12_leads_all (l : Launch) : ∀ e ∈ ([(162, (some 12), 4, spX12_changed), (166, (some 12), 3, spX12_leadsByOne)] : List (Nat × Option Nat × Nat × aSp)), cOK l mX12_leads e.1 e.2.1 e.2.2.1 e.2.2.2 ∨ mOK mX12_leads e.1 e.2.1 e.2.2.1 e.2.2.2 := all_cons (cOK_of (okX12_changed l) meX12_changed cfX12_162 (by decide) (by decide)) (all_cons (cOK_of (okX12_leadsByOne l) meX12_leadsByOne cfX12_166 (by decide) (by decide)) (all_nil))
theorem tbX12_leads_ok (l : Launch) : tOK l mX12_leads tbX12_leads := ⟨fX12_ok, pX12_ok, fun _ _ _ _ h => tbX12_leads_all l _ (lk_mem h), kX12_ok⟩
set_option maxRecDepth 20000 in
set_option maxHeartbeats 4000000 in
theorem lpM1 (l : Launch) (Q : Option aV → aS → Prop) : ∀ (n : Nat) (S : aS) (w t : Int) (r i : Nat), i + n = 8 → ruP S → cwP S w → (r : Int) < S.1 245 14 → (∀ j : Nat, j < i → ¬ l2P S w t r j) → (ldM S w t → Q (some (.inl 1)) S) → ((∀ j : Nat, j < 8 → ¬ l2P S w t r j) → aGo l mX12_leads Q 75 [(0, .inr (.inr 245)), (1, .inr (.inl w)), (3, .inr (.inl t)), (5, .inl (r : Int))] [] S) → aGo l mX12_leads Q 32 [(0, .inr (.inr 245)), (1, .inr (.inl w)), (3, .inr (.inl t)), (5, .inl (r : Int)), (6, .inl (i : Int))] [] S := by
  intro n
  induction n using Nat.strongRecOn with
  | _ n ih =>
  intro S  w t  r i  h0 h1 h2 h3 h4 h5 h6
  refine wp_go (tbX12_leads_ok l) (fun pc => pc == 32 || pc == 75) 47 dX12_leads_32 ?_
  show ws1 tbX12_leads 9 (some .boolean) Q (wp cX12_leads tbX12_leads 9 (some .boolean) Q (fun pc => pc == 32 || pc == 75) (aGo l mX12_leads Q) 47) (.iload 6) 2 32 [(0, .inr (.inr 245)), (1, .inr (.inl w)), (3, .inr (.inl t)), (5, .inl (r : Int)), (6, .inl (i : Int))] [] S
  simp only [wp_s, wpC_f, wpC_t, e_wLd, e_wLd0, e_wLd1, e_wLd2, e_get1, e_get2, e_wJ, e_wJo, f40, f41, f42, f43, Nat.reduceAdd, Nat.reduceBEq, Nat.reduceMul, eq_self, true_or, or_true, true_and, dX12_leads_0, dX12_leads_1, dX12_leads_2, dX12_leads_3, dX12_leads_6, dX12_leads_7, dX12_leads_8, dX12_leads_9, dX12_leads_12, dX12_leads_15, dX12_leads_16, dX12_leads_17, dX12_leads_18, dX12_leads_20, dX12_leads_22, dX12_leads_23, dX12_leads_26, dX12_leads_29, dX12_leads_30, dX12_leads_32, dX12_leads_34, dX12_leads_36, dX12_leads_39, dX12_leads_40, dX12_leads_41, dX12_leads_43, dX12_leads_45, dX12_leads_48, dX12_leads_50, dX12_leads_52, dX12_leads_53, dX12_leads_54, dX12_leads_57, dX12_leads_58, dX12_leads_60, dX12_leads_61, dX12_leads_64, dX12_leads_67, dX12_leads_68, dX12_leads_69, dX12_leads_72, dX12_leads_75, dX12_leads_78, dX12_leads_81, dX12_leads_82, e_aload_n, e_iload, e_lload_n, e_lload, e_istore, e_lstore, e_iconst, e_bipush, e_lconst, e_lcmp, e_iinc, e_ifCond, e_if_icmp, e_goto, e_getfield, e_invokevirtual, e_ireturn, e_wSt0, e_wSt1, e_wSt2, e_isL0, e_isL1, e_isL2, e_lset, e_lclr0, e_lclr1, e_lclr2, e_lput0, e_lput1, e_lput2, e_wInc, e_wInc0, Nat.reduceLT, not_false_eq_true, Bool.or_false, Bool.false_or, Bool.or_true, Bool.true_or, Bool.and_false, Bool.false_and, Bool.and_true, Bool.true_and, e_wCmp, e_ri, e_rz, lc0, lc1, e_wIc_ge, e_wIf_eq, bp_8, fX12_155, ic_0, ic_1, jt_12_5, jt_26_55, jt_36_39, jt_3_12, jt_54_15, jt_64_5, jt_72_m40, jt_78_m58, e_call, e_callS0, e_callS1, e_callS2, e_callS3, e_callS4, e_pop0, e_pop1, e_tl0, e_tl1, tbX12_leads_f, tbX12_leads_p, tbX12_leads_k, tbX12_leads_c162, tbX12_leads_c166, cv_245_0, cv_245_1, cv_245_2, cv_245_3, cv_245_4, g_245_14, spX12_changed, spX12_leadsByOne, lCmp_e, bi_0, bi_1, ne_eq, Classical.not_not, em_r, em_l]
  have h1' := h1
  obtain ⟨g0, g1⟩ := h1'
  simp (disch := omega) only [wI_id, Int.toNat_natCast]
  have ec : chg8 w (S.2 264 r) (S.2 265 r) i = chR S w r i := rfl
  simp only [ec]
  refine ⟨fun q => ?_, fun q => ?_⟩
  · obtain rfl : i = 8 := by omega
    exact aGo_sub (h6 h4) (fun q hq => List.mem_append_left ([(6, Sum.inl _)] : aL) hq)
  · have nx : ¬ l2P S w t r i → aGo l mX12_leads Q 32 [(0, .inr (.inr 245)), (1, .inr (.inl w)), (3, .inr (.inl t)), (5, .inl (r : Int)), (6, .inl ((i : Int) + 1))] [] S := fun q1 => ih (n - 1) (by omega) S w t r (i + 1) (by omega) h1 h2 h3 (fun j hj => by
        by_cases e : j = i
        · subst e; exact q1
        · exact h4 j (by omega)) h5 h6
    have hw := h2.2 r h3 i (by omega)
    have hl : l2P S w t r i → Q (some (.inl 1)) S := fun z => h5 (Or.inr (Or.inr ⟨r, h3, i, by omega, z⟩))
    clear ih h5 h6 h4
    unfold l2P at nx hl
    replace nx := hid nx
    replace hl := hid hl
    have g1r := g1 r h3
    have h20 := h2.1
    clear h2 g1
    repeat' (with_reducible first | intro _ | refine And.intro ?_ ?_)
    all_goals first
      | omega
      | assumption
      | exact g1r.1
      | exact g1r.2
      | exact aGo_sub (nx (fun z => absurd (by assumption) z.1)) (fun q hq => List.mem_append_left ([(7, Sum.inr (Sum.inl _))] : aL) hq)
      | exact aGo_sub (nx (fun z => absurd z.2 (by assumption))) (fun q hq => List.mem_append_left ([(7, Sum.inr (Sum.inl _))] : aL) hq)
      | exact hl ⟨by assumption, by assumption⟩
      | skip
set_option maxRecDepth 20000 in
set_option maxHeartbeats 4000000 in
theorem lpM3 (l : Launch) (Q : Option aV → aS → Prop) (S : aS) (w t : Int) (r : Nat) (h0 : r < 10) (h1 : aGo l mX12_leads Q 20 [(0, .inr (.inr 245)), (1, .inr (.inl w)), (3, .inr (.inl t)), (5, .inl ((r : Int) + 1))] [] S) : aGo l mX12_leads Q 75 [(0, .inr (.inr 245)), (1, .inr (.inl w)), (3, .inr (.inl t)), (5, .inl (r : Int))] [] S := by
  refine wp_go (tbX12_leads_ok l) (fun pc => pc == 20) 47 dX12_leads_75 ?_
  show ws1 tbX12_leads 9 (some .boolean) Q (wp cX12_leads tbX12_leads 9 (some .boolean) Q (fun pc => pc == 20) (aGo l mX12_leads Q) 47) (.iinc 5 1) 3 75 [(0, .inr (.inr 245)), (1, .inr (.inl w)), (3, .inr (.inl t)), (5, .inl (r : Int))] [] S
  simp only [wp_s, wpC_f, wpC_t, e_wLd, e_wLd0, e_wLd1, e_wLd2, e_get1, e_get2, e_wJ, e_wJo, f40, f41, f42, f43, Nat.reduceAdd, Nat.reduceBEq, Nat.reduceMul, eq_self, true_or, or_true, true_and, dX12_leads_0, dX12_leads_1, dX12_leads_2, dX12_leads_3, dX12_leads_6, dX12_leads_7, dX12_leads_8, dX12_leads_9, dX12_leads_12, dX12_leads_15, dX12_leads_16, dX12_leads_17, dX12_leads_18, dX12_leads_20, dX12_leads_22, dX12_leads_23, dX12_leads_26, dX12_leads_29, dX12_leads_30, dX12_leads_32, dX12_leads_34, dX12_leads_36, dX12_leads_39, dX12_leads_40, dX12_leads_41, dX12_leads_43, dX12_leads_45, dX12_leads_48, dX12_leads_50, dX12_leads_52, dX12_leads_53, dX12_leads_54, dX12_leads_57, dX12_leads_58, dX12_leads_60, dX12_leads_61, dX12_leads_64, dX12_leads_67, dX12_leads_68, dX12_leads_69, dX12_leads_72, dX12_leads_75, dX12_leads_78, dX12_leads_81, dX12_leads_82, e_aload_n, e_iload, e_lload_n, e_lload, e_istore, e_lstore, e_iconst, e_bipush, e_lconst, e_lcmp, e_iinc, e_ifCond, e_if_icmp, e_goto, e_getfield, e_invokevirtual, e_ireturn, e_wSt0, e_wSt1, e_wSt2, e_isL0, e_isL1, e_isL2, e_lset, e_lclr0, e_lclr1, e_lclr2, e_lput0, e_lput1, e_lput2, e_wInc, e_wInc0, Nat.reduceLT, not_false_eq_true, Bool.or_false, Bool.false_or, Bool.or_true, Bool.true_or, Bool.and_false, Bool.false_and, Bool.and_true, Bool.true_and, e_wCmp, e_ri, e_rz, lc0, lc1, e_wIc_ge, e_wIf_eq, bp_8, fX12_155, ic_0, ic_1, jt_12_5, jt_26_55, jt_36_39, jt_3_12, jt_54_15, jt_64_5, jt_72_m40, jt_78_m58, e_call, e_callS0, e_callS1, e_callS2, e_callS3, e_callS4, e_pop0, e_pop1, e_tl0, e_tl1, tbX12_leads_f, tbX12_leads_p, tbX12_leads_k, tbX12_leads_c162, tbX12_leads_c166, cv_245_0, cv_245_1, cv_245_2, cv_245_3, cv_245_4, g_245_14]
  simp (disch := omega) only [wI_id]
  exact h1
set_option maxRecDepth 20000 in
set_option maxHeartbeats 4000000 in
theorem lpM2 (l : Launch) (Q : Option aV → aS → Prop) : ∀ (n : Nat) (S : aS) (w t : Int) (i : Nat), i + n = (S.1 245 14).toNat → ruP S → cwP S w → ¬ w = t ∧ ¬ l1M S w t → (∀ j : Nat, j < i → ∀ p : Nat, p < 8 → ¬ l2P S w t j p) → Q (some (.inl (bi (ldM S w t)))) S → aGo l mX12_leads Q 20 [(0, .inr (.inr 245)), (1, .inr (.inl w)), (3, .inr (.inl t)), (5, .inl (i : Int))] [] S := by
  intro n
  induction n using Nat.strongRecOn with
  | _ n ih =>
  intro S  w t  i  h0 h1 h2 h3 h4 h5
  refine wp_go (tbX12_leads_ok l) (fun pc => pc == 20 || pc == 32) 47 dX12_leads_20 ?_
  show ws1 tbX12_leads 9 (some .boolean) Q (wp cX12_leads tbX12_leads 9 (some .boolean) Q (fun pc => pc == 20 || pc == 32) (aGo l mX12_leads Q) 47) (.iload 5) 2 20 [(0, .inr (.inr 245)), (1, .inr (.inl w)), (3, .inr (.inl t)), (5, .inl (i : Int))] [] S
  simp only [wp_s, wpC_f, wpC_t, e_wLd, e_wLd0, e_wLd1, e_wLd2, e_get1, e_get2, e_wJ, e_wJo, f40, f41, f42, f43, Nat.reduceAdd, Nat.reduceBEq, Nat.reduceMul, eq_self, true_or, or_true, true_and, dX12_leads_0, dX12_leads_1, dX12_leads_2, dX12_leads_3, dX12_leads_6, dX12_leads_7, dX12_leads_8, dX12_leads_9, dX12_leads_12, dX12_leads_15, dX12_leads_16, dX12_leads_17, dX12_leads_18, dX12_leads_20, dX12_leads_22, dX12_leads_23, dX12_leads_26, dX12_leads_29, dX12_leads_30, dX12_leads_32, dX12_leads_34, dX12_leads_36, dX12_leads_39, dX12_leads_40, dX12_leads_41, dX12_leads_43, dX12_leads_45, dX12_leads_48, dX12_leads_50, dX12_leads_52, dX12_leads_53, dX12_leads_54, dX12_leads_57, dX12_leads_58, dX12_leads_60, dX12_leads_61, dX12_leads_64, dX12_leads_67, dX12_leads_68, dX12_leads_69, dX12_leads_72, dX12_leads_75, dX12_leads_78, dX12_leads_81, dX12_leads_82, e_aload_n, e_iload, e_lload_n, e_lload, e_istore, e_lstore, e_iconst, e_bipush, e_lconst, e_lcmp, e_iinc, e_ifCond, e_if_icmp, e_goto, e_getfield, e_invokevirtual, e_ireturn, e_wSt0, e_wSt1, e_wSt2, e_isL0, e_isL1, e_isL2, e_lset, e_lclr0, e_lclr1, e_lclr2, e_lput0, e_lput1, e_lput2, e_wInc, e_wInc0, Nat.reduceLT, not_false_eq_true, Bool.or_false, Bool.false_or, Bool.or_true, Bool.true_or, Bool.and_false, Bool.false_and, Bool.and_true, Bool.true_and, e_wCmp, e_ri, e_rz, lc0, lc1, e_wIc_ge, e_wIf_eq, bp_8, fX12_155, ic_0, ic_1, jt_12_5, jt_26_55, jt_36_39, jt_3_12, jt_54_15, jt_64_5, jt_72_m40, jt_78_m58, e_call, e_callS0, e_callS1, e_callS2, e_callS3, e_callS4, e_pop0, e_pop1, e_tl0, e_tl1, tbX12_leads_f, tbX12_leads_p, tbX12_leads_k, tbX12_leads_c162, tbX12_leads_c166, cv_245_0, cv_245_1, cv_245_2, cv_245_3, cv_245_4, g_245_14, spX12_changed, spX12_leadsByOne, lCmp_e, bi_0, bi_1, ne_eq, Classical.not_not, em_r, em_l]
  have h1' := h1
  obtain ⟨g0, g1⟩ := h1'
  refine ⟨fun q => ?_, fun q => ?_⟩
  · have hn : ¬ ldM S w t := fun z => z.elim h3.1 (fun z => z.elim h3.2 (fun ⟨r, hr, p, hp, e⟩ => h4 r (by omega) p hp e))
    rw [bi_f hn] at h5; exact h5
  · refine lpM1 l Q 8 S w t i 0 rfl h1 h2 (by omega) (fun j hj => absurd hj (by omega)) (fun z => by rw [bi_t z] at h5; exact h5) (fun z => ?_)
    refine lpM3 l Q S w t i (by omega) (ih (n - 1) (by omega) S w t (i + 1) (by omega) h1 h2 h3 (fun j hj p hp => ?_) h5)
    by_cases e : j = i
    · subst e; exact z p hp
    · exact h4 j (by omega) p hp
set_option maxRecDepth 20000 in
set_option maxHeartbeats 4000000 in
theorem okX12_leads (l : Launch) : aOK l mX12_leads spX12_leads := by
  refine aOK_of rfl fun as S Q h => ?_
  unfold spX12_leads at h
  split at h
  · rename_i w t
    refine ⟨Nat.le_of_ble_eq_true rfl, wp_ok (tbX12_leads_ok l) Q (fun pc => pc == 20) 47 0 _ [] S ?_⟩
    show wp cX12_leads tbX12_leads 9 (some .boolean) Q (fun pc => pc == 20) (aGo l mX12_leads Q) 47 0 [(0, .inr (.inr 245)), (1, .inr (.inl w)), (3, .inr (.inl t))] [] S
    simp only [wp_s, wpC_f, wpC_t, e_wLd, e_wLd0, e_wLd1, e_wLd2, e_get1, e_get2, e_wJ, e_wJo, f40, f41, f42, f43, Nat.reduceAdd, Nat.reduceBEq, Nat.reduceMul, eq_self, true_or, or_true, true_and, dX12_leads_0, dX12_leads_1, dX12_leads_2, dX12_leads_3, dX12_leads_6, dX12_leads_7, dX12_leads_8, dX12_leads_9, dX12_leads_12, dX12_leads_15, dX12_leads_16, dX12_leads_17, dX12_leads_18, dX12_leads_20, dX12_leads_22, dX12_leads_23, dX12_leads_26, dX12_leads_29, dX12_leads_30, dX12_leads_32, dX12_leads_34, dX12_leads_36, dX12_leads_39, dX12_leads_40, dX12_leads_41, dX12_leads_43, dX12_leads_45, dX12_leads_48, dX12_leads_50, dX12_leads_52, dX12_leads_53, dX12_leads_54, dX12_leads_57, dX12_leads_58, dX12_leads_60, dX12_leads_61, dX12_leads_64, dX12_leads_67, dX12_leads_68, dX12_leads_69, dX12_leads_72, dX12_leads_75, dX12_leads_78, dX12_leads_81, dX12_leads_82, e_aload_n, e_iload, e_lload_n, e_lload, e_istore, e_lstore, e_iconst, e_bipush, e_lconst, e_lcmp, e_iinc, e_ifCond, e_if_icmp, e_goto, e_getfield, e_invokevirtual, e_ireturn, e_wSt0, e_wSt1, e_wSt2, e_isL0, e_isL1, e_isL2, e_lset, e_lclr0, e_lclr1, e_lclr2, e_lput0, e_lput1, e_lput2, e_wInc, e_wInc0, Nat.reduceLT, not_false_eq_true, Bool.or_false, Bool.false_or, Bool.or_true, Bool.true_or, Bool.and_false, Bool.false_and, Bool.and_true, Bool.true_and, e_wCmp, e_ri, e_rz, lc0, lc1, e_wIc_ge, e_wIf_eq, bp_8, fX12_155, ic_0, ic_1, jt_12_5, jt_26_55, jt_36_39, jt_3_12, jt_54_15, jt_64_5, jt_72_m40, jt_78_m58, e_call, e_callS0, e_callS1, e_callS2, e_callS3, e_callS4, e_pop0, e_pop1, e_tl0, e_tl1, tbX12_leads_f, tbX12_leads_p, tbX12_leads_k, tbX12_leads_c162, tbX12_leads_c166, cv_245_0, cv_245_1, cv_245_2, cv_245_3, cv_245_4, g_245_14, spX12_changed, spX12_leadsByOne, lCmp_e, bi_0, bi_1, ne_eq, Classical.not_not, em_r, em_l]
    obtain ⟨h0, h1, h2⟩ := h
    have hl : ldM S w t → Q (some (.inl 1)) S := fun z => by rw [bi_t z] at h2; exact h2
    refine ⟨fun q => hl (Or.inl q), fun q => ⟨h0, h1.1, fun q1 => ?_, fun q1 => ?_⟩⟩
    all_goals first
      | exact lpM2 l Q _ S w t 0 (Nat.zero_add _) h0 h1 ⟨q, q1⟩ (fun j hj => absurd hj (by omega)) h2
      | exact hl (Or.inr (Or.inl q1))
      | skip
  · exact h.elim
