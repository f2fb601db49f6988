/-! SLIPHOUSE: differ -/
def nthE (p : Nat → Bool) (x : Int) : Nat → Nat → Int → Int
  | 0, _, c => if x = -1 then c else -1
  | n + 1, i, c => if p i = true then (if c = x then (i : Int) else nthE p x n (i + 1) (c + 1)) else nthE p x n (i + 1) c
def othW (S : aS) (a b : Int) (s : Nat) : Prop := ¬ (edE S 225 a s = edE S 225 b s ∧ edE S 234 a s = edE S 234 b s)
def spX11_differ : aSp := fun as S Q => match as with
  | [.inr (.inr 0), .inl a, .inl b, .inl x] => edP S ∧ 0 ≤ S.1 81 4 ∧ S.1 81 4 ≤ 120 ∧ (¬ ((0 ≤ a ∧ a < S.1 222 4) ∧ (0 ≤ b ∧ b < S.1 222 4)) → Q (some (.inl (-1))) S) ∧ (((0 ≤ a ∧ a < S.1 222 4) ∧ (0 ≤ b ∧ b < S.1 222 4)) → Q (some (.inl (nthE (fun j => cb (othW S a b j)) x (S.1 81 4).toNat 0 0))) S)
  | _ => False
def tbX11_differ : aTb := (fX11, pX11, fun j => lk [(294, (some 1), 2, spX1_has), (301, (some 1), 4, spX1_isOtherwise)] j, kX11)
theorem tbX11_differ_f : tbX11_differ.1 = fX11 := rfl
theorem tbX11_differ_p : tbX11_differ.2.1 = pX11 := rfl
theorem tbX11_differ_k : tbX11_differ.2.2.2 = kX11 := rfl
theorem tbX11_differ_c294 : tbX11_differ.2.2.1 294 = some ((some 1), 2, spX1_has) := rfl
theorem tbX11_differ_c301 : tbX11_differ.2.2.1 301 = some ((some 1), 4, spX1_isOtherwise) := rfl
theorem tbX11_differ_all (l : Launch) : ∀ e ∈ ([(294, (some 1), 2, spX1_has), (301, (some 1), 4, spX1_isOtherwise)] : List (Nat × Option Nat × Nat × aSp)), cOK l mX11_differ e.1 e.2.1 e.2.2.1 e.2.2.2 ∨ mOK mX11_differ e.1 e.2.1 e.2.2.1 e.2.2.2 := all_cons (cOK_of (okX1_has l) meX1_has cfX11_294 (by decide) (by decide)) (all_cons (cOK_of (okX1_isOtherwise l) meX1_isOtherwise cfX11_301 (by decide) (by decide)) (all_nil))
theorem tbX11_differ_ok (l : Launch) : tOK l mX11_differ tbX11_differ := ⟨fX11_ok, pX11_ok, fun _ _ _ _ h => tbX11_differ_all l _ (lk_mem h), kX11_ok⟩
set_option maxRecDepth 20000 in
set_option maxHeartbeats 4000000 in
theorem lpX11_differ (l : Launch) (Q : Option aV → aS → Prop) : ∀ (n : Nat) (S : aS) (a b x c : Int) (i : Nat), i + n = (S.1 81 4).toNat → S.1 81 4 ≤ 120 → edP S → (0 ≤ c ∧ c ≤ i) → Q (some (.inl (nthE (fun j => cb (othW S a b j)) x n i c))) S → aGo l mX11_differ Q 30 [(0, .inr (.inr 0)), (1, .inl a), (2, .inl b), (3, .inl x), (4, .inl c), (5, .inl (i : Int))] [] S := by
  intro n
  induction n using Nat.strongRecOn with
  | _ n ih =>
  intro S  a b x c  i  h0 h1 h2 h3 h4
  refine wp_go (tbX11_differ_ok l) (fun pc => pc == 30) 45 dX11_differ_30 ?_
  show ws1 tbX11_differ 6 (some .int) Q (wp cX11_differ tbX11_differ 6 (some .int) Q (fun pc => pc == 30) (aGo l mX11_differ Q) 45) (.iload 5) 2 30 [(0, .inr (.inr 0)), (1, .inl a), (2, .inl b), (3, .inl x), (4, .inl c), (5, .inl (i : Int))] [] S
  simp only [wp_s, wpC_f, wpC_t, e_wLd, e_wLd0, e_wLd1, e_wLd2, e_get1, e_get2, e_wJ, e_wJo, f40, f41, f42, f43, Nat.reduceAdd, Nat.reduceBEq, Nat.reduceMul, eq_self, true_or, or_true, true_and, dX11_differ_0, dX11_differ_1, dX11_differ_4, dX11_differ_5, dX11_differ_8, dX11_differ_11, dX11_differ_12, dX11_differ_15, dX11_differ_16, dX11_differ_19, dX11_differ_22, dX11_differ_23, dX11_differ_24, dX11_differ_25, dX11_differ_27, dX11_differ_28, dX11_differ_30, dX11_differ_32, dX11_differ_33, dX11_differ_36, dX11_differ_39, dX11_differ_42, dX11_differ_43, dX11_differ_46, dX11_differ_47, dX11_differ_48, dX11_differ_50, dX11_differ_53, dX11_differ_56, dX11_differ_58, dX11_differ_59, dX11_differ_62, dX11_differ_64, dX11_differ_65, dX11_differ_68, dX11_differ_71, dX11_differ_74, dX11_differ_75, dX11_differ_76, dX11_differ_79, dX11_differ_81, dX11_differ_84, dX11_differ_85, e_aload_n, e_iload_n, e_iload, e_istore, e_iconst, e_iinc, e_ifCond, e_if_icmp, e_goto, e_getfield, e_invokevirtual, e_ireturn, e_wSt0, e_wSt1, e_wSt2, e_isL0, e_isL1, e_isL2, e_lset, e_lclr0, e_lclr1, e_lclr2, e_lput0, e_lput1, e_lput2, e_wInc, e_wInc0, Nat.reduceLT, not_false_eq_true, Bool.or_false, Bool.false_or, Bool.or_true, Bool.true_or, Bool.and_false, Bool.false_and, Bool.and_true, Bool.true_and, e_ri, e_rz, e_wIf_ne, e_wIf_eq, e_wIc_ge, e_wIc_ne, fX11_128, fX11_42, fX11_74, ic_0, ic_m1, jt_19_5, jt_39_35, jt_53_15, jt_59_6, jt_71_m41, jt_76_8, jt_81_4, jt_8_14, e_call, e_callS0, e_callS1, e_callS2, e_callS3, e_callS4, e_pop0, e_pop1, e_tl0, e_tl1, tbX11_differ_f, tbX11_differ_p, tbX11_differ_k, tbX11_differ_c294, tbX11_differ_c301, g_0_8, cv_222_0, cv_222_1, cv_222_2, cv_222_3, cv_222_4, g_81_4, g_0_4, spX1_isOtherwise, bi_0, bi_1, ne_eq, Classical.not_not, em_r, em_l]
  have hoth : (¬ (edE S 225 a (i : Int) = edE S 225 b (i : Int) ∧ edE S 234 a (i : Int) = edE S 234 b (i : Int))) = othW S a b i := rfl
  simp only [hoth]
  simp (disch := omega) only [wI_id]
  refine ⟨fun q => ?_, fun q => ⟨h2, fun q2 => ?_, fun q2 => ⟨fun q3 => ?_, fun q3 => ?_⟩⟩⟩
  · obtain rfl : n = 0 := by omega
    unfold nthE at h4
    first
      | exact ⟨fun q => by rw [if_neg q] at h4; exact h4, fun q => by rw [if_pos q] at h4; exact h4⟩
      | exact ⟨fun q => by rw [if_pos q] at h4; exact h4, fun q => by rw [if_neg q] at h4; exact h4⟩
  all_goals
    obtain ⟨m, rfl⟩ : ∃ m, n = m + 1 := ⟨n - 1, by omega⟩
    unfold nthE at h4
  · rw [if_neg (by rw [cb_f (show ¬ othW S a b i from fun z => z q2)]; decide)] at h4
    exact ih m (by omega) S a b x c (i + 1) (by omega) h1 h2 (by omega) h4
  · rw [if_pos (cb_t q2), if_neg q3] at h4
    exact ih m (by omega) S a b x (c + 1) (i + 1) (by omega) h1 h2 (by omega) h4
  · rw [if_pos (cb_t q2), if_pos q3] at h4
    exact h4
set_option maxRecDepth 20000 in
set_option maxHeartbeats 4000000 in
theorem okX11_differ (l : Launch) : aOK l mX11_differ spX11_differ := by
  refine aOK_of rfl fun as S Q h => ?_
  unfold spX11_differ at h
  split at h
  · rename_i a b x
    refine ⟨Nat.le_of_ble_eq_true rfl, wp_ok (tbX11_differ_ok l) Q (fun pc => pc == 30) 45 0 _ [] S ?_⟩
    show wp cX11_differ tbX11_differ 6 (some .int) Q (fun pc => pc == 30) (aGo l mX11_differ Q) 45 0 [(0, .inr (.inr 0)), (1, .inl a), (2, .inl b), (3, .inl x)] [] S
    simp only [wp_s, wpC_f, wpC_t, e_wLd, e_wLd0, e_wLd1, e_wLd2, e_get1, e_get2, e_wJ, e_wJo, f40, f41, f42, f43, Nat.reduceAdd, Nat.reduceBEq, Nat.reduceMul, eq_self, true_or, or_true, true_and, dX11_differ_0, dX11_differ_1, dX11_differ_4, dX11_differ_5, dX11_differ_8, dX11_differ_11, dX11_differ_12, dX11_differ_15, dX11_differ_16, dX11_differ_19, dX11_differ_22, dX11_differ_23, dX11_differ_24, dX11_differ_25, dX11_differ_27, dX11_differ_28, dX11_differ_30, dX11_differ_32, dX11_differ_33, dX11_differ_36, dX11_differ_39, dX11_differ_42, dX11_differ_43, dX11_differ_46, dX11_differ_47, dX11_differ_48, dX11_differ_50, dX11_differ_53, dX11_differ_56, dX11_differ_58, dX11_differ_59, dX11_differ_62, dX11_differ_64, dX11_differ_65, dX11_differ_68, dX11_differ_71, dX11_differ_74, dX11_differ_75, dX11_differ_76, dX11_differ_79, dX11_differ_81, dX11_differ_84, dX11_differ_85, e_aload_n, e_iload_n, e_iload, e_istore, e_iconst, e_iinc, e_ifCond, e_if_icmp, e_goto, e_getfield, e_invokevirtual, e_ireturn, e_wSt0, e_wSt1, e_wSt2, e_isL0, e_isL1, e_isL2, e_lset, e_lclr0, e_lclr1, e_lclr2, e_lput0, e_lput1, e_lput2, e_wInc, e_wInc0, Nat.reduceLT, not_false_eq_true, Bool.or_false, Bool.false_or, Bool.or_true, Bool.true_or, Bool.and_false, Bool.false_and, Bool.and_true, Bool.true_and, e_ri, e_rz, e_wIf_ne, e_wIf_eq, e_wIc_ge, e_wIc_ne, fX11_128, fX11_42, fX11_74, ic_0, ic_m1, jt_19_5, jt_39_35, jt_53_15, jt_59_6, jt_71_m41, jt_76_8, jt_81_4, jt_8_14, e_call, e_callS0, e_callS1, e_callS2, e_callS3, e_callS4, e_pop0, e_pop1, e_tl0, e_tl1, tbX11_differ_f, tbX11_differ_p, tbX11_differ_k, tbX11_differ_c294, tbX11_differ_c301, g_0_8, cv_222_0, cv_222_1, cv_222_2, cv_222_3, cv_222_4, g_81_4, g_0_4, spX1_has, bi_0, bi_1, ne_eq, Classical.not_not, em_r, em_l]
    obtain ⟨h0, h1, h2, hA, hB⟩ := h
    repeat' (with_reducible first | intro _ | refine And.intro ?_ ?_)
    all_goals first
      | exact hA (fun z => absurd z.1 (by assumption))
      | exact hA (fun z => absurd z.2 (by assumption))
      | exact lpX11_differ l Q _ S a b x 0 0 (Nat.zero_add _) h2 h0 (by omega) (hB ⟨by assumption, by assumption⟩)
      | skip
  · exact h.elim
