/-! SLIPHOUSE: a flaw, years told; the first public methods -/
def spX11_flaw : aSp := fun as S Q => match as with
  | [.inr (.inr 0), .inl x] => gaP S ∧ Q (some (.inl (nth (fun j => cb (flP (gaT S) ((j : Int) / 64) ((j : Int) % 64))) x 2560 0 0))) (gaT S)
  | _ => False
def tbX11_flaw : aTb := (fX11, pX11, fun j => lk [(241, (some 9), 1, spX9_gather), (264, (some 9), 3, spX9_isFlaw)] j, kX11)
theorem tbX11_flaw_f : tbX11_flaw.1 = fX11 := rfl
theorem tbX11_flaw_p : tbX11_flaw.2.1 = pX11 := rfl
theorem tbX11_flaw_k : tbX11_flaw.2.2.2 = kX11 := rfl
theorem tbX11_flaw_c241 : tbX11_flaw.2.2.1 241 = some ((some 9), 1, spX9_gather) := rfl
theorem tbX11_flaw_c264 : tbX11_flaw.2.2.1 264 = some ((some 9), 3, spX9_isFlaw) := rfl
theorem tbX11_flaw_all (l : Launch) : ∀ e ∈ ([(241, (some 9), 1, spX9_gather), (264, (some 9), 3, spX9_isFlaw)] : List (Nat × Option Nat × Nat × aSp)), cOK l mX11_flaw e.1 e.2.1 e.2.2.1 e.2.2.2 ∨ mOK mX11_flaw e.1 e.2.1 e.2.2.1 e.2.2.2 := all_cons (cOK_of (okX9_gather l) meX9_gather cfX11_241 (by decide) (by decide)) (all_cons (cOK_of (okX9_isFlaw l) meX9_isFlaw cfX11_264 (by decide) (by decide)) (all_nil))
theorem tbX11_flaw_ok (l : Launch) : tOK l mX11_flaw tbX11_flaw := ⟨fX11_ok, pX11_ok, fun _ _ _ _ h => tbX11_flaw_all l _ (lk_mem h), kX11_ok⟩
set_option maxRecDepth 20000 in
set_option maxHeartbeats 4000000 in
theorem lpX11_flaw (l : Launch) (Q : Option aV → aS → Prop) : ∀ (n : Nat) (S : aS) (x c : Int) (i : Nat), i + n = 2560 → Q (some (.inl (nth (fun j => cb (flP S ((j : Int) / 64) ((j : Int) % 64))) x n i c))) S → (0 ≤ S.1 3 7 ∧ S.1 3 7 ≤ 30) → (0 ≤ c ∧ c ≤ i) → aGo l mX11_flaw Q 11 [(0, .inr (.inr 0)), (1, .inl x), (2, .inl c), (3, .inl (i : Int))] [] S := by
  intro n
  induction n using Nat.strongRecOn with
  | _ n ih =>
  intro S  x c  i  h0 h1 h2 h3
  refine wp_go (tbX11_flaw_ok l) (fun pc => pc == 11) 32 dX11_flaw_11 ?_
  show ws1 tbX11_flaw 4 (some .int) Q (wp cX11_flaw tbX11_flaw 4 (some .int) Q (fun pc => pc == 11) (aGo l mX11_flaw Q) 32) (.iload_n 3) 1 11 [(0, .inr (.inr 0)), (1, .inl x), (2, .inl c), (3, .inl (i : Int))] [] S
  simp only [wp_s, wpC_f, wpC_t, e_wLd, e_wLd0, e_wLd1, e_wLd2, e_get1, e_get2, e_wJ, e_wJo, f40, f41, f42, f43, Nat.reduceAdd, Nat.reduceBEq, Nat.reduceMul, eq_self, true_or, or_true, true_and, dX11_flaw_0, dX11_flaw_1, dX11_flaw_4, dX11_flaw_7, dX11_flaw_8, dX11_flaw_9, dX11_flaw_10, dX11_flaw_11, dX11_flaw_12, dX11_flaw_15, dX11_flaw_18, dX11_flaw_19, dX11_flaw_22, dX11_flaw_23, dX11_flaw_25, dX11_flaw_26, dX11_flaw_27, dX11_flaw_29, dX11_flaw_30, dX11_flaw_33, dX11_flaw_36, dX11_flaw_37, dX11_flaw_38, dX11_flaw_41, dX11_flaw_42, dX11_flaw_43, dX11_flaw_46, dX11_flaw_49, dX11_flaw_52, dX11_flaw_53, e_aload_n, e_iload_n, e_istore_n, e_iconst, e_bipush, e_sipush, e_idiv, e_irem, e_iinc, e_ifCond, e_if_icmp, e_goto, e_getfield, e_invokevirtual, e_ireturn, e_wSt0, e_wSt1, e_wSt2, e_isL0, e_isL1, e_isL2, e_lset, e_lclr0, e_lclr1, e_lclr2, e_lput0, e_lput1, e_lput2, e_wInc, e_wInc0, Nat.reduceLT, not_false_eq_true, Bool.or_false, Bool.false_or, Bool.or_true, Bool.true_or, Bool.and_false, Bool.false_and, Bool.and_true, Bool.true_and, e_ri, e_rz, e_wD2, e_wIc_ne, e_wIf_eq, e_wIc_ge, bp_64, fX11_58, ic_0, ic_m1, jt_15_37, jt_33_13, jt_38_5, jt_49_m38, sp_2560, e_call, e_callS0, e_callS1, e_callS2, e_callS3, e_callS4, e_pop0, e_pop1, e_tl0, e_tl1, tbX11_flaw_f, tbX11_flaw_p, tbX11_flaw_k, tbX11_flaw_c241, tbX11_flaw_c264, cv_211_0, cv_211_1, cv_211_2, cv_211_3, cv_211_4, g_0_6, spX9_isFlaw, bi_0, bi_1, ne_eq, Classical.not_not, em_r, em_l]
  by_cases hi : i < 2560
  · obtain ⟨m, rfl⟩ : ∃ m, n = m + 1 := ⟨n - 1, by omega⟩
    rw [d64 hi, m64 hi]
    unfold nth at h1
    simp (disch := omega) only [wI_id]
    refine ⟨fun q => absurd q (by omega), fun _ => ⟨by decide, by decide, h2.1, h2.2, fun q => ?_, fun q => ⟨fun q2 => ?_, fun q2 => ?_⟩⟩⟩
    · rw [if_neg (by rw [cb_f (show ¬ flP S ((i : Int) / 64) ((i : Int) % 64) from q)]; decide)] at h1
      exact ih m (by omega) S x c (i + 1) (by omega) h1 h2 (by omega)
    · rw [if_pos (cb_t (show flP S ((i : Int) / 64) ((i : Int) % 64) from q)), if_neg q2] at h1
      exact ih m (by omega) S x (c + 1) (i + 1) (by omega) h1 h2 (by omega)
    · rw [if_pos (cb_t (show flP S ((i : Int) / 64) ((i : Int) % 64) from q)), if_pos q2] at h1
      exact h1
  · refine ⟨fun _ => ?_, fun q => absurd (by omega) q⟩
    rw [show n = 0 from by omega] at h1; exact h1
set_option maxRecDepth 20000 in
set_option maxHeartbeats 4000000 in
theorem okX11_flaw (l : Launch) : aOK l mX11_flaw spX11_flaw := by
  refine aOK_of rfl fun as S Q h => ?_
  unfold spX11_flaw at h
  split at h
  · rename_i x
    refine ⟨Nat.le_of_ble_eq_true rfl, wp_ok (tbX11_flaw_ok l) Q (fun pc => pc == 11) 32 0 _ [] S ?_⟩
    show wp cX11_flaw tbX11_flaw 4 (some .int) Q (fun pc => pc == 11) (aGo l mX11_flaw Q) 32 0 [(0, .inr (.inr 0)), (1, .inl x)] [] S
    simp only [wp_s, wpC_f, wpC_t, e_wLd, e_wLd0, e_wLd1, e_wLd2, e_get1, e_get2, e_wJ, e_wJo, f40, f41, f42, f43, Nat.reduceAdd, Nat.reduceBEq, Nat.reduceMul, eq_self, true_or, or_true, true_and, dX11_flaw_0, dX11_flaw_1, dX11_flaw_4, dX11_flaw_7, dX11_flaw_8, dX11_flaw_9, dX11_flaw_10, dX11_flaw_11, dX11_flaw_12, dX11_flaw_15, dX11_flaw_18, dX11_flaw_19, dX11_flaw_22, dX11_flaw_23, dX11_flaw_25, dX11_flaw_26, dX11_flaw_27, dX11_flaw_29, dX11_flaw_30, dX11_flaw_33, dX11_flaw_36, dX11_flaw_37, dX11_flaw_38, dX11_flaw_41, dX11_flaw_42, dX11_flaw_43, dX11_flaw_46, dX11_flaw_49, dX11_flaw_52, dX11_flaw_53, e_aload_n, e_iload_n, e_istore_n, e_iconst, e_bipush, e_sipush, e_idiv, e_irem, e_iinc, e_ifCond, e_if_icmp, e_goto, e_getfield, e_invokevirtual, e_ireturn, e_wSt0, e_wSt1, e_wSt2, e_isL0, e_isL1, e_isL2, e_lset, e_lclr0, e_lclr1, e_lclr2, e_lput0, e_lput1, e_lput2, e_wInc, e_wInc0, Nat.reduceLT, not_false_eq_true, Bool.or_false, Bool.false_or, Bool.or_true, Bool.true_or, Bool.and_false, Bool.false_and, Bool.and_true, Bool.true_and, e_ri, e_rz, e_wD2, e_wIc_ne, e_wIf_eq, e_wIc_ge, bp_64, fX11_58, ic_0, ic_m1, jt_15_37, jt_33_13, jt_38_5, jt_49_m38, sp_2560, e_call, e_callS0, e_callS1, e_callS2, e_callS3, e_callS4, e_pop0, e_pop1, e_tl0, e_tl1, tbX11_flaw_f, tbX11_flaw_p, tbX11_flaw_k, tbX11_flaw_c241, tbX11_flaw_c264, cv_211_0, cv_211_1, cv_211_2, cv_211_3, cv_211_4, g_0_6, spX9_gather]
    obtain ⟨⟨h0, h1, h2, h3⟩, h⟩ := h
    exact ⟨h0, h1, h2, h3, lpX11_flaw l Q 2560 _ x 0 0 rfl h (by rw [ga3]; exact ⟨h2, h3⟩) (by omega)⟩
  · exact h.elim
def spX11_book : aSp := fun as S Q => match as with
  | [.inr (.inr 0), .inl a, .inl b] => 0 ≤ S.1 3 7 ∧ S.1 3 7 ≤ 30 ∧ (¬ (1 ≤ a ∧ a ≤ b ∧ b ≤ 2000) ∨ 30 ≤ S.1 3 7 → Q (some (.inl (-1))) S) ∧ ((1 ≤ a ∧ a ≤ b ∧ b ≤ 2000) ∧ S.1 3 7 < 30 → Q (some (.inl (S.1 3 7))) (upI (upI (upI (upI (upI S 4 (S.1 3 7).toNat a) 5 (S.1 3 7).toNat b) 6 (S.1 3 7).toNat a) 7 (S.1 3 7).toNat b) 3 7 (S.1 3 7 + 1)))
  | _ => False
def tbX11_book : aTb := (fX11, pX11, fun j => lk [(95, none, 2, spX11_areYears), (100, (some 0), 3, spX0_add)] j, kX11)
theorem tbX11_book_f : tbX11_book.1 = fX11 := rfl
theorem tbX11_book_p : tbX11_book.2.1 = pX11 := rfl
theorem tbX11_book_k : tbX11_book.2.2.2 = kX11 := rfl
theorem tbX11_book_c95 : tbX11_book.2.2.1 95 = some (none, 2, spX11_areYears) := rfl
theorem tbX11_book_c100 : tbX11_book.2.2.1 100 = some ((some 0), 3, spX0_add) := rfl
theorem tbX11_book_all (l : Launch) : ∀ e ∈ ([(95, none, 2, spX11_areYears), (100, (some 0), 3, spX0_add)] : List (Nat × Option Nat × Nat × aSp)), cOK l mX11_book e.1 e.2.1 e.2.2.1 e.2.2.2 ∨ mOK mX11_book e.1 e.2.1 e.2.2.1 e.2.2.2 := all_cons (cOK_of (okX11_areYears l) meX11_areYears cfX11_95 (by decide) (by decide)) (all_cons (cOK_of (okX0_add l) meX0_add cfX11_100 (by decide) (by decide)) (all_nil))
theorem tbX11_book_ok (l : Launch) : tOK l mX11_book tbX11_book := ⟨fX11_ok, pX11_ok, fun _ _ _ _ h => tbX11_book_all l _ (lk_mem h), kX11_ok⟩
set_option maxRecDepth 20000 in
set_option maxHeartbeats 4000000 in
theorem okX11_book (l : Launch) : aOK l mX11_book spX11_book := by
  refine aOK_of rfl fun as S Q h => ?_
  unfold spX11_book at h
  split at h
  · rename_i a b
    refine ⟨Nat.le_of_ble_eq_true rfl, wp_ok (tbX11_book_ok l) Q (fun pc => false) 19 0 _ [] S ?_⟩
    show wp cX11_book tbX11_book 3 (some .int) Q (fun pc => false) (aGo l mX11_book Q) 19 0 [(0, .inr (.inr 0)), (1, .inl a), (2, .inl b)] [] S
    simp only [wp_s, wpC_f, wpC_t, e_wLd, e_wLd0, e_wLd1, e_wLd2, e_get1, e_get2, e_wJ, e_wJo, f40, f41, f42, f43, Nat.reduceAdd, Nat.reduceBEq, Nat.reduceMul, eq_self, true_or, or_true, true_and, dX11_book_0, dX11_book_1, dX11_book_2, dX11_book_5, dX11_book_8, dX11_book_9, dX11_book_12, dX11_book_15, dX11_book_17, dX11_book_20, dX11_book_21, dX11_book_22, dX11_book_23, dX11_book_26, dX11_book_27, dX11_book_28, dX11_book_31, e_aload_n, e_iload_n, e_iconst, e_bipush, e_ifCond, e_if_icmp, e_getfield, e_invokevirtual, e_invokestatic, e_ireturn, e_ri, e_rz, e_wIc_lt, e_wIf_eq, bp_30, fX11_19, fX11_99, ic_m1, jt_17_5, jt_5_15, e_call, e_callS0, e_callS1, e_callS2, e_callS3, e_callS4, e_pop0, e_pop1, e_tl0, e_tl1, tbX11_book_f, tbX11_book_p, tbX11_book_k, tbX11_book_c95, tbX11_book_c100, cv_3_0, cv_3_1, cv_3_2, cv_3_3, cv_3_4, g_0_1, g_3_7, spX11_areYears, spX0_add, bi_0, bi_1, ne_eq, Classical.not_not, em_r, em_l]
    obtain ⟨h0, h1, h2, h3⟩ := h
    repeat' (with_reducible first | intro _ | refine And.intro ?_ ?_)
    all_goals first | omega | exact h2 (by omega) | exact h3 ⟨by omega, by omega⟩ | skip
  · exact h.elim
def spX11_before : aSp := fun as S Q => match as with
  | [.inr (.inr 0), .inl a, .inl b] => 0 ≤ S.1 3 8 ∧ S.1 3 8 ≤ 60 ∧ 0 ≤ S.1 3 7 ∧ S.1 3 7 ≤ 30 ∧ (((0 ≤ a ∧ a < S.1 3 7) ∧ (0 ≤ b ∧ b < S.1 3 7) ∧ ¬ a = b) → S.1 3 8 < 60 → tgP (bfA S a b) ∧ tgP (upI (bfT (bfA S a b)) 3 8 (S.1 3 8))) ∧ (¬ ((0 ≤ a ∧ a < S.1 3 7) ∧ (0 ≤ b ∧ b < S.1 3 7) ∧ ¬ a = b) ∨ 60 ≤ S.1 3 8 ∨ (∃ k : Nat, (k : Int) < S.1 3 8 ∧ S.1 9 k = a ∧ S.1 10 k = b) → Q (some (.inl 0)) S) ∧ (((0 ≤ a ∧ a < S.1 3 7) ∧ (0 ≤ b ∧ b < S.1 3 7) ∧ ¬ a = b) → S.1 3 8 < 60 → ¬ (∃ k : Nat, (k : Int) < S.1 3 8 ∧ S.1 9 k = a ∧ S.1 10 k = b) → (tgO (bfA S a b) → Q (some (.inl 1)) (bhA (bfT (bfA S a b)) a b)) ∧ (¬ tgO (bfA S a b) → Q (some (.inl 0)) (bfT (upI (bfT (bfA S a b)) 3 8 (S.1 3 8)))))
  | _ => False
def tbX11_before : aTb := (fX11, pX11, fun j => lk [(104, (some 0), 2, spX0_has), (108, (some 0), 3, spX0_addBefore)] j, kX11)
theorem tbX11_before_f : tbX11_before.1 = fX11 := rfl
theorem tbX11_before_p : tbX11_before.2.1 = pX11 := rfl
theorem tbX11_before_k : tbX11_before.2.2.2 = kX11 := rfl
theorem tbX11_before_c104 : tbX11_before.2.2.1 104 = some ((some 0), 2, spX0_has) := rfl
theorem tbX11_before_c108 : tbX11_before.2.2.1 108 = some ((some 0), 3, spX0_addBefore) := rfl
theorem tbX11_before_all (l : Launch) : ∀ e ∈ ([(104, (some 0), 2, spX0_has), (108, (some 0), 3, spX0_addBefore)] : List (Nat × Option Nat × Nat × aSp)), cOK l mX11_before e.1 e.2.1 e.2.2.1 e.2.2.2 ∨ mOK mX11_before e.1 e.2.1 e.2.2.1 e.2.2.2 := all_cons (cOK_of (okX0_has l) meX0_has cfX11_104 (by decide) (by decide)) (all_cons (cOK_of (okX0_addBefore l) meX0_addBefore cfX11_108 (by decide) (by decide)) (all_nil))
theorem tbX11_before_ok (l : Launch) : tOK l mX11_before tbX11_before := ⟨fX11_ok, pX11_ok, fun _ _ _ _ h => tbX11_before_all l _ (lk_mem h), kX11_ok⟩
set_option maxRecDepth 20000 in
set_option maxHeartbeats 4000000 in
theorem okX11_before (l : Launch) : aOK l mX11_before spX11_before := by
  refine aOK_of rfl fun as S Q h => ?_
  unfold spX11_before at h
  split at h
  · rename_i a b
    refine ⟨Nat.le_of_ble_eq_true rfl, wp_ok (tbX11_before_ok l) Q (fun pc => false) 25 0 _ [] S ?_⟩
    show wp cX11_before tbX11_before 3 (some .boolean) Q (fun pc => false) (aGo l mX11_before Q) 25 0 [(0, .inr (.inr 0)), (1, .inl a), (2, .inl b)] [] S
    simp only [wp_s, wpC_f, wpC_t, e_wLd, e_wLd0, e_wLd1, e_wLd2, e_get1, e_get2, e_wJ, e_wJo, f40, f41, f42, f43, Nat.reduceAdd, Nat.reduceBEq, Nat.reduceMul, eq_self, true_or, or_true, true_and, dX11_before_0, dX11_before_1, dX11_before_4, dX11_before_5, dX11_before_8, dX11_before_11, dX11_before_12, dX11_before_15, dX11_before_16, dX11_before_19, dX11_before_22, dX11_before_23, dX11_before_24, dX11_before_27, dX11_before_28, dX11_before_31, dX11_before_32, dX11_before_33, dX11_before_36, dX11_before_39, dX11_before_40, dX11_before_43, dX11_before_44, e_aload_n, e_iload_n, e_iconst, e_ifCond, e_if_icmp, e_goto, e_getfield, e_invokevirtual, e_ireturn, e_ri, e_rz, e_wIc_eq, e_wIf_eq, fX11_19, ic_0, ic_1, jt_19_24, jt_24_19, jt_36_7, jt_40_4, jt_8_35, e_call, e_callS0, e_callS1, e_callS2, e_callS3, e_callS4, e_pop0, e_pop1, e_tl0, e_tl1, tbX11_before_f, tbX11_before_p, tbX11_before_k, tbX11_before_c104, tbX11_before_c108, cv_3_0, cv_3_1, cv_3_2, cv_3_3, cv_3_4, g_0_1, spX0_has, spX0_addBefore, bi_0, bi_1, ne_eq, Classical.not_not, em_r, em_l]
    obtain ⟨h0, h1, h2, h3, h4, h5, h6⟩ := h
    have k1 : ∀ q1 : (0 ≤ a ∧ a < S.1 3 7), ∀ q2 : (0 ≤ b ∧ b < S.1 3 7), ∀ q3 : ¬ a = b, ((0 ≤ a ∧ a < S.1 3 7) ∧ (0 ≤ b ∧ b < S.1 3 7) ∧ ¬ a = b) := fun q1 q2 q3 => ⟨q1, q2, q3⟩
    repeat' (with_reducible first | intro _ | refine And.intro ?_ ?_)
    all_goals first
      | omega
      | exact (h4 (k1 (by assumption) (by assumption) (by assumption)) (by omega)).1
      | exact (h4 (k1 (by assumption) (by assumption) (by assumption)) (by omega)).2
      | exact (h4 (k1 (by assumption) (by assumption) (by assumption)) (by omega)).1.1
      | exact (h4 (k1 (by assumption) (by assumption) (by assumption)) (by omega)).1.2
      | exact (h6 (k1 (by assumption) (by assumption) (by assumption)) (by omega) (by assumption)).1 (by assumption)
      | exact (h6 (k1 (by assumption) (by assumption) (by assumption)) (by omega) (by assumption)).2 (by assumption)
      | exact h5 (.inl (fun z => absurd z.1 (by assumption)))
      | exact h5 (.inl (fun z => absurd z.2.1 (by assumption)))
      | exact h5 (.inl (fun z => absurd (by assumption) z.2.2))
      | exact h5 (.inr (by assumption))
      | exact absurd trivial (by assumption)
      | exact absurd rfl (by assumption)
      | skip
  · exact h.elim
