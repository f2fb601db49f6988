/-! SLIPHOUSE: what fits -/
def mtP (S : aS) (i j : Int) : Prop := ((0 ≤ i ∧ i < 60 ∧ 0 < S.1 80 i.toNat) ∧ (0 ≤ j ∧ j < 120 ∧ 0 < S.1 207 j.toNat)) ∧ (∃ k m : Nat, (k : Int) < S.1 80 i.toNat ∧ (m : Int) < S.1 207 j.toNat ∧ S.2 (20 + i.toNat) k = S.2 (87 + j.toNat) m)
/-- form i of entry e is a spelling for slip s of book b -/
def fiP (S : aS) (s e b i : Int) : Prop := (0 ≤ e * 5 + i ∧ e * 5 + i < 60 ∧ S.1 16 (e * 5 + i).toNat ≤ S.1 7 b.toNat ∧ S.1 6 b.toNat ≤ S.1 17 (e * 5 + i).toNat) ∧ mtP S (e * 5 + i) s
def fitP (S : aS) (s e : Int) : Prop := (0 ≤ S.1 82 s.toNat ∧ S.1 82 s.toNat < S.1 3 7) ∧ ∃ i : Nat, (i : Int) < S.1 15 e.toNat ∧ fiP S s e (S.1 82 s.toNat) i
def fitQ (S : aS) : Prop := S.1 3 7 ≤ 30 ∧ (∀ i : Nat, i < 60 → S.1 80 i ≤ 81) ∧ (∀ j : Nat, j < 120 → S.1 207 j ≤ 81) ∧ ∀ e : Nat, e < 12 → S.1 15 e ≤ 5
def spX11_isFit : aSp := fun as S Q => match as with
  | [.inr (.inr 0), .inl s, .inl e] => fitQ S ∧ 0 ≤ s ∧ s < 120 ∧ 0 ≤ e ∧ e < 12 ∧ Q (some (.inl (bi (fitP S s e)))) S
  | _ => False
def tbX11_isFit : aTb := (fX11, pX11, fun j => lk [(104, (some 0), 2, spX0_has), (325, none, 2, spX2_formOf), (328, (some 2), 4, spX2_isSpelledIn), (331, (some 10), 4, spX10_meet)] j, kX11)
theorem tbX11_isFit_f : tbX11_isFit.1 = fX11 := rfl
theorem tbX11_isFit_p : tbX11_isFit.2.1 = pX11 := rfl
theorem tbX11_isFit_k : tbX11_isFit.2.2.2 = kX11 := rfl
theorem tbX11_isFit_c104 : tbX11_isFit.2.2.1 104 = some ((some 0), 2, spX0_has) := rfl
theorem tbX11_isFit_c325 : tbX11_isFit.2.2.1 325 = some (none, 2, spX2_formOf) := rfl
theorem tbX11_isFit_c328 : tbX11_isFit.2.2.1 328 = some ((some 2), 4, spX2_isSpelledIn) := rfl
theorem tbX11_isFit_c331 : tbX11_isFit.2.2.1 331 = some ((some 10), 4, spX10_meet) := rfl
theorem tbX11_isFit_all (l : Launch) : ∀ e ∈ ([(104, (some 0), 2, spX0_has), (325, none, 2, spX2_formOf), (328, (some 2), 4, spX2_isSpelledIn), (331, (some 10), 4, spX10_meet)] : List (Nat × Option Nat × Nat × aSp)), cOK l mX11_isFit e.1 e.2.1 e.2.2.1 e.2.2.2 ∨ mOK mX11_isFit e.1 e.2.1 e.2.2.1 e.2.2.2 := all_cons (cOK_of (okX0_has l) meX0_has cfX11_104 (by decide) (by decide)) (all_cons (cOK_of (okX2_formOf l) meX2_formOf cfX11_325 (by decide) (by decide)) (all_cons (cOK_of (okX2_isSpelledIn l) meX2_isSpelledIn cfX11_328 (by decide) (by decide)) (all_cons (cOK_of (okX10_meet l) meX10_meet cfX11_331 (by decide) (by decide)) (all_nil))))
theorem tbX11_isFit_ok (l : Launch) : tOK l mX11_isFit tbX11_isFit := ⟨fX11_ok, pX11_ok, fun _ _ _ _ h => tbX11_isFit_all l _ (lk_mem h), kX11_ok⟩
set_option maxRecDepth 20000 in
set_option maxHeartbeats 4000000 in
theorem lpX11_isFit (l : Launch) (Q : Option aV → aS → Prop) : ∀ (n : Nat) (S : aS) (s e b : Int) (i : Nat), (i : Int) + n ≤ 5 → i + n = (S.1 15 e.toNat).toNat ∨ n = 0 ∧ S.1 15 e.toNat ≤ i → fitQ S → (0 ≤ s ∧ s < 120 ∧ 0 ≤ e ∧ e < 12) → (b = S.1 82 s.toNat ∧ 0 ≤ b ∧ b < S.1 3 7) → Q (some (.inl (bi (fitP S s e)))) S → (∀ k : Nat, k < i → ¬ fiP S s e b k) → aGo l mX11_isFit Q 26 [(0, .inr (.inr 0)), (1, .inl s), (2, .inl e), (3, .inl b), (4, .inl (i : Int))] [] S := by
  intro n
  induction n using Nat.strongRecOn with
  | _ n ih =>
  intro S  s e b  i  h0 h1 h2 h3 h4 h5 h6
  refine wp_go (tbX11_isFit_ok l) (fun pc => pc == 26) 59 dX11_isFit_26 ?_
  show ws1 tbX11_isFit 6 (some .boolean) Q (wp cX11_isFit tbX11_isFit 6 (some .boolean) Q (fun pc => pc == 26) (aGo l mX11_isFit Q) 59) (.iload 4) 2 26 [(0, .inr (.inr 0)), (1, .inl s), (2, .inl e), (3, .inl b), (4, .inl (i : Int))] [] S
  simp only [wp_s, wpC_f, wpC_t, e_wLd, e_wLd0, e_wLd1, e_wLd2, e_get1, e_get2, e_wJ, e_wJo, f40, f41, f42, f43, Nat.reduceAdd, Nat.reduceBEq, Nat.reduceMul, eq_self, true_or, or_true, true_and, dX11_isFit_0, dX11_isFit_1, dX11_isFit_4, dX11_isFit_7, dX11_isFit_8, dX11_isFit_9, dX11_isFit_10, dX11_isFit_11, dX11_isFit_14, dX11_isFit_15, dX11_isFit_18, dX11_isFit_21, dX11_isFit_22, dX11_isFit_23, dX11_isFit_24, dX11_isFit_26, dX11_isFit_28, dX11_isFit_29, dX11_isFit_32, dX11_isFit_35, dX11_isFit_36, dX11_isFit_37, dX11_isFit_40, dX11_isFit_41, dX11_isFit_43, dX11_isFit_46, dX11_isFit_48, dX11_isFit_49, dX11_isFit_52, dX11_isFit_54, dX11_isFit_55, dX11_isFit_58, dX11_isFit_61, dX11_isFit_62, dX11_isFit_63, dX11_isFit_64, dX11_isFit_67, dX11_isFit_70, dX11_isFit_71, dX11_isFit_72, dX11_isFit_75, dX11_isFit_78, dX11_isFit_79, dX11_isFit_82, dX11_isFit_85, dX11_isFit_87, dX11_isFit_88, dX11_isFit_91, dX11_isFit_94, dX11_isFit_95, dX11_isFit_98, dX11_isFit_101, dX11_isFit_102, dX11_isFit_103, dX11_isFit_106, dX11_isFit_109, dX11_isFit_110, e_aload_n, e_iload_n, e_iload, e_istore_n, e_istore, e_iconst, e_iinc, e_ifCond, e_if_icmp, e_goto, e_getfield, e_iaload, e_invokevirtual, e_invokestatic, e_ireturn, e_wSt0, e_wSt1, e_wSt2, e_isL0, e_isL1, e_isL2, e_lset, e_lclr0, e_lclr1, e_lclr2, e_lput0, e_lput1, e_lput2, e_wInc, e_wInc0, Nat.reduceLT, not_false_eq_true, Bool.or_false, Bool.false_or, Bool.or_true, Bool.true_or, Bool.and_false, Bool.false_and, Bool.and_true, Bool.true_and, e_ri, e_rz, e_wIf_ne, e_wIc_ge, e_wIf_eq, fX11_111, fX11_115, fX11_166, fX11_173, fX11_19, fX11_274, fX11_322, fX11_35, fX11_42, ic_0, ic_1, jt_106_m80, jt_18_5, jt_37_72, jt_75_28, jt_98_5, e_call, e_callS0, e_callS1, e_callS2, e_callS3, e_callS4, e_pop0, e_pop1, e_tl0, e_tl1, tbX11_isFit_f, tbX11_isFit_p, tbX11_isFit_k, tbX11_isFit_c104, tbX11_isFit_c325, tbX11_isFit_c328, tbX11_isFit_c331, g_0_4, g_0_1, g_14_0, l_15, g_3_3, cv_3_0, cv_3_1, cv_3_2, cv_3_3, cv_3_4, g_14_3, l_82, g_0_3, g_3_2, cv_18_0, cv_18_1, cv_18_2, cv_18_3, cv_18_4, l_7, l_6, g_81_0, cv_85_0, cv_85_1, cv_85_2, cv_85_3, cv_85_4, g_81_3, cv_14_0, cv_14_1, cv_14_2, cv_14_3, cv_14_4, spX2_formOf, spX2_isSpelledIn, spX10_meet, bi_0, bi_1, ne_eq, Classical.not_not, em_r, em_l]
  obtain ⟨g1, g2, g3, g4⟩ := h2
  have g4' := g4 e.toNat (by omega)
  simp (disch := omega) only [wI_id]
  repeat' (with_reducible first | intro _ | refine And.intro ?_ ?_)
  all_goals first
    | omega
    | exact g2 _ (by omega)
    | exact g3 _ (by omega)
    | (rw [bi_f (by rintro ⟨-, k, hk, hk2⟩; rw [← h4.1] at hk2; exact h6 k (by omega) hk2)] at h5; exact h5)
    | (rw [bi_t ⟨by rw [← h4.1]; exact h4.2, i, by omega, by rw [← h4.1]; exact ⟨by assumption, by assumption⟩⟩] at h5; exact h5)
    | (have e9 := ih (n - 1) (by omega) S s e b (i + 1) (by omega) (by omega) ⟨g1, g2, g3, g4⟩ h3 h4 h5 (fun k hk => by
         by_cases hki : k = i
         · subst hki
           first
             | exact fun z => absurd z.1 (by assumption)
             | exact fun z => absurd z.2 (by assumption)
         · exact h6 k (by omega))
       exact aGo_sub e9 (fun q hq => List.mem_append_left _ hq))
    | skip
set_option maxRecDepth 20000 in
set_option maxHeartbeats 4000000 in
theorem okX11_isFit (l : Launch) : aOK l mX11_isFit spX11_isFit := by
  refine aOK_of rfl fun as S Q h => ?_
  unfold spX11_isFit at h
  split at h
  · rename_i s e
    refine ⟨Nat.le_of_ble_eq_true rfl, wp_ok (tbX11_isFit_ok l) Q (fun pc => pc == 26) 59 0 _ [] S ?_⟩
    show wp cX11_isFit tbX11_isFit 6 (some .boolean) Q (fun pc => pc == 26) (aGo l mX11_isFit Q) 59 0 [(0, .inr (.inr 0)), (1, .inl s), (2, .inl e)] [] S
    simp only [wp_s, wpC_f, wpC_t, e_wLd, e_wLd0, e_wLd1, e_wLd2, e_get1, e_get2, e_wJ, e_wJo, f40, f41, f42, f43, Nat.reduceAdd, Nat.reduceBEq, Nat.reduceMul, eq_self, true_or, or_true, true_and, dX11_isFit_0, dX11_isFit_1, dX11_isFit_4, dX11_isFit_7, dX11_isFit_8, dX11_isFit_9, dX11_isFit_10, dX11_isFit_11, dX11_isFit_14, dX11_isFit_15, dX11_isFit_18, dX11_isFit_21, dX11_isFit_22, dX11_isFit_23, dX11_isFit_24, dX11_isFit_26, dX11_isFit_28, dX11_isFit_29, dX11_isFit_32, dX11_isFit_35, dX11_isFit_36, dX11_isFit_37, dX11_isFit_40, dX11_isFit_41, dX11_isFit_43, dX11_isFit_46, dX11_isFit_48, dX11_isFit_49, dX11_isFit_52, dX11_isFit_54, dX11_isFit_55, dX11_isFit_58, dX11_isFit_61, dX11_isFit_62, dX11_isFit_63, dX11_isFit_64, dX11_isFit_67, dX11_isFit_70, dX11_isFit_71, dX11_isFit_72, dX11_isFit_75, dX11_isFit_78, dX11_isFit_79, dX11_isFit_82, dX11_isFit_85, dX11_isFit_87, dX11_isFit_88, dX11_isFit_91, dX11_isFit_94, dX11_isFit_95, dX11_isFit_98, dX11_isFit_101, dX11_isFit_102, dX11_isFit_103, dX11_isFit_106, dX11_isFit_109, dX11_isFit_110, e_aload_n, e_iload_n, e_iload, e_istore_n, e_istore, e_iconst, e_iinc, e_ifCond, e_if_icmp, e_goto, e_getfield, e_iaload, e_invokevirtual, e_invokestatic, e_ireturn, e_wSt0, e_wSt1, e_wSt2, e_isL0, e_isL1, e_isL2, e_lset, e_lclr0, e_lclr1, e_lclr2, e_lput0, e_lput1, e_lput2, e_wInc, e_wInc0, Nat.reduceLT, not_false_eq_true, Bool.or_false, Bool.false_or, Bool.or_true, Bool.true_or, Bool.and_false, Bool.false_and, Bool.and_true, Bool.true_and, e_ri, e_rz, e_wIf_ne, e_wIc_ge, e_wIf_eq, fX11_111, fX11_115, fX11_166, fX11_173, fX11_19, fX11_274, fX11_322, fX11_35, fX11_42, ic_0, ic_1, jt_106_m80, jt_18_5, jt_37_72, jt_75_28, jt_98_5, e_call, e_callS0, e_callS1, e_callS2, e_callS3, e_callS4, e_pop0, e_pop1, e_tl0, e_tl1, tbX11_isFit_f, tbX11_isFit_p, tbX11_isFit_k, tbX11_isFit_c104, tbX11_isFit_c325, tbX11_isFit_c328, tbX11_isFit_c331, g_0_4, g_0_1, g_14_0, l_15, g_3_3, cv_3_0, cv_3_1, cv_3_2, cv_3_3, cv_3_4, g_14_3, l_82, g_0_3, g_3_2, cv_18_0, cv_18_1, cv_18_2, cv_18_3, cv_18_4, l_7, l_6, g_81_0, cv_85_0, cv_85_1, cv_85_2, cv_85_3, cv_85_4, g_81_3, cv_14_0, cv_14_1, cv_14_2, cv_14_3, cv_14_4, spX0_has, bi_0, bi_1, ne_eq, Classical.not_not, em_r, em_l]
    obtain ⟨h0, h1, h2, h3, h4, h5⟩ := h
    refine ⟨h1, h2, fun q => ?_, fun q => ?_⟩
    · first
        | (rw [bi_f (fun z => q z.1)] at h5; exact h5)
        | exact lpX11_isFit l Q (S.1 15 e.toNat).toNat S s e _ 0 (by have := h0.2.2.2 e.toNat (by omega); omega) (.inl (Nat.zero_add _)) h0 ⟨h1, h2, h3, h4⟩ ⟨rfl, q⟩ h5 (fun k hk => absurd hk (by omega))
    · first
        | (rw [bi_f (fun z => q z.1)] at h5; exact h5)
        | exact lpX11_isFit l Q (S.1 15 e.toNat).toNat S s e _ 0 (by have := h0.2.2.2 e.toNat (by omega); omega) (.inl (Nat.zero_add _)) h0 ⟨h1, h2, h3, h4⟩ ⟨rfl, q⟩ h5 (fun k hk => absurd hk (by omega))
  · exact h.elim
