/-! THE REFERENCE: order of senses -/
noncomputable def wcM (S : aS) (a al : Int) : Int := cnt (fun j => cb (witP S a al j)) (S.1 245 12).toNat
noncomputable def wmF (S : aS) (a al : Int) : Int := mn (fF S) (witP S a al) (S.1 245 12).toNat
noncomputable def wmL (S : aS) (a al : Int) : Int := mn (fL S) (witP S a al) (S.1 245 12).toNat
noncomputable def wxF (S : aS) (a al : Int) : Int := mx (fF S) (witP S a al) (S.1 245 12).toNat
noncomputable def wxL (S : aS) (a al : Int) : Int := mx (fL S) (witP S a al) (S.1 245 12).toNat
def ahM (S : aS) (a b : Int) : Prop := ((wcM S a 0 = 0 ∨ wcM S b 0 = 0) ∧ (0 < wcM S a 0 ∨ (wcM S b 0 = 0 ∧ a < b))) ∨ (¬ (wcM S a 0 = 0 ∨ wcM S b 0 = 0) ∧ (wmF S a 0 < wmF S b 0 ∨ (wmF S a 0 = wmF S b 0 ∧ (wmL S a 0 < wmL S b 0 ∨ (wmL S a 0 = wmL S b 0 ∧ a < b)))))
theorem wv_e {S : aS} {a al : Int} {v : Nat → Int} (h : wvP S a al (S.1 245 12).toNat v) : (v 32 = wcM S a al ∧ 0 ≤ wcM S a al) ∧ (wcM S a al = 0 ∨ (v 33 = wmF S a al ∧ v 34 = wmL S a al ∧ v 35 = wxF S a al ∧ v 36 = wxL S a al)) := by
  have hb := cnt_b (fun j => cb (witP S a al j)) (S.1 245 12).toNat
  have e : wcM S a al = cnt (fun j => cb (witP S a al j)) (S.1 245 12).toNat := rfl
  obtain ⟨h1, h2⟩ := h
  refine ⟨⟨h1, by omega⟩, ?_⟩
  by_cases q : wcM S a al = 0
  · exact Or.inl q
  · exact Or.inr (h2 (by omega))
theorem wcM_V {S : aS} {v : Nat → Int} : wcM (stV S v) = wcM S := rfl
theorem ahM_V {S : aS} {v : Nat → Int} : ahM (stV S v) = ahM S := rfl
def spX12_isAhead : aSp := fun as S Q => match as with
  | [.inr (.inr 245), .inl a, .inl b] => wok S ∧ ¬ a = -1 ∧ ¬ b = -1 ∧ ∀ v, Q (some (.inl (bi (ahM S a b)))) (stV S v)
  | _ => False
def tbX12_isAhead : aTb := (fX12, pX12, fun j => lk [(230, (some 12), 3, spX12_witnesses)] j, kX12)
theorem tbX12_isAhead_f : tbX12_isAhead.1 = fX12 := rfl
theorem tbX12_isAhead_p : tbX12_isAhead.2.1 = pX12 := rfl
theorem tbX12_isAhead_k : tbX12_isAhead.2.2.2 = kX12 := rfl
theorem tbX12_isAhead_c230 : tbX12_isAhead.2.2.1 230 = some ((some 12), 3, spX12_witnesses) := rfl
theorem tbX12_isAhead_all (l : Launch) : ∀ e ∈ ([(230, (some 12), 3, spX12_witnesses)] : List (Nat × Option Nat × Nat × aSp)), cOK l mX12_isAhead e.1 e.2.1 e.2.2.1 e.2.2.2 ∨ mOK mX12_isAhead e.1 e.2.1 e.2.2.1 e.2.2.2 := all_cons (cOK_of (okX12_witnesses l) meX12_witnesses cfX12_230 (by decide) (by decide)) (all_nil)
theorem tbX12_isAhead_ok (l : Launch) : tOK l mX12_isAhead tbX12_isAhead := ⟨fX12_ok, pX12_ok, fun _ _ _ _ h => tbX12_isAhead_all l _ (lk_mem h), kX12_ok⟩
set_option maxRecDepth 20000 in
set_option maxHeartbeats 4000000 in
theorem okX12_isAhead (l : Launch) : aOK l mX12_isAhead spX12_isAhead := by
  refine aOK_of rfl fun as S Q h => ?_
  unfold spX12_isAhead at h
  split at h
  · rename_i a b
    refine ⟨Nat.le_of_ble_eq_true rfl, wp_ok (tbX12_isAhead_ok l) Q (fun pc => false) 67 0 _ [] S ?_⟩
    show wp cX12_isAhead tbX12_isAhead 6 (some .boolean) Q (fun pc => false) (aGo l mX12_isAhead Q) 67 0 [(0, .inr (.inr 245)), (1, .inl a), (2, .inl b)] [] S
    simp only [wp_s, wpC_f, wpC_t, e_wLd, e_wLd0, e_wLd1, e_wLd2, e_get1, e_get2, e_wJ, e_wJo, f40, f41, f42, f43, Nat.reduceAdd, Nat.reduceBEq, Nat.reduceMul, eq_self, true_or, or_true, true_and, dX12_isAhead_0, dX12_isAhead_1, dX12_isAhead_2, dX12_isAhead_3, dX12_isAhead_6, dX12_isAhead_7, dX12_isAhead_10, dX12_isAhead_11, dX12_isAhead_12, dX12_isAhead_15, dX12_isAhead_17, dX12_isAhead_18, dX12_isAhead_21, dX12_isAhead_23, dX12_isAhead_24, dX12_isAhead_25, dX12_isAhead_26, dX12_isAhead_29, dX12_isAhead_30, dX12_isAhead_33, dX12_isAhead_34, dX12_isAhead_37, dX12_isAhead_40, dX12_isAhead_41, dX12_isAhead_44, dX12_isAhead_45, dX12_isAhead_48, dX12_isAhead_51, dX12_isAhead_52, dX12_isAhead_53, dX12_isAhead_56, dX12_isAhead_57, dX12_isAhead_60, dX12_isAhead_61, dX12_isAhead_62, dX12_isAhead_64, dX12_isAhead_65, dX12_isAhead_68, dX12_isAhead_71, dX12_isAhead_73, dX12_isAhead_74, dX12_isAhead_77, dX12_isAhead_80, dX12_isAhead_81, dX12_isAhead_84, dX12_isAhead_85, dX12_isAhead_86, dX12_isAhead_88, dX12_isAhead_89, dX12_isAhead_92, dX12_isAhead_95, dX12_isAhead_97, dX12_isAhead_98, dX12_isAhead_101, dX12_isAhead_104, dX12_isAhead_105, dX12_isAhead_108, dX12_isAhead_109, dX12_isAhead_112, dX12_isAhead_113, dX12_isAhead_114, dX12_isAhead_117, dX12_isAhead_118, dX12_isAhead_121, dX12_isAhead_122, e_aload_n, e_iload_n, e_iload, e_istore_n, e_istore, e_iconst, e_ifCond, e_if_icmp, e_goto, e_getfield, e_invokevirtual, e_ireturn, e_wSt0, e_wSt1, e_wSt2, e_isL0, e_isL1, e_isL2, e_lset, e_lclr0, e_lclr1, e_lclr2, e_lput0, e_lput1, e_lput2, e_wInc, e_wInc0, Nat.reduceLT, not_false_eq_true, Bool.or_false, Bool.false_or, Bool.or_true, Bool.true_or, Bool.and_false, Bool.false_and, Bool.and_true, Bool.true_and, e_ri, e_rz, e_wIf_eq, e_wIc_ge, e_wIf_gt, e_wIf_ne, e_wIc_eq, fX12_211, fX12_218, fX12_221, ic_0, ic_1, jt_101_7, jt_105_17, jt_109_13, jt_114_7, jt_118_4, jt_30_10, jt_37_25, jt_41_15, jt_48_12, jt_53_7, jt_57_4, jt_68_18, jt_77_7, jt_81_4, jt_92_20, e_call, e_callS0, e_callS1, e_callS2, e_callS3, e_callS4, e_pop0, e_pop1, e_tl0, e_tl1, tbX12_isAhead_f, tbX12_isAhead_p, tbX12_isAhead_k, tbX12_isAhead_c230, g_245_33, g_245_34, cv_245_0, cv_245_1, cv_245_2, cv_245_3, cv_245_4, g_245_32, spX12_witnesses, bi_0, bi_1, ne_eq, Classical.not_not, em_r, em_l]
    obtain ⟨h0, h1, h2, h3⟩ := h
    simp (disch := decide) only [stV_f, stV_v, stV_a, stV_V, wok_V, wvP_V, stV_2, witP_V, wcM_V, ahM_V]
    refine ⟨h0, h1, fun v hv => ⟨h0, h2, fun w hw => ?_⟩⟩
    have ht : ahM S a b → Q (some (.inl 1)) (stV S w) := fun q => by have z := h3 w; rw [bi_t q] at z; exact z
    have hf : ¬ ahM S a b → Q (some (.inl 0)) (stV S w) := fun q => by have z := h3 w; rw [bi_f q] at z; exact z
    clear h3
    unfold ahM at ht hf
    replace ht := hid ht
    replace hf := hid hf
    obtain ⟨⟨v1, v2⟩, v3⟩ := wv_e hv
    obtain ⟨⟨w1, w2⟩, w3⟩ := wv_e hw
    clear hv hw
    generalize wcM S a 0 = ca at *
    generalize wcM S b 0 = cbb at *
    generalize wmF S a 0 = fa at *
    generalize wmF S b 0 = fb at *
    generalize wmL S a 0 = la at *
    generalize wmL S b 0 = lb at *
    repeat' (with_reducible first | intro _ | refine And.intro ?_ ?_)
    all_goals first
      | omega
      | exact ht (by omega)
      | exact hf (by omega)
      | skip
  · exact h.elim
def plM (S : aS) (a : Int) (j : Nat) : Prop := ¬ (j : Int) = a ∧ ¬ S.1 266 j = 0 ∧ S.1 267 j = S.1 267 a.toNat ∧ S.1 268 j = S.1 268 a.toNat ∧ ahM S j a
theorem plM_V {S : aS} {v : Nat → Int} : plM (stV S v) = plM S := rfl
noncomputable def paM (S : aS) (a : Int) : Int := cnt (fun j => cb (plM S a j)) 40 + 1
theorem paM_V {S : aS} {v : Nat → Int} : paM (stV S v) = paM S := rfl
def spX12_place : aSp := fun as S Q => match as with
  | [.inr (.inr 245), .inl a] => wok S ∧ (0 ≤ a ∧ a < 40) ∧ ∀ v, Q (some (.inl (paM S a))) (stV S v)
  | _ => False
def tbX12_place : aTb := (fX12, pX12, fun j => lk [(234, (some 12), 3, spX12_isAhead)] j, kX12)
theorem tbX12_place_f : tbX12_place.1 = fX12 := rfl
theorem tbX12_place_p : tbX12_place.2.1 = pX12 := rfl
theorem tbX12_place_k : tbX12_place.2.2.2 = kX12 := rfl
theorem tbX12_place_c234 : tbX12_place.2.2.1 234 = some ((some 12), 3, spX12_isAhead) := rfl
theorem tbX12_place_all (l : Launch) : ∀ e ∈ ([(234, (some 12), 3, spX12_isAhead)] : List (Nat × Option Nat × Nat × aSp)), cOK l mX12_place e.1 e.2.1 e.2.2.1 e.2.2.2 ∨ mOK mX12_place e.1 e.2.1 e.2.2.1 e.2.2.2 := all_cons (cOK_of (okX12_isAhead l) meX12_isAhead cfX12_234 (by decide) (by decide)) (all_nil)
theorem tbX12_place_ok (l : Launch) : tOK l mX12_place tbX12_place := ⟨fX12_ok, pX12_ok, fun _ _ _ _ h => tbX12_place_all l _ (lk_mem h), kX12_ok⟩
set_option maxRecDepth 20000 in
set_option maxHeartbeats 4000000 in
theorem lpX12_place (l : Launch) (Q : Option aV → aS → Prop) : ∀ (n : Nat) (S : aS) (a : Int) (v : Nat → Int) (i : Nat), i + n = 40 → wok S → (0 ≤ a ∧ a < 40) → (∀ v, Q (some (.inl (paM S a))) (stV S v)) → aGo l mX12_place Q 4 [(0, .inr (.inr 245)), (1, .inl a), (2, .inl (cnt (fun j => cb (plM S a j)) i + 1)), (3, .inl (i : Int))] [] (stV S v) := by
  intro n
  induction n using Nat.strongRecOn with
  | _ n ih =>
  intro S  a  v  i  h0 h1 h2 h3
  refine wp_go (tbX12_place_ok l) (fun pc => pc == 4) 48 dX12_place_4 ?_
  show ws1 tbX12_place 4 (some .int) Q (wp cX12_place tbX12_place 4 (some .int) Q (fun pc => pc == 4) (aGo l mX12_place Q) 48) (.iload_n 3) 1 4 [(0, .inr (.inr 245)), (1, .inl a), (2, .inl (cnt (fun j => cb (plM S a j)) i + 1)), (3, .inl (i : Int))] [] (stV S v)
  simp only [wp_s, wpC_f, wpC_t, e_wLd, e_wLd0, e_wLd1, e_wLd2, e_get1, e_get2, e_wJ, e_wJo, f40, f41, f42, f43, Nat.reduceAdd, Nat.reduceBEq, Nat.reduceMul, eq_self, true_or, or_true, true_and, dX12_place_0, dX12_place_1, dX12_place_2, dX12_place_3, dX12_place_4, dX12_place_5, dX12_place_7, dX12_place_10, dX12_place_11, dX12_place_12, dX12_place_15, dX12_place_16, dX12_place_19, dX12_place_20, dX12_place_21, dX12_place_24, dX12_place_25, dX12_place_28, dX12_place_29, dX12_place_30, dX12_place_31, dX12_place_34, dX12_place_35, dX12_place_36, dX12_place_39, dX12_place_40, dX12_place_43, dX12_place_44, dX12_place_45, dX12_place_46, dX12_place_49, dX12_place_50, dX12_place_51, dX12_place_54, dX12_place_55, dX12_place_56, dX12_place_57, dX12_place_60, dX12_place_63, dX12_place_64, dX12_place_65, dX12_place_66, dX12_place_67, dX12_place_70, dX12_place_73, dX12_place_74, e_aload_n, e_iload_n, e_istore_n, e_iconst, e_bipush, e_iadd, e_iinc, e_ifCond, e_if_icmp, e_goto, e_getfield, e_iaload, e_baload, e_invokevirtual, e_ireturn, e_wSt0, e_wSt1, e_wSt2, e_isL0, e_isL1, e_isL2, e_lset, e_lclr0, e_lclr1, e_lclr2, e_lput0, e_lput1, e_lput2, e_wInc, e_wInc0, Nat.reduceLT, not_false_eq_true, Bool.or_false, Bool.false_or, Bool.or_true, Bool.true_or, Bool.and_false, Bool.false_and, Bool.and_true, Bool.true_and, e_wI2, e_ri, e_rz, e_wIc_ge, e_wIc_ne, e_wIf_eq, e_wIc_eq, bp_40, fX12_73, fX12_76, fX12_79, ic_0, ic_1, jt_12_55, jt_21_46, jt_36_31, jt_51_16, jt_60_7, jt_70_m66, jt_7_66, e_call, e_callS0, e_callS1, e_callS2, e_callS3, e_callS4, e_pop0, e_pop1, e_tl0, e_tl1, tbX12_place_f, tbX12_place_p, tbX12_place_k, tbX12_place_c234, g_245_27, l_267, cv_245_0, cv_245_1, cv_245_2, cv_245_3, cv_245_4, g_245_26, l_266, g_245_28, l_268, spX12_isAhead, bi_0, bi_1, ne_eq, Classical.not_not, em_r, em_l]
  simp (disch := decide) only [stV_f, stV_v, stV_a, stV_V, wok_V, wvP_V, stV_2, witP_V, wcM_V, ahM_V]
  have hb := cnt_b (fun j => cb (plM S a j)) i
  simp (disch := omega) only [wI_id, Int.toNat_natCast]
  have hno : ∀ v, ¬ plM S a i → aGo l mX12_place Q 4 [(0, .inr (.inr 245)), (1, .inl a), (2, .inl (cnt (fun j => cb (plM S a j)) i + 1)), (3, .inl ((i : Int) + 1))] [] (stV S v) ∨ ¬ i < 40 := by
    intro v q
    by_cases hi : i < 40
    · have e := ih (n - 1) (by omega) S a v (i + 1) (by omega) h1 h2 h3
      rw [cnt_f (cb_f q)] at e
      exact Or.inl e
    · exact Or.inr hi
  have hye : ∀ v, plM S a i → aGo l mX12_place Q 4 [(0, .inr (.inr 245)), (1, .inl a), (2, .inl (cnt (fun j => cb (plM S a j)) i + 1 + 1)), (3, .inl ((i : Int) + 1))] [] (stV S v) ∨ ¬ i < 40 := by
    intro v q
    by_cases hi : i < 40
    · have e := ih (n - 1) (by omega) S a v (i + 1) (by omega) h1 h2 h3
      rw [cnt_t (cb_t q)] at e
      exact Or.inl e
    · exact Or.inr hi
  refine ⟨fun q => ?_, fun q => ?_⟩
  · obtain rfl : i = 40 := by omega
    exact h3 v
  · replace hno := fun v => hid (fun z => (hno v z).resolve_right (by omega))
    replace hye := fun v => hid (fun z => (hye v z).resolve_right (by omega))
    unfold plM at hno hye
    clear ih
    repeat' (with_reducible first | intro _ | refine And.intro ?_ ?_)
    all_goals first
      | omega
      | exact h1
      | exact h3 _
      | exact hye _ ⟨by assumption, by assumption, by assumption, by assumption, by assumption⟩
      | exact hno _ (fun z => absurd z.1 (by omega))
      | exact hno _ (fun z => absurd (by assumption) z.2.1)
      | exact hno _ (fun z => absurd z.2.2.1 (by assumption))
      | exact hno _ (fun z => absurd z.2.2.2.1 (by assumption))
      | exact hno _ (fun z => absurd z.2.2.2.2 (by assumption))
      | skip
set_option maxRecDepth 20000 in
set_option maxHeartbeats 4000000 in
theorem okX12_place (l : Launch) : aOK l mX12_place spX12_place := by
  refine aOK_of rfl fun as S Q h => ?_
  unfold spX12_place at h
  split at h
  · rename_i a
    refine ⟨Nat.le_of_ble_eq_true rfl, wp_ok (tbX12_place_ok l) Q (fun pc => pc == 4) 48 0 _ [] S ?_⟩
    show wp cX12_place tbX12_place 4 (some .int) Q (fun pc => pc == 4) (aGo l mX12_place Q) 48 0 [(0, .inr (.inr 245)), (1, .inl a)] [] S
    simp only [wp_s, wpC_f, wpC_t, e_wLd, e_wLd0, e_wLd1, e_wLd2, e_get1, e_get2, e_wJ, e_wJo, f40, f41, f42, f43, Nat.reduceAdd, Nat.reduceBEq, Nat.reduceMul, eq_self, true_or, or_true, true_and, dX12_place_0, dX12_place_1, dX12_place_2, dX12_place_3, dX12_place_4, dX12_place_5, dX12_place_7, dX12_place_10, dX12_place_11, dX12_place_12, dX12_place_15, dX12_place_16, dX12_place_19, dX12_place_20, dX12_place_21, dX12_place_24, dX12_place_25, dX12_place_28, dX12_place_29, dX12_place_30, dX12_place_31, dX12_place_34, dX12_place_35, dX12_place_36, dX12_place_39, dX12_place_40, dX12_place_43, dX12_place_44, dX12_place_45, dX12_place_46, dX12_place_49, dX12_place_50, dX12_place_51, dX12_place_54, dX12_place_55, dX12_place_56, dX12_place_57, dX12_place_60, dX12_place_63, dX12_place_64, dX12_place_65, dX12_place_66, dX12_place_67, dX12_place_70, dX12_place_73, dX12_place_74, e_aload_n, e_iload_n, e_istore_n, e_iconst, e_bipush, e_iadd, e_iinc, e_ifCond, e_if_icmp, e_goto, e_getfield, e_iaload, e_baload, e_invokevirtual, e_ireturn, e_wSt0, e_wSt1, e_wSt2, e_isL0, e_isL1, e_isL2, e_lset, e_lclr0, e_lclr1, e_lclr2, e_lput0, e_lput1, e_lput2, e_wInc, e_wInc0, Nat.reduceLT, not_false_eq_true, Bool.or_false, Bool.false_or, Bool.or_true, Bool.true_or, Bool.and_false, Bool.false_and, Bool.and_true, Bool.true_and, e_wI2, e_ri, e_rz, e_wIc_ge, e_wIc_ne, e_wIf_eq, e_wIc_eq, bp_40, fX12_73, fX12_76, fX12_79, ic_0, ic_1, jt_12_55, jt_21_46, jt_36_31, jt_51_16, jt_60_7, jt_70_m66, jt_7_66, e_call, e_callS0, e_callS1, e_callS2, e_callS3, e_callS4, e_pop0, e_pop1, e_tl0, e_tl1, tbX12_place_f, tbX12_place_p, tbX12_place_k, tbX12_place_c234, g_245_27, l_267, cv_245_0, cv_245_1, cv_245_2, cv_245_3, cv_245_4, g_245_26, l_266, g_245_28, l_268]
    have e := lpX12_place l Q 40 S a (S.1 245) 0 rfl h.1 h.2.1 h.2.2
    rw [stV_S] at e
    exact e
  · exact h.elim
