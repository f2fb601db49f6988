/-! SLIPHOUSE: sort -/
noncomputable def so1 (S : aS) (s : Nat) : aS := @ite _ ((S.1 83 s = -1 ∧ S.1 84 s = -1) ∧ cnt (fun j => cb (fitP S s j)) (S.1 14 4).toNat = 1) (Classical.propDecidable _) (upI (upI S 83 s (ff (fun j => cb (fitP S s j)) (S.1 14 4).toNat 0)) 84 s (-1)) S
noncomputable def soC (S : aS) (s : Nat) : Int := bi ((S.1 83 s = -1 ∧ S.1 84 s = -1) ∧ cnt (fun j => cb (fitP S s j)) (S.1 14 4).toNat = 1)
noncomputable def soS : Nat → Nat → aS → aS
  | 0, _, S => S
  | n + 1, s, S => soS n (s + 1) (so1 S s)
noncomputable def soN : Nat → Nat → aS → Int
  | 0, _, _ => 0
  | n + 1, s, S => soC S s + soN n (s + 1) (so1 S s)
theorem so1_f {S : aS} {s i : Nat} (h1 : ¬ i = 83) (h2 : ¬ i = 84) : (so1 S s).1 i = S.1 i := by
  unfold so1
  by_cases h : (S.1 83 s = -1 ∧ S.1 84 s = -1) ∧ cnt (fun j => cb (fitP S s j)) (S.1 14 4).toNat = 1
  · rw [if_pos h, up_f h2, up_f h1]
  · rw [if_neg h]
theorem so1_R {S : aS} {s : Nat} (h : fitR S) : fitR (so1 S s) := by
  unfold fitR fitQ at *
  simp (disch := decide) only [so1_f]
  exact h
def spX11_sort : aSp := fun as S Q => match as with
  | [.inr (.inr 0)] => fitR S ∧ 0 ≤ S.1 81 4 ∧ Q (some (.inl (soN (S.1 81 4).toNat 0 S))) (soS (S.1 81 4).toNat 0 S)
  | _ => False
def tbX11_sort : aTb := (fX11, pX11, fun j => lk [(181, (some 7), 2, spX7_isLoose), (184, (some 11), 2, spX11_entriesFitted), (187, (some 11), 2, spX11_firstEntryFitted), (190, (some 7), 4, spX7_place)] j, kX11)
theorem tbX11_sort_f : tbX11_sort.1 = fX11 := rfl
theorem tbX11_sort_p : tbX11_sort.2.1 = pX11 := rfl
theorem tbX11_sort_k : tbX11_sort.2.2.2 = kX11 := rfl
theorem tbX11_sort_c181 : tbX11_sort.2.2.1 181 = some ((some 7), 2, spX7_isLoose) := rfl
theorem tbX11_sort_c184 : tbX11_sort.2.2.1 184 = some ((some 11), 2, spX11_entriesFitted) := rfl
theorem tbX11_sort_c187 : tbX11_sort.2.2.1 187 = some ((some 11), 2, spX11_firstEntryFitted) := rfl
theorem tbX11_sort_c190 : tbX11_sort.2.2.1 190 = some ((some 7), 4, spX7_place) := rfl
theorem tbX11_sort_all (l : Launch) : ∀ e ∈ ([(181, (some 7), 2, spX7_isLoose), (184, (some 11), 2, spX11_entriesFitted), (187, (some 11), 2, spX11_firstEntryFitted), (190, (some 7), 4, spX7_place)] : List (Nat × Option Nat × Nat × aSp)), cOK l mX11_sort e.1 e.2.1 e.2.2.1 e.2.2.2 ∨ mOK mX11_sort e.1 e.2.1 e.2.2.1 e.2.2.2 := all_cons (cOK_of (okX7_isLoose l) meX7_isLoose cfX11_181 (by decide) (by decide)) (all_cons (cOK_of (okX11_entriesFitted l) meX11_entriesFitted cfX11_184 (by decide) (by decide)) (all_cons (cOK_of (okX11_firstEntryFitted l) meX11_firstEntryFitted cfX11_187 (by decide) (by decide)) (all_cons (cOK_of (okX7_place l) meX7_place cfX11_190 (by decide) (by decide)) (all_nil))))
theorem tbX11_sort_ok (l : Launch) : tOK l mX11_sort tbX11_sort := ⟨fX11_ok, pX11_ok, fun _ _ _ _ h => tbX11_sort_all l _ (lk_mem h), kX11_ok⟩
set_option maxRecDepth 20000 in
set_option maxHeartbeats 4000000 in
theorem lpX11_sort (l : Launch) (Q : Option aV → aS → Prop) : ∀ (n : Nat) (S : aS) (c : Int) (s : Nat), s + n = (S.1 81 4).toNat → fitR S → (0 ≤ c ∧ c ≤ s) → Q (some (.inl (c + soN n s S))) (soS n s S) → aGo l mX11_sort Q 4 [(0, .inr (.inr 0)), (1, .inl c), (2, .inl (s : Int))] [] S := by
  intro n
  induction n using Nat.strongRecOn with
  | _ n ih =>
  intro S  c  s  h0 h1 h2 h3
  refine wp_go (tbX11_sort_ok l) (fun pc => pc == 4) 34 dX11_sort_4 ?_
  show ws1 tbX11_sort 3 (some .int) Q (wp cX11_sort tbX11_sort 3 (some .int) Q (fun pc => pc == 4) (aGo l mX11_sort Q) 34) (.iload_n 2) 1 4 [(0, .inr (.inr 0)), (1, .inl c), (2, .inl (s : Int))] [] S
  simp only [wp_s, wpC_f, wpC_t, e_wLd, e_wLd0, e_wLd1, e_wLd2, e_get1, e_get2, e_wJ, e_wJo, f40, f41, f42, f43, Nat.reduceAdd, Nat.reduceBEq, Nat.reduceMul, eq_self, true_or, or_true, true_and, dX11_sort_0, dX11_sort_1, dX11_sort_2, dX11_sort_3, dX11_sort_4, dX11_sort_5, dX11_sort_6, dX11_sort_9, dX11_sort_12, dX11_sort_15, dX11_sort_16, dX11_sort_19, dX11_sort_20, dX11_sort_23, dX11_sort_26, dX11_sort_27, dX11_sort_28, dX11_sort_31, dX11_sort_32, dX11_sort_35, dX11_sort_36, dX11_sort_39, dX11_sort_40, dX11_sort_41, dX11_sort_42, dX11_sort_45, dX11_sort_46, dX11_sort_49, dX11_sort_52, dX11_sort_55, dX11_sort_58, dX11_sort_59, e_aload_n, e_iload_n, e_istore_n, e_iconst, e_iinc, e_ifCond, e_if_icmp, e_goto, e_getfield, e_invokevirtual, e_ireturn, e_wSt0, e_wSt1, e_wSt2, e_isL0, e_isL1, e_isL2, e_lset, e_lclr0, e_lclr1, e_lclr2, e_lput0, e_lput1, e_lput2, e_wInc, e_wInc0, Nat.reduceLT, not_false_eq_true, Bool.or_false, Bool.false_or, Bool.or_true, Bool.true_or, Bool.and_false, Bool.false_and, Bool.and_true, Bool.true_and, e_ri, e_rz, e_wIc_ge, e_wIf_eq, e_wIc_ne, fX11_128, fX11_42, ic_0, ic_1, ic_m1, jt_12_46, jt_23_29, jt_32_20, jt_55_m51, e_call, e_callS0, e_callS1, e_callS2, e_callS3, e_callS4, e_pop0, e_pop1, e_tl0, e_tl1, tbX11_sort_f, tbX11_sort_p, tbX11_sort_k, tbX11_sort_c181, tbX11_sort_c184, tbX11_sort_c187, tbX11_sort_c190, g_81_4, cv_81_0, cv_81_1, cv_81_2, cv_81_3, cv_81_4, g_0_4, cv_0_0, cv_0_1, cv_0_2, cv_0_3, cv_0_4, spX7_isLoose, spX11_entriesFitted, spX11_firstEntryFitted, spX7_place, bi_0, bi_1, ne_eq, Classical.not_not, em_r, em_l]
  have h1' := h1
  obtain ⟨g0, g1, g2, g3⟩ := h1'
  simp (disch := omega) only [wI_id, Int.toNat_natCast]
  rcases n with _ | n
  · refine ⟨fun _ => ?_, fun q => absurd (by omega) q⟩
    have h3' : Q (some (.inl (c + 0))) S := h3
    rw [Int.add_zero] at h3'
    exact h3'
  · have h3' : Q (some (.inl (c + (soC S s + soN n (s + 1) (so1 S s))))) (soS n (s + 1) (so1 S s)) := h3
    rw [show c + (soC S s + soN n (s + 1) (so1 S s)) = c + soC S s + soN n (s + 1) (so1 S s) from by omega] at h3'
    have hno : ¬ ((S.1 83 s = -1 ∧ S.1 84 s = -1) ∧ cnt (fun j => cb (fitP S s j)) (S.1 14 4).toNat = 1) → aGo l mX11_sort Q 4 [(0, .inr (.inr 0)), (1, .inl c), (2, .inl ((s : Int) + 1))] [] S := by
      intro hn
      have e1 : so1 S s = S := by unfold so1; rw [if_neg hn]
      have e2 : soC S s = 0 := by unfold soC; exact bi_f hn
      rw [e1, e2, Int.add_zero] at h3'
      exact ih n (by omega) S c (s + 1) (by omega) h1 (by omega) h3'
    have hyes : ((S.1 83 s = -1 ∧ S.1 84 s = -1) ∧ cnt (fun j => cb (fitP S s j)) (S.1 14 4).toNat = 1) → aGo l mX11_sort Q 4 [(0, .inr (.inr 0)), (1, .inl (c + 1)), (2, .inl ((s : Int) + 1))] [] (upI (upI S 83 s (ff (fun j => cb (fitP S s j)) (S.1 14 4).toNat 0)) 84 s (-1)) := by
      intro hn
      have e1 : so1 S s = upI (upI S 83 s (ff (fun j => cb (fitP S s j)) (S.1 14 4).toNat 0)) 84 s (-1) := by unfold so1; rw [if_pos hn]
      have e2 : soC S s = 1 := by unfold soC; exact bi_t hn
      have e81 := so1_f (S := S) (s := s) (i := 81) (by decide) (by decide)
      have hR := so1_R (s := s) h1
      rw [e2] at h3'
      rw [e1] at h3' e81 hR
      exact ih n (by omega) _ (c + 1) (s + 1) (by rw [e81]; omega) hR (by omega) h3'
    repeat' (with_reducible first | intro _ | refine And.intro ?_ ?_)
    all_goals first
      | omega
      | assumption
      | exact hno (fun z => by omega)
      | exact hyes ⟨⟨by omega, by omega⟩, by omega⟩
      | skip
set_option maxRecDepth 20000 in
set_option maxHeartbeats 4000000 in
theorem okX11_sort (l : Launch) : aOK l mX11_sort spX11_sort := by
  refine aOK_of rfl fun as S Q h => ?_
  unfold spX11_sort at h
  split at h
  · refine ⟨Nat.le_of_ble_eq_true rfl, wp_ok (tbX11_sort_ok l) Q (fun pc => pc == 4) 34 0 _ [] S ?_⟩
    show wp cX11_sort tbX11_sort 3 (some .int) Q (fun pc => pc == 4) (aGo l mX11_sort Q) 34 0 [(0, .inr (.inr 0))] [] S
    simp only [wp_s, wpC_f, wpC_t, e_wLd, e_wLd0, e_wLd1, e_wLd2, e_get1, e_get2, e_wJ, e_wJo, f40, f41, f42, f43, Nat.reduceAdd, Nat.reduceBEq, Nat.reduceMul, eq_self, true_or, or_true, true_and, dX11_sort_0, dX11_sort_1, dX11_sort_2, dX11_sort_3, dX11_sort_4, dX11_sort_5, dX11_sort_6, dX11_sort_9, dX11_sort_12, dX11_sort_15, dX11_sort_16, dX11_sort_19, dX11_sort_20, dX11_sort_23, dX11_sort_26, dX11_sort_27, dX11_sort_28, dX11_sort_31, dX11_sort_32, dX11_sort_35, dX11_sort_36, dX11_sort_39, dX11_sort_40, dX11_sort_41, dX11_sort_42, dX11_sort_45, dX11_sort_46, dX11_sort_49, dX11_sort_52, dX11_sort_55, dX11_sort_58, dX11_sort_59, e_aload_n, e_iload_n, e_istore_n, e_iconst, e_iinc, e_ifCond, e_if_icmp, e_goto, e_getfield, e_invokevirtual, e_ireturn, e_wSt0, e_wSt1, e_wSt2, e_isL0, e_isL1, e_isL2, e_lset, e_lclr0, e_lclr1, e_lclr2, e_lput0, e_lput1, e_lput2, e_wInc, e_wInc0, Nat.reduceLT, not_false_eq_true, Bool.or_false, Bool.false_or, Bool.or_true, Bool.true_or, Bool.and_false, Bool.false_and, Bool.and_true, Bool.true_and, e_ri, e_rz, e_wIc_ge, e_wIf_eq, e_wIc_ne, fX11_128, fX11_42, ic_0, ic_1, ic_m1, jt_12_46, jt_23_29, jt_32_20, jt_55_m51, e_call, e_callS0, e_callS1, e_callS2, e_callS3, e_callS4, e_pop0, e_pop1, e_tl0, e_tl1, tbX11_sort_f, tbX11_sort_p, tbX11_sort_k, tbX11_sort_c181, tbX11_sort_c184, tbX11_sort_c187, tbX11_sort_c190, g_81_4, cv_81_0, cv_81_1, cv_81_2, cv_81_3, cv_81_4, g_0_4, cv_0_0, cv_0_1, cv_0_2, cv_0_3, cv_0_4]
    have e := lpX11_sort l Q (S.1 81 4).toNat S 0 0 (Nat.zero_add _) h.1 (by omega) (by rw [Int.zero_add]; exact h.2.2)
    exact e
  · exact h.elim
