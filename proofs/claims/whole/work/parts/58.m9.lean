/-! THE REFERENCE: older, flaws -/
def aoP (S : aS) (s : Nat) (b al : Int) (t : Nat) : Prop := witP S b al t → ¬ S.1 254 (30 * S.1 255 s + S.1 255 t).toNat = 0
def aoR (S : aS) (a b al : Int) (s : Nat) : Prop := witP S a al s ∧ ∀ t : Nat, t < (S.1 245 12).toNat → aoP S s b al t
def aoM (S : aS) (a b al : Int) : Prop := ∃ s : Nat, s < (S.1 245 12).toNat ∧ aoR S a b al s
def spX12_isAheadOfAll : aSp := fun as S Q => match as with
  | [.inr (.inr 245), .inl a, .inl b, .inl al] => wok S ∧ ¬ a = -1 ∧ ¬ b = -1 ∧ (al = 0 ∨ al = 1) ∧ Q (some (.inl (bi (aoM S a b al)))) S
  | _ => False
def tbX12_isAheadOfAll : aTb := (fX12, pX12, fun j => lk [(214, (some 12), 4, spX12_isWitness)] j, kX12)
theorem tbX12_isAheadOfAll_f : tbX12_isAheadOfAll.1 = fX12 := rfl
theorem tbX12_isAheadOfAll_p : tbX12_isAheadOfAll.2.1 = pX12 := rfl
theorem tbX12_isAheadOfAll_k : tbX12_isAheadOfAll.2.2.2 = kX12 := rfl
theorem tbX12_isAheadOfAll_c214 : tbX12_isAheadOfAll.2.2.1 214 = some ((some 12), 4, spX12_isWitness) := rfl
theorem tbX12_isAheadOfAll_all (l : Launch) : ∀ e ∈ ([(214, (some 12), 4, spX12_isWitness)] : List (Nat × Option Nat × Nat × aSp)), cOK l mX12_isAheadOfAll e.1 e.2.1 e.2.2.1 e.2.2.2 ∨ mOK mX12_isAheadOfAll e.1 e.2.1 e.2.2.1 e.2.2.2 := all_cons (cOK_of (okX12_isWitness l) meX12_isWitness cfX12_214 (by decide) (by decide)) (all_nil)
theorem tbX12_isAheadOfAll_ok (l : Launch) : tOK l mX12_isAheadOfAll tbX12_isAheadOfAll := ⟨fX12_ok, pX12_ok, fun _ _ _ _ h => tbX12_isAheadOfAll_all l _ (lk_mem h), kX12_ok⟩
set_option maxRecDepth 20000 in
set_option maxHeartbeats 4000000 in
theorem lpA1 (l : Launch) (Q : Option aV → aS → Prop) : ∀ (n : Nat) (S : aS) (a b al x : Int) (s i : Nat), i + n = (S.1 245 12).toNat → wok S → s < (S.1 245 12).toNat ∧ ¬ b = -1 → (al = 0 ∨ al = 1) → (x = 1 ∧ ∀ t : Nat, t < i → aoP S s b al t) ∨ (x = 0 ∧ ¬ ∀ t : Nat, t < i → aoP S s b al t) → (∀ x : Int, (x = 1 ∧ ∀ t : Nat, t < (S.1 245 12).toNat → aoP S s b al t) ∨ (x = 0 ∧ ¬ ∀ t : Nat, t < (S.1 245 12).toNat → aoP S s b al t) → aGo l mX12_isAheadOfAll Q 96 [(0, .inr (.inr 245)), (1, .inl a), (2, .inl b), (3, .inl al), (4, .inl (s : Int)), (5, .inl x)] [] S) → aGo l mX12_isAheadOfAll Q 32 [(0, .inr (.inr 245)), (1, .inl a), (2, .inl b), (3, .inl al), (4, .inl (s : Int)), (5, .inl x), (6, .inl (i : Int))] [] S := by
  intro n
  induction n using Nat.strongRecOn with
  | _ n ih =>
  intro S  a b al x  s i  h0 h1 h2 h3 h4 h5
  refine wp_go (tbX12_isAheadOfAll_ok l) (fun pc => pc == 32 || pc == 96) 60 dX12_isAheadOfAll_32 ?_
  show ws1 tbX12_isAheadOfAll 7 (some .boolean) Q (wp cX12_isAheadOfAll tbX12_isAheadOfAll 7 (some .boolean) Q (fun pc => pc == 32 || pc == 96) (aGo l mX12_isAheadOfAll Q) 60) (.iload 6) 2 32 [(0, .inr (.inr 245)), (1, .inl a), (2, .inl b), (3, .inl al), (4, .inl (s : Int)), (5, .inl x), (6, .inl (i : Int))] [] S
  simp only [wp_s, wpC_f, wpC_t, e_wLd, e_wLd0, e_wLd1, e_wLd2, e_get1, e_get2, e_wJ, e_wJo, f40, f41, f42, f43, Nat.reduceAdd, Nat.reduceBEq, Nat.reduceMul, eq_self, true_or, or_true, true_and, dX12_isAheadOfAll_0, dX12_isAheadOfAll_1, dX12_isAheadOfAll_3, dX12_isAheadOfAll_5, dX12_isAheadOfAll_6, dX12_isAheadOfAll_9, dX12_isAheadOfAll_12, dX12_isAheadOfAll_13, dX12_isAheadOfAll_15, dX12_isAheadOfAll_16, dX12_isAheadOfAll_17, dX12_isAheadOfAll_20, dX12_isAheadOfAll_23, dX12_isAheadOfAll_26, dX12_isAheadOfAll_27, dX12_isAheadOfAll_29, dX12_isAheadOfAll_30, dX12_isAheadOfAll_32, dX12_isAheadOfAll_34, dX12_isAheadOfAll_35, dX12_isAheadOfAll_38, dX12_isAheadOfAll_41, dX12_isAheadOfAll_43, dX12_isAheadOfAll_46, dX12_isAheadOfAll_47, dX12_isAheadOfAll_49, dX12_isAheadOfAll_50, dX12_isAheadOfAll_51, dX12_isAheadOfAll_54, dX12_isAheadOfAll_57, dX12_isAheadOfAll_58, dX12_isAheadOfAll_61, dX12_isAheadOfAll_63, dX12_isAheadOfAll_64, dX12_isAheadOfAll_67, dX12_isAheadOfAll_69, dX12_isAheadOfAll_70, dX12_isAheadOfAll_71, dX12_isAheadOfAll_72, dX12_isAheadOfAll_75, dX12_isAheadOfAll_77, dX12_isAheadOfAll_78, dX12_isAheadOfAll_79, dX12_isAheadOfAll_80, dX12_isAheadOfAll_83, dX12_isAheadOfAll_84, dX12_isAheadOfAll_87, dX12_isAheadOfAll_88, dX12_isAheadOfAll_90, dX12_isAheadOfAll_93, dX12_isAheadOfAll_96, dX12_isAheadOfAll_98, dX12_isAheadOfAll_101, dX12_isAheadOfAll_102, dX12_isAheadOfAll_103, dX12_isAheadOfAll_106, dX12_isAheadOfAll_109, dX12_isAheadOfAll_110, e_aload_n, e_iload_n, e_iload, e_istore, e_iconst, e_bipush, e_iadd, e_imul, e_iinc, e_ifCond, e_if_icmp, e_goto, e_getfield, e_iaload, e_baload, e_invokevirtual, e_ireturn, e_wSt0, e_wSt1, e_wSt2, e_isL0, e_isL1, e_isL2, e_lset, e_lclr0, e_lclr1, e_lclr2, e_lput0, e_lput1, e_lput2, e_wInc, e_wInc0, Nat.reduceLT, not_false_eq_true, Bool.or_false, Bool.false_or, Bool.or_true, Bool.true_or, Bool.and_false, Bool.false_and, Bool.and_true, Bool.true_and, e_wI2, e_ri, e_rz, e_wIc_ge, e_wIf_eq, e_wIf_ne, bp_30, fX12_132, fX12_35, fX12_39, ic_0, ic_1, jt_106_m103, jt_20_6, jt_23_80, jt_38_58, jt_43_44, jt_54_29, jt_80_7, jt_84_4, jt_93_m61, jt_98_5, jt_9_100, e_call, e_callS0, e_callS1, e_callS2, e_callS3, e_callS4, e_pop0, e_pop1, e_tl0, e_tl1, tbX12_isAheadOfAll_f, tbX12_isAheadOfAll_p, tbX12_isAheadOfAll_k, tbX12_isAheadOfAll_c214, g_245_15, l_255, g_245_12, g_245_11, cv_245_0, cv_245_1, cv_245_2, cv_245_3, cv_245_4, l_254, spX12_isWitness, bi_0, bi_1, ne_eq, Classical.not_not, em_r, em_l]
  have h1' := h1
  obtain ⟨g0, g1⟩ := h1'
  simp (disch := omega) only [wI_id, Int.toNat_natCast]
  have gs := (g1 s (by omega)).1
  refine ⟨fun q => ?_, fun q => ?_⟩
  · obtain rfl : i = (S.1 245 12).toNat := by omega
    exact aGo_sub (h5 x h4) (fun q hq => List.mem_append_left ([(6, Sum.inl _)] : aL) hq)
  · obtain ⟨k1, k2, k3, k4⟩ := g1 i (by omega)
    have e30 : wI (wI (30 * S.1 255 s) + S.1 255 i) = 30 * S.1 255 s + S.1 255 i := by simp (disch := omega) only [wI_id]
    have nx : ∀ y : Int, ((y = 1 ∧ ∀ t : Nat, t < i + 1 → aoP S s b al t) ∨ (y = 0 ∧ ¬ ∀ t : Nat, t < i + 1 → aoP S s b al t)) → aGo l mX12_isAheadOfAll Q 32 [(0, .inr (.inr 245)), (1, .inl a), (2, .inl b), (3, .inl al), (4, .inl (s : Int)), (5, .inl y), (6, .inl ((i : Int) + 1))] [] S := fun y hy => ih (n - 1) (by omega) S a b al y s (i + 1) (by omega) h1 h2 h3 hy h5
    have n0 : x = 0 → aGo l mX12_isAheadOfAll Q 32 [(0, .inr (.inr 245)), (1, .inl a), (2, .inl b), (3, .inl al), (4, .inl (s : Int)), (5, .inl 0), (6, .inl ((i : Int) + 1))] [] S := fun z => nx 0 (Or.inr ⟨rfl, fun w => (h4.resolve_left (fun y => by omega)).2 (fun t ht => w t (by omega))⟩)
    have n1 : ¬ x = 0 → aoP S s b al i → aGo l mX12_isAheadOfAll Q 32 [(0, .inr (.inr 245)), (1, .inl a), (2, .inl b), (3, .inl al), (4, .inl (s : Int)), (5, .inl 1), (6, .inl ((i : Int) + 1))] [] S := fun z w => nx 1 (Or.inl ⟨rfl, fun t ht => by
      by_cases hti : t = i
      · subst hti; exact w
      · exact (h4.resolve_right (fun y => z y.1)).2 t (by omega)⟩)
    have n2 : ¬ aoP S s b al i → aGo l mX12_isAheadOfAll Q 32 [(0, .inr (.inr 245)), (1, .inl a), (2, .inl b), (3, .inl al), (4, .inl (s : Int)), (5, .inl 0), (6, .inl ((i : Int) + 1))] [] S := fun w => nx 0 (Or.inr ⟨rfl, fun y => w (y i (by omega))⟩)
    clear ih h5 nx
    replace n0 := hid n0
    replace n1 := fun z => hid (n1 z)
    replace n1 := hid n1
    replace n2 := hid n2
    unfold aoP at n1 n2
    repeat' (with_reducible first | intro _ | refine And.intro ?_ ?_)
    all_goals (try simp only [e30])
    all_goals first
      | omega
      | assumption
      | exact h2.2
      | exact n0 (by assumption)
      | exact n1 (by assumption) (fun z => absurd z (by assumption))
      | exact n1 (by assumption) (fun _ => by simpa only [e30] using (by assumption))
      | (refine n1 (by assumption) (fun _ => ?_); rw [← e30]; assumption)
      | (refine n2 (fun z => z (by assumption) ?_); rw [← e30]; assumption)
      | skip
set_option maxRecDepth 20000 in
set_option maxHeartbeats 4000000 in
theorem lpA3 (l : Launch) (Q : Option aV → aS → Prop) (S : aS) (a b al x : Int) (s : Nat) (h0 : s < 120) (h1 : (¬ x = 0 → Q (some (.inl 1)) S)) (h2 : (x = 0 → aGo l mX12_isAheadOfAll Q 3 [(0, .inr (.inr 245)), (1, .inl a), (2, .inl b), (3, .inl al), (4, .inl ((s : Int) + 1))] [] S)) : aGo l mX12_isAheadOfAll Q 96 [(0, .inr (.inr 245)), (1, .inl a), (2, .inl b), (3, .inl al), (4, .inl (s : Int)), (5, .inl x)] [] S := by
  refine wp_go (tbX12_isAheadOfAll_ok l) (fun pc => pc == 3) 60 dX12_isAheadOfAll_96 ?_
  show ws1 tbX12_isAheadOfAll 7 (some .boolean) Q (wp cX12_isAheadOfAll tbX12_isAheadOfAll 7 (some .boolean) Q (fun pc => pc == 3) (aGo l mX12_isAheadOfAll Q) 60) (.iload 5) 2 96 [(0, .inr (.inr 245)), (1, .inl a), (2, .inl b), (3, .inl al), (4, .inl (s : Int)), (5, .inl x)] [] S
  simp only [wp_s, wpC_f, wpC_t, e_wLd, e_wLd0, e_wLd1, e_wLd2, e_get1, e_get2, e_wJ, e_wJo, f40, f41, f42, f43, Nat.reduceAdd, Nat.reduceBEq, Nat.reduceMul, eq_self, true_or, or_true, true_and, dX12_isAheadOfAll_0, dX12_isAheadOfAll_1, dX12_isAheadOfAll_3, dX12_isAheadOfAll_5, dX12_isAheadOfAll_6, dX12_isAheadOfAll_9, dX12_isAheadOfAll_12, dX12_isAheadOfAll_13, dX12_isAheadOfAll_15, dX12_isAheadOfAll_16, dX12_isAheadOfAll_17, dX12_isAheadOfAll_20, dX12_isAheadOfAll_23, dX12_isAheadOfAll_26, dX12_isAheadOfAll_27, dX12_isAheadOfAll_29, dX12_isAheadOfAll_30, dX12_isAheadOfAll_32, dX12_isAheadOfAll_34, dX12_isAheadOfAll_35, dX12_isAheadOfAll_38, dX12_isAheadOfAll_41, dX12_isAheadOfAll_43, dX12_isAheadOfAll_46, dX12_isAheadOfAll_47, dX12_isAheadOfAll_49, dX12_isAheadOfAll_50, dX12_isAheadOfAll_51, dX12_isAheadOfAll_54, dX12_isAheadOfAll_57, dX12_isAheadOfAll_58, dX12_isAheadOfAll_61, dX12_isAheadOfAll_63, dX12_isAheadOfAll_64, dX12_isAheadOfAll_67, dX12_isAheadOfAll_69, dX12_isAheadOfAll_70, dX12_isAheadOfAll_71, dX12_isAheadOfAll_72, dX12_isAheadOfAll_75, dX12_isAheadOfAll_77, dX12_isAheadOfAll_78, dX12_isAheadOfAll_79, dX12_isAheadOfAll_80, dX12_isAheadOfAll_83, dX12_isAheadOfAll_84, dX12_isAheadOfAll_87, dX12_isAheadOfAll_88, dX12_isAheadOfAll_90, dX12_isAheadOfAll_93, dX12_isAheadOfAll_96, dX12_isAheadOfAll_98, dX12_isAheadOfAll_101, dX12_isAheadOfAll_102, dX12_isAheadOfAll_103, dX12_isAheadOfAll_106, dX12_isAheadOfAll_109, dX12_isAheadOfAll_110, e_aload_n, e_iload_n, e_iload, e_istore, e_iconst, e_bipush, e_iadd, e_imul, e_iinc, e_ifCond, e_if_icmp, e_goto, e_getfield, e_iaload, e_baload, e_invokevirtual, e_ireturn, e_wSt0, e_wSt1, e_wSt2, e_isL0, e_isL1, e_isL2, e_lset, e_lclr0, e_lclr1, e_lclr2, e_lput0, e_lput1, e_lput2, e_wInc, e_wInc0, Nat.reduceLT, not_false_eq_true, Bool.or_false, Bool.false_or, Bool.or_true, Bool.true_or, Bool.and_false, Bool.false_and, Bool.and_true, Bool.true_and, e_wI2, e_ri, e_rz, e_wIc_ge, e_wIf_eq, e_wIf_ne, bp_30, fX12_132, fX12_35, fX12_39, ic_0, ic_1, jt_106_m103, jt_20_6, jt_23_80, jt_38_58, jt_43_44, jt_54_29, jt_80_7, jt_84_4, jt_93_m61, jt_98_5, jt_9_100, e_call, e_callS0, e_callS1, e_callS2, e_callS3, e_callS4, e_pop0, e_pop1, e_tl0, e_tl1, tbX12_isAheadOfAll_f, tbX12_isAheadOfAll_p, tbX12_isAheadOfAll_k, tbX12_isAheadOfAll_c214, g_245_15, l_255, g_245_12, g_245_11, cv_245_0, cv_245_1, cv_245_2, cv_245_3, cv_245_4, l_254]
  simp (disch := omega) only [wI_id]
  exact ⟨fun z => aGo_sub (h2 z) (fun q hq => List.mem_append_left ([(5, Sum.inl _)] : aL) hq), h1⟩
set_option maxRecDepth 20000 in
set_option maxHeartbeats 4000000 in
theorem lpA2 (l : Launch) (Q : Option aV → aS → Prop) : ∀ (n : Nat) (S : aS) (a b al : Int) (i : Nat), i + n = (S.1 245 12).toNat → wok S → ¬ a = -1 ∧ ¬ b = -1 → (al = 0 ∨ al = 1) → (∀ s : Nat, s < i → ¬ aoR S a b al s) → Q (some (.inl (bi (aoM S a b al)))) S → aGo l mX12_isAheadOfAll Q 3 [(0, .inr (.inr 245)), (1, .inl a), (2, .inl b), (3, .inl al), (4, .inl (i : Int))] [] S := by
  intro n
  induction n using Nat.strongRecOn with
  | _ n ih =>
  intro S  a b al  i  h0 h1 h2 h3 h4 h5
  refine wp_go (tbX12_isAheadOfAll_ok l) (fun pc => pc == 3 || pc == 32) 60 dX12_isAheadOfAll_3 ?_
  show ws1 tbX12_isAheadOfAll 7 (some .boolean) Q (wp cX12_isAheadOfAll tbX12_isAheadOfAll 7 (some .boolean) Q (fun pc => pc == 3 || pc == 32) (aGo l mX12_isAheadOfAll Q) 60) (.iload 4) 2 3 [(0, .inr (.inr 245)), (1, .inl a), (2, .inl b), (3, .inl al), (4, .inl (i : Int))] [] S
  simp only [wp_s, wpC_f, wpC_t, e_wLd, e_wLd0, e_wLd1, e_wLd2, e_get1, e_get2, e_wJ, e_wJo, f40, f41, f42, f43, Nat.reduceAdd, Nat.reduceBEq, Nat.reduceMul, eq_self, true_or, or_true, true_and, dX12_isAheadOfAll_0, dX12_isAheadOfAll_1, dX12_isAheadOfAll_3, dX12_isAheadOfAll_5, dX12_isAheadOfAll_6, dX12_isAheadOfAll_9, dX12_isAheadOfAll_12, dX12_isAheadOfAll_13, dX12_isAheadOfAll_15, dX12_isAheadOfAll_16, dX12_isAheadOfAll_17, dX12_isAheadOfAll_20, dX12_isAheadOfAll_23, dX12_isAheadOfAll_26, dX12_isAheadOfAll_27, dX12_isAheadOfAll_29, dX12_isAheadOfAll_30, dX12_isAheadOfAll_32, dX12_isAheadOfAll_34, dX12_isAheadOfAll_35, dX12_isAheadOfAll_38, dX12_isAheadOfAll_41, dX12_isAheadOfAll_43, dX12_isAheadOfAll_46, dX12_isAheadOfAll_47, dX12_isAheadOfAll_49, dX12_isAheadOfAll_50, dX12_isAheadOfAll_51, dX12_isAheadOfAll_54, dX12_isAheadOfAll_57, dX12_isAheadOfAll_58, dX12_isAheadOfAll_61, dX12_isAheadOfAll_63, dX12_isAheadOfAll_64, dX12_isAheadOfAll_67, dX12_isAheadOfAll_69, dX12_isAheadOfAll_70, dX12_isAheadOfAll_71, dX12_isAheadOfAll_72, dX12_isAheadOfAll_75, dX12_isAheadOfAll_77, dX12_isAheadOfAll_78, dX12_isAheadOfAll_79, dX12_isAheadOfAll_80, dX12_isAheadOfAll_83, dX12_isAheadOfAll_84, dX12_isAheadOfAll_87, dX12_isAheadOfAll_88, dX12_isAheadOfAll_90, dX12_isAheadOfAll_93, dX12_isAheadOfAll_96, dX12_isAheadOfAll_98, dX12_isAheadOfAll_101, dX12_isAheadOfAll_102, dX12_isAheadOfAll_103, dX12_isAheadOfAll_106, dX12_isAheadOfAll_109, dX12_isAheadOfAll_110, e_aload_n, e_iload_n, e_iload, e_istore, e_iconst, e_bipush, e_iadd, e_imul, e_iinc, e_ifCond, e_if_icmp, e_goto, e_getfield, e_iaload, e_baload, e_invokevirtual, e_ireturn, e_wSt0, e_wSt1, e_wSt2, e_isL0, e_isL1, e_isL2, e_lset, e_lclr0, e_lclr1, e_lclr2, e_lput0, e_lput1, e_lput2, e_wInc, e_wInc0, Nat.reduceLT, not_false_eq_true, Bool.or_false, Bool.false_or, Bool.or_true, Bool.true_or, Bool.and_false, Bool.false_and, Bool.and_true, Bool.true_and, e_wI2, e_ri, e_rz, e_wIc_ge, e_wIf_eq, e_wIf_ne, bp_30, fX12_132, fX12_35, fX12_39, ic_0, ic_1, jt_106_m103, jt_20_6, jt_23_80, jt_38_58, jt_43_44, jt_54_29, jt_80_7, jt_84_4, jt_93_m61, jt_98_5, jt_9_100, e_call, e_callS0, e_callS1, e_callS2, e_callS3, e_callS4, e_pop0, e_pop1, e_tl0, e_tl1, tbX12_isAheadOfAll_f, tbX12_isAheadOfAll_p, tbX12_isAheadOfAll_k, tbX12_isAheadOfAll_c214, g_245_15, l_255, g_245_12, g_245_11, cv_245_0, cv_245_1, cv_245_2, cv_245_3, cv_245_4, l_254, spX12_isWitness, bi_0, bi_1, ne_eq, Classical.not_not, em_r, em_l]
  have h1' := h1
  obtain ⟨g0, g1⟩ := h1'
  simp (disch := omega) only [wI_id, Int.toNat_natCast]
  refine ⟨fun q => ?_, fun q => ?_⟩
  · have hn : ¬ aoM S a b al := fun ⟨s, hs, hr⟩ => h4 s (by omega) hr
    rw [bi_f hn] at h5; exact h5
  · obtain ⟨k1, k2, k3, k4⟩ := g1 i (by omega)
    have no : ¬ aoR S a b al i → aGo l mX12_isAheadOfAll Q 3 [(0, .inr (.inr 245)), (1, .inl a), (2, .inl b), (3, .inl al), (4, .inl ((i : Int) + 1))] [] S := fun z => ih (n - 1) (by omega) S a b al (i + 1) (by omega) h1 h2 h3 (fun s hs hr => by
      by_cases e : s = i
      · subst e; exact z hr
      · exact h4 s (by omega) hr) h5
    refine ⟨⟨by omega, by omega⟩, h2.1, k4, h3, fun q1 => ?_, fun q1 => no (fun z => q1 z.1)⟩
    refine lpA1 l Q (S.1 245 12).toNat S a b al 1 i 0 (Nat.zero_add _) h1 ⟨by omega, h2.2⟩ h3 (Or.inl ⟨rfl, fun t ht => absurd ht (by omega)⟩) (fun x hx => ?_)
    refine lpA3 l Q S a b al x i (by omega) (fun z => ?_) (fun z => ?_)
    · have hy : aoM S a b al := ⟨i, by omega, q1, (hx.resolve_right (fun y => z y.1)).2⟩
      rw [bi_t hy] at h5; exact h5
    · exact no (fun w => (hx.resolve_left (fun y => by omega)).2 w.2)
set_option maxRecDepth 20000 in
set_option maxHeartbeats 4000000 in
theorem okX12_isAheadOfAll (l : Launch) : aOK l mX12_isAheadOfAll spX12_isAheadOfAll := by
  refine aOK_of rfl fun as S Q h => ?_
  unfold spX12_isAheadOfAll at h
  split at h
  · rename_i a b al
    refine ⟨Nat.le_of_ble_eq_true rfl, wp_ok (tbX12_isAheadOfAll_ok l) Q (fun pc => pc == 3) 60 0 _ [] S ?_⟩
    show wp cX12_isAheadOfAll tbX12_isAheadOfAll 7 (some .boolean) Q (fun pc => pc == 3) (aGo l mX12_isAheadOfAll Q) 60 0 [(0, .inr (.inr 245)), (1, .inl a), (2, .inl b), (3, .inl al)] [] S
    simp only [wp_s, wpC_f, wpC_t, e_wLd, e_wLd0, e_wLd1, e_wLd2, e_get1, e_get2, e_wJ, e_wJo, f40, f41, f42, f43, Nat.reduceAdd, Nat.reduceBEq, Nat.reduceMul, eq_self, true_or, or_true, true_and, dX12_isAheadOfAll_0, dX12_isAheadOfAll_1, dX12_isAheadOfAll_3, dX12_isAheadOfAll_5, dX12_isAheadOfAll_6, dX12_isAheadOfAll_9, dX12_isAheadOfAll_12, dX12_isAheadOfAll_13, dX12_isAheadOfAll_15, dX12_isAheadOfAll_16, dX12_isAheadOfAll_17, dX12_isAheadOfAll_20, dX12_isAheadOfAll_23, dX12_isAheadOfAll_26, dX12_isAheadOfAll_27, dX12_isAheadOfAll_29, dX12_isAheadOfAll_30, dX12_isAheadOfAll_32, dX12_isAheadOfAll_34, dX12_isAheadOfAll_35, dX12_isAheadOfAll_38, dX12_isAheadOfAll_41, dX12_isAheadOfAll_43, dX12_isAheadOfAll_46, dX12_isAheadOfAll_47, dX12_isAheadOfAll_49, dX12_isAheadOfAll_50, dX12_isAheadOfAll_51, dX12_isAheadOfAll_54, dX12_isAheadOfAll_57, dX12_isAheadOfAll_58, dX12_isAheadOfAll_61, dX12_isAheadOfAll_63, dX12_isAheadOfAll_64, dX12_isAheadOfAll_67, dX12_isAheadOfAll_69, dX12_isAheadOfAll_70, dX12_isAheadOfAll_71, dX12_isAheadOfAll_72, dX12_isAheadOfAll_75, dX12_isAheadOfAll_77, dX12_isAheadOfAll_78, dX12_isAheadOfAll_79, dX12_isAheadOfAll_80, dX12_isAheadOfAll_83, dX12_isAheadOfAll_84, dX12_isAheadOfAll_87, dX12_isAheadOfAll_88, dX12_isAheadOfAll_90, dX12_isAheadOfAll_93, dX12_isAheadOfAll_96, dX12_isAheadOfAll_98, dX12_isAheadOfAll_101, dX12_isAheadOfAll_102, dX12_isAheadOfAll_103, dX12_isAheadOfAll_106, dX12_isAheadOfAll_109, dX12_isAheadOfAll_110, e_aload_n, e_iload_n, e_iload, e_istore, e_iconst, e_bipush, e_iadd, e_imul, e_iinc, e_ifCond, e_if_icmp, e_goto, e_getfield, e_iaload, e_baload, e_invokevirtual, e_ireturn, e_wSt0, e_wSt1, e_wSt2, e_isL0, e_isL1, e_isL2, e_lset, e_lclr0, e_lclr1, e_lclr2, e_lput0, e_lput1, e_lput2, e_wInc, e_wInc0, Nat.reduceLT, not_false_eq_true, Bool.or_false, Bool.false_or, Bool.or_true, Bool.true_or, Bool.and_false, Bool.false_and, Bool.and_true, Bool.true_and, e_wI2, e_ri, e_rz, e_wIc_ge, e_wIf_eq, e_wIf_ne, bp_30, fX12_132, fX12_35, fX12_39, ic_0, ic_1, jt_106_m103, jt_20_6, jt_23_80, jt_38_58, jt_43_44, jt_54_29, jt_80_7, jt_84_4, jt_93_m61, jt_98_5, jt_9_100, e_call, e_callS0, e_callS1, e_callS2, e_callS3, e_callS4, e_pop0, e_pop1, e_tl0, e_tl1, tbX12_isAheadOfAll_f, tbX12_isAheadOfAll_p, tbX12_isAheadOfAll_k, tbX12_isAheadOfAll_c214, g_245_15, l_255, g_245_12, g_245_11, cv_245_0, cv_245_1, cv_245_2, cv_245_3, cv_245_4, l_254]
    exact lpA2 l Q _ S a b al 0 (Nat.zero_add _) h.1 ⟨h.2.1, h.2.2.1⟩ h.2.2.2.1 (fun s hs => absurd hs (by omega)) h.2.2.2.2
  · exact h.elim
def odM (S : aS) (a b al : Int) : Prop := 0 < wcM S a al ∧ 0 < wcM S b al ∧ (wmL S a al < wmF S b al ∨ aoM S a b al)
theorem aoM_V {S : aS} {v : Nat → Int} : aoM (stV S v) = aoM S := rfl
theorem odM_V {S : aS} {v : Nat → Int} : odM (stV S v) = odM S := rfl
def spX12_isOlder : aSp := fun as S Q => match as with
  | [.inr (.inr 245), .inl a, .inl b, .inl al] => wok S ∧ ¬ a = -1 ∧ ¬ b = -1 ∧ (al = 0 ∨ al = 1) ∧ ∀ v, Q (some (.inl (bi (odM S a b al)))) (stV S v)
  | _ => False
def tbX12_isOlder : aTb := (fX12, pX12, fun j => lk [(230, (some 12), 3, spX12_witnesses), (246, (some 12), 4, spX12_isAheadOfAll)] j, kX12)
theorem tbX12_isOlder_f : tbX12_isOlder.1 = fX12 := rfl
theorem tbX12_isOlder_p : tbX12_isOlder.2.1 = pX12 := rfl
theorem tbX12_isOlder_k : tbX12_isOlder.2.2.2 = kX12 := rfl
theorem tbX12_isOlder_c230 : tbX12_isOlder.2.2.1 230 = some ((some 12), 3, spX12_witnesses) := rfl
theorem tbX12_isOlder_c246 : tbX12_isOlder.2.2.1 246 = some ((some 12), 4, spX12_isAheadOfAll) := rfl
theorem tbX12_isOlder_all (l : Launch) : ∀ e ∈ ([(230, (some 12), 3, spX12_witnesses), (246, (some 12), 4, spX12_isAheadOfAll)] : List (Nat × Option Nat × Nat × aSp)), cOK l mX12_isOlder e.1 e.2.1 e.2.2.1 e.2.2.2 ∨ mOK mX12_isOlder e.1 e.2.1 e.2.2.1 e.2.2.2 := all_cons (cOK_of (okX12_witnesses l) meX12_witnesses cfX12_230 (by decide) (by decide)) (all_cons (cOK_of (okX12_isAheadOfAll l) meX12_isAheadOfAll cfX12_246 (by decide) (by decide)) (all_nil))
theorem tbX12_isOlder_ok (l : Launch) : tOK l mX12_isOlder tbX12_isOlder := ⟨fX12_ok, pX12_ok, fun _ _ _ _ h => tbX12_isOlder_all l _ (lk_mem h), kX12_ok⟩
set_option maxRecDepth 20000 in
set_option maxHeartbeats 4000000 in
theorem okX12_isOlder (l : Launch) : aOK l mX12_isOlder spX12_isOlder := by
  refine aOK_of rfl fun as S Q h => ?_
  unfold spX12_isOlder at h
  split at h
  · rename_i a b al
    refine ⟨Nat.le_of_ble_eq_true rfl, wp_ok (tbX12_isOlder_ok l) Q (fun pc => false) 35 0 _ [] S ?_⟩
    show wp cX12_isOlder tbX12_isOlder 6 (some .boolean) Q (fun pc => false) (aGo l mX12_isOlder Q) 35 0 [(0, .inr (.inr 245)), (1, .inl a), (2, .inl b), (3, .inl al)] [] S
    simp only [wp_s, wpC_f, wpC_t, e_wLd, e_wLd0, e_wLd1, e_wLd2, e_get1, e_get2, e_wJ, e_wJo, f40, f41, f42, f43, Nat.reduceAdd, Nat.reduceBEq, Nat.reduceMul, eq_self, true_or, or_true, true_and, dX12_isOlder_0, dX12_isOlder_1, dX12_isOlder_2, dX12_isOlder_3, dX12_isOlder_6, dX12_isOlder_7, dX12_isOlder_10, dX12_isOlder_12, dX12_isOlder_13, dX12_isOlder_16, dX12_isOlder_18, dX12_isOlder_19, dX12_isOlder_20, dX12_isOlder_21, dX12_isOlder_24, dX12_isOlder_26, dX12_isOlder_29, dX12_isOlder_30, dX12_isOlder_33, dX12_isOlder_36, dX12_isOlder_38, dX12_isOlder_39, dX12_isOlder_42, dX12_isOlder_45, dX12_isOlder_46, dX12_isOlder_47, dX12_isOlder_48, dX12_isOlder_49, dX12_isOlder_52, dX12_isOlder_55, dX12_isOlder_56, dX12_isOlder_59, dX12_isOlder_60, e_aload_n, e_iload_n, e_iload, e_istore, e_iconst, e_ifCond, e_if_icmp, e_goto, e_getfield, e_invokevirtual, e_ireturn, e_wSt0, e_wSt1, e_wSt2, e_isL0, e_isL1, e_isL2, e_lset, e_lclr0, e_lclr1, e_lclr2, e_lput0, e_lput1, e_lput2, e_wInc, e_wInc0, Nat.reduceLT, not_false_eq_true, Bool.or_false, Bool.false_or, Bool.or_true, Bool.true_or, Bool.and_false, Bool.false_and, Bool.and_true, Bool.true_and, e_ri, e_rz, e_wIc_lt, e_wIf_eq, e_wIf_le, fX12_211, fX12_218, fX12_221, ic_0, ic_1, jt_26_33, jt_33_26, jt_42_13, jt_52_7, jt_56_4, e_call, e_callS0, e_callS1, e_callS2, e_callS3, e_callS4, e_pop0, e_pop1, e_tl0, e_tl1, tbX12_isOlder_f, tbX12_isOlder_p, tbX12_isOlder_k, tbX12_isOlder_c230, tbX12_isOlder_c246, g_245_32, g_245_33, g_245_34, cv_245_0, cv_245_1, cv_245_2, cv_245_3, cv_245_4, spX12_witnesses, spX12_isAheadOfAll, bi_0, bi_1, ne_eq, Classical.not_not, em_r, em_l]
    obtain ⟨h0, h1, h2, h2b, h3⟩ := h
    simp (disch := decide) only [stV_f, stV_v, stV_a, stV_V, wok_V, wvP_V, stV_2, witP_V, wcM_V, ahM_V, aoM_V, odM_V]
    refine ⟨h0, h1, h2b, fun v hv => ⟨h0, h2, h2b, fun w hw => ?_⟩⟩
    have ht : odM S a b al → Q (some (.inl 1)) (stV S w) := fun q => by have z := h3 w; rw [bi_t q] at z; exact z
    have hf : ¬ odM S a b al → Q (some (.inl 0)) (stV S w) := fun q => by have z := h3 w; rw [bi_f q] at z; exact z
    clear h3
    unfold odM at ht hf
    replace ht := hid ht
    replace hf := hid hf
    obtain ⟨⟨v1, v2⟩, v3⟩ := wv_e hv
    obtain ⟨⟨w1, w2⟩, w3⟩ := wv_e hw
    clear hv hw
    generalize wcM S a al = ca at *
    generalize wcM S b al = cbb at *
    generalize wmF S b al = fb at *
    generalize wmL S a al = la at *
    repeat' (with_reducible first | intro _ | refine And.intro ?_ ?_)
    all_goals first
      | omega
      | assumption
      | exact ht ⟨by omega, by omega, Or.inl (by omega)⟩
      | exact ht ⟨by omega, by omega, Or.inr (by assumption)⟩
      | exact hf (fun z => z.2.2.elim (by omega) (fun y => absurd y (by assumption)))
      | exact hf (by omega)
      | skip
  · exact h.elim
def spX12_older : aSp := fun as S Q => match as with
  | [.inr (.inr 245), .inl a, .inl b] => wok S ∧ (¬ ((0 ≤ a ∧ a < 40 ∧ ¬ S.1 266 a.toNat = 0) ∧ (0 ≤ b ∧ b < 40 ∧ ¬ S.1 266 b.toNat = 0)) → Q (some (.inl (-1))) S) ∧ ((0 ≤ a ∧ a < 40 ∧ ¬ S.1 266 a.toNat = 0) ∧ (0 ≤ b ∧ b < 40 ∧ ¬ S.1 266 b.toNat = 0) → ∀ v, (wcM S a 0 = 0 ∨ wcM S b 0 = 0 → Q (some (.inl (-1))) (stV S v)) ∧ (¬ (wcM S a 0 = 0 ∨ wcM S b 0 = 0) → (odM S a b 0 → Q (some (.inl 1)) (stV S v)) ∧ (¬ odM S a b 0 → odM S b a 0 → Q (some (.inl 2)) (stV S v)) ∧ (¬ odM S a b 0 → ¬ odM S b a 0 → Q (some (.inl 0)) (stV S v))))
  | _ => False
def tbX12_older : aTb := (fX12, pX12, fun j => lk [(186, (some 12), 2, spX12_isSense), (230, (some 12), 3, spX12_witnesses), (249, (some 12), 4, spX12_isOlder)] j, kX12)
theorem tbX12_older_f : tbX12_older.1 = fX12 := rfl
theorem tbX12_older_p : tbX12_older.2.1 = pX12 := rfl
theorem tbX12_older_k : tbX12_older.2.2.2 = kX12 := rfl
theorem tbX12_older_c186 : tbX12_older.2.2.1 186 = some ((some 12), 2, spX12_isSense) := rfl
theorem tbX12_older_c230 : tbX12_older.2.2.1 230 = some ((some 12), 3, spX12_witnesses) := rfl
theorem tbX12_older_c249 : tbX12_older.2.2.1 249 = some ((some 12), 4, spX12_isOlder) := rfl
theorem tbX12_older_all (l : Launch) : ∀ e ∈ ([(186, (some 12), 2, spX12_isSense), (230, (some 12), 3, spX12_witnesses), (249, (some 12), 4, spX12_isOlder)] : List (Nat × Option Nat × Nat × aSp)), cOK l mX12_older e.1 e.2.1 e.2.2.1 e.2.2.2 ∨ mOK mX12_older e.1 e.2.1 e.2.2.1 e.2.2.2 := all_cons (cOK_of (okX12_isSense l) meX12_isSense cfX12_186 (by decide) (by decide)) (all_cons (cOK_of (okX12_witnesses l) meX12_witnesses cfX12_230 (by decide) (by decide)) (all_cons (cOK_of (okX12_isOlder l) meX12_isOlder cfX12_249 (by decide) (by decide)) (all_nil)))
theorem tbX12_older_ok (l : Launch) : tOK l mX12_older tbX12_older := ⟨fX12_ok, pX12_ok, fun _ _ _ _ h => tbX12_older_all l _ (lk_mem h), kX12_ok⟩
set_option maxRecDepth 20000 in
set_option maxHeartbeats 4000000 in
theorem okX12_older (l : Launch) : aOK l mX12_older spX12_older := by
  refine aOK_of rfl fun as S Q h => ?_
  unfold spX12_older at h
  split at h
  · rename_i a b
    refine ⟨Nat.le_of_ble_eq_true rfl, wp_ok (tbX12_older_ok l) Q (fun pc => false) 48 0 _ [] S ?_⟩
    show wp cX12_older tbX12_older 4 (some .int) Q (fun pc => false) (aGo l mX12_older Q) 48 0 [(0, .inr (.inr 245)), (1, .inl a), (2, .inl b)] [] S
    simp only [wp_s, wpC_f, wpC_t, e_wLd, e_wLd0, e_wLd1, e_wLd2, e_get1, e_get2, e_wJ, e_wJo, f40, f41, f42, f43, Nat.reduceAdd, Nat.reduceBEq, Nat.reduceMul, eq_self, true_or, or_true, true_and, dX12_older_0, dX12_older_1, dX12_older_2, dX12_older_5, dX12_older_8, dX12_older_9, dX12_older_10, dX12_older_13, dX12_older_16, dX12_older_17, dX12_older_18, dX12_older_19, dX12_older_20, dX12_older_21, dX12_older_24, dX12_older_25, dX12_older_28, dX12_older_29, dX12_older_30, dX12_older_31, dX12_older_32, dX12_older_35, dX12_older_36, dX12_older_39, dX12_older_40, dX12_older_43, dX12_older_46, dX12_older_47, dX12_older_48, dX12_older_49, dX12_older_50, dX12_older_51, dX12_older_52, dX12_older_55, dX12_older_58, dX12_older_59, dX12_older_62, dX12_older_63, dX12_older_64, dX12_older_65, dX12_older_66, dX12_older_69, dX12_older_72, dX12_older_73, dX12_older_76, dX12_older_77, e_aload_n, e_iload_n, e_istore_n, e_iconst, e_ifCond, e_goto, e_getfield, e_invokevirtual, e_ireturn, e_wSt0, e_wSt1, e_wSt2, e_isL0, e_isL1, e_isL2, e_lset, e_lclr0, e_lclr1, e_lclr2, e_lput0, e_lput1, e_lput2, e_wInc, e_wInc0, Nat.reduceLT, not_false_eq_true, Bool.or_false, Bool.false_or, Bool.or_true, Bool.true_or, Bool.and_false, Bool.false_and, Bool.and_true, Bool.true_and, e_ri, e_rz, e_wIf_eq, e_wIf_ne, fX12_211, ic_0, ic_1, ic_2, ic_m1, jt_13_5, jt_36_10, jt_43_5, jt_55_7, jt_59_18, jt_5_11, jt_69_7, jt_73_4, e_call, e_callS0, e_callS1, e_callS2, e_callS3, e_callS4, e_pop0, e_pop1, e_tl0, e_tl1, tbX12_older_f, tbX12_older_p, tbX12_older_k, tbX12_older_c186, tbX12_older_c230, tbX12_older_c249, g_245_32, cv_245_0, cv_245_1, cv_245_2, cv_245_3, cv_245_4, spX12_witnesses, spX12_isOlder, spX12_isSense, bi_0, bi_1, ne_eq, Classical.not_not, em_r, em_l]
    obtain ⟨h0, hA, hB⟩ := h
    simp (disch := decide) only [stV_f, stV_v, stV_a, stV_V, wok_V, wvP_V, stV_2, witP_V, wcM_V, ahM_V, aoM_V, odM_V]
    by_cases hs : (0 ≤ a ∧ a < 40 ∧ ¬ S.1 266 a.toNat = 0) ∧ (0 ≤ b ∧ b < 40 ∧ ¬ S.1 266 b.toNat = 0)
    · have hC := hB hs
      clear hA hB
      refine ⟨fun q => absurd hs.1 q, fun _ => ⟨fun _ => ⟨h0, by omega, fun v hv => ⟨h0, by omega, fun w hw => ?_⟩⟩, fun q => absurd hs.2 q⟩⟩
      have v1 := (wv_e hv).1.1
      have w1 := (wv_e hw).1.1
      rw [v1, w1]
      clear hv hw
      generalize wcM S a 0 = ca at *
      generalize wcM S b 0 = cbb at *
      generalize odM S a b 0 = o1 at *
      generalize odM S b a 0 = o2 at *
      replace hC := fun v => hid (fun _ : True => hC v)
      repeat' (with_reducible first | intro _ | refine And.intro ?_ ?_)
      all_goals first
        | omega
        | assumption
        | exact (hC _ trivial).1 (by omega)
        | exact ((hC _ trivial).2 (by omega)).1 (by assumption)
        | exact ((hC _ trivial).2 (by omega)).2.1 (by assumption) (by assumption)
        | exact ((hC _ trivial).2 (by omega)).2.2 (by assumption) (by assumption)
        | skip
    · have hA' := hA hs
      refine ⟨fun _ => hA', fun q => ⟨fun q2 => absurd ⟨q, q2⟩ hs, fun _ => hA'⟩⟩
  · exact h.elim
def flM (S : aS) (a b : Int) : Prop := (0 ≤ a ∧ a < 40) ∧ (0 ≤ b ∧ b < 40) ∧ ¬ a = b ∧ ¬ S.1 266 a.toNat = 0 ∧ ¬ S.1 266 b.toNat = 0 ∧ wtM (S.1 268) b 40 a ∧ odM S a b 1
noncomputable def flB (S : aS) (k : Nat) : Bool := cb (flM S ((k : Int) / 64) ((k : Int) % 64))
theorem flB_V {S : aS} {v : Nat → Int} : flB (stV S v) = flB S := rfl
theorem nthE_f {p : Nat → Bool} {x : Int} {n k : Nat} {c : Int} (h : p k = false) : nthE p x (n + 1) k c = nthE p x n (k + 1) c := by
  show (if p k = true then _ else _) = _
  rw [h]
  rfl
theorem nthE_t {p : Nat → Bool} {x : Int} {n k : Nat} {c : Int} (h : p k = true) (h2 : ¬ c = x) : nthE p x (n + 1) k c = nthE p x n (k + 1) (c + 1) := by
  show (if p k = true then (if c = x then _ else _) else _) = _
  rw [if_pos h, if_neg h2]
theorem nthE_x {p : Nat → Bool} {x : Int} {n k : Nat} {c : Int} (h : p k = true) (h2 : c = x) : nthE p x (n + 1) k c = (k : Int) := by
  show (if p k = true then (if c = x then _ else _) else _) = _
  rw [if_pos h, if_pos h2]
theorem nthE_sk {p : Nat → Bool} {x : Int} {c : Int} {n : Nat} : ∀ {m k : Nat}, (∀ j, k ≤ j → j < k + m → p j = false) → nthE p x (m + n) k c = nthE p x n (k + m) c
  | 0, k, _ => by rw [Nat.zero_add, Nat.add_zero]
  | m + 1, k, h => by
    rw [show m + 1 + n = (m + n) + 1 from by omega, nthE_f (h k (by omega) (by omega)), nthE_sk (m := m) (k := k + 1) (fun j h1 h2 => h j (by omega) (by omega))]
    rw [show k + 1 + m = k + (m + 1) from by omega]
def chA (S : aS) : Prop := ∀ t : Nat, t < 40 → ¬ S.1 266 t = 0 → chn (S.1 268) 40 t
def spX12_flaws : aSp := fun as S Q => match as with
  | [.inr (.inr 245), .inl x] => wok S ∧ chA S ∧ ∀ v, Q (some (.inl (nthE (flB S) x 2560 0 0))) (stV S v)
  | _ => False
def tbX12_flaws : aTb := (fX12, pX12, fun j => lk [(193, (some 12), 3, spX12_isWithin), (249, (some 12), 4, spX12_isOlder)] j, kX12)
theorem tbX12_flaws_f : tbX12_flaws.1 = fX12 := rfl
theorem tbX12_flaws_p : tbX12_flaws.2.1 = pX12 := rfl
theorem tbX12_flaws_k : tbX12_flaws.2.2.2 = kX12 := rfl
theorem tbX12_flaws_c193 : tbX12_flaws.2.2.1 193 = some ((some 12), 3, spX12_isWithin) := rfl
theorem tbX12_flaws_c249 : tbX12_flaws.2.2.1 249 = some ((some 12), 4, spX12_isOlder) := rfl
theorem tbX12_flaws_all (l : Launch) : ∀ e ∈ ([(193, (some 12), 3, spX12_isWithin), (249, (some 12), 4, spX12_isOlder)] : List (Nat × Option Nat × Nat × aSp)), cOK l mX12_flaws e.1 e.2.1 e.2.2.1 e.2.2.2 ∨ mOK mX12_flaws e.1 e.2.1 e.2.2.1 e.2.2.2 := all_cons (cOK_of (okX12_isWithin l) meX12_isWithin cfX12_193 (by decide) (by decide)) (all_cons (cOK_of (okX12_isOlder l) meX12_isOlder cfX12_249 (by decide) (by decide)) (all_nil))
theorem tbX12_flaws_ok (l : Launch) : tOK l mX12_flaws tbX12_flaws := ⟨fX12_ok, pX12_ok, fun _ _ _ _ h => tbX12_flaws_all l _ (lk_mem h), kX12_ok⟩
def flI (S : aS) (x : Int) (k : Nat) (c : Int) : Prop := (0 ≤ c ∧ c ≤ k) ∧ nthE (flB S) x (2560 - k) k c = nthE (flB S) x 2560 0 0
theorem flI_f {S : aS} {x : Int} {k : Nat} {c : Int} (hk : k < 2560) (h : flI S x k c) (hf : flB S k = false) : flI S x (k + 1) c := by
  refine ⟨by have := h.1; omega, ?_⟩
  rw [← h.2, show 2560 - k = (2560 - (k + 1)) + 1 from by omega, nthE_f hf]
theorem flI_t {S : aS} {x : Int} {k : Nat} {c : Int} (hk : k < 2560) (h : flI S x k c) (hf : flB S k = true) (hx : ¬ c = x) : flI S x (k + 1) (c + 1) := by
  refine ⟨by have := h.1; omega, ?_⟩
  rw [← h.2, show 2560 - k = (2560 - (k + 1)) + 1 from by omega, nthE_t hf hx]
theorem flI_x {S : aS} {x : Int} {k : Nat} {c : Int} (hk : k < 2560) (h : flI S x k c) (hf : flB S k = true) (hx : c = x) : (k : Int) = nthE (flB S) x 2560 0 0 := by
  rw [← h.2, show 2560 - k = (2560 - (k + 1)) + 1 from by omega, nthE_x hf hx]
theorem flI_sk {S : aS} {x : Int} {a : Nat} {c : Int} (ha : a < 40) (h : flI S x (64 * a + 40) c) : flI S x (64 * (a + 1)) c := by
  refine ⟨by have := h.1; omega, ?_⟩
  rw [← h.2, show 2560 - (64 * a + 40) = 24 + (2560 - 64 * (a + 1)) from by omega, nthE_sk (fun j h1 h2 => ?_)]
  · rw [show 64 * a + 40 + 24 = 64 * (a + 1) from by omega]
  · refine cb_f (fun z => ?_)
    have := z.2.1
    omega
theorem flI_0 {S : aS} {x : Int} : flI S x 0 0 := ⟨by decide, rfl⟩
theorem flB_e {S : aS} {a b : Nat} (hb : b < 40) : (flB S (64 * a + b) = true) = flM S a b := by
  unfold flB
  rw [show ((64 * a + b : Nat) : Int) / 64 = a from by omega, show ((64 * a + b : Nat) : Int) % 64 = b from by omega]
  apply propext
  constructor
  · intro h
    by_cases q : flM S a b
    · exact q
    · rw [cb_f q] at h; exact absurd h (by decide)
  · exact fun h => cb_t h
set_option maxRecDepth 20000 in
set_option maxHeartbeats 4000000 in
theorem lpF1 (l : Launch) (Q : Option aV → aS → Prop) : ∀ (n : Nat) (S : aS) (x c : Int) (v : Nat → Int) (a b : Nat), b + n = 40 → a < 40 → wok S → chA S → flI S x (64 * a + b) c → (∀ v, Q (some (.inl (nthE (flB S) x 2560 0 0))) (stV S v)) → (∀ (c : Int) (v : Nat → Int), flI S x (64 * a + 40) c → aGo l mX12_flaws Q 92 [(0, .inr (.inr 245)), (1, .inl x), (2, .inl c), (3, .inl (a : Int))] [] (stV S v)) → aGo l mX12_flaws Q 13 [(0, .inr (.inr 245)), (1, .inl x), (2, .inl c), (3, .inl (a : Int)), (4, .inl (b : Int))] [] (stV S v) := by
  intro n
  induction n using Nat.strongRecOn with
  | _ n ih =>
  intro S  x c  v  a b  h0 h1 h2 h3 h4 h5 h6
  refine wp_go (tbX12_flaws_ok l) (fun pc => pc == 13 || pc == 92) 63 dX12_flaws_13 ?_
  show ws1 tbX12_flaws 5 (some .int) Q (wp cX12_flaws tbX12_flaws 5 (some .int) Q (fun pc => pc == 13 || pc == 92) (aGo l mX12_flaws Q) 63) (.iload 4) 2 13 [(0, .inr (.inr 245)), (1, .inl x), (2, .inl c), (3, .inl (a : Int)), (4, .inl (b : Int))] [] (stV S v)
  simp only [wp_s, wpC_f, wpC_t, e_wLd, e_wLd0, e_wLd1, e_wLd2, e_get1, e_get2, e_wJ, e_wJo, f40, f41, f42, f43, Nat.reduceAdd, Nat.reduceBEq, Nat.reduceMul, eq_self, true_or, or_true, true_and, dX12_flaws_0, dX12_flaws_1, dX12_flaws_2, dX12_flaws_3, dX12_flaws_4, dX12_flaws_5, dX12_flaws_7, dX12_flaws_10, dX12_flaws_11, dX12_flaws_13, dX12_flaws_15, dX12_flaws_17, dX12_flaws_20, dX12_flaws_21, dX12_flaws_23, dX12_flaws_26, dX12_flaws_27, dX12_flaws_30, dX12_flaws_31, dX12_flaws_32, dX12_flaws_35, dX12_flaws_36, dX12_flaws_39, dX12_flaws_41, dX12_flaws_42, dX12_flaws_45, dX12_flaws_46, dX12_flaws_47, dX12_flaws_49, dX12_flaws_52, dX12_flaws_55, dX12_flaws_56, dX12_flaws_57, dX12_flaws_59, dX12_flaws_60, dX12_flaws_63, dX12_flaws_66, dX12_flaws_69, dX12_flaws_70, dX12_flaws_71, dX12_flaws_74, dX12_flaws_76, dX12_flaws_77, dX12_flaws_78, dX12_flaws_80, dX12_flaws_81, dX12_flaws_82, dX12_flaws_83, dX12_flaws_84, dX12_flaws_85, dX12_flaws_86, dX12_flaws_89, dX12_flaws_92, dX12_flaws_95, dX12_flaws_98, dX12_flaws_99, dX12_flaws_100, dX12_flaws_103, dX12_flaws_104, dX12_flaws_107, dX12_flaws_108, e_aload_n, e_iload_n, e_iload, e_istore_n, e_istore, e_iconst, e_bipush, e_iadd, e_imul, e_iinc, e_ifCond, e_if_icmp, e_goto, e_getfield, e_baload, e_invokevirtual, e_ireturn, e_wSt0, e_wSt1, e_wSt2, e_isL0, e_isL1, e_isL2, e_lset, e_lclr0, e_lclr1, e_lclr2, e_lput0, e_lput1, e_lput2, e_wInc, e_wInc0, Nat.reduceLT, not_false_eq_true, Bool.or_false, Bool.false_or, Bool.or_true, Bool.true_or, Bool.and_false, Bool.false_and, Bool.and_true, Bool.true_and, e_wI2, e_ri, e_rz, e_wIf_ne, e_wIf_eq, e_wIc_ne, e_wIc_ge, e_wIc_eq, bp_40, bp_64, fX12_73, ic_0, ic_1, ic_m1, jt_100_7, jt_104_4, jt_17_75, jt_23_63, jt_32_54, jt_42_44, jt_52_34, jt_63_6, jt_66_20, jt_71_11, jt_7_91, jt_89_m76, jt_95_m91, e_call, e_callS0, e_callS1, e_callS2, e_callS3, e_callS4, e_pop0, e_pop1, e_tl0, e_tl1, tbX12_flaws_f, tbX12_flaws_p, tbX12_flaws_k, tbX12_flaws_c193, tbX12_flaws_c249, g_245_26, l_266, cv_245_0, cv_245_1, cv_245_2, cv_245_3, cv_245_4, spX12_isOlder, spX12_isWithin, bi_0, bi_1, ne_eq, Classical.not_not, em_r, em_l]
  simp (disch := decide) only [stV_f, stV_v, stV_a, stV_V, wok_V, wvP_V, stV_2, witP_V, wcM_V, ahM_V, aoM_V, odM_V]
  have hc := h4.1
  refine ⟨fun q => ?_, fun q => ?_⟩
  · obtain rfl : b = 40 := by omega
    exact aGo_sub (h6 c v h4) (fun q hq => List.mem_append_left ([(4, Sum.inl _)] : aL) hq)
  · have hb : b < 40 := by omega
    have hk : 64 * a + b < 2560 := by omega
    have eb : wI ((b : Int) + 1) = (b : Int) + 1 := wI_id (by omega) (by omega)
    have ec : wI (c + 1) = c + 1 := wI_id (by omega) (by omega)
    have ek : wI (wI (64 * (a : Int)) + b) = ((64 * a + b : Nat) : Int) := by simp (disch := omega) only [wI_id]; omega
    simp only [eb, ec, ek, Int.toNat_natCast]
    have ft : flM S a b → flB S (64 * a + b) = true := fun z => by rw [flB_e hb]; exact z
    have nf : ¬ flM S a b → ∀ v, aGo l mX12_flaws Q 13 [(0, .inr (.inr 245)), (1, .inl x), (2, .inl c), (3, .inl (a : Int)), (4, .inl ((b : Int) + 1))] [] (stV S v) := fun z v => ih (n - 1) (by omega) S x c v a (b + 1) (by omega) h1 h2 h3 (flI_f hk h4 (by
      cases hq : flB S (64 * a + b) with
      | false => rfl
      | true => rw [flB_e hb] at hq; exact absurd hq z)) h5 h6
    have nt : flM S a b → ¬ c = x → ∀ v, aGo l mX12_flaws Q 13 [(0, .inr (.inr 245)), (1, .inl x), (2, .inl (c + 1)), (3, .inl (a : Int)), (4, .inl ((b : Int) + 1))] [] (stV S v) := fun z zx v => ih (n - 1) (by omega) S x (c + 1) v a (b + 1) (by omega) h1 h2 h3 (flI_t hk h4 (ft z) zx) h5 h6
    have nx : flM S a b → c = x → ∀ v, Q (some (.inl ((64 * a + b : Nat) : Int))) (stV S v) := fun z zx v => by
      have e := flI_x hk h4 (ft z) zx
      rw [e]; exact h5 v
    have ca : ¬ S.1 266 a = 0 → chn (S.1 268) 40 (a : Int) := h3 a h1
    clear ih h6 h5 h4 h3
    unfold flM at nf nt nx
    simp only [Int.toNat_natCast] at nf nt nx
    replace nf := hid nf
    replace nt := hid nt
    replace nx := hid nx
    replace ca := hid ca
    repeat' (with_reducible first | intro _ | refine And.intro ?_ ?_)
    all_goals first
      | omega
      | assumption
      | exact ca (by assumption)
      | exact nf (fun z => absurd (by assumption) z.2.2.1) _
      | exact nf (fun z => absurd (by assumption) z.2.2.2.1) _
      | exact nf (fun z => absurd (by assumption) z.2.2.2.2.1) _
      | exact nf (fun z => absurd z.2.2.2.2.2.1 (by assumption)) _
      | exact nf (fun z => absurd z.2.2.2.2.2.2 (by assumption)) _
      | exact nt ⟨by omega, by omega, by assumption, by assumption, by assumption, by assumption, by assumption⟩ (by assumption) _
      | exact nx ⟨by omega, by omega, by assumption, by assumption, by assumption, by assumption, by assumption⟩ (by assumption) _
      | skip
set_option maxRecDepth 20000 in
set_option maxHeartbeats 4000000 in
theorem lpF3 (l : Launch) (Q : Option aV → aS → Prop) (S : aS) (x c : Int) (a : Nat) (h0 : a < 40) (h1 : aGo l mX12_flaws Q 4 [(0, .inr (.inr 245)), (1, .inl x), (2, .inl c), (3, .inl ((a : Int) + 1))] [] S) : aGo l mX12_flaws Q 92 [(0, .inr (.inr 245)), (1, .inl x), (2, .inl c), (3, .inl (a : Int))] [] S := by
  refine wp_go (tbX12_flaws_ok l) (fun pc => pc == 4) 63 dX12_flaws_92 ?_
  show ws1 tbX12_flaws 5 (some .int) Q (wp cX12_flaws tbX12_flaws 5 (some .int) Q (fun pc => pc == 4) (aGo l mX12_flaws Q) 63) (.iinc 3 1) 3 92 [(0, .inr (.inr 245)), (1, .inl x), (2, .inl c), (3, .inl (a : Int))] [] S
  simp only [wp_s, wpC_f, wpC_t, e_wLd, e_wLd0, e_wLd1, e_wLd2, e_get1, e_get2, e_wJ, e_wJo, f40, f41, f42, f43, Nat.reduceAdd, Nat.reduceBEq, Nat.reduceMul, eq_self, true_or, or_true, true_and, dX12_flaws_0, dX12_flaws_1, dX12_flaws_2, dX12_flaws_3, dX12_flaws_4, dX12_flaws_5, dX12_flaws_7, dX12_flaws_10, dX12_flaws_11, dX12_flaws_13, dX12_flaws_15, dX12_flaws_17, dX12_flaws_20, dX12_flaws_21, dX12_flaws_23, dX12_flaws_26, dX12_flaws_27, dX12_flaws_30, dX12_flaws_31, dX12_flaws_32, dX12_flaws_35, dX12_flaws_36, dX12_flaws_39, dX12_flaws_41, dX12_flaws_42, dX12_flaws_45, dX12_flaws_46, dX12_flaws_47, dX12_flaws_49, dX12_flaws_52, dX12_flaws_55, dX12_flaws_56, dX12_flaws_57, dX12_flaws_59, dX12_flaws_60, dX12_flaws_63, dX12_flaws_66, dX12_flaws_69, dX12_flaws_70, dX12_flaws_71, dX12_flaws_74, dX12_flaws_76, dX12_flaws_77, dX12_flaws_78, dX12_flaws_80, dX12_flaws_81, dX12_flaws_82, dX12_flaws_83, dX12_flaws_84, dX12_flaws_85, dX12_flaws_86, dX12_flaws_89, dX12_flaws_92, dX12_flaws_95, dX12_flaws_98, dX12_flaws_99, dX12_flaws_100, dX12_flaws_103, dX12_flaws_104, dX12_flaws_107, dX12_flaws_108, e_aload_n, e_iload_n, e_iload, e_istore_n, e_istore, e_iconst, e_bipush, e_iadd, e_imul, e_iinc, e_ifCond, e_if_icmp, e_goto, e_getfield, e_baload, e_invokevirtual, e_ireturn, e_wSt0, e_wSt1, e_wSt2, e_isL0, e_isL1, e_isL2, e_lset, e_lclr0, e_lclr1, e_lclr2, e_lput0, e_lput1, e_lput2, e_wInc, e_wInc0, Nat.reduceLT, not_false_eq_true, Bool.or_false, Bool.false_or, Bool.or_true, Bool.true_or, Bool.and_false, Bool.false_and, Bool.and_true, Bool.true_and, e_wI2, e_ri, e_rz, e_wIf_ne, e_wIf_eq, e_wIc_ne, e_wIc_ge, e_wIc_eq, bp_40, bp_64, fX12_73, ic_0, ic_1, ic_m1, jt_100_7, jt_104_4, jt_17_75, jt_23_63, jt_32_54, jt_42_44, jt_52_34, jt_63_6, jt_66_20, jt_71_11, jt_7_91, jt_89_m76, jt_95_m91, e_call, e_callS0, e_callS1, e_callS2, e_callS3, e_callS4, e_pop0, e_pop1, e_tl0, e_tl1, tbX12_flaws_f, tbX12_flaws_p, tbX12_flaws_k, tbX12_flaws_c193, tbX12_flaws_c249, g_245_26, l_266, cv_245_0, cv_245_1, cv_245_2, cv_245_3, cv_245_4]
  simp (disch := omega) only [wI_id]
  exact h1
set_option maxRecDepth 20000 in
set_option maxHeartbeats 4000000 in
theorem lpF2 (l : Launch) (Q : Option aV → aS → Prop) : ∀ (n : Nat) (S : aS) (x c : Int) (v : Nat → Int) (a : Nat), a + n = 40 → wok S → chA S → flI S x (64 * a) c → (∀ v, Q (some (.inl (nthE (flB S) x 2560 0 0))) (stV S v)) → aGo l mX12_flaws Q 4 [(0, .inr (.inr 245)), (1, .inl x), (2, .inl c), (3, .inl (a : Int))] [] (stV S v) := by
  intro n
  induction n using Nat.strongRecOn with
  | _ n ih =>
  intro S  x c  v  a  h0 h1 h2 h3 h4
  refine wp_go (tbX12_flaws_ok l) (fun pc => pc == 4 || pc == 13) 63 dX12_flaws_4 ?_
  show ws1 tbX12_flaws 5 (some .int) Q (wp cX12_flaws tbX12_flaws 5 (some .int) Q (fun pc => pc == 4 || pc == 13) (aGo l mX12_flaws Q) 63) (.iload_n 3) 1 4 [(0, .inr (.inr 245)), (1, .inl x), (2, .inl c), (3, .inl (a : Int))] [] (stV S v)
  simp only [wp_s, wpC_f, wpC_t, e_wLd, e_wLd0, e_wLd1, e_wLd2, e_get1, e_get2, e_wJ, e_wJo, f40, f41, f42, f43, Nat.reduceAdd, Nat.reduceBEq, Nat.reduceMul, eq_self, true_or, or_true, true_and, dX12_flaws_0, dX12_flaws_1, dX12_flaws_2, dX12_flaws_3, dX12_flaws_4, dX12_flaws_5, dX12_flaws_7, dX12_flaws_10, dX12_flaws_11, dX12_flaws_13, dX12_flaws_15, dX12_flaws_17, dX12_flaws_20, dX12_flaws_21, dX12_flaws_23, dX12_flaws_26, dX12_flaws_27, dX12_flaws_30, dX12_flaws_31, dX12_flaws_32, dX12_flaws_35, dX12_flaws_36, dX12_flaws_39, dX12_flaws_41, dX12_flaws_42, dX12_flaws_45, dX12_flaws_46, dX12_flaws_47, dX12_flaws_49, dX12_flaws_52, dX12_flaws_55, dX12_flaws_56, dX12_flaws_57, dX12_flaws_59, dX12_flaws_60, dX12_flaws_63, dX12_flaws_66, dX12_flaws_69, dX12_flaws_70, dX12_flaws_71, dX12_flaws_74, dX12_flaws_76, dX12_flaws_77, dX12_flaws_78, dX12_flaws_80, dX12_flaws_81, dX12_flaws_82, dX12_flaws_83, dX12_flaws_84, dX12_flaws_85, dX12_flaws_86, dX12_flaws_89, dX12_flaws_92, dX12_flaws_95, dX12_flaws_98, dX12_flaws_99, dX12_flaws_100, dX12_flaws_103, dX12_flaws_104, dX12_flaws_107, dX12_flaws_108, e_aload_n, e_iload_n, e_iload, e_istore_n, e_istore, e_iconst, e_bipush, e_iadd, e_imul, e_iinc, e_ifCond, e_if_icmp, e_goto, e_getfield, e_baload, e_invokevirtual, e_ireturn, e_wSt0, e_wSt1, e_wSt2, e_isL0, e_isL1, e_isL2, e_lset, e_lclr0, e_lclr1, e_lclr2, e_lput0, e_lput1, e_lput2, e_wInc, e_wInc0, Nat.reduceLT, not_false_eq_true, Bool.or_false, Bool.false_or, Bool.or_true, Bool.true_or, Bool.and_false, Bool.false_and, Bool.and_true, Bool.true_and, e_wI2, e_ri, e_rz, e_wIf_ne, e_wIf_eq, e_wIc_ne, e_wIc_ge, e_wIc_eq, bp_40, bp_64, fX12_73, ic_0, ic_1, ic_m1, jt_100_7, jt_104_4, jt_17_75, jt_23_63, jt_32_54, jt_42_44, jt_52_34, jt_63_6, jt_66_20, jt_71_11, jt_7_91, jt_89_m76, jt_95_m91, e_call, e_callS0, e_callS1, e_callS2, e_callS3, e_callS4, e_pop0, e_pop1, e_tl0, e_tl1, tbX12_flaws_f, tbX12_flaws_p, tbX12_flaws_k, tbX12_flaws_c193, tbX12_flaws_c249, g_245_26, l_266, cv_245_0, cv_245_1, cv_245_2, cv_245_3, cv_245_4]
  refine ⟨fun q => ?_, fun q => ?_⟩
  · obtain rfl : a = 40 := by omega
    have e : nthE (flB S) x 0 2560 c = nthE (flB S) x 2560 0 0 := h3.2
    unfold nthE at e
    refine ⟨fun z => ?_, fun z => ?_⟩
    · rw [if_neg z] at e; rw [e]; exact h4 v
    · rw [if_pos z] at e; rw [e]; exact h4 v
  · refine lpF1 l Q 40 S x c v a 0 rfl (by omega) h1 h2 h3 h4 (fun c v hc => ?_)
    exact lpF3 l Q _ x c a (by omega) (ih (n - 1) (by omega) S x c v (a + 1) (by omega) h1 h2 (flI_sk (by omega) hc) h4)
set_option maxRecDepth 20000 in
set_option maxHeartbeats 4000000 in
theorem okX12_flaws (l : Launch) : aOK l mX12_flaws spX12_flaws := by
  refine aOK_of rfl fun as S Q h => ?_
  unfold spX12_flaws at h
  split at h
  · rename_i x
    refine ⟨Nat.le_of_ble_eq_true rfl, wp_ok (tbX12_flaws_ok l) Q (fun pc => pc == 4) 63 0 _ [] S ?_⟩
    show wp cX12_flaws tbX12_flaws 5 (some .int) Q (fun pc => pc == 4) (aGo l mX12_flaws Q) 63 0 [(0, .inr (.inr 245)), (1, .inl x)] [] S
    simp only [wp_s, wpC_f, wpC_t, e_wLd, e_wLd0, e_wLd1, e_wLd2, e_get1, e_get2, e_wJ, e_wJo, f40, f41, f42, f43, Nat.reduceAdd, Nat.reduceBEq, Nat.reduceMul, eq_self, true_or, or_true, true_and, dX12_flaws_0, dX12_flaws_1, dX12_flaws_2, dX12_flaws_3, dX12_flaws_4, dX12_flaws_5, dX12_flaws_7, dX12_flaws_10, dX12_flaws_11, dX12_flaws_13, dX12_flaws_15, dX12_flaws_17, dX12_flaws_20, dX12_flaws_21, dX12_flaws_23, dX12_flaws_26, dX12_flaws_27, dX12_flaws_30, dX12_flaws_31, dX12_flaws_32, dX12_flaws_35, dX12_flaws_36, dX12_flaws_39, dX12_flaws_41, dX12_flaws_42, dX12_flaws_45, dX12_flaws_46, dX12_flaws_47, dX12_flaws_49, dX12_flaws_52, dX12_flaws_55, dX12_flaws_56, dX12_flaws_57, dX12_flaws_59, dX12_flaws_60, dX12_flaws_63, dX12_flaws_66, dX12_flaws_69, dX12_flaws_70, dX12_flaws_71, dX12_flaws_74, dX12_flaws_76, dX12_flaws_77, dX12_flaws_78, dX12_flaws_80, dX12_flaws_81, dX12_flaws_82, dX12_flaws_83, dX12_flaws_84, dX12_flaws_85, dX12_flaws_86, dX12_flaws_89, dX12_flaws_92, dX12_flaws_95, dX12_flaws_98, dX12_flaws_99, dX12_flaws_100, dX12_flaws_103, dX12_flaws_104, dX12_flaws_107, dX12_flaws_108, e_aload_n, e_iload_n, e_iload, e_istore_n, e_istore, e_iconst, e_bipush, e_iadd, e_imul, e_iinc, e_ifCond, e_if_icmp, e_goto, e_getfield, e_baload, e_invokevirtual, e_ireturn, e_wSt0, e_wSt1, e_wSt2, e_isL0, e_isL1, e_isL2, e_lset, e_lclr0, e_lclr1, e_lclr2, e_lput0, e_lput1, e_lput2, e_wInc, e_wInc0, Nat.reduceLT, not_false_eq_true, Bool.or_false, Bool.false_or, Bool.or_true, Bool.true_or, Bool.and_false, Bool.false_and, Bool.and_true, Bool.true_and, e_wI2, e_ri, e_rz, e_wIf_ne, e_wIf_eq, e_wIc_ne, e_wIc_ge, e_wIc_eq, bp_40, bp_64, fX12_73, ic_0, ic_1, ic_m1, jt_100_7, jt_104_4, jt_17_75, jt_23_63, jt_32_54, jt_42_44, jt_52_34, jt_63_6, jt_66_20, jt_71_11, jt_7_91, jt_89_m76, jt_95_m91, e_call, e_callS0, e_callS1, e_callS2, e_callS3, e_callS4, e_pop0, e_pop1, e_tl0, e_tl1, tbX12_flaws_f, tbX12_flaws_p, tbX12_flaws_k, tbX12_flaws_c193, tbX12_flaws_c249, g_245_26, l_266, cv_245_0, cv_245_1, cv_245_2, cv_245_3, cv_245_4]
    have e := lpF2 l Q 40 S x 0 (S.1 245) 0 rfl h.1 h.2.1 flI_0 h.2.2
    rw [stV_S] at e
    exact e
  · exact h.elim
def spX12_flaw : aSp := fun as S Q => match as with
  | [.inr (.inr 245), .inl x] => wok S ∧ chA S ∧ (x < 0 → Q (some (.inl (-1))) S) ∧ (0 ≤ x → ∀ v, Q (some (.inl (nthE (flB S) x 2560 0 0))) (stV S v))
  | _ => False
def tbX12_flaw : aTb := (fX12, pX12, fun j => lk [(252, (some 12), 2, spX12_flaws)] j, kX12)
theorem tbX12_flaw_f : tbX12_flaw.1 = fX12 := rfl
theorem tbX12_flaw_p : tbX12_flaw.2.1 = pX12 := rfl
theorem tbX12_flaw_k : tbX12_flaw.2.2.2 = kX12 := rfl
theorem tbX12_flaw_c252 : tbX12_flaw.2.2.1 252 = some ((some 12), 2, spX12_flaws) := rfl
theorem tbX12_flaw_all (l : Launch) : ∀ e ∈ ([(252, (some 12), 2, spX12_flaws)] : List (Nat × Option Nat × Nat × aSp)), cOK l mX12_flaw e.1 e.2.1 e.2.2.1 e.2.2.2 ∨ mOK mX12_flaw e.1 e.2.1 e.2.2.1 e.2.2.2 := all_cons (cOK_of (okX12_flaws l) meX12_flaws cfX12_252 (by decide) (by decide)) (all_nil)
theorem tbX12_flaw_ok (l : Launch) : tOK l mX12_flaw tbX12_flaw := ⟨fX12_ok, pX12_ok, fun _ _ _ _ h => tbX12_flaw_all l _ (lk_mem h), kX12_ok⟩
set_option maxRecDepth 20000 in
set_option maxHeartbeats 4000000 in
theorem okX12_flaw (l : Launch) : aOK l mX12_flaw spX12_flaw := by
  refine aOK_of rfl fun as S Q h => ?_
  unfold spX12_flaw at h
  split at h
  · rename_i x
    refine ⟨Nat.le_of_ble_eq_true rfl, wp_ok (tbX12_flaw_ok l) Q (fun pc => false) 10 0 _ [] S ?_⟩
    show wp cX12_flaw tbX12_flaw 2 (some .int) Q (fun pc => false) (aGo l mX12_flaw Q) 10 0 [(0, .inr (.inr 245)), (1, .inl x)] [] S
    simp only [wp_s, wpC_f, wpC_t, e_wLd, e_wLd0, e_wLd1, e_wLd2, e_get1, e_get2, e_wJ, e_wJo, f40, f41, f42, f43, Nat.reduceAdd, Nat.reduceBEq, Nat.reduceMul, eq_self, true_or, or_true, true_and, dX12_flaw_0, dX12_flaw_1, dX12_flaw_4, dX12_flaw_5, dX12_flaw_8, dX12_flaw_9, dX12_flaw_10, dX12_flaw_13, e_aload_n, e_iload_n, e_iconst, e_ifCond, e_goto, e_invokevirtual, e_ireturn, e_ri, e_rz, e_wIf_ge, ic_m1, jt_1_7, jt_5_8, e_call, e_callS0, e_callS1, e_callS2, e_callS3, e_callS4, e_pop0, e_pop1, e_tl0, e_tl1, tbX12_flaw_f, tbX12_flaw_p, tbX12_flaw_k, tbX12_flaw_c252, cv_245_0, cv_245_1, cv_245_2, cv_245_3, cv_245_4, spX12_flaws]
    obtain ⟨h0, h1, h2, h3⟩ := h
    exact ⟨fun q => ⟨h0, h1, fun v => h3 (by omega) v⟩, fun q => h2 (by omega)⟩
  · exact h.elim
