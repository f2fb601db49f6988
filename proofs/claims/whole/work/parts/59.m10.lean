/-! THE REFERENCE: gap, told -/
def snP (S : aS) (a y : Int) (s : Nat) : Prop := witP S a 0 s ∧ fF S s ≤ y ∧ y ≤ fL S s
def snM (S : aS) (a y : Int) : Prop := ∃ s : Nat, s < (S.1 245 12).toNat ∧ snP S a y s
noncomputable def gpL (sn : Int → Prop) : Nat → Int → Int → Int → Int
  | 0, _, _, b => b
  | n + 1, y, r, b => gpL sn n (y + 1) (@ite _ (sn y) (Classical.propDecidable _) 0 (r + 1)) (max b (@ite _ (sn y) (Classical.propDecidable _) 0 (r + 1)))
noncomputable def gpM (S : aS) (a : Int) : Int := gpL (snM S a) (wxL S a 0 - wmF S a 0 + 1).toNat (wmF S a 0) 0 0
theorem snM_V {S : aS} {v : Nat → Int} : snM (stV S v) = snM S := rfl
theorem gpM_V {S : aS} {v : Nat → Int} : gpM (stV S v) = gpM S := rfl
theorem mn_ge {f : Nat → Int} {p : Nat → Prop} {m : Int} (hm : m ≤ 2001) : ∀ {n : Nat}, (∀ j, j < n → p j → m ≤ f j) → m ≤ mn f p n
  | 0, _ => hm
  | n + 1, h => by
    have := mn_ge hm (fun j hj => h j (by omega)) (n := n)
    by_cases q : p n
    · rw [mn_t q]; have := h n (by omega) q; omega
    · rw [mn_f q]; exact this
theorem mn_le {f : Nat → Int} {p : Nat → Prop} : ∀ {n : Nat}, mn f p n ≤ 2001
  | 0 => Int.le_refl _
  | n + 1 => by
    have := mn_le (f := f) (p := p) (n := n)
    by_cases q : p n
    · rw [mn_t q]; omega
    · rw [mn_f q]; exact this
theorem mx_le {f : Nat → Int} {p : Nat → Prop} {m : Int} (hm : 0 ≤ m) : ∀ {n : Nat}, (∀ j, j < n → p j → f j ≤ m) → mx f p n ≤ m
  | 0, _ => hm
  | n + 1, h => by
    have := mx_le hm (fun j hj => h j (by omega)) (n := n)
    by_cases q : p n
    · rw [mx_t q]; have := h n (by omega) q; omega
    · rw [mx_f q]; exact this
theorem mx_ge {f : Nat → Int} {p : Nat → Prop} : ∀ {n : Nat}, 0 ≤ mx f p n
  | 0 => Int.le_refl _
  | n + 1 => by
    have := mx_ge (f := f) (p := p) (n := n)
    by_cases q : p n
    · rw [mx_t q]; omega
    · rw [mx_f q]; exact this
def spX12_gap : aSp := fun as S Q => match as with
  | [.inr (.inr 245), .inl a] => wok S ∧ ¬ a = -1 ∧ 0 < wcM S a 0 ∧ ∀ v, Q (some (.inl (gpM S a))) (stV S v)
  | _ => False
def tbX12_gap : aTb := (fX12, pX12, fun j => lk [(214, (some 12), 4, spX12_isWitness), (230, (some 12), 3, spX12_witnesses)] j, kX12)
theorem tbX12_gap_f : tbX12_gap.1 = fX12 := rfl
theorem tbX12_gap_p : tbX12_gap.2.1 = pX12 := rfl
theorem tbX12_gap_k : tbX12_gap.2.2.2 = kX12 := rfl
theorem tbX12_gap_c214 : tbX12_gap.2.2.1 214 = some ((some 12), 4, spX12_isWitness) := rfl
theorem tbX12_gap_c230 : tbX12_gap.2.2.1 230 = some ((some 12), 3, spX12_witnesses) := rfl
theorem tbX12_gap_all (l : Launch) : ∀ e ∈ ([(214, (some 12), 4, spX12_isWitness), (230, (some 12), 3, spX12_witnesses)] : List (Nat × Option Nat × Nat × aSp)), cOK l mX12_gap e.1 e.2.1 e.2.2.1 e.2.2.2 ∨ mOK mX12_gap e.1 e.2.1 e.2.2.1 e.2.2.2 := all_cons (cOK_of (okX12_isWitness l) meX12_isWitness cfX12_214 (by decide) (by decide)) (all_cons (cOK_of (okX12_witnesses l) meX12_witnesses cfX12_230 (by decide) (by decide)) (all_nil))
theorem tbX12_gap_ok (l : Launch) : tOK l mX12_gap tbX12_gap := ⟨fX12_ok, pX12_ok, fun _ _ _ _ h => tbX12_gap_all l _ (lk_mem h), kX12_ok⟩
set_option maxRecDepth 20000 in
set_option maxHeartbeats 4000000 in
theorem lpG1 (l : Launch) (Q : Option aV → aS → Prop) : ∀ (n : Nat) (S : aS) (v : Nat → Int) (a b r e y x : Int) (i : Nat), i + n = (S.1 245 12).toNat → wok S → ¬ a = -1 → (x = 1 ∧ ∃ t : Nat, t < i ∧ snP S a y t) ∨ (x = 0 ∧ ¬ ∃ t : Nat, t < i ∧ snP S a y t) → (∀ x : Int, (x = 1 ∧ snM S a y) ∨ (x = 0 ∧ ¬ snM S a y) → aGo l mX12_gap Q 107 [(0, .inr (.inr 245)), (1, .inl a), (2, .inl b), (3, .inl r), (4, .inl e), (5, .inl y), (6, .inl x)] [] (stV S v)) → aGo l mX12_gap Q 35 [(0, .inr (.inr 245)), (1, .inl a), (2, .inl b), (3, .inl r), (4, .inl e), (5, .inl y), (6, .inl x), (7, .inl (i : Int))] [] (stV S v) := by
  intro n
  induction n using Nat.strongRecOn with
  | _ n ih =>
  intro S  v  a b r e y x  i  h0 h1 h2 h3 h4
  refine wp_go (tbX12_gap_ok l) (fun pc => pc == 35 || pc == 107) 76 dX12_gap_35 ?_
  show ws1 tbX12_gap 8 (some .int) Q (wp cX12_gap tbX12_gap 8 (some .int) Q (fun pc => pc == 35 || pc == 107) (aGo l mX12_gap Q) 76) (.iload 7) 2 35 [(0, .inr (.inr 245)), (1, .inl a), (2, .inl b), (3, .inl r), (4, .inl e), (5, .inl y), (6, .inl x), (7, .inl (i : Int))] [] (stV S v)
  simp only [wp_s, wpC_f, wpC_t, e_wLd, e_wLd0, e_wLd1, e_wLd2, e_get1, e_get2, e_wJ, e_wJo, f40, f41, f42, f43, Nat.reduceAdd, Nat.reduceBEq, Nat.reduceMul, eq_self, true_or, or_true, true_and, dX12_gap_0, dX12_gap_1, dX12_gap_2, dX12_gap_3, dX12_gap_6, dX12_gap_7, dX12_gap_8, dX12_gap_9, dX12_gap_10, dX12_gap_11, dX12_gap_14, dX12_gap_16, dX12_gap_17, dX12_gap_20, dX12_gap_22, dX12_gap_24, dX12_gap_26, dX12_gap_29, dX12_gap_30, dX12_gap_32, dX12_gap_33, dX12_gap_35, dX12_gap_37, dX12_gap_38, dX12_gap_41, dX12_gap_44, dX12_gap_46, dX12_gap_49, dX12_gap_50, dX12_gap_52, dX12_gap_53, dX12_gap_54, dX12_gap_57, dX12_gap_60, dX12_gap_61, dX12_gap_64, dX12_gap_65, dX12_gap_68, dX12_gap_70, dX12_gap_71, dX12_gap_72, dX12_gap_74, dX12_gap_77, dX12_gap_78, dX12_gap_81, dX12_gap_82, dX12_gap_85, dX12_gap_87, dX12_gap_88, dX12_gap_89, dX12_gap_91, dX12_gap_94, dX12_gap_95, dX12_gap_98, dX12_gap_99, dX12_gap_101, dX12_gap_104, dX12_gap_107, dX12_gap_109, dX12_gap_112, dX12_gap_113, dX12_gap_116, dX12_gap_117, dX12_gap_118, dX12_gap_119, dX12_gap_120, dX12_gap_121, dX12_gap_122, dX12_gap_125, dX12_gap_126, dX12_gap_127, dX12_gap_130, dX12_gap_133, dX12_gap_134, e_aload_n, e_iload_n, e_iload, e_istore_n, e_istore, e_iconst, e_iadd, e_iinc, e_ifCond, e_if_icmp, e_goto, e_getfield, e_iaload, e_invokevirtual, e_ireturn, e_wSt0, e_wSt1, e_wSt2, e_isL0, e_isL1, e_isL2, e_lset, e_lclr0, e_lclr1, e_lclr2, e_lput0, e_lput1, e_lput2, e_wInc, e_wInc0, Nat.reduceLT, not_false_eq_true, Bool.or_false, Bool.false_or, Bool.or_true, Bool.true_or, Bool.and_false, Bool.false_and, Bool.and_true, Bool.true_and, e_ri, e_rz, e_wI2, e_wIc_ge, e_wIc_lt, e_wIc_gt, e_wIf_eq, e_wIc_le, e_wIf_ne, fX12_132, fX12_218, fX12_227, fX12_23, fX12_26, fX12_39, ic_0, ic_1, jt_104_m69, jt_109_7, jt_113_6, jt_122_5, jt_130_m108, jt_26_107, jt_41_66, jt_46_48, jt_57_41, jt_74_24, jt_91_7, jt_95_4, e_call, e_callS0, e_callS1, e_callS2, e_callS3, e_callS4, e_pop0, e_pop1, e_tl0, e_tl1, tbX12_gap_f, tbX12_gap_p, tbX12_gap_k, tbX12_gap_c214, tbX12_gap_c230, l_251, g_245_15, g_245_8, l_250, g_245_33, g_245_7, g_245_36, l_255, cv_245_0, cv_245_1, cv_245_2, cv_245_3, cv_245_4, g_245_12, spX12_isWitness, bi_0, bi_1, ne_eq, Classical.not_not, em_r, em_l]
  have h1' := h1
  obtain ⟨g0, g1⟩ := h1'
  simp (disch := decide) only [stV_f, stV_v, stV_a, stV_V, wok_V, wvP_V, stV_2, witP_V, wcM_V, ahM_V, aoM_V, odM_V, paM_V]
  simp (disch := omega) only [wI_id, Int.toNat_natCast]
  refine ⟨fun q => ?_, fun q => ?_⟩
  · obtain rfl : i = (S.1 245 12).toNat := by omega
    exact aGo_sub (h4 x h3) (fun q hq => List.mem_append_left ([(7, Sum.inl _)] : aL) hq)
  · obtain ⟨k1, k2, k3, k4⟩ := g1 i (by omega)
    have hA : n - 1 < n := by clear h3; omega
    have hB : i + 1 + (n - 1) = (S.1 245 12).toNat := by clear h3; omega
    have nx : ∀ z : Int, ((z = 1 ∧ ∃ t : Nat, t < i + 1 ∧ snP S a y t) ∨ (z = 0 ∧ ¬ ∃ t : Nat, t < i + 1 ∧ snP S a y t)) → aGo l mX12_gap Q 35 [(0, .inr (.inr 245)), (1, .inl a), (2, .inl b), (3, .inl r), (4, .inl e), (5, .inl y), (6, .inl z), (7, .inl ((i : Int) + 1))] [] (stV S v) := fun z hz => ih (n - 1) hA S v a b r e y z (i + 1) hB h1 h2 hz h4
    have n1 : ¬ x = 0 → aGo l mX12_gap Q 35 [(0, .inr (.inr 245)), (1, .inl a), (2, .inl b), (3, .inl r), (4, .inl e), (5, .inl y), (6, .inl 1), (7, .inl ((i : Int) + 1))] [] (stV S v) := fun w => nx 1 (Or.inl ⟨rfl, (h3.resolve_right (fun z => w z.1)).2.elim fun t ht => ⟨t, Nat.lt_succ_of_lt ht.1, ht.2⟩⟩)
    have n2 : snP S a y i → aGo l mX12_gap Q 35 [(0, .inr (.inr 245)), (1, .inl a), (2, .inl b), (3, .inl r), (4, .inl e), (5, .inl y), (6, .inl 1), (7, .inl ((i : Int) + 1))] [] (stV S v) := fun w => nx 1 (Or.inl ⟨rfl, i, Nat.lt_succ_self i, w⟩)
    have n3 : x = 0 → ¬ snP S a y i → aGo l mX12_gap Q 35 [(0, .inr (.inr 245)), (1, .inl a), (2, .inl b), (3, .inl r), (4, .inl e), (5, .inl y), (6, .inl 0), (7, .inl ((i : Int) + 1))] [] (stV S v) := fun w w2 => nx 0 (Or.inr ⟨rfl, fun z => z.elim fun t ht => by
      by_cases e : t = i
      · subst e; exact w2 ht.2
      · exact (h3.resolve_left (fun z => absurd (z.1.symm.trans w) (by decide))).2 ⟨t, Nat.lt_of_le_of_ne (Nat.le_of_lt_succ ht.1) e, ht.2⟩⟩)
    clear ih h4 nx h3
    unfold snP fF fL at n2 n3
    replace n1 := hid n1
    replace n2 := hid n2
    replace n3 := fun z => hid (n3 z)
    replace n3 := hid n3
    repeat' (with_reducible first | intro _ | refine And.intro ?_ ?_)
    all_goals first
      | omega
      | assumption
      | exact n1 (by assumption)
      | exact n2 ⟨by assumption, by omega, by omega⟩
      | exact n3 (by assumption) (fun z => absurd z.1 (by assumption))
      | exact n3 (by assumption) (fun z => by omega)
      | skip
set_option maxRecDepth 20000 in
set_option maxHeartbeats 4000000 in
theorem lpG3 (l : Launch) (Q : Option aV → aS → Prop) (S : aS) (v : Nat → Int) (a b r e y x : Int) (h0 : (0 ≤ r ∧ r ≤ 10000) ∧ (0 ≤ b ∧ b ≤ 10000) ∧ (0 ≤ y ∧ y ≤ 10000)) (h1 : (¬ x = 0 → aGo l mX12_gap Q 22 [(0, .inr (.inr 245)), (1, .inl a), (2, .inl (max b 0)), (3, .inl 0), (4, .inl e), (5, .inl (y + 1))] [] S)) (h2 : (x = 0 → aGo l mX12_gap Q 22 [(0, .inr (.inr 245)), (1, .inl a), (2, .inl (max b (r + 1))), (3, .inl (r + 1)), (4, .inl e), (5, .inl (y + 1))] [] S)) : aGo l mX12_gap Q 107 [(0, .inr (.inr 245)), (1, .inl a), (2, .inl b), (3, .inl r), (4, .inl e), (5, .inl y), (6, .inl x)] [] S := by
  refine wp_go (tbX12_gap_ok l) (fun pc => pc == 22) 76 dX12_gap_107 ?_
  show ws1 tbX12_gap 8 (some .int) Q (wp cX12_gap tbX12_gap 8 (some .int) Q (fun pc => pc == 22) (aGo l mX12_gap Q) 76) (.iload 6) 2 107 [(0, .inr (.inr 245)), (1, .inl a), (2, .inl b), (3, .inl r), (4, .inl e), (5, .inl y), (6, .inl x)] [] S
  simp only [wp_s, wpC_f, wpC_t, e_wLd, e_wLd0, e_wLd1, e_wLd2, e_get1, e_get2, e_wJ, e_wJo, f40, f41, f42, f43, Nat.reduceAdd, Nat.reduceBEq, Nat.reduceMul, eq_self, true_or, or_true, true_and, dX12_gap_0, dX12_gap_1, dX12_gap_2, dX12_gap_3, dX12_gap_6, dX12_gap_7, dX12_gap_8, dX12_gap_9, dX12_gap_10, dX12_gap_11, dX12_gap_14, dX12_gap_16, dX12_gap_17, dX12_gap_20, dX12_gap_22, dX12_gap_24, dX12_gap_26, dX12_gap_29, dX12_gap_30, dX12_gap_32, dX12_gap_33, dX12_gap_35, dX12_gap_37, dX12_gap_38, dX12_gap_41, dX12_gap_44, dX12_gap_46, dX12_gap_49, dX12_gap_50, dX12_gap_52, dX12_gap_53, dX12_gap_54, dX12_gap_57, dX12_gap_60, dX12_gap_61, dX12_gap_64, dX12_gap_65, dX12_gap_68, dX12_gap_70, dX12_gap_71, dX12_gap_72, dX12_gap_74, dX12_gap_77, dX12_gap_78, dX12_gap_81, dX12_gap_82, dX12_gap_85, dX12_gap_87, dX12_gap_88, dX12_gap_89, dX12_gap_91, dX12_gap_94, dX12_gap_95, dX12_gap_98, dX12_gap_99, dX12_gap_101, dX12_gap_104, dX12_gap_107, dX12_gap_109, dX12_gap_112, dX12_gap_113, dX12_gap_116, dX12_gap_117, dX12_gap_118, dX12_gap_119, dX12_gap_120, dX12_gap_121, dX12_gap_122, dX12_gap_125, dX12_gap_126, dX12_gap_127, dX12_gap_130, dX12_gap_133, dX12_gap_134, e_aload_n, e_iload_n, e_iload, e_istore_n, e_istore, e_iconst, e_iadd, e_iinc, e_ifCond, e_if_icmp, e_goto, e_getfield, e_iaload, e_invokevirtual, e_ireturn, e_wSt0, e_wSt1, e_wSt2, e_isL0, e_isL1, e_isL2, e_lset, e_lclr0, e_lclr1, e_lclr2, e_lput0, e_lput1, e_lput2, e_wInc, e_wInc0, Nat.reduceLT, not_false_eq_true, Bool.or_false, Bool.false_or, Bool.or_true, Bool.true_or, Bool.and_false, Bool.false_and, Bool.and_true, Bool.true_and, e_ri, e_rz, e_wI2, e_wIc_ge, e_wIc_lt, e_wIc_gt, e_wIf_eq, e_wIc_le, e_wIf_ne, fX12_132, fX12_218, fX12_227, fX12_23, fX12_26, fX12_39, ic_0, ic_1, jt_104_m69, jt_109_7, jt_113_6, jt_122_5, jt_130_m108, jt_26_107, jt_41_66, jt_46_48, jt_57_41, jt_74_24, jt_91_7, jt_95_4, e_call, e_callS0, e_callS1, e_callS2, e_callS3, e_callS4, e_pop0, e_pop1, e_tl0, e_tl1, tbX12_gap_f, tbX12_gap_p, tbX12_gap_k, tbX12_gap_c214, tbX12_gap_c230, l_251, g_245_15, g_245_8, l_250, g_245_33, g_245_7, g_245_36, l_255, cv_245_0, cv_245_1, cv_245_2, cv_245_3, cv_245_4, g_245_12]
  simp (disch := omega) only [wI_id]
  have sb : ∀ b' r' y' : Int, aGo l mX12_gap Q 22 [(0, .inr (.inr 245)), (1, .inl a), (2, .inl b'), (3, .inl r'), (4, .inl e), (5, .inl y')] [] S → aGo l mX12_gap Q 22 [(0, .inr (.inr 245)), (1, .inl a), (2, .inl b'), (3, .inl r'), (4, .inl e), (5, .inl y'), (6, .inl x)] [] S := fun b' r' y' z => aGo_sub z (fun q hq => List.mem_append_left ([(6, Sum.inl x)] : aL) hq)
  replace h1 := hid h1
  replace h2 := hid h2
  repeat' (with_reducible first | intro _ | refine And.intro ?_ ?_)
  all_goals first
    | omega
    | (have z := h1 (by assumption); rw [show max b 0 = b from by omega] at z; exact sb _ _ _ z)
    | (have z := h1 (by assumption); rw [show max b 0 = 0 from by omega] at z; exact sb _ _ _ z)
    | (have z := h2 (by assumption); rw [show max b (r + 1) = b from by omega] at z; exact sb _ _ _ z)
    | (have z := h2 (by assumption); rw [show max b (r + 1) = r + 1 from by omega] at z; exact sb _ _ _ z)
    | skip
set_option maxRecDepth 20000 in
set_option maxHeartbeats 4000000 in
theorem lpG2 (l : Launch) (Q : Option aV → aS → Prop) : ∀ (n : Nat) (S : aS) (v : Nat → Int) (a b r e y : Int), (n : Int) = e - y + 1 ∨ (n = 0 ∧ e < y) → wok S → ¬ a = -1 → (0 ≤ r ∧ r ≤ y) ∧ (0 ≤ b ∧ b ≤ y) ∧ (1 ≤ y ∧ y ≤ 2001 ∧ e ≤ 2000) → (∀ v, Q (some (.inl (gpL (snM S a) n y r b))) (stV S v)) → aGo l mX12_gap Q 22 [(0, .inr (.inr 245)), (1, .inl a), (2, .inl b), (3, .inl r), (4, .inl e), (5, .inl y)] [] (stV S v) := by
  intro n
  induction n using Nat.strongRecOn with
  | _ n ih =>
  intro S  v  a b r e y  h0 h1 h2 h3 h4
  refine wp_go (tbX12_gap_ok l) (fun pc => pc == 22 || pc == 35) 76 dX12_gap_22 ?_
  show ws1 tbX12_gap 8 (some .int) Q (wp cX12_gap tbX12_gap 8 (some .int) Q (fun pc => pc == 22 || pc == 35) (aGo l mX12_gap Q) 76) (.iload 5) 2 22 [(0, .inr (.inr 245)), (1, .inl a), (2, .inl b), (3, .inl r), (4, .inl e), (5, .inl y)] [] (stV S v)
  simp only [wp_s, wpC_f, wpC_t, e_wLd, e_wLd0, e_wLd1, e_wLd2, e_get1, e_get2, e_wJ, e_wJo, f40, f41, f42, f43, Nat.reduceAdd, Nat.reduceBEq, Nat.reduceMul, eq_self, true_or, or_true, true_and, dX12_gap_0, dX12_gap_1, dX12_gap_2, dX12_gap_3, dX12_gap_6, dX12_gap_7, dX12_gap_8, dX12_gap_9, dX12_gap_10, dX12_gap_11, dX12_gap_14, dX12_gap_16, dX12_gap_17, dX12_gap_20, dX12_gap_22, dX12_gap_24, dX12_gap_26, dX12_gap_29, dX12_gap_30, dX12_gap_32, dX12_gap_33, dX12_gap_35, dX12_gap_37, dX12_gap_38, dX12_gap_41, dX12_gap_44, dX12_gap_46, dX12_gap_49, dX12_gap_50, dX12_gap_52, dX12_gap_53, dX12_gap_54, dX12_gap_57, dX12_gap_60, dX12_gap_61, dX12_gap_64, dX12_gap_65, dX12_gap_68, dX12_gap_70, dX12_gap_71, dX12_gap_72, dX12_gap_74, dX12_gap_77, dX12_gap_78, dX12_gap_81, dX12_gap_82, dX12_gap_85, dX12_gap_87, dX12_gap_88, dX12_gap_89, dX12_gap_91, dX12_gap_94, dX12_gap_95, dX12_gap_98, dX12_gap_99, dX12_gap_101, dX12_gap_104, dX12_gap_107, dX12_gap_109, dX12_gap_112, dX12_gap_113, dX12_gap_116, dX12_gap_117, dX12_gap_118, dX12_gap_119, dX12_gap_120, dX12_gap_121, dX12_gap_122, dX12_gap_125, dX12_gap_126, dX12_gap_127, dX12_gap_130, dX12_gap_133, dX12_gap_134, e_aload_n, e_iload_n, e_iload, e_istore_n, e_istore, e_iconst, e_iadd, e_iinc, e_ifCond, e_if_icmp, e_goto, e_getfield, e_iaload, e_invokevirtual, e_ireturn, e_wSt0, e_wSt1, e_wSt2, e_isL0, e_isL1, e_isL2, e_lset, e_lclr0, e_lclr1, e_lclr2, e_lput0, e_lput1, e_lput2, e_wInc, e_wInc0, Nat.reduceLT, not_false_eq_true, Bool.or_false, Bool.false_or, Bool.or_true, Bool.true_or, Bool.and_false, Bool.false_and, Bool.and_true, Bool.true_and, e_ri, e_rz, e_wI2, e_wIc_ge, e_wIc_lt, e_wIc_gt, e_wIf_eq, e_wIc_le, e_wIf_ne, fX12_132, fX12_218, fX12_227, fX12_23, fX12_26, fX12_39, ic_0, ic_1, jt_104_m69, jt_109_7, jt_113_6, jt_122_5, jt_130_m108, jt_26_107, jt_41_66, jt_46_48, jt_57_41, jt_74_24, jt_91_7, jt_95_4, e_call, e_callS0, e_callS1, e_callS2, e_callS3, e_callS4, e_pop0, e_pop1, e_tl0, e_tl1, tbX12_gap_f, tbX12_gap_p, tbX12_gap_k, tbX12_gap_c214, tbX12_gap_c230, l_251, g_245_15, g_245_8, l_250, g_245_33, g_245_7, g_245_36, l_255, cv_245_0, cv_245_1, cv_245_2, cv_245_3, cv_245_4, g_245_12]
  rcases n with _ | n
  · exact ⟨fun _ => h4 v, fun q => absurd q (by omega)⟩
  · refine ⟨fun q => absurd q (by omega), fun q => ?_⟩
    refine lpG1 l Q (S.1 245 12).toNat S v a b r e y 0 0 (Nat.zero_add _) h1 h2 (Or.inr ⟨rfl, fun z => z.elim fun t ht => absurd ht.1 (by omega)⟩) (fun x hx => ?_)
    unfold gpL at h4
    refine lpG3 l Q _ v a b r e y x (by omega) (fun z => ?_) (fun z => ?_)
    · have hs := (hx.resolve_right (fun w => z w.1)).2
      rw [if_pos hs] at h4
      exact ih n (by omega) S v a _ _ e (y + 1) (by omega) h1 h2 (by omega) h4
    · have hs := (hx.resolve_left (fun w => by omega)).2
      rw [if_neg hs] at h4
      exact ih n (by omega) S v a _ _ e (y + 1) (by omega) h1 h2 (by omega) h4
set_option maxRecDepth 20000 in
set_option maxHeartbeats 4000000 in
theorem okX12_gap (l : Launch) : aOK l mX12_gap spX12_gap := by
  refine aOK_of rfl fun as S Q h => ?_
  unfold spX12_gap at h
  split at h
  · rename_i a
    refine ⟨Nat.le_of_ble_eq_true rfl, wp_ok (tbX12_gap_ok l) Q (fun pc => pc == 22) 76 0 _ [] S ?_⟩
    show wp cX12_gap tbX12_gap 8 (some .int) Q (fun pc => pc == 22) (aGo l mX12_gap Q) 76 0 [(0, .inr (.inr 245)), (1, .inl a)] [] S
    simp only [wp_s, wpC_f, wpC_t, e_wLd, e_wLd0, e_wLd1, e_wLd2, e_get1, e_get2, e_wJ, e_wJo, f40, f41, f42, f43, Nat.reduceAdd, Nat.reduceBEq, Nat.reduceMul, eq_self, true_or, or_true, true_and, dX12_gap_0, dX12_gap_1, dX12_gap_2, dX12_gap_3, dX12_gap_6, dX12_gap_7, dX12_gap_8, dX12_gap_9, dX12_gap_10, dX12_gap_11, dX12_gap_14, dX12_gap_16, dX12_gap_17, dX12_gap_20, dX12_gap_22, dX12_gap_24, dX12_gap_26, dX12_gap_29, dX12_gap_30, dX12_gap_32, dX12_gap_33, dX12_gap_35, dX12_gap_37, dX12_gap_38, dX12_gap_41, dX12_gap_44, dX12_gap_46, dX12_gap_49, dX12_gap_50, dX12_gap_52, dX12_gap_53, dX12_gap_54, dX12_gap_57, dX12_gap_60, dX12_gap_61, dX12_gap_64, dX12_gap_65, dX12_gap_68, dX12_gap_70, dX12_gap_71, dX12_gap_72, dX12_gap_74, dX12_gap_77, dX12_gap_78, dX12_gap_81, dX12_gap_82, dX12_gap_85, dX12_gap_87, dX12_gap_88, dX12_gap_89, dX12_gap_91, dX12_gap_94, dX12_gap_95, dX12_gap_98, dX12_gap_99, dX12_gap_101, dX12_gap_104, dX12_gap_107, dX12_gap_109, dX12_gap_112, dX12_gap_113, dX12_gap_116, dX12_gap_117, dX12_gap_118, dX12_gap_119, dX12_gap_120, dX12_gap_121, dX12_gap_122, dX12_gap_125, dX12_gap_126, dX12_gap_127, dX12_gap_130, dX12_gap_133, dX12_gap_134, e_aload_n, e_iload_n, e_iload, e_istore_n, e_istore, e_iconst, e_iadd, e_iinc, e_ifCond, e_if_icmp, e_goto, e_getfield, e_iaload, e_invokevirtual, e_ireturn, e_wSt0, e_wSt1, e_wSt2, e_isL0, e_isL1, e_isL2, e_lset, e_lclr0, e_lclr1, e_lclr2, e_lput0, e_lput1, e_lput2, e_wInc, e_wInc0, Nat.reduceLT, not_false_eq_true, Bool.or_false, Bool.false_or, Bool.or_true, Bool.true_or, Bool.and_false, Bool.false_and, Bool.and_true, Bool.true_and, e_ri, e_rz, e_wI2, e_wIc_ge, e_wIc_lt, e_wIc_gt, e_wIf_eq, e_wIc_le, e_wIf_ne, fX12_132, fX12_218, fX12_227, fX12_23, fX12_26, fX12_39, ic_0, ic_1, jt_104_m69, jt_109_7, jt_113_6, jt_122_5, jt_130_m108, jt_26_107, jt_41_66, jt_46_48, jt_57_41, jt_74_24, jt_91_7, jt_95_4, e_call, e_callS0, e_callS1, e_callS2, e_callS3, e_callS4, e_pop0, e_pop1, e_tl0, e_tl1, tbX12_gap_f, tbX12_gap_p, tbX12_gap_k, tbX12_gap_c214, tbX12_gap_c230, l_251, g_245_15, g_245_8, l_250, g_245_33, g_245_7, g_245_36, l_255, cv_245_0, cv_245_1, cv_245_2, cv_245_3, cv_245_4, g_245_12, spX12_witnesses]
    obtain ⟨h0, h1, h2, h3⟩ := h
    simp (disch := decide) only [stV_f, stV_v, stV_a, stV_V, wok_V, wvP_V, stV_2, witP_V, wcM_V, ahM_V, aoM_V, odM_V, paM_V]
    refine ⟨h0, h1, fun v hv => ?_⟩
    obtain ⟨⟨v1, v2⟩, v3⟩ := wv_e hv
    obtain ⟨v4, v5, v6, v7⟩ := v3.resolve_left (by omega)
    rw [v4, v7]
    have h0' := h0
    obtain ⟨g0, g1⟩ := h0'
    have a1 : 1 ≤ wmF S a 0 := mn_ge (by omega) (fun j hj _ => (g1 j (by omega)).2.1.1)
    have a2 : wmF S a 0 ≤ 2001 := mn_le
    have a3 : wxL S a 0 ≤ 2000 := mx_le (by omega) (fun j hj _ => (g1 j (by omega)).2.2.1.2)
    exact lpG2 l Q (wxL S a 0 - wmF S a 0 + 1).toNat S v a 0 0 _ _ (by omega) h0 h1 (by omega) h3
  · exact h.elim
