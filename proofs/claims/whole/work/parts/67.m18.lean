/-! THE REFERENCE: prints -/
noncomputable def ptE (S : aS) (a : Int) (p : Nat) : List Int := @ite _ (S.1 269 p = a ∧ ¬ S.1 270 p = -1) (Classical.propDecidable _) (62 :: (wd8L (S.2 263 (5 * S.1 267 (S.1 270 p).toNat).toNat) ++ (32 :: mkM S (S.1 270 p)))) []
noncomputable def ptM (S : aS) (a : Int) : Nat → Nat → List Int
  | 0, _ => []
  | n + 1, p => ptE S a p ++ ptM S a n (p + 1)
noncomputable def wtL (S : aS) (a : Int) : List Int := wiL (wcM S a 0) (wmF S a 0) (wmL S a 0)
noncomputable def prL (S : aS) (a : Int) : List Int := 32 :: (mkM S a ++ (wtL S a ++ ptM S a (S.1 245 29).toNat 0))
/-- what printing needs of the reference's cells -/
def pqP (S : aS) : Prop := wok S ∧ chA S ∧ (0 ≤ S.1 245 29 ∧ S.1 245 29 ≤ 20) ∧ (∀ p : Nat, (p : Int) < S.1 245 29 → S.1 270 p = -1 ∨ (0 ≤ S.1 270 p ∧ S.1 270 p < 40 ∧ ¬ S.1 266 (S.1 270 p).toNat = 0)) ∧ (∀ t : Nat, t < 40 → ¬ S.1 266 t = 0 → (0 ≤ S.1 267 t ∧ S.1 267 t < 12) ∧ wrd8 (S.2 263 (5 * S.1 267 t).toNat)) ∧ 0 ≤ S.1 245 42
theorem pqP_P {S : aS} {l : List Int} {v u : Nat → Int} (h : 0 ≤ S.1 245 42) : pqP (prM S l v u) ↔ pqP S := by
  have e : (prM S l v u).1 245 42 = S.1 245 42 + l.length := rfl
  refine ⟨fun ⟨a, b, c, d, f, g⟩ => ⟨a, b, c, d, f, h⟩, fun ⟨a, b, c, d, f, g⟩ => ⟨a, b, c, d, f, by rw [e]; omega⟩⟩
theorem wd8L_len {w : Int} : ((wd8L w).length : Int) = sz8 8 w := by
  have := sz8_b 8 w
  unfold wd8L
  rw [wl8_len]; omega
def spX12_prints : aSp := fun as S Q => match as with
  | [.inr (.inr 245), .inl a] => pqP S ∧ (0 ≤ a ∧ a < 40 ∧ ¬ S.1 266 a.toNat = 0) ∧ S.1 245 42 + ((prL S a).length : Int) ≤ 20000 ∧ ∀ v u, Q none (prM S (prL S a) v u)
  | _ => False
def tbX12_prints : aTb := (fX12, pX12, fun j => lk [(230, (some 12), 3, spX12_witnesses), (275, (some 12), 2, spX12_puts), (278, (some 12), 2, spX12_number), (281, (some 12), 2, spX12_mark), (284, (some 12), 2, spX12_letters)] j, kX12)
theorem tbX12_prints_f : tbX12_prints.1 = fX12 := rfl
theorem tbX12_prints_p : tbX12_prints.2.1 = pX12 := rfl
theorem tbX12_prints_k : tbX12_prints.2.2.2 = kX12 := rfl
theorem tbX12_prints_c230 : tbX12_prints.2.2.1 230 = some ((some 12), 3, spX12_witnesses) := rfl
theorem tbX12_prints_c275 : tbX12_prints.2.2.1 275 = some ((some 12), 2, spX12_puts) := rfl
theorem tbX12_prints_c278 : tbX12_prints.2.2.1 278 = some ((some 12), 2, spX12_number) := rfl
theorem tbX12_prints_c281 : tbX12_prints.2.2.1 281 = some ((some 12), 2, spX12_mark) := rfl
theorem tbX12_prints_c284 : tbX12_prints.2.2.1 284 = some ((some 12), 2, spX12_letters) := rfl
theorem tbX12_prints_all (l : Launch) : ∀ e ∈ ([(230, (some 12), 3, spX12_witnesses), (275, (some 12), 2, spX12_puts), (278, (some 12), 2, spX12_number), (281, (some 12), 2, spX12_mark), (284, (some 12), 2, spX12_letters)] : List (Nat × Option Nat × Nat × aSp)), cOK l mX12_prints e.1 e.2.1 e.2.2.1 e.2.2.2 ∨ mOK mX12_prints e.1 e.2.1 e.2.2.1 e.2.2.2 := all_cons (cOK_of (okX12_witnesses l) meX12_witnesses cfX12_230 (by decide) (by decide)) (all_cons (cOK_of (okX12_puts l) meX12_puts cfX12_275 (by decide) (by decide)) (all_cons (cOK_of (okX12_number l) meX12_number cfX12_278 (by decide) (by decide)) (all_cons (cOK_of (okX12_mark l) meX12_mark cfX12_281 (by decide) (by decide)) (all_cons (cOK_of (okX12_letters l) meX12_letters cfX12_284 (by decide) (by decide)) (all_nil)))))
theorem tbX12_prints_ok (l : Launch) : tOK l mX12_prints tbX12_prints := ⟨fX12_ok, pX12_ok, fun _ _ _ _ h => tbX12_prints_all l _ (lk_mem h), kX12_ok⟩
set_option maxRecDepth 20000 in
set_option maxHeartbeats 4000000 in
theorem lpP1 (l : Launch) (Q : Option aV → aS → Prop) : ∀ (n : Nat) (S : aS) (a c d : Int) (L : List Int) (v u : Nat → Int) (p : Nat), p + n = (S.1 245 29).toNat → pqP S → S.1 245 42 + ((L.length + (ptM S a n p).length : Nat) : Int) ≤ 20000 → (∀ v u, Q none (prM S (L ++ ptM S a n p) v u)) → aGo l mX12_prints Q 84 [(0, .inr (.inr 245)), (1, .inl a), (2, .inl c), (3, .inl d), (4, .inl (p : Int))] [] (prM S L v u) := by
  intro n
  induction n using Nat.strongRecOn with
  | _ n ih =>
  intro S  a c d  L  v u  p  h0 h1 h2 h3
  refine wp_go (tbX12_prints_ok l) (fun pc => pc == 84) 94 dX12_prints_84 ?_
  show ws1 tbX12_prints 5 none Q (wp cX12_prints tbX12_prints 5 none Q (fun pc => pc == 84) (aGo l mX12_prints Q) 94) (.iload 4) 2 84 [(0, .inr (.inr 245)), (1, .inl a), (2, .inl c), (3, .inl d), (4, .inl (p : Int))] [] (prM S L v u)
  simp only [wp_s, wpC_f, wpC_t, e_wLd, e_wLd0, e_wLd1, e_wLd2, e_get1, e_get2, e_wJ, e_wJo, f40, f41, f42, f43, Nat.reduceAdd, Nat.reduceBEq, Nat.reduceMul, eq_self, true_or, or_true, true_and, dX12_prints_0, dX12_prints_1, dX12_prints_3, dX12_prints_6, dX12_prints_7, dX12_prints_8, dX12_prints_11, dX12_prints_12, dX12_prints_14, dX12_prints_17, dX12_prints_18, dX12_prints_19, dX12_prints_20, dX12_prints_23, dX12_prints_24, dX12_prints_27, dX12_prints_28, dX12_prints_29, dX12_prints_32, dX12_prints_33, dX12_prints_34, dX12_prints_37, dX12_prints_38, dX12_prints_39, dX12_prints_42, dX12_prints_45, dX12_prints_46, dX12_prints_47, dX12_prints_50, dX12_prints_53, dX12_prints_54, dX12_prints_56, dX12_prints_59, dX12_prints_60, dX12_prints_61, dX12_prints_64, dX12_prints_65, dX12_prints_67, dX12_prints_70, dX12_prints_71, dX12_prints_72, dX12_prints_75, dX12_prints_76, dX12_prints_78, dX12_prints_81, dX12_prints_82, dX12_prints_84, dX12_prints_86, dX12_prints_87, dX12_prints_90, dX12_prints_93, dX12_prints_94, dX12_prints_97, dX12_prints_99, dX12_prints_100, dX12_prints_101, dX12_prints_104, dX12_prints_105, dX12_prints_108, dX12_prints_110, dX12_prints_111, dX12_prints_112, dX12_prints_115, dX12_prints_118, dX12_prints_119, dX12_prints_121, dX12_prints_124, dX12_prints_125, dX12_prints_126, dX12_prints_129, dX12_prints_130, dX12_prints_131, dX12_prints_134, dX12_prints_135, dX12_prints_138, dX12_prints_140, dX12_prints_141, dX12_prints_142, dX12_prints_143, dX12_prints_144, dX12_prints_147, dX12_prints_148, dX12_prints_150, dX12_prints_153, dX12_prints_154, dX12_prints_155, dX12_prints_158, dX12_prints_160, dX12_prints_161, dX12_prints_164, dX12_prints_167, dX12_prints_170, e_aload_n, e_iload_n, e_iload, e_istore_n, e_istore, e_iconst, e_bipush, e_imul, e_iinc, e_ifCond, e_if_icmp, e_goto, e_getfield, e_iaload, e_laload, e_invokevirtual, e_return_, e_wSt0, e_wSt1, e_wSt2, e_isL0, e_isL1, e_isL2, e_lset, e_lclr0, e_lclr1, e_lclr2, e_lput0, e_lput1, e_lput2, e_wInc, e_wInc0, Nat.reduceLT, not_false_eq_true, Bool.or_false, Bool.false_or, Bool.or_true, Bool.true_or, Bool.and_false, Bool.false_and, Bool.and_true, Bool.true_and, e_rv, e_wI2, e_wIc_ne, e_wIc_ge, e_wIf_le, e_wIc_eq, bp_32, bp_40, bp_41, bp_44, bp_45, bp_62, fX12_196, fX12_211, fX12_218, fX12_221, fX12_64, fX12_76, fX12_82, fX12_85, ic_0, ic_5, ic_m1, jt_101_63, jt_112_6, jt_115_49, jt_167_m83, jt_34_36, jt_50_14, jt_90_80, e_call, e_callS0, e_callS1, e_callS2, e_callS3, e_callS4, e_pop0, e_pop1, e_tl0, e_tl1, tbX12_prints_f, tbX12_prints_p, tbX12_prints_k, tbX12_prints_c230, tbX12_prints_c275, tbX12_prints_c278, tbX12_prints_c281, tbX12_prints_c284, g_245_27, g_245_30, g_245_33, g_245_23, l_267, g_245_29, l_270, g_245_32, cv_245_0, cv_245_1, cv_245_2, cv_245_3, cv_245_4, l_269, l_263, g_245_34, g_245_31, spX12_mark, spX12_number, spX12_letters, spX12_witnesses, spPu_e]
  have h1' := h1
  obtain ⟨g1, g2, g3, g4, g5, g6⟩ := h1'
  simp (disch := decide) only [pr_sv, pr_u, pr_v, pr_c g6, pr_w, pr_2, pr_up, wok_P, paM_P, wcM_P, wmF_P, wmL_P, wvP_P, mkM_P, atM_P, pr_a, pr_f, pr_vv, List.append_assoc]
  simp (disch := omega) only [wI_id, Int.toNat_natCast]
  rcases n with _ | n
  · have z := h3 v u
    rw [show ptM S a 0 p = [] from rfl, List.append_nil] at z
    exact ⟨fun _ => z, fun q => absurd q (by omega)⟩
  · unfold ptM at h2 h3
    simp only [List.length_append] at h2
    have no : ¬ (S.1 269 p = a ∧ ¬ S.1 270 p = -1) → aGo l mX12_prints Q 84 [(0, .inr (.inr 245)), (1, .inl a), (2, .inl c), (3, .inl d), (4, .inl ((p : Int) + 1))] [] (prM S L v u) := fun z => by
      have e : ptE S a p = [] := if_neg z
      rw [e] at h2 h3
      exact ih n (by omega) S a c d L v u (p + 1) (by omega) h1 (by simpa using h2) (by simpa using h3)
    refine ⟨fun q => absurd q (by omega), fun q => ⟨by omega, by omega, fun q1 => no (fun z => q1 z.1), fun q1 => ⟨by omega, by omega, fun q2 => ?_, fun q2 => no (fun z => z.2 q2)⟩⟩⟩
    have e : ptE S a p = 62 :: (wd8L (S.2 263 (5 * S.1 267 (S.1 270 p).toNat).toNat) ++ (32 :: mkM S (S.1 270 p))) := if_pos ⟨q1, q2⟩
    rw [e] at h2 h3
    simp only [List.length_cons, List.length_append] at h2
    obtain ⟨k1, k2, k3⟩ := (g4 p (by omega)).resolve_left q2
    obtain ⟨k4, k5⟩ := g5 (S.1 270 p).toNat (by omega) k3
    have k6 := g2 (S.1 270 p).toNat (by omega) k3
    rw [show (((S.1 270 p).toNat : Nat) : Int) = S.1 270 p from by omega] at k6
    have k7 := wd8L_len (w := S.2 263 (5 * S.1 267 (S.1 270 p).toNat).toNat)
    have e5 : wI (5 * S.1 267 (S.1 270 p).toNat) = 5 * S.1 267 (S.1 270 p).toNat := wI_id (by omega) (by omega)
    simp only [e5, List.length_append, List.length_cons, List.length_nil]
    refine ⟨by omega, by omega, by omega, by omega, by omega, by omega, by omega, by omega, k5, by omega, by omega, by omega, by omega, by omega, by omega, g1, k6, by omega, by omega, fun v u => ?_⟩
    refine ih n (by omega) S a c d _ v u (p + 1) (by omega) h1 (by simp only [List.length_append, List.length_cons, List.length_nil]; omega) (fun v u => ?_)
    have z := h3 v u
    simp only [List.append_assoc, List.cons_append, List.nil_append] at z ⊢
    exact z
set_option maxRecDepth 20000 in
set_option maxHeartbeats 4000000 in
theorem okX12_prints (l : Launch) : aOK l mX12_prints spX12_prints := by
  refine aOK_of rfl fun as S Q h => ?_
  unfold spX12_prints at h
  split at h
  · rename_i a
    refine ⟨Nat.le_of_ble_eq_true rfl, wp_ok (tbX12_prints_ok l) Q (fun pc => pc == 84) 94 0 _ [] S ?_⟩
    show wp cX12_prints tbX12_prints 5 none Q (fun pc => pc == 84) (aGo l mX12_prints Q) 94 0 [(0, .inr (.inr 245)), (1, .inl a)] [] S
    simp only [wp_s, wpC_f, wpC_t, e_wLd, e_wLd0, e_wLd1, e_wLd2, e_get1, e_get2, e_wJ, e_wJo, f40, f41, f42, f43, Nat.reduceAdd, Nat.reduceBEq, Nat.reduceMul, eq_self, true_or, or_true, true_and, dX12_prints_0, dX12_prints_1, dX12_prints_3, dX12_prints_6, dX12_prints_7, dX12_prints_8, dX12_prints_11, dX12_prints_12, dX12_prints_14, dX12_prints_17, dX12_prints_18, dX12_prints_19, dX12_prints_20, dX12_prints_23, dX12_prints_24, dX12_prints_27, dX12_prints_28, dX12_prints_29, dX12_prints_32, dX12_prints_33, dX12_prints_34, dX12_prints_37, dX12_prints_38, dX12_prints_39, dX12_prints_42, dX12_prints_45, dX12_prints_46, dX12_prints_47, dX12_prints_50, dX12_prints_53, dX12_prints_54, dX12_prints_56, dX12_prints_59, dX12_prints_60, dX12_prints_61, dX12_prints_64, dX12_prints_65, dX12_prints_67, dX12_prints_70, dX12_prints_71, dX12_prints_72, dX12_prints_75, dX12_prints_76, dX12_prints_78, dX12_prints_81, dX12_prints_82, dX12_prints_84, dX12_prints_86, dX12_prints_87, dX12_prints_90, dX12_prints_93, dX12_prints_94, dX12_prints_97, dX12_prints_99, dX12_prints_100, dX12_prints_101, dX12_prints_104, dX12_prints_105, dX12_prints_108, dX12_prints_110, dX12_prints_111, dX12_prints_112, dX12_prints_115, dX12_prints_118, dX12_prints_119, dX12_prints_121, dX12_prints_124, dX12_prints_125, dX12_prints_126, dX12_prints_129, dX12_prints_130, dX12_prints_131, dX12_prints_134, dX12_prints_135, dX12_prints_138, dX12_prints_140, dX12_prints_141, dX12_prints_142, dX12_prints_143, dX12_prints_144, dX12_prints_147, dX12_prints_148, dX12_prints_150, dX12_prints_153, dX12_prints_154, dX12_prints_155, dX12_prints_158, dX12_prints_160, dX12_prints_161, dX12_prints_164, dX12_prints_167, dX12_prints_170, e_aload_n, e_iload_n, e_iload, e_istore_n, e_istore, e_iconst, e_bipush, e_imul, e_iinc, e_ifCond, e_if_icmp, e_goto, e_getfield, e_iaload, e_laload, e_invokevirtual, e_return_, e_wSt0, e_wSt1, e_wSt2, e_isL0, e_isL1, e_isL2, e_lset, e_lclr0, e_lclr1, e_lclr2, e_lput0, e_lput1, e_lput2, e_wInc, e_wInc0, Nat.reduceLT, not_false_eq_true, Bool.or_false, Bool.false_or, Bool.or_true, Bool.true_or, Bool.and_false, Bool.false_and, Bool.and_true, Bool.true_and, e_rv, e_wI2, e_wIc_ne, e_wIc_ge, e_wIf_le, e_wIc_eq, bp_32, bp_40, bp_41, bp_44, bp_45, bp_62, fX12_196, fX12_211, fX12_218, fX12_221, fX12_64, fX12_76, fX12_82, fX12_85, ic_0, ic_5, ic_m1, jt_101_63, jt_112_6, jt_115_49, jt_167_m83, jt_34_36, jt_50_14, jt_90_80, e_call, e_callS0, e_callS1, e_callS2, e_callS3, e_callS4, e_pop0, e_pop1, e_tl0, e_tl1, tbX12_prints_f, tbX12_prints_p, tbX12_prints_k, tbX12_prints_c230, tbX12_prints_c275, tbX12_prints_c278, tbX12_prints_c281, tbX12_prints_c284, g_245_27, g_245_30, g_245_33, g_245_23, l_267, g_245_29, l_270, g_245_32, cv_245_0, cv_245_1, cv_245_2, cv_245_3, cv_245_4, l_269, l_263, g_245_34, g_245_31, spX12_mark, spX12_number, spX12_letters, spX12_witnesses, spPu_e]
    obtain ⟨h0, hs, h1, h2⟩ := h
    have h0' := h0
    obtain ⟨g1, g2, g3, g4, g5, g6⟩ := h0'
    have hc := g2 a.toNat (by omega) hs.2.2
    rw [show ((a.toNat : Nat) : Int) = a from by omega] at hc
    have ew : ∀ b : Int, upI (upI S 274 (S.1 245 42).toNat (narB (narB b))) 245 42 (S.1 245 42 + 1) = prM S [b] (S.1 245) (S.1 275) := fun b => pr_1 g6
    simp (disch := decide) only [pr_sv, pr_u, pr_v, pr_c g6, pr_w, pr_2, pr_up, wok_P, paM_P, wcM_P, wmF_P, wmL_P, wvP_P, mkM_P, atM_P, pr_a, pr_f, pr_vv, List.append_assoc]
    have hL : (prL S a).length = 1 + (mkM S a).length + (wtL S a).length + (ptM S a (S.1 245 29).toNat 0).length := by
      unfold prL
      simp only [List.length_cons, List.length_append]
      omega
    have go : ∀ (L : List Int) (c d : Int) (v u : Nat → Int), prL S a = L ++ ptM S a (S.1 245 29).toNat 0 → aGo l mX12_prints Q 84 [(0, .inr (.inr 245)), (1, .inl a), (2, .inl c), (3, .inl d), (4, .inl 0)] [] (prM S L v u) := fun L c d v u e => lpP1 l Q (S.1 245 29).toNat S a c d L v u 0 (Nat.zero_add _) h0 (by rw [e] at h1; simpa only [List.length_append] using h1) (fun v u => by rw [← e]; exact h2 v u)
    have hw3 : 3 ≤ (wtL S a).length := by
      have := dgt_len (n := wcM S a 0)
      unfold wtL wiL dgt
      simp only [List.length_cons, List.length_append, List.length_nil]
      omega
    clear h2
    simp only [List.length_append, List.length_cons, List.length_nil]
    refine ⟨g6, by omega, g1, hc, by omega, by omega, fun v0 u => ⟨by omega, by omega, g1, by omega, fun v hv => ?_⟩⟩
    obtain ⟨⟨v1, v2⟩, v3⟩ := wv_e hv
    have a1 : 1 ≤ wmF S a 0 := mn_ge (by omega) (fun j hj _ => (g1.2 j (by omega)).2.1.1)
    have a2 : wmF S a 0 ≤ 2001 := mn_le
    have a3 : 1 ≤ wmL S a 0 := mn_ge (by omega) (fun j hj _ => (g1.2 j (by omega)).2.2.1.1)
    have a4 : wmL S a 0 ≤ 2001 := mn_le
    have a5 : wcM S a 0 ≤ 120 := by
      have := (cnt_b (fun j => cb (witP S a 0 j)) (S.1 245 12).toNat).2
      have := g1.1
      show cnt (fun j => cb (witP S a 0 j)) (S.1 245 12).toNat ≤ 120
      omega
    clear hv
    by_cases c1 : 0 < v 32
    · obtain ⟨v4, v5, _, _⟩ := v3.resolve_left (by omega)
      clear v3
      by_cases c2 : v 34 = v 33
      · have e : wtL S a = [40] ++ (dgt (v 33) ++ ([44] ++ (dgt (v 32) ++ [41]))) := by
          unfold wtL wiL
          rw [if_pos (by omega), if_pos (by omega), ← v1, ← v4]
          simp only [List.append_assoc, List.cons_append, List.nil_append]
        have e2 : prL S a = ([32] ++ (mkM S a ++ ([40] ++ (dgt (v 33) ++ ([44] ++ (dgt (v 32) ++ [41])))))) ++ ptM S a (S.1 245 29).toNat 0 := by
          unfold prL
          rw [e]
          simp only [List.append_assoc, List.cons_append, List.nil_append]
        have hw := congrArg List.length e
        simp only [List.length_append, List.length_cons, List.length_nil] at hw
        repeat' (with_reducible first | intro _ | refine And.intro ?_ ?_)
        all_goals first
          | omega
          | contradiction
          | exact go _ _ _ _ _ e2
          | skip
      · have e : wtL S a = [40] ++ (dgt (v 33) ++ ([45] ++ (dgt (v 34) ++ ([44] ++ (dgt (v 32) ++ [41]))))) := by
          unfold wtL wiL
          rw [if_pos (by omega), if_neg (by omega), ← v1, ← v4, ← v5]
          simp only [List.append_assoc, List.cons_append, List.nil_append]
        have e2 : prL S a = ([32] ++ (mkM S a ++ ([40] ++ (dgt (v 33) ++ ([45] ++ (dgt (v 34) ++ ([44] ++ (dgt (v 32) ++ [41])))))))) ++ ptM S a (S.1 245 29).toNat 0 := by
          unfold prL
          rw [e]
          simp only [List.append_assoc, List.cons_append, List.nil_append]
        have hw := congrArg List.length e
        simp only [List.length_append, List.length_cons, List.length_nil] at hw
        repeat' (with_reducible first | intro _ | refine And.intro ?_ ?_)
        all_goals first
          | omega
          | contradiction
          | exact go _ _ _ _ _ e2
          | skip
    · have e : wtL S a = [40] ++ (dgt (v 32) ++ [41]) := by
        unfold wtL wiL
        rw [if_neg (by omega), ← v1]
        simp only [List.append_assoc, List.cons_append, List.nil_append]
      have e2 : prL S a = ([32] ++ (mkM S a ++ ([40] ++ (dgt (v 32) ++ [41])))) ++ ptM S a (S.1 245 29).toNat 0 := by
        unfold prL
        rw [e]
        simp only [List.append_assoc, List.cons_append, List.nil_append]
      have hw := congrArg List.length e
      simp only [List.length_append, List.length_cons, List.length_nil] at hw
      repeat' (with_reducible first | intro _ | refine And.intro ?_ ?_)
      all_goals first
        | omega
        | contradiction
        | exact go _ _ _ _ _ e2
        | skip
  · exact h.elim
