/-! THE REFERENCE: where, count -/
def spX12_where : aSp := fun as S Q => match as with
  | [.inr (.inr 245), .inl s, .inl w] => kwP S ∧ ((0 ≤ s ∧ s < S.1 245 12) → wrd8 (S.2 258 s.toNat)) ∧ inI w ∧ (¬ (0 ≤ s ∧ s < S.1 245 12) → Q (some (.inl (-1))) S) ∧ ((0 ≤ s ∧ s < S.1 245 12) → (w = 0 → Q (some (.inl (S.1 256 s.toNat))) S) ∧ (w = 1 → Q (some (.inl (S.1 257 s.toNat))) S) ∧ (w = 2 → ∀ g, knX S g → Q (some (.inl (bi (dbM S s.toNat)))) (stA S 259 g)) ∧ (w = 3 → Q (some (.inl (S.1 255 s.toNat))) S) ∧ (w = 4 → Q (some (.inl (sz8 8 (S.2 258 s.toNat)))) S) ∧ (10 ≤ w ∧ w < 10 + sz8 8 (S.2 258 s.toNat) → Q (some (.inl (bAnd (wI (lUshr (S.2 258 s.toNat) (8 * (sz8 8 (S.2 258 s.toNat) - 1 - (w - 10))))) 255))) S) ∧ (w < 0 ∨ (4 < w ∧ w < 10) ∨ 10 + sz8 8 (S.2 258 s.toNat) ≤ w → Q (some (.inl (-1))) S))
  | _ => False
def tbX12_where : aTb := (fX12, pX12, fun j => lk [(158, none, 1, spX12_size), (183, (some 12), 2, spX12_isSlip), (255, (some 12), 2, spX12_isDoubted), (258, none, 2, spX12_byteOf)] j, kX12)
theorem tbX12_where_f : tbX12_where.1 = fX12 := rfl
theorem tbX12_where_p : tbX12_where.2.1 = pX12 := rfl
theorem tbX12_where_k : tbX12_where.2.2.2 = kX12 := rfl
theorem tbX12_where_c158 : tbX12_where.2.2.1 158 = some (none, 1, spX12_size) := rfl
theorem tbX12_where_c183 : tbX12_where.2.2.1 183 = some ((some 12), 2, spX12_isSlip) := rfl
theorem tbX12_where_c255 : tbX12_where.2.2.1 255 = some ((some 12), 2, spX12_isDoubted) := rfl
theorem tbX12_where_c258 : tbX12_where.2.2.1 258 = some (none, 2, spX12_byteOf) := rfl
theorem tbX12_where_all (l : Launch) : ∀ e ∈ ([(158, none, 1, spX12_size), (183, (some 12), 2, spX12_isSlip), (255, (some 12), 2, spX12_isDoubted), (258, none, 2, spX12_byteOf)] : List (Nat × Option Nat × Nat × aSp)), cOK l mX12_where e.1 e.2.1 e.2.2.1 e.2.2.2 ∨ mOK mX12_where e.1 e.2.1 e.2.2.1 e.2.2.2 := all_cons (cOK_of (okX12_size l) meX12_size cfX12_158 (by decide) (by decide)) (all_cons (cOK_of (okX12_isSlip l) meX12_isSlip cfX12_183 (by decide) (by decide)) (all_cons (cOK_of (okX12_isDoubted l) meX12_isDoubted cfX12_255 (by decide) (by decide)) (all_cons (cOK_of (okX12_byteOf l) meX12_byteOf cfX12_258 (by decide) (by decide)) (all_nil))))
theorem tbX12_where_ok (l : Launch) : tOK l mX12_where tbX12_where := ⟨fX12_ok, pX12_ok, fun _ _ _ _ h => tbX12_where_all l _ (lk_mem h), kX12_ok⟩
set_option maxRecDepth 20000 in
set_option maxHeartbeats 4000000 in
theorem okX12_where (l : Launch) : aOK l mX12_where spX12_where := by
  refine aOK_of rfl fun as S Q h => ?_
  unfold spX12_where at h
  split at h
  · rename_i s w
    refine ⟨Nat.le_of_ble_eq_true rfl, wp_ok (tbX12_where_ok l) Q (fun pc => false) 62 0 _ [] S ?_⟩
    show wp cX12_where tbX12_where 3 (some .int) Q (fun pc => false) (aGo l mX12_where Q) 62 0 [(0, .inr (.inr 245)), (1, .inl s), (2, .inl w)] [] S
    simp only [wp_s, wpC_f, wpC_t, e_wLd, e_wLd0, e_wLd1, e_wLd2, e_get1, e_get2, e_wJ, e_wJo, f40, f41, f42, f43, Nat.reduceAdd, Nat.reduceBEq, Nat.reduceMul, eq_self, true_or, or_true, true_and, dX12_where_0, dX12_where_1, dX12_where_2, dX12_where_5, dX12_where_8, dX12_where_9, dX12_where_10, dX12_where_11, dX12_where_44, dX12_where_45, dX12_where_48, dX12_where_49, dX12_where_50, dX12_where_51, dX12_where_52, dX12_where_55, dX12_where_56, dX12_where_57, dX12_where_58, dX12_where_59, dX12_where_60, dX12_where_63, dX12_where_66, dX12_where_67, dX12_where_70, dX12_where_71, dX12_where_72, dX12_where_73, dX12_where_76, dX12_where_77, dX12_where_78, dX12_where_79, dX12_where_80, dX12_where_83, dX12_where_84, dX12_where_85, dX12_where_88, dX12_where_89, dX12_where_90, dX12_where_92, dX12_where_95, dX12_where_96, dX12_where_98, dX12_where_99, dX12_where_102, dX12_where_103, dX12_where_104, dX12_where_107, dX12_where_108, dX12_where_111, dX12_where_112, dX12_where_115, dX12_where_116, dX12_where_117, dX12_where_118, dX12_where_120, dX12_where_121, dX12_where_124, dX12_where_127, dX12_where_128, e_aload_n, e_iload_n, e_iconst, e_bipush, e_iadd, e_isub, e_ifCond, e_if_icmp, e_goto, e_tableswitch, e_getfield, e_iaload, e_laload, e_invokevirtual, e_invokestatic, e_ireturn, e_tsw, e_tsw0, e_tsw1, e_wI2, e_ri, e_rz, e_wIc_ge, e_wIf_ne, e_wIf_eq, e_wIc_lt, bp_10, fX12_39, fX12_42, fX12_45, fX12_48, ic_0, ic_1, ic_m1, jt_108_19, jt_11_33, jt_11_40, jt_11_47, jt_11_61, jt_11_68, jt_11_78, jt_124_4, jt_5_5, jt_63_7, jt_67_4, jt_92_35, e_call, e_callS0, e_callS1, e_callS2, e_callS3, e_callS4, e_pop0, e_pop1, e_tl0, e_tl1, tbX12_where_f, tbX12_where_p, tbX12_where_k, tbX12_where_c158, tbX12_where_c183, tbX12_where_c255, tbX12_where_c258, l_258, g_245_17, cv_245_0, cv_245_1, cv_245_2, cv_245_3, cv_245_4, l_257, g_245_16, l_256, g_245_15, g_245_18, l_255, spX12_isSlip, spX12_isDoubted, spX12_size, spX12_byteOf, bi_0, bi_1, ne_eq, Classical.not_not, em_r, em_l]
    obtain ⟨h0, h1, hw, hA, hB⟩ := h
    have b12 := h0.2.1
    unfold inI at hw
    by_cases hs : (0 ≤ s ∧ s < S.1 245 12)
    · obtain ⟨k0, k1, k2, k3, k4, k10, kn⟩ := hB hs
      have hd := h1 hs
      have hb := sz8_b 8 (S.2 258 s.toNat)
      clear hA hB h1
      have e1 : wI (10 + sz8 8 (S.2 258 s.toNat)) = 10 + sz8 8 (S.2 258 s.toNat) := wI_id (by omega) (by omega)
      have e2 : 10 ≤ w → wI (w - 10) = w - 10 := fun q => wI_id (by omega) (by omega)
      replace e2 := hid e2
      generalize hz : sz8 8 (S.2 258 s.toNat) = z at *
      replace k0 := hid k0
      replace k1 := hid k1
      replace k2 := hid k2
      replace k3 := hid k3
      replace k4 := hid k4
      replace k10 := hid k10
      replace kn := hid kn
      have h0' := hid (fun _ : True => h0)
      have hd' := hid (fun _ : True => hd)
      clear h0 hd
      simp only [e1]
      repeat' (with_reducible first | intro _ | refine And.intro ?_ ?_)
      all_goals first
        | omega
        | decide
        | exact h0' trivial
        | exact hd' trivial
        | exact k0 (by omega)
        | exact k1 (by omega)
        | exact k3 (by omega)
        | exact k4 (by omega)
        | exact kn (by omega)
        | (have y := k2 (by omega) _ (by assumption); rw [bi_t (by assumption)] at y; exact y)
        | (have y := k2 (by omega) _ (by assumption); rw [bi_f (by assumption)] at y; exact y)
        | (rw [e2 (by omega)]; exact k10 (by omega))
        | (rw [e2 (by omega)]; omega)
        | skip
    · exact ⟨fun q => absurd q hs, fun _ => hA hs⟩
  · exact h.elim
def spX12_count : aSp := fun as S Q => match as with
  | [.inr (.inr 245), .inl w] => kwP S ∧ wok S ∧ chA S ∧ (0 ≤ S.1 245 29 ∧ S.1 245 29 ≤ 20) ∧ inI w ∧ (w = 0 → Q (some (.inl (S.1 245 3))) S) ∧ (w = 1 → Q (some (.inl (S.1 245 12))) S) ∧ (w = 2 → Q (some (.inl (S.1 245 13))) S) ∧ (w = 3 → Q (some (.inl (S.1 245 14))) S) ∧ (w = 4 → Q (some (.inl (cnt (fun j => S.1 266 j != 0) 40))) S) ∧ (w = 5 → Q (some (.inl (S.1 245 29))) S) ∧ (w = 6 → Q (some (.inl (cnt (fun j => S.1 270 j == -1) (S.1 245 29).toNat))) S) ∧ (w = 7 → Q (some (.inl (cnt (fun j => S.1 256 j == -1) (S.1 245 12).toNat))) S) ∧ (w = 9 → Q (some (.inl (S.1 245 37))) S) ∧ (w = 10 → Q (some (.inl (S.1 245 4))) S) ∧ (w = 12 → Q (some (.inl (S.1 245 2))) S) ∧ (w = 8 → ∀ g, knX S g → Q (some (.inl (cnt (fun j => cb (dbM S j)) (S.1 245 12).toNat))) (stA S 259 g)) ∧ (w = 11 → ∀ v, Q (some (.inl (nthE (flB S) (-1) 2560 0 0))) (stV S v)) ∧ (w < 0 ∨ 12 < w → ((20 ≤ w ∧ w < 20 + S.1 245 13) → Q (some (.inl (cnt (fun j => S.1 256 j == w - 20 && S.1 257 j == -1) (S.1 245 12).toNat))) S) ∧ (¬ (20 ≤ w ∧ w < 20 + S.1 245 13) → Q (some (.inl (-1))) S))
  | _ => False
def tbX12_count : aTb := (fX12, pX12, fun j => lk [(252, (some 12), 2, spX12_flaws), (255, (some 12), 2, spX12_isDoubted), (262, (some 12), 1, spX12_loosePointers), (295, (some 12), 2, spX12_heap)] j, kX12)
theorem tbX12_count_f : tbX12_count.1 = fX12 := rfl
theorem tbX12_count_p : tbX12_count.2.1 = pX12 := rfl
theorem tbX12_count_k : tbX12_count.2.2.2 = kX12 := rfl
theorem tbX12_count_c252 : tbX12_count.2.2.1 252 = some ((some 12), 2, spX12_flaws) := rfl
theorem tbX12_count_c255 : tbX12_count.2.2.1 255 = some ((some 12), 2, spX12_isDoubted) := rfl
theorem tbX12_count_c262 : tbX12_count.2.2.1 262 = some ((some 12), 1, spX12_loosePointers) := rfl
theorem tbX12_count_c295 : tbX12_count.2.2.1 295 = some ((some 12), 2, spX12_heap) := rfl
theorem tbX12_count_all (l : Launch) : ∀ e ∈ ([(252, (some 12), 2, spX12_flaws), (255, (some 12), 2, spX12_isDoubted), (262, (some 12), 1, spX12_loosePointers), (295, (some 12), 2, spX12_heap)] : List (Nat × Option Nat × Nat × aSp)), cOK l mX12_count e.1 e.2.1 e.2.2.1 e.2.2.2 ∨ mOK mX12_count e.1 e.2.1 e.2.2.1 e.2.2.2 := all_cons (cOK_of (okX12_flaws l) meX12_flaws cfX12_252 (by decide) (by decide)) (all_cons (cOK_of (okX12_isDoubted l) meX12_isDoubted cfX12_255 (by decide) (by decide)) (all_cons (cOK_of (okX12_loosePointers l) meX12_loosePointers cfX12_262 (by decide) (by decide)) (all_cons (cOK_of (okX12_heap l) meX12_heap cfX12_295 (by decide) (by decide)) (all_nil))))
theorem tbX12_count_ok (l : Launch) : tOK l mX12_count tbX12_count := ⟨fX12_ok, pX12_ok, fun _ _ _ _ h => tbX12_count_all l _ (lk_mem h), kX12_ok⟩
set_option maxRecDepth 20000 in
set_option maxHeartbeats 4000000 in
theorem lpC4 (l : Launch) (Q : Option aV → aS → Prop) : ∀ (n : Nat) (S : aS) (w : Int) (i : Nat), i + n = 40 → Q (some (.inl (cnt (fun j => S.1 266 j != 0) (40)))) S → True → aGo l mX12_count Q 90 [(0, .inr (.inr 245)), (1, .inl w), (2, .inl (cnt (fun j => S.1 266 j != 0) i)), (3, .inl (i : Int))] [] S := by
  intro n
  induction n using Nat.strongRecOn with
  | _ n ih =>
  intro S  w  i  h0 h1 h2
  refine wp_go (tbX12_count_ok l) (fun pc => pc == 90) 116 dX12_count_90 ?_
  show ws1 tbX12_count 4 (some .int) Q (wp cX12_count tbX12_count 4 (some .int) Q (fun pc => pc == 90) (aGo l mX12_count Q) 116) (.iload_n 3) 1 90 [(0, .inr (.inr 245)), (1, .inl w), (2, .inl (cnt (fun j => S.1 266 j != 0) i)), (3, .inl (i : Int))] [] S
  simp only [wp_s, wpC_f, wpC_t, e_wLd, e_wLd0, e_wLd1, e_wLd2, e_get1, e_get2, e_wJ, e_wJo, f40, f41, f42, f43, Nat.reduceAdd, Nat.reduceBEq, Nat.reduceMul, eq_self, true_or, or_true, true_and, dX12_count_0, dX12_count_1, dX12_count_2, dX12_count_3, dX12_count_68, dX12_count_69, dX12_count_72, dX12_count_73, dX12_count_74, dX12_count_77, dX12_count_78, dX12_count_79, dX12_count_82, dX12_count_83, dX12_count_84, dX12_count_87, dX12_count_88, dX12_count_89, dX12_count_90, dX12_count_91, dX12_count_93, dX12_count_96, dX12_count_97, dX12_count_98, dX12_count_101, dX12_count_102, dX12_count_103, dX12_count_106, dX12_count_107, dX12_count_110, dX12_count_111, dX12_count_112, dX12_count_113, dX12_count_116, dX12_count_119, dX12_count_120, dX12_count_121, dX12_count_122, dX12_count_125, dX12_count_126, dX12_count_127, dX12_count_130, dX12_count_131, dX12_count_132, dX12_count_133, dX12_count_134, dX12_count_135, dX12_count_138, dX12_count_141, dX12_count_142, dX12_count_143, dX12_count_146, dX12_count_147, dX12_count_148, dX12_count_149, dX12_count_152, dX12_count_153, dX12_count_156, dX12_count_157, dX12_count_158, dX12_count_159, dX12_count_162, dX12_count_165, dX12_count_166, dX12_count_167, dX12_count_168, dX12_count_169, dX12_count_170, dX12_count_171, dX12_count_174, dX12_count_177, dX12_count_178, dX12_count_179, dX12_count_180, dX12_count_183, dX12_count_186, dX12_count_187, dX12_count_190, dX12_count_191, dX12_count_192, dX12_count_193, dX12_count_196, dX12_count_199, dX12_count_200, dX12_count_201, dX12_count_202, dX12_count_205, dX12_count_206, dX12_count_207, dX12_count_210, dX12_count_211, dX12_count_212, dX12_count_213, dX12_count_216, dX12_count_217, dX12_count_218, dX12_count_221, dX12_count_222, dX12_count_223, dX12_count_225, dX12_count_228, dX12_count_229, dX12_count_231, dX12_count_232, dX12_count_235, dX12_count_236, dX12_count_239, dX12_count_240, dX12_count_241, dX12_count_243, dX12_count_244, dX12_count_247, dX12_count_250, dX12_count_251, e_aload_n, e_iload_n, e_istore_n, e_iconst, e_bipush, e_iadd, e_isub, e_iinc, e_ifCond, e_if_icmp, e_goto, e_tableswitch, e_getfield, e_iaload, e_baload, e_invokevirtual, e_ireturn, e_wSt0, e_wSt1, e_wSt2, e_isL0, e_isL1, e_isL2, e_lset, e_lclr0, e_lclr1, e_lclr2, e_lput0, e_lput1, e_lput2, e_wInc, e_wInc0, Nat.reduceLT, not_false_eq_true, Bool.or_false, Bool.false_or, Bool.or_true, Bool.true_or, Bool.and_false, Bool.false_and, Bool.and_true, Bool.true_and, e_tsw, e_tsw0, e_tsw1, e_wI2, e_ri, e_rz, e_wIc_ge, e_wIc_lt, e_wIf_eq, e_wIc_ne, bp_20, bp_40, fX12_103, fX12_111, fX12_122, fX12_132, fX12_145, fX12_155, fX12_196, fX12_266, fX12_42, fX12_73, ic_0, ic_1, ic_m1, jt_103_7, jt_107_4, jt_116_m26, jt_138_27, jt_149_7, jt_153_4, jt_162_m29, jt_174_25, jt_183_7, jt_187_4, jt_196_m27, jt_225_25, jt_236_14, jt_247_4, jt_3_118, jt_3_123, jt_3_128, jt_3_164, jt_3_198, jt_3_203, jt_3_208, jt_3_214, jt_3_219, jt_3_65, jt_3_70, jt_3_75, jt_3_80, jt_3_85, jt_93_26, e_call, e_callS0, e_callS1, e_callS2, e_callS3, e_callS4, e_pop0, e_pop1, e_tl0, e_tl1, tbX12_count_f, tbX12_count_p, tbX12_count_k, tbX12_count_c252, tbX12_count_c255, tbX12_count_c262, tbX12_count_c295, g_245_37, g_245_14, g_245_4, g_245_29, g_245_13, cv_245_0, cv_245_1, cv_245_2, cv_245_3, cv_245_4, g_245_3, g_245_26, g_245_16, l_266, l_256, g_245_12, g_245_2, spX12_loosePointers, spX12_isDoubted, spX12_flaws, spX12_heap, bi_0, bi_1, ne_eq, Classical.not_not, em_r, em_l]
  have cb := cnt_b (fun j => S.1 266 j != 0) i
  repeat' (with_reducible first | intro _ | refine And.intro ?_ ?_)
  all_goals (try simp (disch := omega) only [wI_id, Int.toNat_natCast, Int.add_zero] at *)
  all_goals first
    | omega
    | (rw [show 40 = i from by omega] at h1; exact h1)
    | (have e := ih (n - 1) (by omega) S w (i + 1) (by omega) h1 h2; rw [cnt_f (by first | (simp_all; done) | (simp; omega))] at e; exact e)
    | (have e := ih (n - 1) (by omega) S w (i + 1) (by omega) h1 h2; rw [cnt_t (by first | (simp_all; done) | (simp; omega))] at e; exact e)
    | skip
set_option maxRecDepth 20000 in
set_option maxHeartbeats 4000000 in
theorem lpC7 (l : Launch) (Q : Option aV → aS → Prop) : ∀ (n : Nat) (S : aS) (w : Int) (i : Nat), i + n = (S.1 245 12).toNat → Q (some (.inl (cnt (fun j => S.1 256 j == -1) ((S.1 245 12).toNat)))) S → S.1 245 12 ≤ 120 → aGo l mX12_count Q 133 [(0, .inr (.inr 245)), (1, .inl w), (2, .inl (cnt (fun j => S.1 256 j == -1) i)), (3, .inl (i : Int))] [] S := by
  intro n
  induction n using Nat.strongRecOn with
  | _ n ih =>
  intro S  w  i  h0 h1 h2
  refine wp_go (tbX12_count_ok l) (fun pc => pc == 133) 116 dX12_count_133 ?_
  show ws1 tbX12_count 4 (some .int) Q (wp cX12_count tbX12_count 4 (some .int) Q (fun pc => pc == 133) (aGo l mX12_count Q) 116) (.iload_n 3) 1 133 [(0, .inr (.inr 245)), (1, .inl w), (2, .inl (cnt (fun j => S.1 256 j == -1) i)), (3, .inl (i : Int))] [] S
  simp only [wp_s, wpC_f, wpC_t, e_wLd, e_wLd0, e_wLd1, e_wLd2, e_get1, e_get2, e_wJ, e_wJo, f40, f41, f42, f43, Nat.reduceAdd, Nat.reduceBEq, Nat.reduceMul, eq_self, true_or, or_true, true_and, dX12_count_0, dX12_count_1, dX12_count_2, dX12_count_3, dX12_count_68, dX12_count_69, dX12_count_72, dX12_count_73, dX12_count_74, dX12_count_77, dX12_count_78, dX12_count_79, dX12_count_82, dX12_count_83, dX12_count_84, dX12_count_87, dX12_count_88, dX12_count_89, dX12_count_90, dX12_count_91, dX12_count_93, dX12_count_96, dX12_count_97, dX12_count_98, dX12_count_101, dX12_count_102, dX12_count_103, dX12_count_106, dX12_count_107, dX12_count_110, dX12_count_111, dX12_count_112, dX12_count_113, dX12_count_116, dX12_count_119, dX12_count_120, dX12_count_121, dX12_count_122, dX12_count_125, dX12_count_126, dX12_count_127, dX12_count_130, dX12_count_131, dX12_count_132, dX12_count_133, dX12_count_134, dX12_count_135, dX12_count_138, dX12_count_141, dX12_count_142, dX12_count_143, dX12_count_146, dX12_count_147, dX12_count_148, dX12_count_149, dX12_count_152, dX12_count_153, dX12_count_156, dX12_count_157, dX12_count_158, dX12_count_159, dX12_count_162, dX12_count_165, dX12_count_166, dX12_count_167, dX12_count_168, dX12_count_169, dX12_count_170, dX12_count_171, dX12_count_174, dX12_count_177, dX12_count_178, dX12_count_179, dX12_count_180, dX12_count_183, dX12_count_186, dX12_count_187, dX12_count_190, dX12_count_191, dX12_count_192, dX12_count_193, dX12_count_196, dX12_count_199, dX12_count_200, dX12_count_201, dX12_count_202, dX12_count_205, dX12_count_206, dX12_count_207, dX12_count_210, dX12_count_211, dX12_count_212, dX12_count_213, dX12_count_216, dX12_count_217, dX12_count_218, dX12_count_221, dX12_count_222, dX12_count_223, dX12_count_225, dX12_count_228, dX12_count_229, dX12_count_231, dX12_count_232, dX12_count_235, dX12_count_236, dX12_count_239, dX12_count_240, dX12_count_241, dX12_count_243, dX12_count_244, dX12_count_247, dX12_count_250, dX12_count_251, e_aload_n, e_iload_n, e_istore_n, e_iconst, e_bipush, e_iadd, e_isub, e_iinc, e_ifCond, e_if_icmp, e_goto, e_tableswitch, e_getfield, e_iaload, e_baload, e_invokevirtual, e_ireturn, e_wSt0, e_wSt1, e_wSt2, e_isL0, e_isL1, e_isL2, e_lset, e_lclr0, e_lclr1, e_lclr2, e_lput0, e_lput1, e_lput2, e_wInc, e_wInc0, Nat.reduceLT, not_false_eq_true, Bool.or_false, Bool.false_or, Bool.or_true, Bool.true_or, Bool.and_false, Bool.false_and, Bool.and_true, Bool.true_and, e_tsw, e_tsw0, e_tsw1, e_wI2, e_ri, e_rz, e_wIc_ge, e_wIc_lt, e_wIf_eq, e_wIc_ne, bp_20, bp_40, fX12_103, fX12_111, fX12_122, fX12_132, fX12_145, fX12_155, fX12_196, fX12_266, fX12_42, fX12_73, ic_0, ic_1, ic_m1, jt_103_7, jt_107_4, jt_116_m26, jt_138_27, jt_149_7, jt_153_4, jt_162_m29, jt_174_25, jt_183_7, jt_187_4, jt_196_m27, jt_225_25, jt_236_14, jt_247_4, jt_3_118, jt_3_123, jt_3_128, jt_3_164, jt_3_198, jt_3_203, jt_3_208, jt_3_214, jt_3_219, jt_3_65, jt_3_70, jt_3_75, jt_3_80, jt_3_85, jt_93_26, e_call, e_callS0, e_callS1, e_callS2, e_callS3, e_callS4, e_pop0, e_pop1, e_tl0, e_tl1, tbX12_count_f, tbX12_count_p, tbX12_count_k, tbX12_count_c252, tbX12_count_c255, tbX12_count_c262, tbX12_count_c295, g_245_37, g_245_14, g_245_4, g_245_29, g_245_13, cv_245_0, cv_245_1, cv_245_2, cv_245_3, cv_245_4, g_245_3, g_245_26, g_245_16, l_266, l_256, g_245_12, g_245_2, spX12_loosePointers, spX12_isDoubted, spX12_flaws, spX12_heap, bi_0, bi_1, ne_eq, Classical.not_not, em_r, em_l]
  have cb := cnt_b (fun j => S.1 256 j == -1) i
  repeat' (with_reducible first | intro _ | refine And.intro ?_ ?_)
  all_goals (try simp (disch := omega) only [wI_id, Int.toNat_natCast, Int.add_zero] at *)
  all_goals first
    | omega
    | (rw [show (S.1 245 12).toNat = i from by omega] at h1; exact h1)
    | (have e := ih (n - 1) (by omega) S w (i + 1) (by omega) h1 h2; rw [cnt_f (by first | (simp_all; done) | (simp; omega))] at e; exact e)
    | (have e := ih (n - 1) (by omega) S w (i + 1) (by omega) h1 h2; rw [cnt_t (by first | (simp_all; done) | (simp; omega))] at e; exact e)
    | skip
set_option maxRecDepth 20000 in
set_option maxHeartbeats 4000000 in
theorem lpC8 (l : Launch) (Q : Option aV → aS → Prop) : ∀ (n : Nat) (S : aS) (w : Int) (i : Nat), i + n = (S.1 245 12).toNat → kwP S → (∀ g, knX S g → Q (some (.inl (cnt (fun j => cb (dbM S j)) (S.1 245 12).toNat))) (stA S 259 g)) → aGo l mX12_count Q 169 [(0, .inr (.inr 245)), (1, .inl w), (2, .inl (cnt (fun j => cb (dbM S j)) i)), (3, .inl (i : Int))] [] S := by
  intro n
  induction n using Nat.strongRecOn with
  | _ n ih =>
  intro S  w  i  h0 h1 h2
  refine wp_go (tbX12_count_ok l) (fun pc => pc == 169) 116 dX12_count_169 ?_
  show ws1 tbX12_count 4 (some .int) Q (wp cX12_count tbX12_count 4 (some .int) Q (fun pc => pc == 169) (aGo l mX12_count Q) 116) (.iload_n 3) 1 169 [(0, .inr (.inr 245)), (1, .inl w), (2, .inl (cnt (fun j => cb (dbM S j)) i)), (3, .inl (i : Int))] [] S
  simp only [wp_s, wpC_f, wpC_t, e_wLd, e_wLd0, e_wLd1, e_wLd2, e_get1, e_get2, e_wJ, e_wJo, f40, f41, f42, f43, Nat.reduceAdd, Nat.reduceBEq, Nat.reduceMul, eq_self, true_or, or_true, true_and, dX12_count_0, dX12_count_1, dX12_count_2, dX12_count_3, dX12_count_68, dX12_count_69, dX12_count_72, dX12_count_73, dX12_count_74, dX12_count_77, dX12_count_78, dX12_count_79, dX12_count_82, dX12_count_83, dX12_count_84, dX12_count_87, dX12_count_88, dX12_count_89, dX12_count_90, dX12_count_91, dX12_count_93, dX12_count_96, dX12_count_97, dX12_count_98, dX12_count_101, dX12_count_102, dX12_count_103, dX12_count_106, dX12_count_107, dX12_count_110, dX12_count_111, dX12_count_112, dX12_count_113, dX12_count_116, dX12_count_119, dX12_count_120, dX12_count_121, dX12_count_122, dX12_count_125, dX12_count_126, dX12_count_127, dX12_count_130, dX12_count_131, dX12_count_132, dX12_count_133, dX12_count_134, dX12_count_135, dX12_count_138, dX12_count_141, dX12_count_142, dX12_count_143, dX12_count_146, dX12_count_147, dX12_count_148, dX12_count_149, dX12_count_152, dX12_count_153, dX12_count_156, dX12_count_157, dX12_count_158, dX12_count_159, dX12_count_162, dX12_count_165, dX12_count_166, dX12_count_167, dX12_count_168, dX12_count_169, dX12_count_170, dX12_count_171, dX12_count_174, dX12_count_177, dX12_count_178, dX12_count_179, dX12_count_180, dX12_count_183, dX12_count_186, dX12_count_187, dX12_count_190, dX12_count_191, dX12_count_192, dX12_count_193, dX12_count_196, dX12_count_199, dX12_count_200, dX12_count_201, dX12_count_202, dX12_count_205, dX12_count_206, dX12_count_207, dX12_count_210, dX12_count_211, dX12_count_212, dX12_count_213, dX12_count_216, dX12_count_217, dX12_count_218, dX12_count_221, dX12_count_222, dX12_count_223, dX12_count_225, dX12_count_228, dX12_count_229, dX12_count_231, dX12_count_232, dX12_count_235, dX12_count_236, dX12_count_239, dX12_count_240, dX12_count_241, dX12_count_243, dX12_count_244, dX12_count_247, dX12_count_250, dX12_count_251, e_aload_n, e_iload_n, e_istore_n, e_iconst, e_bipush, e_iadd, e_isub, e_iinc, e_ifCond, e_if_icmp, e_goto, e_tableswitch, e_getfield, e_iaload, e_baload, e_invokevirtual, e_ireturn, e_wSt0, e_wSt1, e_wSt2, e_isL0, e_isL1, e_isL2, e_lset, e_lclr0, e_lclr1, e_lclr2, e_lput0, e_lput1, e_lput2, e_wInc, e_wInc0, Nat.reduceLT, not_false_eq_true, Bool.or_false, Bool.false_or, Bool.or_true, Bool.true_or, Bool.and_false, Bool.false_and, Bool.and_true, Bool.true_and, e_tsw, e_tsw0, e_tsw1, e_wI2, e_ri, e_rz, e_wIc_ge, e_wIc_lt, e_wIf_eq, e_wIc_ne, bp_20, bp_40, fX12_103, fX12_111, fX12_122, fX12_132, fX12_145, fX12_155, fX12_196, fX12_266, fX12_42, fX12_73, ic_0, ic_1, ic_m1, jt_103_7, jt_107_4, jt_116_m26, jt_138_27, jt_149_7, jt_153_4, jt_162_m29, jt_174_25, jt_183_7, jt_187_4, jt_196_m27, jt_225_25, jt_236_14, jt_247_4, jt_3_118, jt_3_123, jt_3_128, jt_3_164, jt_3_198, jt_3_203, jt_3_208, jt_3_214, jt_3_219, jt_3_65, jt_3_70, jt_3_75, jt_3_80, jt_3_85, jt_93_26, e_call, e_callS0, e_callS1, e_callS2, e_callS3, e_callS4, e_pop0, e_pop1, e_tl0, e_tl1, tbX12_count_f, tbX12_count_p, tbX12_count_k, tbX12_count_c252, tbX12_count_c255, tbX12_count_c262, tbX12_count_c295, g_245_37, g_245_14, g_245_4, g_245_29, g_245_13, cv_245_0, cv_245_1, cv_245_2, cv_245_3, cv_245_4, g_245_3, g_245_26, g_245_16, l_266, l_256, g_245_12, g_245_2, spX12_loosePointers, spX12_isDoubted, spX12_flaws, spX12_heap, bi_0, bi_1, ne_eq, Classical.not_not, em_r, em_l]
  have hb := cnt_b (fun j => cb (dbM S j)) i
  have b12 := h1.2.1
  simp (disch := omega) only [wI_id, Int.toNat_natCast, Int.add_zero]
  refine ⟨fun q => ?_, fun q => ⟨h1, ⟨by omega, by omega⟩, fun g hg => ⟨fun q1 => ?_, fun q1 => ?_⟩⟩⟩
  · have z := h2 (S.1 259) kn_0
    rw [st_KS] at z
    obtain rfl : i = (S.1 245 12).toNat := by omega
    exact z
  all_goals
    have e := ih (n - 1) (by omega) (stA S 259 g) w (i + 1) (by rw [st_K (by decide)]; omega) (kw_K h1 hg) (fun g' hg' => by rw [st_KK]; exact h2 g' (kn_tr hg hg'))
    rw [db_K] at e
    first
      | (rw [cnt_t (cb_t q1)] at e; exact e)
      | (rw [cnt_f (cb_f q1)] at e; exact e)
set_option maxRecDepth 20000 in
set_option maxHeartbeats 4000000 in
theorem okX12_count (l : Launch) : aOK l mX12_count spX12_count := by
  refine aOK_of rfl fun as S Q h => ?_
  unfold spX12_count at h
  split at h
  · rename_i w
    refine ⟨Nat.le_of_ble_eq_true rfl, wp_ok (tbX12_count_ok l) Q (fun pc => pc == 90 || pc == 133 || pc == 169) 116 0 _ [] S ?_⟩
    show wp cX12_count tbX12_count 4 (some .int) Q (fun pc => pc == 90 || pc == 133 || pc == 169) (aGo l mX12_count Q) 116 0 [(0, .inr (.inr 245)), (1, .inl w)] [] S
    simp only [wp_s, wpC_f, wpC_t, e_wLd, e_wLd0, e_wLd1, e_wLd2, e_get1, e_get2, e_wJ, e_wJo, f40, f41, f42, f43, Nat.reduceAdd, Nat.reduceBEq, Nat.reduceMul, eq_self, true_or, or_true, true_and, dX12_count_0, dX12_count_1, dX12_count_2, dX12_count_3, dX12_count_68, dX12_count_69, dX12_count_72, dX12_count_73, dX12_count_74, dX12_count_77, dX12_count_78, dX12_count_79, dX12_count_82, dX12_count_83, dX12_count_84, dX12_count_87, dX12_count_88, dX12_count_89, dX12_count_90, dX12_count_91, dX12_count_93, dX12_count_96, dX12_count_97, dX12_count_98, dX12_count_101, dX12_count_102, dX12_count_103, dX12_count_106, dX12_count_107, dX12_count_110, dX12_count_111, dX12_count_112, dX12_count_113, dX12_count_116, dX12_count_119, dX12_count_120, dX12_count_121, dX12_count_122, dX12_count_125, dX12_count_126, dX12_count_127, dX12_count_130, dX12_count_131, dX12_count_132, dX12_count_133, dX12_count_134, dX12_count_135, dX12_count_138, dX12_count_141, dX12_count_142, dX12_count_143, dX12_count_146, dX12_count_147, dX12_count_148, dX12_count_149, dX12_count_152, dX12_count_153, dX12_count_156, dX12_count_157, dX12_count_158, dX12_count_159, dX12_count_162, dX12_count_165, dX12_count_166, dX12_count_167, dX12_count_168, dX12_count_169, dX12_count_170, dX12_count_171, dX12_count_174, dX12_count_177, dX12_count_178, dX12_count_179, dX12_count_180, dX12_count_183, dX12_count_186, dX12_count_187, dX12_count_190, dX12_count_191, dX12_count_192, dX12_count_193, dX12_count_196, dX12_count_199, dX12_count_200, dX12_count_201, dX12_count_202, dX12_count_205, dX12_count_206, dX12_count_207, dX12_count_210, dX12_count_211, dX12_count_212, dX12_count_213, dX12_count_216, dX12_count_217, dX12_count_218, dX12_count_221, dX12_count_222, dX12_count_223, dX12_count_225, dX12_count_228, dX12_count_229, dX12_count_231, dX12_count_232, dX12_count_235, dX12_count_236, dX12_count_239, dX12_count_240, dX12_count_241, dX12_count_243, dX12_count_244, dX12_count_247, dX12_count_250, dX12_count_251, e_aload_n, e_iload_n, e_istore_n, e_iconst, e_bipush, e_iadd, e_isub, e_iinc, e_ifCond, e_if_icmp, e_goto, e_tableswitch, e_getfield, e_iaload, e_baload, e_invokevirtual, e_ireturn, e_wSt0, e_wSt1, e_wSt2, e_isL0, e_isL1, e_isL2, e_lset, e_lclr0, e_lclr1, e_lclr2, e_lput0, e_lput1, e_lput2, e_wInc, e_wInc0, Nat.reduceLT, not_false_eq_true, Bool.or_false, Bool.false_or, Bool.or_true, Bool.true_or, Bool.and_false, Bool.false_and, Bool.and_true, Bool.true_and, e_tsw, e_tsw0, e_tsw1, e_wI2, e_ri, e_rz, e_wIc_ge, e_wIc_lt, e_wIf_eq, e_wIc_ne, bp_20, bp_40, fX12_103, fX12_111, fX12_122, fX12_132, fX12_145, fX12_155, fX12_196, fX12_266, fX12_42, fX12_73, ic_0, ic_1, ic_m1, jt_103_7, jt_107_4, jt_116_m26, jt_138_27, jt_149_7, jt_153_4, jt_162_m29, jt_174_25, jt_183_7, jt_187_4, jt_196_m27, jt_225_25, jt_236_14, jt_247_4, jt_3_118, jt_3_123, jt_3_128, jt_3_164, jt_3_198, jt_3_203, jt_3_208, jt_3_214, jt_3_219, jt_3_65, jt_3_70, jt_3_75, jt_3_80, jt_3_85, jt_93_26, e_call, e_callS0, e_callS1, e_callS2, e_callS3, e_callS4, e_pop0, e_pop1, e_tl0, e_tl1, tbX12_count_f, tbX12_count_p, tbX12_count_k, tbX12_count_c252, tbX12_count_c255, tbX12_count_c262, tbX12_count_c295, g_245_37, g_245_14, g_245_4, g_245_29, g_245_13, cv_245_0, cv_245_1, cv_245_2, cv_245_3, cv_245_4, g_245_3, g_245_26, g_245_16, l_266, l_256, g_245_12, g_245_2, spX12_loosePointers, spX12_isDoubted, spX12_flaws, spX12_heap, bi_0, bi_1, ne_eq, Classical.not_not, em_r, em_l]
    obtain ⟨h0, h1, h2, h3, hw, k0, k1, k2, k3, k4, k5, k6, k7, k9, k10, k12, k8, k11, kn⟩ := h
    have b12 := h0.2.1
    have b13 := h0.2.2.1
    unfold inI at hw
    have e1 : wI (20 + S.1 245 13) = 20 + S.1 245 13 := wI_id (by omega) (by omega)
    have e2 : 20 ≤ w → wI (w - 20) = w - 20 := fun q => wI_id (by omega) (by omega)
    replace e2 := hid e2
    have j4 : w = 4 → aGo l mX12_count Q 90 [(0, .inr (.inr 245)), (1, .inl w), (2, .inl 0), (3, .inl 0)] [] S := fun q => lpC4 l Q 40 S w 0 rfl (k4 q) trivial
    have j7 : w = 7 → aGo l mX12_count Q 133 [(0, .inr (.inr 245)), (1, .inl w), (2, .inl 0), (3, .inl 0)] [] S := fun q => lpC7 l Q _ S w 0 (Nat.zero_add _) (k7 q) b12.2
    have j8 : w = 8 → aGo l mX12_count Q 169 [(0, .inr (.inr 245)), (1, .inl w), (2, .inl 0), (3, .inl 0)] [] S := fun q => lpC8 l Q _ S w 0 (Nat.zero_add _) h0 (k8 q)
    clear k4 k7 k8
    generalize nthE (flB S) (-1) 2560 0 0 = N11 at *
    replace k0 := hid k0
    replace k1 := hid k1
    replace k2 := hid k2
    replace k3 := hid k3
    replace k5 := hid k5
    replace k6 := hid k6
    replace k9 := hid k9
    replace k10 := hid k10
    replace k12 := hid k12
    replace k11 := hid k11
    replace kn := hid kn
    replace j4 := hid j4
    replace j7 := hid j7
    replace j8 := hid j8
    have h1' := hid (fun _ : True => h1)
    have h2' := hid (fun _ : True => h2)
    clear h0 h1 h2
    simp only [e1]
    repeat' (with_reducible first | intro _ | refine And.intro ?_ ?_)
    all_goals first
      | omega
      | decide
      | exact h1' trivial
      | exact h2' trivial
      | exact j4 (by omega)
      | exact j7 (by omega)
      | exact j8 (by omega)
      | exact k0 (by omega)
      | exact k1 (by omega)
      | exact k2 (by omega)
      | exact k3 (by omega)
      | exact k5 (by omega)
      | exact k6 (by omega)
      | exact k9 (by omega)
      | exact k10 (by omega)
      | exact k12 (by omega)
      | exact k11 (by omega) _
      | (rw [e2 (by omega)]; exact (kn (by omega)).1 (by omega))
      | exact (kn (by omega)).2 (by omega)
      | skip
  · exact h.elim
