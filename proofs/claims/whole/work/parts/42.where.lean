/-! SLIPHOUSE: where -/
def spX11_where : aSp := fun as S Q => match as with
  | [.inr (.inr 0), .inl s, .inl w] => fitR S ∧ ((0 ≤ s ∧ s < S.1 81 4) → 0 < S.1 207 s.toNat ∧ wrd (S.2 (87 + s.toNat) 0)) ∧ w ≤ 2147483647 ∧ (¬ (0 ≤ s ∧ s < S.1 81 4) ∨ w < 0 ∨ (4 < w ∧ w < 10) ∨ (10 ≤ w ∧ lt5 12 (S.2 (87 + s.toNat) 0) - 1 - (w - 10) < 0) → Q (some (.inl (-1))) S) ∧ ((0 ≤ s ∧ s < S.1 81 4) → (w = 0 → Q (some (.inl (S.1 83 s.toNat))) S) ∧ (w = 1 → Q (some (.inl (S.1 84 s.toNat))) S) ∧ (w = 2 → Q (some (.inl (bi (dbt S s)))) S) ∧ (w = 3 → Q (some (.inl (S.1 82 s.toNat))) S) ∧ (w = 4 → Q (some (.inl (lt5 12 (S.2 (87 + s.toNat) 0)))) S) ∧ (10 ≤ w → 0 ≤ lt5 12 (S.2 (87 + s.toNat) 0) - 1 - (w - 10) → Q (some (.inl (96 + lAnd (lUshr (S.2 (87 + s.toNat) 0) (5 * (lt5 12 (S.2 (87 + s.toNat) 0) - 1 - (w - 10)))) 31))) S))
  | _ => False
def tbX11_where : aTb := (fX11, pX11, fun j => lk [(176, (some 7), 2, spX7_has), (271, (some 11), 2, spX11_isInDoubt), (277, (some 10), 2, spX10_wordAt), (279, none, 1, spX10_lettersIn), (283, none, 2, spX10_letterAt)] j, kX11)
theorem tbX11_where_f : tbX11_where.1 = fX11 := rfl
theorem tbX11_where_p : tbX11_where.2.1 = pX11 := rfl
theorem tbX11_where_k : tbX11_where.2.2.2 = kX11 := rfl
theorem tbX11_where_c176 : tbX11_where.2.2.1 176 = some ((some 7), 2, spX7_has) := rfl
theorem tbX11_where_c271 : tbX11_where.2.2.1 271 = some ((some 11), 2, spX11_isInDoubt) := rfl
theorem tbX11_where_c277 : tbX11_where.2.2.1 277 = some ((some 10), 2, spX10_wordAt) := rfl
theorem tbX11_where_c279 : tbX11_where.2.2.1 279 = some (none, 1, spX10_lettersIn) := rfl
theorem tbX11_where_c283 : tbX11_where.2.2.1 283 = some (none, 2, spX10_letterAt) := rfl
theorem tbX11_where_all (l : Launch) : ∀ e ∈ ([(176, (some 7), 2, spX7_has), (271, (some 11), 2, spX11_isInDoubt), (277, (some 10), 2, spX10_wordAt), (279, none, 1, spX10_lettersIn), (283, none, 2, spX10_letterAt)] : List (Nat × Option Nat × Nat × aSp)), cOK l mX11_where e.1 e.2.1 e.2.2.1 e.2.2.2 ∨ mOK mX11_where e.1 e.2.1 e.2.2.1 e.2.2.2 := all_cons (cOK_of (okX7_has l) meX7_has cfX11_176 (by decide) (by decide)) (all_cons (cOK_of (okX11_isInDoubt l) meX11_isInDoubt cfX11_271 (by decide) (by decide)) (all_cons (cOK_of (okX10_wordAt l) meX10_wordAt cfX11_277 (by decide) (by decide)) (all_cons (cOK_of (okX10_lettersIn l) meX10_lettersIn cfX11_279 (by decide) (by decide)) (all_cons (cOK_of (okX10_letterAt l) meX10_letterAt cfX11_283 (by decide) (by decide)) (all_nil)))))
theorem tbX11_where_ok (l : Launch) : tOK l mX11_where tbX11_where := ⟨fX11_ok, pX11_ok, fun _ _ _ _ h => tbX11_where_all l _ (lk_mem h), kX11_ok⟩
set_option maxRecDepth 20000 in
set_option maxHeartbeats 4000000 in
theorem okX11_where (l : Launch) : aOK l mX11_where spX11_where := by
  refine aOK_of rfl fun as S Q h => ?_
  unfold spX11_where at h
  split at h
  · rename_i s w
    refine ⟨Nat.le_of_ble_eq_true rfl, wp_ok (tbX11_where_ok l) Q (fun pc => false) 59 0 _ [] S ?_⟩
    show wp cX11_where tbX11_where 3 (some .int) Q (fun pc => false) (aGo l mX11_where Q) 59 0 [(0, .inr (.inr 0)), (1, .inl s), (2, .inl w)] [] S
    simp only [wp_s, wpC_f, wpC_t, e_wLd, e_wLd0, e_wLd1, e_wLd2, e_get1, e_get2, e_wJ, e_wJo, f40, f41, f42, f43, Nat.reduceAdd, Nat.reduceBEq, Nat.reduceMul, eq_self, true_or, or_true, true_and, dX11_where_0, dX11_where_1, dX11_where_4, dX11_where_5, dX11_where_8, dX11_where_11, dX11_where_12, dX11_where_13, dX11_where_14, dX11_where_48, dX11_where_49, dX11_where_52, dX11_where_55, dX11_where_56, dX11_where_57, dX11_where_58, dX11_where_59, dX11_where_62, dX11_where_65, dX11_where_66, dX11_where_67, dX11_where_68, dX11_where_69, dX11_where_70, dX11_where_73, dX11_where_76, dX11_where_77, dX11_where_80, dX11_where_81, dX11_where_82, dX11_where_83, dX11_where_86, dX11_where_89, dX11_where_90, dX11_where_91, dX11_where_92, dX11_where_93, dX11_where_96, dX11_where_99, dX11_where_100, dX11_where_103, dX11_where_106, dX11_where_107, dX11_where_108, dX11_where_110, dX11_where_113, dX11_where_114, dX11_where_117, dX11_where_118, dX11_where_121, dX11_where_124, dX11_where_125, dX11_where_128, dX11_where_129, dX11_where_131, dX11_where_132, dX11_where_135, e_aload_n, e_iload_n, e_iconst, e_bipush, e_isub, e_ifCond, e_if_icmp, e_goto, e_tableswitch, e_getfield, e_iaload, e_invokevirtual, e_invokestatic, e_ireturn, e_ri, e_rz, e_tsw, e_tsw0, e_tsw1, e_wI2, e_wIf_ne, e_wIf_eq, e_wIc_ge, bp_10, fX11_173, fX11_267, fX11_268, fX11_274, fX11_42, ic_0, ic_1, ic_m1, jt_110_7, jt_114_21, jt_14_34, jt_14_44, jt_14_54, jt_14_68, jt_14_78, jt_14_93, jt_73_7, jt_77_4, jt_8_5, e_call, e_callS0, e_callS1, e_callS2, e_callS3, e_callS4, e_pop0, e_pop1, e_tl0, e_tl1, tbX11_where_f, tbX11_where_p, tbX11_where_k, tbX11_where_c176, tbX11_where_c271, tbX11_where_c277, tbX11_where_c279, tbX11_where_c283, g_0_4, cv_18_0, cv_18_1, cv_18_2, cv_18_3, cv_18_4, cv_85_0, cv_85_1, cv_85_2, cv_85_3, cv_85_4, g_81_3, l_82, g_81_0, l_83, g_81_1, l_84, cv_81_0, cv_81_1, cv_81_2, cv_81_3, cv_81_4, cv_0_0, cv_0_1, cv_0_2, cv_0_3, cv_0_4, g_81_2, spX7_has, spX11_isInDoubt, spX10_wordAt, spX10_lettersIn, spX10_letterAt, List.length_cons, List.length_nil, bi_0, bi_1, ne_eq, Classical.not_not, em_r, em_l]
    obtain ⟨h0, h1, h2, hA, hB⟩ := h
    have h0b := h0.2.1
    by_cases hs : 0 ≤ s ∧ s < S.1 81 4
    · have g := h1 hs
      have hif : (@ite Int (0 ≤ s ∧ s < 120 ∧ 0 < S.1 207 s.toNat) (Classical.propDecidable _) (S.2 (87 + s.toNat) 0) 0) = S.2 (87 + s.toNat) 0 := if_pos ⟨by omega, by omega, g.1⟩
      simp only [hif, lt5_9 g.2]
      repeat' (with_reducible first | intro _ | refine And.intro ?_ ?_)
      all_goals (try simp (disch := omega) only [wI_id] at *)
      all_goals first
        | omega
        | exact h0
        | exact g.2
        | exact wrdC_of g.2
        | exact hA (by omega)
        | exact (hB hs).1 (by omega)
        | exact (hB hs).2.1 (by omega)
        | (have z := (hB hs).2.2.1 (by omega); rw [bi_t (by assumption)] at z; exact z)
        | (have z := (hB hs).2.2.1 (by omega); rw [bi_f (by assumption)] at z; exact z)
        | exact (hB hs).2.2.2.1 (by omega)
        | exact (hB hs).2.2.2.2.1 (by omega)
        | exact (hB hs).2.2.2.2.2 (by omega) (by omega)
        | decide
        | skip
    · repeat' (with_reducible first | intro _ | refine And.intro ?_ ?_)
      all_goals first
        | omega
        | exact hA (by omega)
        | skip
  · exact h.elim
