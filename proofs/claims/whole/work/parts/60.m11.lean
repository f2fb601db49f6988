/-! THE REFERENCE: told -/
def spX12_told : aSp := fun as S Q => match as with
  | [.inr (.inr 245), .inl a, .inl w] => wok S ∧ chA S ∧ (¬ (0 ≤ a ∧ a < 40 ∧ ¬ S.1 266 a.toNat = 0) → Q (some (.inl (-1))) S) ∧ ((0 ≤ a ∧ a < 40 ∧ ¬ S.1 266 a.toNat = 0) → ∀ v, (4 ≤ w ∧ w ≤ 8 → (wcM S a 0 = 0 → Q (some (.inl (-1))) (stV S v)) ∧ (¬ wcM S a 0 = 0 → (w = 4 → Q (some (.inl (wmF S a 0))) (stV S v)) ∧ (w = 5 → Q (some (.inl (wmL S a 0))) (stV S v)) ∧ (w = 6 → Q (some (.inl (wxF S a 0))) (stV S v)) ∧ (w = 7 → Q (some (.inl (wxL S a 0))) (stV S v)) ∧ (w = 8 → Q (some (.inl (gpM S a))) (stV S v)))) ∧ (w = 0 → Q (some (.inl (S.1 267 a.toNat))) (stV S v)) ∧ (w = 1 → Q (some (.inl (S.1 268 a.toNat))) (stV S v)) ∧ (w = 2 → Q (some (.inl (cnt (fun j => S.1 257 j == a) (S.1 245 12).toNat))) (stV S v)) ∧ (w = 3 → Q (some (.inl (wcM S a 0))) (stV S v)) ∧ (w = 9 → Q (some (.inl (paM S a))) (stV S v)) ∧ (w = 10 → Q (some (.inl (cnt (fun j => S.1 266 j != 0 && S.1 268 j == a) 40))) (stV S v)) ∧ (w = 11 → Q (some (.inl (dpM (S.1 268) 40 a))) (stV S v)) ∧ (w < 0 ∨ 11 < w → Q (some (.inl (-1))) (stV S v)))
  | _ => False
def tbX12_told : aTb := (fX12, pX12, fun j => lk [(186, (some 12), 2, spX12_isSense), (205, (some 12), 2, spX12_own), (208, (some 12), 2, spX12_below), (230, (some 12), 3, spX12_witnesses), (237, (some 12), 2, spX12_gap), (240, (some 12), 2, spX12_place), (243, (some 12), 2, spX12_depth)] j, kX12)
theorem tbX12_told_f : tbX12_told.1 = fX12 := rfl
theorem tbX12_told_p : tbX12_told.2.1 = pX12 := rfl
theorem tbX12_told_k : tbX12_told.2.2.2 = kX12 := rfl
theorem tbX12_told_c186 : tbX12_told.2.2.1 186 = some ((some 12), 2, spX12_isSense) := rfl
theorem tbX12_told_c205 : tbX12_told.2.2.1 205 = some ((some 12), 2, spX12_own) := rfl
theorem tbX12_told_c208 : tbX12_told.2.2.1 208 = some ((some 12), 2, spX12_below) := rfl
theorem tbX12_told_c230 : tbX12_told.2.2.1 230 = some ((some 12), 3, spX12_witnesses) := rfl
theorem tbX12_told_c237 : tbX12_told.2.2.1 237 = some ((some 12), 2, spX12_gap) := rfl
theorem tbX12_told_c240 : tbX12_told.2.2.1 240 = some ((some 12), 2, spX12_place) := rfl
theorem tbX12_told_c243 : tbX12_told.2.2.1 243 = some ((some 12), 2, spX12_depth) := rfl
theorem tbX12_told_all (l : Launch) : ∀ e ∈ ([(186, (some 12), 2, spX12_isSense), (205, (some 12), 2, spX12_own), (208, (some 12), 2, spX12_below), (230, (some 12), 3, spX12_witnesses), (237, (some 12), 2, spX12_gap), (240, (some 12), 2, spX12_place), (243, (some 12), 2, spX12_depth)] : List (Nat × Option Nat × Nat × aSp)), cOK l mX12_told e.1 e.2.1 e.2.2.1 e.2.2.2 ∨ mOK mX12_told e.1 e.2.1 e.2.2.1 e.2.2.2 := all_cons (cOK_of (okX12_isSense l) meX12_isSense cfX12_186 (by decide) (by decide)) (all_cons (cOK_of (okX12_own l) meX12_own cfX12_205 (by decide) (by decide)) (all_cons (cOK_of (okX12_below l) meX12_below cfX12_208 (by decide) (by decide)) (all_cons (cOK_of (okX12_witnesses l) meX12_witnesses cfX12_230 (by decide) (by decide)) (all_cons (cOK_of (okX12_gap l) meX12_gap cfX12_237 (by decide) (by decide)) (all_cons (cOK_of (okX12_place l) meX12_place cfX12_240 (by decide) (by decide)) (all_cons (cOK_of (okX12_depth l) meX12_depth cfX12_243 (by decide) (by decide)) (all_nil)))))))
theorem tbX12_told_ok (l : Launch) : tOK l mX12_told tbX12_told := ⟨fX12_ok, pX12_ok, fun _ _ _ _ h => tbX12_told_all l _ (lk_mem h), kX12_ok⟩
set_option maxRecDepth 20000 in
set_option maxHeartbeats 4000000 in
theorem okX12_told (l : Launch) : aOK l mX12_told spX12_told := by
  refine aOK_of rfl fun as S Q h => ?_
  unfold spX12_told at h
  split at h
  · rename_i a w
    refine ⟨Nat.le_of_ble_eq_true rfl, wp_ok (tbX12_told_ok l) Q (fun pc => false) 86 0 _ [] S ?_⟩
    show wp cX12_told tbX12_told 3 (some .int) Q (fun pc => false) (aGo l mX12_told Q) 86 0 [(0, .inr (.inr 245)), (1, .inl a), (2, .inl w)] [] S
    simp only [wp_s, wpC_f, wpC_t, e_wLd, e_wLd0, e_wLd1, e_wLd2, e_get1, e_get2, e_wJ, e_wJo, f40, f41, f42, f43, Nat.reduceAdd, Nat.reduceBEq, Nat.reduceMul, eq_self, true_or, or_true, true_and, dX12_told_0, dX12_told_1, dX12_told_2, dX12_told_5, dX12_told_8, dX12_told_9, dX12_told_10, dX12_told_11, dX12_told_12, dX12_told_13, dX12_told_16, dX12_told_17, dX12_told_80, dX12_told_81, dX12_told_84, dX12_told_85, dX12_told_86, dX12_told_87, dX12_told_88, dX12_told_91, dX12_told_92, dX12_told_93, dX12_told_94, dX12_told_95, dX12_told_96, dX12_told_99, dX12_told_100, dX12_told_101, dX12_told_104, dX12_told_105, dX12_told_106, dX12_told_109, dX12_told_112, dX12_told_113, dX12_told_116, dX12_told_117, dX12_told_120, dX12_told_121, dX12_told_122, dX12_told_125, dX12_told_128, dX12_told_129, dX12_told_132, dX12_told_133, dX12_told_136, dX12_told_137, dX12_told_138, dX12_told_141, dX12_told_144, dX12_told_145, dX12_told_148, dX12_told_149, dX12_told_152, dX12_told_153, dX12_told_154, dX12_told_157, dX12_told_160, dX12_told_161, dX12_told_164, dX12_told_165, dX12_told_168, dX12_told_169, dX12_told_170, dX12_told_173, dX12_told_176, dX12_told_177, dX12_told_180, dX12_told_181, dX12_told_182, dX12_told_185, dX12_told_186, dX12_told_187, dX12_told_188, dX12_told_191, dX12_told_192, dX12_told_193, dX12_told_194, dX12_told_197, dX12_told_198, dX12_told_199, dX12_told_200, dX12_told_203, dX12_told_204, dX12_told_205, e_aload_n, e_iload_n, e_iconst, e_ifCond, e_goto, e_tableswitch, e_getfield, e_iaload, e_invokevirtual, e_ireturn, e_ri, e_rz, e_tsw, e_tsw0, e_tsw1, e_wIf_ne, fX12_211, fX12_218, fX12_221, fX12_224, fX12_227, fX12_76, fX12_79, ic_0, ic_m1, jt_109_7, jt_113_7, jt_125_7, jt_129_7, jt_141_7, jt_145_7, jt_157_7, jt_161_7, jt_173_7, jt_177_8, jt_17_104, jt_17_120, jt_17_136, jt_17_152, jt_17_169, jt_17_175, jt_17_181, jt_17_187, jt_17_63, jt_17_70, jt_17_77, jt_17_83, jt_17_88, jt_5_5, e_call, e_callS0, e_callS1, e_callS2, e_callS3, e_callS4, e_pop0, e_pop1, e_tl0, e_tl1, tbX12_told_f, tbX12_told_p, tbX12_told_k, tbX12_told_c186, tbX12_told_c205, tbX12_told_c208, tbX12_told_c230, tbX12_told_c237, tbX12_told_c240, tbX12_told_c243, g_245_35, l_267, g_245_32, g_245_28, cv_245_0, cv_245_1, cv_245_2, cv_245_3, cv_245_4, g_245_34, l_268, g_245_27, g_245_33, g_245_36, spX12_isSense, spX12_witnesses, spX12_own, spX12_below, spX12_depth, spX12_place, spX12_gap, bi_0, bi_1, ne_eq, Classical.not_not, em_r, em_l]
    obtain ⟨h0, h0b, hA, hB⟩ := h
    simp (disch := decide) only [stV_f, stV_v, stV_a, stV_V, wok_V, wvP_V, stV_2, witP_V, wcM_V, ahM_V, aoM_V, odM_V, paM_V, gpM_V]
    by_cases hs : (0 ≤ a ∧ a < 40 ∧ ¬ S.1 266 a.toNat = 0)
    · refine ⟨fun _ => ⟨h0, by omega, fun v hv => ?_⟩, fun q => absurd hs q⟩
      have hch : chn (S.1 268) 40 a := by
        have z := h0b a.toNat (by omega) hs.2.2
        rw [show ((a.toNat : Nat) : Int) = a from by omega] at z
        exact z
      have h0' := h0.1
      obtain ⟨⟨v1, v2⟩, v3⟩ := wv_e hv
      clear hv hA
      rw [v1]
      have hC := fun v => hid (fun _ : True => hB hs v)
      have v3' := hid (fun q : ¬ wcM S a 0 = 0 => v3.resolve_left q)
      clear hB v3
      have gpm := hid (fun _ : True => h0)
      generalize cnt (fun j => S.1 266 j != 0 && S.1 268 j == a) 40 = C10 at *
      generalize dpM (S.1 268) 40 a = D11 at *
      generalize cnt (fun j => S.1 257 j == a) (S.1 245 12).toNat = C2 at *
      generalize paM S a = P9 at *
      generalize gpM S a = G8 at *
      generalize wcM S a 0 = CW at *
      repeat' (with_reducible first | intro _ | refine And.intro ?_ ?_)
      all_goals first
        | omega
        | decide
        | assumption
        | exact (hC _ trivial).2.1 (by omega)
        | exact (hC _ trivial).2.2.1 (by omega)
        | exact (hC _ trivial).2.2.2.1 (by omega)
        | exact (hC _ trivial).2.2.2.2.1 (by omega)
        | exact (hC _ trivial).2.2.2.2.2.1 (by omega)
        | exact (hC _ trivial).2.2.2.2.2.2.1 (by omega)
        | exact (hC _ trivial).2.2.2.2.2.2.2.1 (by omega)
        | exact (hC _ trivial).2.2.2.2.2.2.2.2 (by omega)
        | exact ((hC _ trivial).1 (by omega)).1 (by assumption)
        | (rw [(v3' (by assumption)).1]; exact (((hC _ trivial).1 (by omega)).2 (by assumption)).1 (by omega))
        | (rw [(v3' (by assumption)).2.1]; exact (((hC _ trivial).1 (by omega)).2 (by assumption)).2.1 (by omega))
        | (rw [(v3' (by assumption)).2.2.1]; exact (((hC _ trivial).1 (by omega)).2 (by assumption)).2.2.1 (by omega))
        | (rw [(v3' (by assumption)).2.2.2]; exact (((hC _ trivial).1 (by omega)).2 (by assumption)).2.2.2.1 (by omega))
        | exact (((hC _ trivial).1 (by omega)).2 (by assumption)).2.2.2.2 (by omega)
        | skip
    · exact ⟨fun q => absurd q hs, fun _ => hA hs⟩
  · exact h.elim
