/-! SLIPHOUSE: told, count -/
/-- an implication that omega doesn't look into -/
def Hid (p q : Prop) : Prop := p → q
theorem wI_lo {x : Int} (h : x < -2147483648) (h2 : -6442450944 ≤ x) : wI x = x + 4294967296 := by
  unfold wI
  rw [Int32.toInt_ofInt, Int.bmod_def]
  simp only [Int32.size]
  split <;> omega
theorem hid {p q : Prop} (h : p → q) : Hid p q := h
def spX11_told : aSp := fun as S Q => match as with
  | [.inr (.inr 0), .inl a, .inl w] => gaP S ∧ yrs (gaT S) ∧ (¬ (0 ≤ a ∧ a < 40 ∧ ¬ S.1 209 a.toNat = -1) → Q (some (.inl (-1))) S) ∧ ((0 ≤ a ∧ a < 40 ∧ ¬ S.1 209 a.toNat = -1) → (4 ≤ w ∧ w ≤ 8 → ((gaT S).1 214 a.toNat = 0 → Q (some (.inl (-1))) (gaT S)) ∧ (¬ (gaT S).1 214 a.toNat = 0 → (w = 4 → Q (some (.inl (mn ((gaT S).1 6) (fun k => inS k ((gaT S).1 215 a.toNat)) ((gaT S).1 3 7).toNat))) (gaT S)) ∧ (w = 5 → Q (some (.inl (mn ((gaT S).1 7) (fun k => inS k ((gaT S).1 215 a.toNat)) ((gaT S).1 3 7).toNat))) (gaT S)) ∧ (w = 6 → Q (some (.inl (mx ((gaT S).1 6) (fun k => inS k ((gaT S).1 215 a.toNat)) ((gaT S).1 3 7).toNat))) (gaT S)) ∧ (w = 7 → Q (some (.inl (mx ((gaT S).1 7) (fun k => inS k ((gaT S).1 215 a.toNat)) ((gaT S).1 3 7).toNat))) (gaT S)) ∧ (w = 8 → Q (some (.inl (mx (fun b : Nat => max 0 ((gaT S).1 6 b - (sn ((gaT S).1 6) ((gaT S).1 7) (fun k => inS k ((gaT S).1 215 a.toNat)) ((gaT S).1 6 b) ((gaT S).1 3 7).toNat).1 - 1)) (fun k => inS k ((gaT S).1 215 a.toNat)) ((gaT S).1 3 7).toNat))) (gaT S)))) ∧ (w = 0 → Q (some (.inl ((gaT S).1 209 a.toNat))) (gaT S)) ∧ (w = 1 → Q (some (.inl ((gaT S).1 210 a.toNat))) (gaT S)) ∧ (w = 2 → Q (some (.inl ((gaT S).1 212 a.toNat))) (gaT S)) ∧ (w = 3 → Q (some (.inl ((gaT S).1 214 a.toNat))) (gaT S)) ∧ (w = 9 → Q (some (.inl ((gaT S).1 218 a.toNat))) (gaT S)) ∧ (w = 10 → Q (some (.inl (cnt (fun j => (gaT S).1 209 j != -1 && (gaT S).1 210 j == a) 40))) (gaT S)) ∧ (w = 11 → Q (some (.inl (dpt ((gaT S).1 209) ((gaT S).1 210) 40 a))) (gaT S)) ∧ (w < 0 ∨ 11 < w → Q (some (.inl (-1))) (gaT S)))
  | _ => False
def tbX11_told : aTb := (fX11, pX11, fun j => lk [(202, (some 6), 2, spX6_has), (222, (some 6), 2, spX6_justUnder), (241, (some 9), 1, spX9_gather), (250, (some 11), 3, spX11_toldYears), (258, (some 6), 2, spX6_depth)] j, kX11)
theorem tbX11_told_f : tbX11_told.1 = fX11 := rfl
theorem tbX11_told_p : tbX11_told.2.1 = pX11 := rfl
theorem tbX11_told_k : tbX11_told.2.2.2 = kX11 := rfl
theorem tbX11_told_c202 : tbX11_told.2.2.1 202 = some ((some 6), 2, spX6_has) := rfl
theorem tbX11_told_c222 : tbX11_told.2.2.1 222 = some ((some 6), 2, spX6_justUnder) := rfl
theorem tbX11_told_c241 : tbX11_told.2.2.1 241 = some ((some 9), 1, spX9_gather) := rfl
theorem tbX11_told_c250 : tbX11_told.2.2.1 250 = some ((some 11), 3, spX11_toldYears) := rfl
theorem tbX11_told_c258 : tbX11_told.2.2.1 258 = some ((some 6), 2, spX6_depth) := rfl
theorem tbX11_told_all (l : Launch) : ∀ e ∈ ([(202, (some 6), 2, spX6_has), (222, (some 6), 2, spX6_justUnder), (241, (some 9), 1, spX9_gather), (250, (some 11), 3, spX11_toldYears), (258, (some 6), 2, spX6_depth)] : List (Nat × Option Nat × Nat × aSp)), cOK l mX11_told e.1 e.2.1 e.2.2.1 e.2.2.2 ∨ mOK mX11_told e.1 e.2.1 e.2.2.1 e.2.2.2 := all_cons (cOK_of (okX6_has l) meX6_has cfX11_202 (by decide) (by decide)) (all_cons (cOK_of (okX6_justUnder l) meX6_justUnder cfX11_222 (by decide) (by decide)) (all_cons (cOK_of (okX9_gather l) meX9_gather cfX11_241 (by decide) (by decide)) (all_cons (cOK_of (okX11_toldYears l) meX11_toldYears cfX11_250 (by decide) (by decide)) (all_cons (cOK_of (okX6_depth l) meX6_depth cfX11_258 (by decide) (by decide)) (all_nil)))))
theorem tbX11_told_ok (l : Launch) : tOK l mX11_told tbX11_told := ⟨fX11_ok, pX11_ok, fun _ _ _ _ h => tbX11_told_all l _ (lk_mem h), kX11_ok⟩
set_option maxRecDepth 20000 in
set_option maxHeartbeats 4000000 in
theorem okX11_told (l : Launch) : aOK l mX11_told spX11_told := by
  refine aOK_of rfl fun as S Q h => ?_
  unfold spX11_told at h
  split at h
  · rename_i a w
    refine ⟨Nat.le_of_ble_eq_true rfl, wp_ok (tbX11_told_ok l) Q (fun pc => false) 79 0 _ [] S ?_⟩
    show wp cX11_told tbX11_told 3 (some .int) Q (fun pc => false) (aGo l mX11_told Q) 79 0 [(0, .inr (.inr 0)), (1, .inl a), (2, .inl w)] [] S
    simp only [wp_s, wpC_f, wpC_t, e_wLd, e_wLd0, e_wLd1, e_wLd2, e_get1, e_get2, e_wJ, e_wJo, f40, f41, f42, f43, Nat.reduceAdd, Nat.reduceBEq, Nat.reduceMul, eq_self, true_or, or_true, true_and, dX11_told_0, dX11_told_1, dX11_told_4, dX11_told_5, dX11_told_8, dX11_told_11, dX11_told_12, dX11_told_13, dX11_told_14, dX11_told_17, dX11_told_20, dX11_told_21, dX11_told_22, dX11_told_25, dX11_told_26, dX11_told_28, dX11_told_31, dX11_told_32, dX11_told_35, dX11_told_38, dX11_told_39, dX11_told_40, dX11_told_43, dX11_told_44, dX11_told_47, dX11_told_48, dX11_told_49, dX11_told_52, dX11_told_55, dX11_told_56, dX11_told_57, dX11_told_58, dX11_told_61, dX11_told_62, dX11_told_63, dX11_told_124, dX11_told_125, dX11_told_128, dX11_told_131, dX11_told_132, dX11_told_133, dX11_told_134, dX11_told_135, dX11_told_138, dX11_told_141, dX11_told_142, dX11_told_143, dX11_told_144, dX11_told_145, dX11_told_148, dX11_told_151, dX11_told_152, dX11_told_153, dX11_told_154, dX11_told_155, dX11_told_158, dX11_told_161, dX11_told_162, dX11_told_163, dX11_told_164, dX11_told_165, dX11_told_168, dX11_told_171, dX11_told_172, dX11_told_173, dX11_told_174, dX11_told_175, dX11_told_178, dX11_told_179, dX11_told_182, dX11_told_183, dX11_told_184, dX11_told_187, dX11_told_188, dX11_told_191, dX11_told_192, dX11_told_193, e_aload_n, e_iload_n, e_iconst, e_bipush, e_ifCond, e_if_icmp, e_goto, e_tableswitch, e_getfield, e_iaload, e_invokevirtual, e_ireturn, e_tsw, e_tsw0, e_tsw1, e_ri, e_rz, e_wIc_lt, e_wIf_ne, e_wIc_gt, bp_8, fX11_203, fX11_206, fX11_244, fX11_247, fX11_253, fX11_256, fX11_49, fX11_58, ic_4, ic_m1, jt_22_40, jt_28_34, jt_40_7, jt_44_17, jt_63_101, jt_63_111, jt_63_120, jt_63_129, jt_63_61, jt_63_71, jt_63_81, jt_63_91, jt_8_5, e_call, e_callS0, e_callS1, e_callS2, e_callS3, e_callS4, e_pop0, e_pop1, e_tl0, e_tl1, tbX11_told_f, tbX11_told_p, tbX11_told_k, tbX11_told_c202, tbX11_told_c222, tbX11_told_c241, tbX11_told_c250, tbX11_told_c258, l_218, l_214, g_208_0, g_0_6, g_211_5, g_0_5, l_210, cv_0_0, cv_0_1, cv_0_2, cv_0_3, cv_0_4, l_215, g_208_1, l_209, l_212, cv_208_0, cv_208_1, cv_208_2, cv_208_3, cv_208_4, cv_211_0, cv_211_1, cv_211_2, cv_211_3, cv_211_4, g_211_6, g_211_3, g_211_9, spX6_has, spX9_gather, spX11_toldYears, spX6_justUnder, spX6_depth, bi_0, bi_1, ne_eq, Classical.not_not, em_r, em_l]
    obtain ⟨⟨g0, g1, g2, g3⟩, g4, hA, hB⟩ := h
    have e3 : (gaT S).1 3 7 = S.1 3 7 := ga3
    generalize gaT S = G at *
    generalize cnt (fun j => G.1 209 j != -1 && G.1 210 j == a) 40 = C10 at *
    generalize dpt (G.1 209) (G.1 210) 40 a = D11 at *
    
    by_cases hs : (0 ≤ a ∧ a < 40 ∧ ¬ S.1 209 a.toNat = -1)
    · obtain ⟨hC, k0, k1, k2, k3, k9, k10, k11, kn⟩ := hB hs
      replace hC := hid hC
      replace k0 := hid k0
      replace k1 := hid k1
      replace k2 := hid k2
      replace k3 := hid k3
      replace k9 := hid k9
      replace k10 := hid k10
      replace k11 := hid k11
      replace kn := hid kn
      replace hA := hid hA
      replace hB := hid hB
      repeat' (with_reducible first | intro _ | refine And.intro ?_ ?_)
      all_goals first
        | omega
        | contradiction
        | decide
        | exact g4
        | exact k0 (by omega)
        | exact k1 (by omega)
        | exact k2 (by omega)
        | exact k3 (by omega)
        | exact k9 (by omega)
        | exact k10 (by omega)
        | exact k11 (by omega)
        | exact kn (by omega)
        | exact (hC (by omega)).1 (by assumption)
        | exact ((hC (by omega)).2 (by assumption)).1 (by omega)
        | exact ((hC (by omega)).2 (by assumption)).2.1 (by omega)
        | exact ((hC (by omega)).2 (by assumption)).2.2.1 (by omega)
        | exact ((hC (by omega)).2 (by assumption)).2.2.2.1 (by omega)
        | exact ((hC (by omega)).2 (by assumption)).2.2.2.2 (by omega)
        | (exfalso; omega)
        | skip
    · exact ⟨fun q => absurd q hs, fun _ => hA hs⟩
  · exact h.elim
def spX11_count : aSp := fun as S Q => match as with
  | [.inr (.inr 0), .inl w] => gaP S ∧ fitR S ∧ (0 ≤ S.1 219 2 ∧ S.1 219 2 ≤ 20) ∧ inI w ∧ (w = 0 → Q (some (.inl (S.1 3 7))) (S)) ∧ (w = 1 → Q (some (.inl (S.1 81 4))) (S)) ∧ (w = 2 → Q (some (.inl (S.1 14 4))) (S)) ∧ (w = 3 → Q (some (.inl (S.1 11 2))) (S)) ∧ (w = 4 → Q (some (.inl (cnt (fun j => S.1 209 j != -1) 40))) (S)) ∧ (w = 5 → Q (some (.inl (S.1 219 2))) (S)) ∧ (w = 6 → Q (some (.inl (cnt (fun j => S.1 221 j == -1) (S.1 219 2).toNat))) (S)) ∧ (w = 7 → Q (some (.inl (cnt (fun j => S.1 83 j == -1 && S.1 84 j == -1) (S.1 81 4).toNat))) (S)) ∧ (w = 8 → Q (some (.inl (cnt (fun j => cb (dbt S j)) (S.1 81 4).toNat))) (S)) ∧ (w = 9 → Q (some (.inl (S.1 222 4))) (S)) ∧ (w = 10 → Q (some (.inl (S.1 3 8))) (S)) ∧ (w = 11 → Q (some (.inl (cnt (fun j => cb (flP (gaT S) ((j : Int) / 64) ((j : Int) % 64))) 2560))) (gaT S)) ∧ (w = 12 → Q (some (.inl (S.1 1 1))) (S)) ∧ (w < 0 ∨ 12 < w → ((0 ≤ w - 20 ∧ w - 20 < S.1 14 4) → Q (some (.inl (cnt (fun j => S.1 83 j == w - 20 && S.1 84 j == -1) (S.1 81 4).toNat))) S) ∧ (¬ (0 ≤ w - 20 ∧ w - 20 < S.1 14 4) → Q (some (.inl (-1))) S))
  | _ => False
def tbX11_count : aTb := (fX11, pX11, fun j => lk [(177, (some 2), 2, spX2_has), (225, (some 7), 3, spX7_at), (287, (some 3), 1, spX3_loose), (310, (some 6), 1, spX6_inUse), (313, (some 11), 1, spX11_slipsInDoubt), (319, (some 11), 1, spX11_flaws)] j, kX11)
theorem tbX11_count_f : tbX11_count.1 = fX11 := rfl
theorem tbX11_count_p : tbX11_count.2.1 = pX11 := rfl
theorem tbX11_count_k : tbX11_count.2.2.2 = kX11 := rfl
theorem tbX11_count_c177 : tbX11_count.2.2.1 177 = some ((some 2), 2, spX2_has) := rfl
theorem tbX11_count_c225 : tbX11_count.2.2.1 225 = some ((some 7), 3, spX7_at) := rfl
theorem tbX11_count_c287 : tbX11_count.2.2.1 287 = some ((some 3), 1, spX3_loose) := rfl
theorem tbX11_count_c310 : tbX11_count.2.2.1 310 = some ((some 6), 1, spX6_inUse) := rfl
theorem tbX11_count_c313 : tbX11_count.2.2.1 313 = some ((some 11), 1, spX11_slipsInDoubt) := rfl
theorem tbX11_count_c319 : tbX11_count.2.2.1 319 = some ((some 11), 1, spX11_flaws) := rfl
theorem tbX11_count_all (l : Launch) : ∀ e ∈ ([(177, (some 2), 2, spX2_has), (225, (some 7), 3, spX7_at), (287, (some 3), 1, spX3_loose), (310, (some 6), 1, spX6_inUse), (313, (some 11), 1, spX11_slipsInDoubt), (319, (some 11), 1, spX11_flaws)] : List (Nat × Option Nat × Nat × aSp)), cOK l mX11_count e.1 e.2.1 e.2.2.1 e.2.2.2 ∨ mOK mX11_count e.1 e.2.1 e.2.2.1 e.2.2.2 := all_cons (cOK_of (okX2_has l) meX2_has cfX11_177 (by decide) (by decide)) (all_cons (cOK_of (okX7_at l) meX7_at cfX11_225 (by decide) (by decide)) (all_cons (cOK_of (okX3_loose l) meX3_loose cfX11_287 (by decide) (by decide)) (all_cons (cOK_of (okX6_inUse l) meX6_inUse cfX11_310 (by decide) (by decide)) (all_cons (cOK_of (okX11_slipsInDoubt l) meX11_slipsInDoubt cfX11_313 (by decide) (by decide)) (all_cons (cOK_of (okX11_flaws l) meX11_flaws cfX11_319 (by decide) (by decide)) (all_nil))))))
theorem tbX11_count_ok (l : Launch) : tOK l mX11_count tbX11_count := ⟨fX11_ok, pX11_ok, fun _ _ _ _ h => tbX11_count_all l _ (lk_mem h), kX11_ok⟩
set_option maxRecDepth 20000 in
set_option maxHeartbeats 4000000 in
theorem okX11_count (l : Launch) : aOK l mX11_count spX11_count := by
  refine aOK_of rfl fun as S Q h => ?_
  unfold spX11_count at h
  split at h
  · rename_i w
    refine ⟨Nat.le_of_ble_eq_true rfl, wp_ok (tbX11_count_ok l) Q (fun pc => false) 73 0 _ [] S ?_⟩
    show wp cX11_count tbX11_count 2 (some .int) Q (fun pc => false) (aGo l mX11_count Q) 73 0 [(0, .inr (.inr 0)), (1, .inl w)] [] S
    simp only [wp_s, wpC_f, wpC_t, e_wLd, e_wLd0, e_wLd1, e_wLd2, e_get1, e_get2, e_wJ, e_wJo, f40, f41, f42, f43, Nat.reduceAdd, Nat.reduceBEq, Nat.reduceMul, eq_self, true_or, or_true, true_and, dX11_count_0, dX11_count_1, dX11_count_68, dX11_count_69, dX11_count_72, dX11_count_75, dX11_count_76, dX11_count_77, dX11_count_80, dX11_count_83, dX11_count_84, dX11_count_85, dX11_count_88, dX11_count_91, dX11_count_92, dX11_count_93, dX11_count_96, dX11_count_99, dX11_count_100, dX11_count_101, dX11_count_104, dX11_count_107, dX11_count_108, dX11_count_109, dX11_count_112, dX11_count_115, dX11_count_116, dX11_count_117, dX11_count_120, dX11_count_123, dX11_count_124, dX11_count_125, dX11_count_128, dX11_count_129, dX11_count_130, dX11_count_133, dX11_count_134, dX11_count_135, dX11_count_138, dX11_count_139, dX11_count_140, dX11_count_143, dX11_count_146, dX11_count_147, dX11_count_148, dX11_count_151, dX11_count_154, dX11_count_155, dX11_count_156, dX11_count_159, dX11_count_160, dX11_count_161, dX11_count_164, dX11_count_167, dX11_count_168, dX11_count_169, dX11_count_172, dX11_count_173, dX11_count_175, dX11_count_176, dX11_count_179, dX11_count_182, dX11_count_183, dX11_count_186, dX11_count_187, dX11_count_189, dX11_count_190, dX11_count_191, dX11_count_194, dX11_count_197, dX11_count_198, e_aload_n, e_iload_n, e_iconst, e_bipush, e_isub, e_ifCond, e_goto, e_tableswitch, e_getfield, e_invokevirtual, e_ireturn, e_wI2, e_tsw, e_tsw0, e_tsw1, e_ri, e_rz, e_wIf_eq, bp_20, fX11_10, fX11_128, fX11_141, fX11_155, fX11_19, fX11_228, fX11_26, fX11_291, fX11_316, fX11_35, fX11_42, fX11_49, fX11_65, fX11_74, fX11_87, fX11_99, ic_m1, jt_179_18, jt_194_4, jt_1_107, jt_1_115, jt_1_123, jt_1_133, jt_1_138, jt_1_146, jt_1_154, jt_1_159, jt_1_167, jt_1_67, jt_1_75, jt_1_83, jt_1_91, jt_1_99, e_call, e_callS0, e_callS1, e_callS2, e_callS3, e_callS4, e_pop0, e_pop1, e_tl0, e_tl1, tbX11_count_f, tbX11_count_p, tbX11_count_k, tbX11_count_c177, tbX11_count_c225, tbX11_count_c287, tbX11_count_c310, tbX11_count_c313, tbX11_count_c319, g_0_3, g_11_2, cv_14_0, cv_14_1, cv_14_2, cv_14_3, cv_14_4, g_0_0, cv_81_0, cv_81_1, cv_81_2, cv_81_3, cv_81_4, cv_0_0, cv_0_1, cv_0_2, cv_0_3, cv_0_4, g_0_1, g_0_4, g_0_7, g_3_7, cv_219_0, cv_219_1, cv_219_2, cv_219_3, cv_219_4, g_1_1, g_0_5, g_0_2, g_0_8, g_222_4, g_14_4, cv_208_0, cv_208_1, cv_208_2, cv_208_3, cv_208_4, g_3_8, g_81_4, g_219_2, spX6_inUse, spX3_loose, spX7_at, spX11_slipsInDoubt, spX11_flaws, spX2_has, bi_0, bi_1, ne_eq, Classical.not_not, em_r, em_l]
    have hgp := hid (fun _ : True => h.1)
    obtain ⟨⟨g0, g1, g2, g3⟩, g4, ⟨g5, g6⟩, gw, k0, k1, k2, k3, k4, k5, k6, k7, k8, k9, k10, k11, k12, kn⟩ := h
    have hw : inI w := gw
    unfold inI at hw
    have hb : ∀ e : Int, 0 ≤ e → e < S.1 14 4 → (0 ≤ e ∧ e < S.1 14 4) := fun _ a b => ⟨a, b⟩
    have g42 := g4.2.2.2
    have g4' := hid (fun _ : True => g4)
    generalize cnt (fun j => cb (flP (gaT S) ((j : Int) / 64) ((j : Int) % 64))) 2560 = C11 at *
    generalize gaT S = G at *
    generalize cnt (fun j => S.1 209 j != -1) 40 = C4 at *
    replace k0 := hid k0
    replace k1 := hid k1
    replace k2 := hid k2
    replace k3 := hid k3
    replace k4 := hid k4
    replace k5 := hid k5
    replace k6 := hid k6
    replace k7 := hid k7
    replace k8 := hid k8
    replace k9 := hid k9
    replace k10 := hid k10
    replace k11 := hid k11
    replace k12 := hid k12
    replace kn := hid kn
    clear g4
    by_cases h20 : w < -2147483628
    · have ew : wI (w - 20) = w - 20 + 4294967296 := wI_lo (by omega) (by omega)
      simp only [ew]
      repeat' (with_reducible first | intro _ | refine And.intro ?_ ?_)
      all_goals first
        | omega
        | decide
        | exact hgp trivial
        | exact g4' trivial
        | exact (kn (by omega)).2 (by omega)
        | skip
    · have ew : wI (w - 20) = w - 20 := wI_id (by omega) (by omega)
      simp only [ew]
      repeat' (with_reducible first | intro _ | refine And.intro ?_ ?_)
      all_goals first
        | omega
        | decide
        | assumption
        | exact g4' trivial
        | exact hgp trivial
        | exact k0 (by omega)
        | exact k1 (by omega)
        | exact k2 (by omega)
        | exact k3 (by omega)
        | exact k4 (by omega)
        | exact k5 (by omega)
        | exact k6 (by omega)
        | exact k7 (by omega)
        | exact k8 (by omega)
        | exact k9 (by omega)
        | exact k10 (by omega)
        | exact k11 (by omega)
        | exact k12 (by omega)
        | exact (kn (by omega)).1 (by omega)
        | exact (kn (by omega)).2 (by omega)
        | skip
  · exact h.elim
