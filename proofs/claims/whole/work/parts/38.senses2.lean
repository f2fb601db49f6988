/-! SLIPHOUSE: senses, pointers -/
def spX11_point : aSp := fun as S Q => match as with
  | [.inr (.inr 0), .inl a, .inl b] => 0 ≤ S.1 219 2 ∧ (¬ ((0 ≤ a ∧ a < 40 ∧ ¬ S.1 209 a.toNat = -1) ∧ (0 ≤ b ∧ b < 40 ∧ ¬ S.1 209 b.toNat = -1) ∧ ¬ a = b ∧ S.1 219 2 < 20) → Q (some (.inl (-1))) S) ∧ (((0 ≤ a ∧ a < 40 ∧ ¬ S.1 209 a.toNat = -1) ∧ (0 ≤ b ∧ b < 40 ∧ ¬ S.1 209 b.toNat = -1) ∧ ¬ a = b ∧ S.1 219 2 < 20) → Q (some (.inl (S.1 219 2))) (upI (upI (upI S 220 (S.1 219 2).toNat a) 221 (S.1 219 2).toNat b) 219 2 (S.1 219 2 + 1)))
  | _ => False
def tbX11_point : aTb := (fX11, pX11, fun j => lk [(202, (some 6), 2, spX6_has), (229, (some 3), 3, spX3_add)] j, kX11)
theorem tbX11_point_f : tbX11_point.1 = fX11 := rfl
theorem tbX11_point_p : tbX11_point.2.1 = pX11 := rfl
theorem tbX11_point_k : tbX11_point.2.2.2 = kX11 := rfl
theorem tbX11_point_c202 : tbX11_point.2.2.1 202 = some ((some 6), 2, spX6_has) := rfl
theorem tbX11_point_c229 : tbX11_point.2.2.1 229 = some ((some 3), 3, spX3_add) := rfl
theorem tbX11_point_all (l : Launch) : ∀ e ∈ ([(202, (some 6), 2, spX6_has), (229, (some 3), 3, spX3_add)] : List (Nat × Option Nat × Nat × aSp)), cOK l mX11_point e.1 e.2.1 e.2.2.1 e.2.2.2 ∨ mOK mX11_point e.1 e.2.1 e.2.2.1 e.2.2.2 := all_cons (cOK_of (okX6_has l) meX6_has cfX11_202 (by decide) (by decide)) (all_cons (cOK_of (okX3_add l) meX3_add cfX11_229 (by decide) (by decide)) (all_nil))
theorem tbX11_point_ok (l : Launch) : tOK l mX11_point tbX11_point := ⟨fX11_ok, pX11_ok, fun _ _ _ _ h => tbX11_point_all l _ (lk_mem h), kX11_ok⟩
set_option maxRecDepth 20000 in
set_option maxHeartbeats 4000000 in
theorem okX11_point (l : Launch) : aOK l mX11_point spX11_point := by
  refine aOK_of rfl fun as S Q h => ?_
  unfold spX11_point at h
  split at h
  · rename_i a b
    refine ⟨Nat.le_of_ble_eq_true rfl, wp_ok (tbX11_point_ok l) Q (fun pc => false) 28 0 _ [] S ?_⟩
    show wp cX11_point tbX11_point 3 (some .int) Q (fun pc => false) (aGo l mX11_point Q) 28 0 [(0, .inr (.inr 0)), (1, .inl a), (2, .inl b)] [] S
    simp only [wp_s, wpC_f, wpC_t, e_wLd, e_wLd0, e_wLd1, e_wLd2, e_get1, e_get2, e_wJ, e_wJo, f40, f41, f42, f43, Nat.reduceAdd, Nat.reduceBEq, Nat.reduceMul, eq_self, true_or, or_true, true_and, dX11_point_0, dX11_point_1, dX11_point_4, dX11_point_5, dX11_point_8, dX11_point_11, dX11_point_12, dX11_point_15, dX11_point_16, dX11_point_19, dX11_point_22, dX11_point_23, dX11_point_24, dX11_point_27, dX11_point_28, dX11_point_31, dX11_point_34, dX11_point_36, dX11_point_39, dX11_point_40, dX11_point_41, dX11_point_42, dX11_point_45, dX11_point_46, dX11_point_47, dX11_point_50, e_aload_n, e_iload_n, e_iconst, e_bipush, e_ifCond, e_if_icmp, e_getfield, e_invokevirtual, e_ireturn, e_ri, e_rz, e_wIf_eq, e_wIc_eq, e_wIc_lt, bp_20, fX11_228, fX11_49, fX11_65, ic_m1, jt_19_20, jt_24_15, jt_36_5, jt_8_31, e_call, e_callS0, e_callS1, e_callS2, e_callS3, e_callS4, e_pop0, e_pop1, e_tl0, e_tl1, tbX11_point_f, tbX11_point_p, tbX11_point_k, tbX11_point_c202, tbX11_point_c229, g_0_7, g_219_2, cv_219_0, cv_219_1, cv_219_2, cv_219_3, cv_219_4, cv_208_0, cv_208_1, cv_208_2, cv_208_3, cv_208_4, g_0_5, spX6_has, spX3_add, bi_0, bi_1, ne_eq, Classical.not_not, em_r, em_l]
    obtain ⟨h0, hA, hB⟩ := h
    repeat' (with_reducible first | intro _ | refine And.intro ?_ ?_)
    all_goals first
      | omega
      | exact hA (fun z => absurd z.1 (by assumption))
      | exact hA (fun z => absurd z.2.1 (by assumption))
      | exact hA (fun z => absurd (by assumption) z.2.2.1)
      | exact hA (fun z => absurd z.2.2.2 (by omega))
      | exact hB ⟨by assumption, by assumption, by assumption, by omega⟩
      | skip
  · exact h.elim
def spX11_drop : aSp := fun as S Q => match as with
  | [.inr (.inr 0), .inl a] => (0 ≤ S.1 81 4 ∧ S.1 81 4 ≤ 120) ∧ (0 ≤ S.1 219 2 ∧ S.1 219 2 ≤ 20) ∧ (¬ ((0 ≤ a ∧ a < 40 ∧ ¬ S.1 209 a.toNat = -1) ∧ cnt (fun j => S.1 209 j != -1 && S.1 210 j == a) 40 ≤ 0 ∧ cnt (fun j => S.1 83 j == S.1 209 a.toNat && S.1 84 j == a) (S.1 81 4).toNat ≤ 0) → Q (some (.inl 0)) S) ∧ (((0 ≤ a ∧ a < 40 ∧ ¬ S.1 209 a.toNat = -1) ∧ cnt (fun j => S.1 209 j != -1 && S.1 210 j == a) 40 ≤ 0 ∧ cnt (fun j => S.1 83 j == S.1 209 a.toNat && S.1 84 j == a) (S.1 81 4).toNat ≤ 0) → Q (some (.inl 1)) (fgP a (S.1 219 2).toNat (upI (upI S 209 a.toNat (-1)) 210 a.toNat (-1))))
  | _ => False
def tbX11_drop : aTb := (fX11, pX11, fun j => lk [(202, (some 6), 2, spX6_has), (219, (some 11), 2, spX11_forgetSense), (222, (some 6), 2, spX6_justUnder), (225, (some 7), 3, spX7_at)] j, kX11)
theorem tbX11_drop_f : tbX11_drop.1 = fX11 := rfl
theorem tbX11_drop_p : tbX11_drop.2.1 = pX11 := rfl
theorem tbX11_drop_k : tbX11_drop.2.2.2 = kX11 := rfl
theorem tbX11_drop_c202 : tbX11_drop.2.2.1 202 = some ((some 6), 2, spX6_has) := rfl
theorem tbX11_drop_c219 : tbX11_drop.2.2.1 219 = some ((some 11), 2, spX11_forgetSense) := rfl
theorem tbX11_drop_c222 : tbX11_drop.2.2.1 222 = some ((some 6), 2, spX6_justUnder) := rfl
theorem tbX11_drop_c225 : tbX11_drop.2.2.1 225 = some ((some 7), 3, spX7_at) := rfl
theorem tbX11_drop_all (l : Launch) : ∀ e ∈ ([(202, (some 6), 2, spX6_has), (219, (some 11), 2, spX11_forgetSense), (222, (some 6), 2, spX6_justUnder), (225, (some 7), 3, spX7_at)] : List (Nat × Option Nat × Nat × aSp)), cOK l mX11_drop e.1 e.2.1 e.2.2.1 e.2.2.2 ∨ mOK mX11_drop e.1 e.2.1 e.2.2.1 e.2.2.2 := all_cons (cOK_of (okX6_has l) meX6_has cfX11_202 (by decide) (by decide)) (all_cons (cOK_of (okX11_forgetSense l) meX11_forgetSense cfX11_219 (by decide) (by decide)) (all_cons (cOK_of (okX6_justUnder l) meX6_justUnder cfX11_222 (by decide) (by decide)) (all_cons (cOK_of (okX7_at l) meX7_at cfX11_225 (by decide) (by decide)) (all_nil))))
theorem tbX11_drop_ok (l : Launch) : tOK l mX11_drop tbX11_drop := ⟨fX11_ok, pX11_ok, fun _ _ _ _ h => tbX11_drop_all l _ (lk_mem h), kX11_ok⟩
set_option maxRecDepth 20000 in
set_option maxHeartbeats 4000000 in
theorem okX11_drop (l : Launch) : aOK l mX11_drop spX11_drop := by
  refine aOK_of rfl fun as S Q h => ?_
  unfold spX11_drop at h
  split at h
  · rename_i a
    refine ⟨Nat.le_of_ble_eq_true rfl, wp_ok (tbX11_drop_ok l) Q (fun pc => false) 29 0 _ [] S ?_⟩
    show wp cX11_drop tbX11_drop 2 (some .boolean) Q (fun pc => false) (aGo l mX11_drop Q) 29 0 [(0, .inr (.inr 0)), (1, .inl a)] [] S
    simp only [wp_s, wpC_f, wpC_t, e_wLd, e_wLd0, e_wLd1, e_wLd2, e_get1, e_get2, e_wJ, e_wJo, f40, f41, f42, f43, Nat.reduceAdd, Nat.reduceBEq, Nat.reduceMul, eq_self, true_or, or_true, true_and, dX11_drop_0, dX11_drop_1, dX11_drop_4, dX11_drop_5, dX11_drop_8, dX11_drop_11, dX11_drop_12, dX11_drop_15, dX11_drop_16, dX11_drop_19, dX11_drop_22, dX11_drop_23, dX11_drop_26, dX11_drop_27, dX11_drop_30, dX11_drop_33, dX11_drop_34, dX11_drop_35, dX11_drop_36, dX11_drop_39, dX11_drop_42, dX11_drop_43, dX11_drop_44, dX11_drop_45, dX11_drop_46, dX11_drop_49, dX11_drop_50, e_aload_n, e_iload_n, e_iconst, e_ifCond, e_getfield, e_iaload, e_invokevirtual, e_ireturn, e_ri, e_rz, e_wIf_gt, e_wIf_eq, e_wIf_le, fX11_203, fX11_42, fX11_49, ic_0, ic_1, jt_19_23, jt_39_5, jt_8_34, e_call, e_callS0, e_callS1, e_callS2, e_callS3, e_callS4, e_pop0, e_pop1, e_tl0, e_tl1, tbX11_drop_f, tbX11_drop_p, tbX11_drop_k, tbX11_drop_c202, tbX11_drop_c219, tbX11_drop_c222, tbX11_drop_c225, g_0_4, cv_81_0, cv_81_1, cv_81_2, cv_81_3, cv_81_4, cv_0_0, cv_0_1, cv_0_2, cv_0_3, cv_0_4, g_0_5, cv_208_0, cv_208_1, cv_208_2, cv_208_3, cv_208_4, l_209, g_208_0, spX6_has, spX6_justUnder, spX7_at, spX11_forgetSense, bi_0, bi_1, ne_eq, Classical.not_not, em_r, em_l]
    obtain ⟨h0, h1, hA, hB⟩ := h
    repeat' (with_reducible first | intro _ | refine And.intro ?_ ?_)
    all_goals first
      | omega
      | assumption
      | exact hA (fun z => absurd z.1 (by assumption))
      | exact hA (fun z => absurd z.2.1 (by omega))
      | exact hA (fun z => absurd z.2.2 (by omega))
      | exact hB ⟨by assumption, by omega, by omega⟩
      | skip
  · exact h.elim
