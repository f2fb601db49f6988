/-! SLIPHOUSE: senses, pointers -/
def spX11_point : aSp := fun as S Q => match as with
  | [.inr (.inr 0), .inl a, .inl b] => 0 ≤ S.1 219 2 ∧ (¬ ((0 ≤ a ∧ a < 40 ∧ ¬ S.1 209 a.toNat = -1) ∧ (0 ≤ b ∧ b < 40 ∧ ¬ S.1 209 b.toNat = -1) ∧ ¬ a = b ∧ S.1 219 2 < 20) → Q (some (.inl (-1))) S) ∧ (((0 ≤ a ∧ a < 40 ∧ ¬ S.1 209 a.toNat = -1) ∧ (0 ≤ b ∧ b < 40 ∧ ¬ S.1 209 b.toNat = -1) ∧ ¬ a = b ∧ S.1 219 2 < 20) → Q (some (.inl (S.1 219 2))) (upI (upI (upI S 220 (S.1 219 2).toNat a) 221 (S.1 219 2).toNat b) 219 2 (S.1 219 2 + 1)))
  | _ => False
def tbX11_point : aTb := (fX11, pX11, fun j => lk [(202, (some 6), 2, spX6_has), (229, (some 3), 3, spX3_add)] j, kX11)
theorem tbX11_point_f : tbX11_point.1 = fX11 := rfl
theorem tbX11_point_p : tbX11_point.2.1 = pX11 := rfl
theorem tbX11_point_k : tbX11_point.2.2.2 = kX11 := rfl
theorem tbX11_point_c202 : tbX11_point.2.2.1 202 = some ((some 6), 2, spX6_has) := rfl
theorem tbX11_point_c229 : tbX11_point.2.2.1 229 = some ((some 3), 3, spX3_add) := rfl
theorem tbX11_point_all (l : Launch) : ∀ e ∈ ([(202, (some 6), 2, spX6_has), (229, (some 3), 3, spX3_add)] : List (Nat × Option Nat × Nat × aSp)), cOK l mX11_point e.1 e.2.1 e.2.2.1 e.2.2.2 ∨ mOK mX11_point e.1 e.2.1 e.2.2.1 e.2.2.2 := all_cons (cOK_of (okX6_has l) meX6_has cfX11_202 (by decide) (by decide)) (all_cons (cOK_of (okX3_add l) meX3_add cfX11_229 (by decide) (by decide)) (all_nil))
theorem tbX11_point_ok (l : Launch) : tOK l mX11_point tbX11_point := ⟨fX11_ok, pX11_ok, fun _ _ _ _ h => tbX11_point_all l _ (lk_mem h), kX11_ok⟩
set_option maxRecDepth 20000 in
set_option maxHeartbeats 4000000 in
theorem okX11_point (l : Launch) : aOK l mX11_point spX11_point := by
  refine aOK_of rfl fun as S Q h => ?_
  unfold spX11_point at h
  split at h
  · rename_i a b
    refine ⟨Nat.le_of_ble_eq_true rfl, wp_ok (tbX11_point_ok l) Q (fun pc => false) 28 0 _ [] S ?_⟩
    show wp cX11_point tbX11_point 3 (some .int) Q (fun pc => false) (aGo l mX11_point Q) 28 0 [(0, .inr (.inr 0)), (1, .inl a), (2, .inl b)] [] S
    simp only [wp_s, wpC_f, wpC_t, e_wLd, e_wLd0, e_wLd1, e_wLd2, e_get1, e_get2, e_wJ, e_wJo, f40, f41, f42, f43, Nat.reduceAdd, Nat.reduceBEq, Nat.reduceMul, eq_self, true_or, or_true, true_and, dX11_point_0, dX11_point_1, dX11_point_4, dX11_point_5, dX11_point_8, dX11_point_11, dX11_point_12, dX11_point_15, dX11_point_16, dX11_point_19, dX11_point_22, dX11_point_23, dX11_point_24, dX11_point_27, dX11_point_28, dX11_point_31, dX11_point_34, dX11_point_36, dX11_point_39, dX11_point_40, dX11_point_41, dX11_point_42, dX11_point_45, dX11_point_46, dX11_point_47, dX11_point_50, e_aload_n, e_iload_n, e_iconst, e_bipush, e_ifCond, e_if_icmp, e_getfield, e_invokevirtual, e_ireturn, e_ri, e_rz, e_wIc_eq, e_wIf_eq, e_wIc_lt, bp_20, fX11_228, fX11_49, fX11_65, ic_m1, jt_19_20, jt_24_15, jt_36_5, jt_8_31, e_call, e_callS0, e_callS1, e_callS2, e_callS3, e_callS4, e_pop0, e_pop1, e_tl0, e_tl1, tbX11_point_f, tbX11_point_p, tbX11_point_k, tbX11_point_c202, tbX11_point_c229, g_0_5, g_219_2, cv_219_0, cv_219_1, cv_219_2, cv_219_3, cv_219_4, g_0_7, cv_208_0, cv_208_1, cv_208_2, cv_208_3, cv_208_4, spX6_has, spX3_add, bi_0, bi_1, ne_eq, Classical.not_not, em_r, em_l]
    obtain ⟨h0, hA, hB⟩ := h
    repeat' (with_reducible first | intro _ | refine And.intro ?_ ?_)
    all_goals first
      | omega
      | exact hA (fun z => absurd z.1 (by assumption))
      | exact hA (fun z => absurd z.2.1 (by assumption))
      | exact hA (fun z => absurd (by assumption) z.2.2.1)
      | exact hA (fun z => absurd z.2.2.2 (by omega))
      | exact hB ⟨by assumption, by assumption, by assumption, by omega⟩
      | skip
  · exact h.elim
def spX11_drop : aSp := fun as S Q => match as with
  | [.inr (.inr 0), .inl a] => (0 ≤ S.1 81 4 ∧ S.1 81 4 ≤ 120) ∧ (0 ≤ S.1 219 2 ∧ S.1 219 2 ≤ 20) ∧ (¬ ((0 ≤ a ∧ a < 40 ∧ ¬ S.1 209 a.toNat = -1) ∧ cnt (fun j => S.1 209 j != -1 && S.1 210 j == a) 40 ≤ 0 ∧ cnt (fun j => S.1 83 j == S.1 209 a.toNat && S.1 84 j == a) (S.1 81 4).toNat ≤ 0) → Q (some (.inl 0)) S) ∧ (((0 ≤ a ∧ a < 40 ∧ ¬ S.1 209 a.toNat = -1) ∧ cnt (fun j => S.1 209 j != -1 && S.1 210 j == a) 40 ≤ 0 ∧ cnt (fun j => S.1 83 j == S.1 209 a.toNat && S.1 84 j == a) (S.1 81 4).toNat ≤ 0) → Q (some (.inl 1)) (fgP a (S.1 219 2).toNat (upI (upI S 209 a.toNat (-1)) 210 a.toNat (-1))))
  | _ => False
def tbX11_drop : aTb := (fX11, pX11, fun j => lk [(202, (some 6), 2, spX6_has), (219, (some 11), 2, spX11_forgetSense), (222, (some 6), 2, spX6_justUnder), (225, (some 7), 3, spX7_at)] j, kX11)
theorem tbX11_drop_f : tbX11_drop.1 = fX11 := rfl
theorem tbX11_drop_p : tbX11_drop.2.1 = pX11 := rfl
theorem tbX11_drop_k : tbX11_drop.2.2.2 = kX11 := rfl
theorem tbX11_drop_c202 : tbX11_drop.2.2.1 202 = some ((some 6), 2, spX6_has) := rfl
theorem tbX11_drop_c219 : tbX11_drop.2.2.1 219 = some ((some 11), 2, spX11_forgetSense) := rfl
theorem tbX11_drop_c222 : tbX11_drop.2.2.1 222 = some ((some 6), 2, spX6_justUnder) := rfl
theorem tbX11_drop_c225 : tbX11_drop.2.2.1 225 = some ((some 7), 3, spX7_at) := rfl
theorem tbX11_drop_all (l : Launch) : ∀ e ∈ ([(202, (some 6), 2, spX6_has), (219, (some 11), 2, spX11_forgetSense), (222, (some 6), 2, spX6_justUnder), (225, (some 7), 3, spX7_at)] : List (Nat × Option Nat × Nat × aSp)), cOK l mX11_drop e.1 e.2.1 e.2.2.1 e.2.2.2 ∨ mOK mX11_drop e.1 e.2.1 e.2.2.1 e.2.2.2 := all_cons (cOK_of (okX6_has l) meX6_has cfX11_202 (by decide) (by decide)) (all_cons (cOK_of (okX11_forgetSense l) meX11_forgetSense cfX11_219 (by decide) (by decide)) (all_cons (cOK_of (okX6_justUnder l) meX6_justUnder cfX11_222 (by decide) (by decide)) (all_cons (cOK_of (okX7_at l) meX7_at cfX11_225 (by decide) (by decide)) (all_nil))))
theorem tbX11_drop_ok (l : Launch) : tOK l mX11_drop tbX11_drop := ⟨fX11_ok, pX11_ok, fun _ _ _ _ h => tbX11_drop_all l _ (lk_mem h), kX11_ok⟩
set_option maxRecDepth 20000 in
set_option maxHeartbeats 4000000 in
theorem okX11_drop (l : Launch) : aOK l mX11_drop spX11_drop := by
  refine aOK_of rfl fun as S Q h => ?_
  unfold spX11_drop at h
  split at h
  · rename_i a
    refine ⟨Nat.le_of_ble_eq_true rfl, wp_ok (tbX11_drop_ok l) Q (fun pc => false) 29 0 _ [] S ?_⟩
    show wp cX11_drop tbX11_drop 2 (some .boolean) Q (fun pc => false) (aGo l mX11_drop Q) 29 0 [(0, .inr (.inr 0)), (1, .inl a)] [] S
    simp only [wp_s, wpC_f, wpC_t, e_wLd, e_wLd0, e_wLd1, e_wLd2, e_get1, e_get2, e_wJ, e_wJo, f40, f41, f42, f43, Nat.reduceAdd, Nat.reduceBEq, Nat.reduceMul, eq_self, true_or, or_true, true_and, dX11_drop_0, dX11_drop_1, dX11_drop_4, dX11_drop_5, dX11_drop_8, dX11_drop_11, dX11_drop_12, dX11_drop_15, dX11_drop_16, dX11_drop_19, dX11_drop_22, dX11_drop_23, dX11_drop_26, dX11_drop_27, dX11_drop_30, dX11_drop_33, dX11_drop_34, dX11_drop_35, dX11_drop_36, dX11_drop_39, dX11_drop_42, dX11_drop_43, dX11_drop_44, dX11_drop_45, dX11_drop_46, dX11_drop_49, dX11_drop_50, e_aload_n, e_iload_n, e_iconst, e_ifCond, e_getfield, e_iaload, e_invokevirtual, e_ireturn, e_ri, e_rz, e_wIf_gt, e_wIf_le, e_wIf_eq, fX11_203, fX11_42, fX11_49, ic_0, ic_1, jt_19_23, jt_39_5, jt_8_34, e_call, e_callS0, e_callS1, e_callS2, e_callS3, e_callS4, e_pop0, e_pop1, e_tl0, e_tl1, tbX11_drop_f, tbX11_drop_p, tbX11_drop_k, tbX11_drop_c202, tbX11_drop_c219, tbX11_drop_c222, tbX11_drop_c225, g_208_0, l_209, g_0_5, cv_81_0, cv_81_1, cv_81_2, cv_81_3, cv_81_4, cv_0_0, cv_0_1, cv_0_2, cv_0_3, cv_0_4, g_0_4, cv_208_0, cv_208_1, cv_208_2, cv_208_3, cv_208_4, spX6_has, spX6_justUnder, spX7_at, spX11_forgetSense, bi_0, bi_1, ne_eq, Classical.not_not, em_r, em_l]
    obtain ⟨h0, h1, hA, hB⟩ := h
    repeat' (with_reducible first | intro _ | refine And.intro ?_ ?_)
    all_goals first
      | omega
      | assumption
      | exact hA (fun z => absurd z.1 (by assumption))
      | exact hA (fun z => absurd z.2.1 (by omega))
      | exact hA (fun z => absurd z.2.2 (by omega))
      | exact hB ⟨by assumption, by omega, by omega⟩
      | skip
  · exact h.elim
def spX11_lead : aSp := fun as S Q => match as with
  | [.inr (.inr 0), .inl p, .inl b] => (0 ≤ S.1 219 2 ∧ S.1 219 2 ≤ 20) ∧ (¬ (0 ≤ p ∧ p < S.1 219 2 ∧ S.1 221 p.toNat = -1) → Q (some (.inl 0)) S) ∧ ((0 ≤ p ∧ p < S.1 219 2 ∧ S.1 221 p.toNat = -1) → b = -1 → Q (some (.inl 1)) (rmP S p)) ∧ ((0 ≤ p ∧ p < S.1 219 2 ∧ S.1 221 p.toNat = -1) → ¬ b = -1 → (¬ ((0 ≤ b ∧ b < 40 ∧ ¬ S.1 209 b.toNat = -1) ∧ ¬ S.1 220 p.toNat = b) → Q (some (.inl 0)) S) ∧ (((0 ≤ b ∧ b < 40 ∧ ¬ S.1 209 b.toNat = -1) ∧ ¬ S.1 220 p.toNat = b) → Q (some (.inl 1)) (upI S 221 p.toNat b)))
  | _ => False
def tbX11_lead : aTb := (fX11, pX11, fun j => lk [(202, (some 6), 2, spX6_has), (230, (some 3), 2, spX3_has), (231, (some 3), 2, spX3_isLoose), (232, (some 3), 2, spX3_remove)] j, kX11)
theorem tbX11_lead_f : tbX11_lead.1 = fX11 := rfl
theorem tbX11_lead_p : tbX11_lead.2.1 = pX11 := rfl
theorem tbX11_lead_k : tbX11_lead.2.2.2 = kX11 := rfl
theorem tbX11_lead_c202 : tbX11_lead.2.2.1 202 = some ((some 6), 2, spX6_has) := rfl
theorem tbX11_lead_c230 : tbX11_lead.2.2.1 230 = some ((some 3), 2, spX3_has) := rfl
theorem tbX11_lead_c231 : tbX11_lead.2.2.1 231 = some ((some 3), 2, spX3_isLoose) := rfl
theorem tbX11_lead_c232 : tbX11_lead.2.2.1 232 = some ((some 3), 2, spX3_remove) := rfl
theorem tbX11_lead_all (l : Launch) : ∀ e ∈ ([(202, (some 6), 2, spX6_has), (230, (some 3), 2, spX3_has), (231, (some 3), 2, spX3_isLoose), (232, (some 3), 2, spX3_remove)] : List (Nat × Option Nat × Nat × aSp)), cOK l mX11_lead e.1 e.2.1 e.2.2.1 e.2.2.2 ∨ mOK mX11_lead e.1 e.2.1 e.2.2.1 e.2.2.2 := all_cons (cOK_of (okX6_has l) meX6_has cfX11_202 (by decide) (by decide)) (all_cons (cOK_of (okX3_has l) meX3_has cfX11_230 (by decide) (by decide)) (all_cons (cOK_of (okX3_isLoose l) meX3_isLoose cfX11_231 (by decide) (by decide)) (all_cons (cOK_of (okX3_remove l) meX3_remove cfX11_232 (by decide) (by decide)) (all_nil))))
theorem tbX11_lead_ok (l : Launch) : tOK l mX11_lead tbX11_lead := ⟨fX11_ok, pX11_ok, fun _ _ _ _ h => tbX11_lead_all l _ (lk_mem h), kX11_ok⟩
set_option maxRecDepth 20000 in
set_option maxHeartbeats 4000000 in
theorem okX11_lead (l : Launch) : aOK l mX11_lead spX11_lead := by
  refine aOK_of rfl fun as S Q h => ?_
  unfold spX11_lead at h
  split at h
  · rename_i p b
    refine ⟨Nat.le_of_ble_eq_true rfl, wp_ok (tbX11_lead_ok l) Q (fun pc => false) 45 0 _ [] S ?_⟩
    show wp cX11_lead tbX11_lead 3 (some .boolean) Q (fun pc => false) (aGo l mX11_lead Q) 45 0 [(0, .inr (.inr 0)), (1, .inl p), (2, .inl b)] [] S
    simp only [wp_s, wpC_f, wpC_t, e_wLd, e_wLd0, e_wLd1, e_wLd2, e_get1, e_get2, e_wJ, e_wJo, f40, f41, f42, f43, Nat.reduceAdd, Nat.reduceBEq, Nat.reduceMul, eq_self, true_or, or_true, true_and, dX11_lead_0, dX11_lead_1, dX11_lead_4, dX11_lead_5, dX11_lead_8, dX11_lead_11, dX11_lead_12, dX11_lead_15, dX11_lead_16, dX11_lead_19, dX11_lead_22, dX11_lead_23, dX11_lead_24, dX11_lead_25, dX11_lead_26, dX11_lead_29, dX11_lead_30, dX11_lead_33, dX11_lead_34, dX11_lead_37, dX11_lead_38, dX11_lead_39, dX11_lead_40, dX11_lead_43, dX11_lead_44, dX11_lead_47, dX11_lead_50, dX11_lead_51, dX11_lead_54, dX11_lead_57, dX11_lead_58, dX11_lead_59, dX11_lead_60, dX11_lead_63, dX11_lead_64, dX11_lead_65, dX11_lead_66, dX11_lead_69, dX11_lead_72, dX11_lead_73, dX11_lead_74, dX11_lead_75, dX11_lead_76, e_aload_n, e_iload_n, e_iconst, e_ifCond, e_if_icmp, e_getfield, e_iaload, e_iastore, e_invokevirtual, e_ireturn, e_ri, e_rz, e_wIf_ne, e_wIf_eq, e_wIc_ne, fX11_235, fX11_238, fX11_49, fX11_65, ic_0, ic_1, ic_m1, jt_19_5, jt_26_13, jt_47_16, jt_60_5, jt_8_14, e_call, e_callS0, e_callS1, e_callS2, e_callS3, e_callS4, e_pop0, e_pop1, e_tl0, e_tl1, tbX11_lead_f, tbX11_lead_p, tbX11_lead_k, tbX11_lead_c202, tbX11_lead_c230, tbX11_lead_c231, tbX11_lead_c232, g_219_0, l_221, s_221, g_0_5, g_219_1, cv_219_0, cv_219_1, cv_219_2, cv_219_3, cv_219_4, g_0_7, l_220, s_220, cv_208_0, cv_208_1, cv_208_2, cv_208_3, cv_208_4, spX3_has, spX3_isLoose, spX3_remove, spX6_has, bi_0, bi_1, ne_eq, Classical.not_not, em_r, em_l]
    obtain ⟨⟨h0, h1⟩, hA, hB, hC⟩ := h
    repeat' (with_reducible first | intro _ | refine And.intro ?_ ?_)
    all_goals first
      | omega
      | exact hA (by omega)
      | exact hB (by omega) (by omega)
      | exact (hC (by omega) (by omega)).1 (by omega)
      | exact (hC (by omega) (by omega)).2 (by omega)
      | skip
  · exact h.elim
def spX11_put : aSp := fun as S Q => match as with
  | [.inr (.inr 0), .inl s, .inl e, .inl t] => S.1 81 4 ≤ 120 ∧ (¬ ((0 ≤ s ∧ s < S.1 81 4) ∧ ¬ (S.1 83 s.toNat = e ∧ S.1 84 s.toNat = t) ∧ ((e = -1 ∧ t = -1) ∨ ((0 ≤ e ∧ e < S.1 14 4) ∧ (t = -1 ∨ ((0 ≤ t ∧ t < 40 ∧ ¬ S.1 209 t.toNat = -1) ∧ S.1 209 t.toNat = e))))) → Q (some (.inl 0)) S) ∧ (((0 ≤ s ∧ s < S.1 81 4) ∧ ¬ (S.1 83 s.toNat = e ∧ S.1 84 s.toNat = t) ∧ ((e = -1 ∧ t = -1) ∨ ((0 ≤ e ∧ e < S.1 14 4) ∧ (t = -1 ∨ ((0 ≤ t ∧ t < 40 ∧ ¬ S.1 209 t.toNat = -1) ∧ S.1 209 t.toNat = e))))) → Q (some (.inl 1)) (upI (upI S 83 s.toNat e) 84 s.toNat t))
  | _ => False
def tbX11_put : aTb := (fX11, pX11, fun j => lk [(176, (some 7), 2, spX7_has), (177, (some 2), 2, spX2_has), (190, (some 7), 4, spX7_place), (194, (some 11), 3, spX11_isTopOrSenseOf), (198, (some 7), 4, spX7_standsAt)] j, kX11)
theorem tbX11_put_f : tbX11_put.1 = fX11 := rfl
theorem tbX11_put_p : tbX11_put.2.1 = pX11 := rfl
theorem tbX11_put_k : tbX11_put.2.2.2 = kX11 := rfl
theorem tbX11_put_c176 : tbX11_put.2.2.1 176 = some ((some 7), 2, spX7_has) := rfl
theorem tbX11_put_c177 : tbX11_put.2.2.1 177 = some ((some 2), 2, spX2_has) := rfl
theorem tbX11_put_c190 : tbX11_put.2.2.1 190 = some ((some 7), 4, spX7_place) := rfl
theorem tbX11_put_c194 : tbX11_put.2.2.1 194 = some ((some 11), 3, spX11_isTopOrSenseOf) := rfl
theorem tbX11_put_c198 : tbX11_put.2.2.1 198 = some ((some 7), 4, spX7_standsAt) := rfl
theorem tbX11_put_all (l : Launch) : ∀ e ∈ ([(176, (some 7), 2, spX7_has), (177, (some 2), 2, spX2_has), (190, (some 7), 4, spX7_place), (194, (some 11), 3, spX11_isTopOrSenseOf), (198, (some 7), 4, spX7_standsAt)] : List (Nat × Option Nat × Nat × aSp)), cOK l mX11_put e.1 e.2.1 e.2.2.1 e.2.2.2 ∨ mOK mX11_put e.1 e.2.1 e.2.2.1 e.2.2.2 := all_cons (cOK_of (okX7_has l) meX7_has cfX11_176 (by decide) (by decide)) (all_cons (cOK_of (okX2_has l) meX2_has cfX11_177 (by decide) (by decide)) (all_cons (cOK_of (okX7_place l) meX7_place cfX11_190 (by decide) (by decide)) (all_cons (cOK_of (okX11_isTopOrSenseOf l) meX11_isTopOrSenseOf cfX11_194 (by decide) (by decide)) (all_cons (cOK_of (okX7_standsAt l) meX7_standsAt cfX11_198 (by decide) (by decide)) (all_nil)))))
theorem tbX11_put_ok (l : Launch) : tOK l mX11_put tbX11_put := ⟨fX11_ok, pX11_ok, fun _ _ _ _ h => tbX11_put_all l _ (lk_mem h), kX11_ok⟩
set_option maxRecDepth 20000 in
set_option maxHeartbeats 4000000 in
theorem okX11_put (l : Launch) : aOK l mX11_put spX11_put := by
  refine aOK_of rfl fun as S Q h => ?_
  unfold spX11_put at h
  split at h
  · rename_i s e t
    refine ⟨Nat.le_of_ble_eq_true rfl, wp_ok (tbX11_put_ok l) Q (fun pc => false) 48 0 _ [] S ?_⟩
    show wp cX11_put tbX11_put 5 (some .boolean) Q (fun pc => false) (aGo l mX11_put Q) 48 0 [(0, .inr (.inr 0)), (1, .inl s), (2, .inl e), (3, .inl t)] [] S
    simp only [wp_s, wpC_f, wpC_t, e_wLd, e_wLd0, e_wLd1, e_wLd2, e_get1, e_get2, e_wJ, e_wJo, f40, f41, f42, f43, Nat.reduceAdd, Nat.reduceBEq, Nat.reduceMul, eq_self, true_or, or_true, true_and, dX11_put_0, dX11_put_1, dX11_put_4, dX11_put_5, dX11_put_8, dX11_put_11, dX11_put_12, dX11_put_15, dX11_put_16, dX11_put_17, dX11_put_18, dX11_put_21, dX11_put_24, dX11_put_25, dX11_put_26, dX11_put_27, dX11_put_28, dX11_put_31, dX11_put_32, dX11_put_33, dX11_put_36, dX11_put_37, dX11_put_40, dX11_put_41, dX11_put_43, dX11_put_45, dX11_put_48, dX11_put_49, dX11_put_52, dX11_put_53, dX11_put_56, dX11_put_59, dX11_put_60, dX11_put_61, dX11_put_62, dX11_put_65, dX11_put_68, dX11_put_69, dX11_put_70, dX11_put_71, dX11_put_74, dX11_put_75, dX11_put_76, dX11_put_77, dX11_put_80, dX11_put_81, e_aload_n, e_iload_n, e_iload, e_istore, e_iconst, e_ifCond, e_if_icmp, e_goto, e_getfield, e_invokevirtual, e_ireturn, e_wSt0, e_wSt1, e_wSt2, e_isL0, e_isL1, e_isL2, e_lset, e_lclr0, e_lclr1, e_lclr2, e_lput0, e_lput1, e_lput2, e_wInc, e_wInc0, Nat.reduceLT, not_false_eq_true, Bool.or_false, Bool.false_or, Bool.or_true, Bool.true_or, Bool.and_false, Bool.false_and, Bool.and_true, Bool.true_and, e_ri, e_rz, e_wIf_ne, e_wIf_eq, e_wIc_ne, fX11_35, fX11_42, ic_0, ic_1, ic_m1, jt_21_5, jt_28_12, jt_33_7, jt_37_4, jt_45_25, jt_56_12, jt_65_5, jt_8_16, e_call, e_callS0, e_callS1, e_callS2, e_callS3, e_callS4, e_pop0, e_pop1, e_tl0, e_tl1, tbX11_put_f, tbX11_put_p, tbX11_put_k, tbX11_put_c176, tbX11_put_c177, tbX11_put_c190, tbX11_put_c194, tbX11_put_c198, g_0_3, cv_14_0, cv_14_1, cv_14_2, cv_14_3, cv_14_4, cv_81_0, cv_81_1, cv_81_2, cv_81_3, cv_81_4, cv_0_0, cv_0_1, cv_0_2, cv_0_3, cv_0_4, g_0_4, spX7_has, spX7_standsAt, spX2_has, spX11_isTopOrSenseOf, spX7_place, bi_0, bi_1, ne_eq, Classical.not_not, em_r, em_l]
    obtain ⟨h0, hA, hB⟩ := h
    repeat' (with_reducible first | intro _ | refine And.intro ?_ ?_)
    all_goals first
      | omega
      | exact hA (by omega)
      | exact absurd trivial (by assumption)
      | exact hB (by omega)
      | skip
  · exact h.elim
def spX11_move : aSp := fun as S Q => match as with
  | [.inr (.inr 0), .inl a, .inl b] => (¬ ((0 ≤ a ∧ a < 40 ∧ ¬ S.1 209 a.toNat = -1) ∧ (b = -1 ∨ ((0 ≤ b ∧ b < 40 ∧ ¬ S.1 209 b.toNat = -1) ∧ S.1 209 b.toNat = S.1 209 a.toNat)) ∧ ¬ S.1 210 a.toNat = b ∧ ¬ wth (S.1 209) (S.1 210) a 40 b) → Q (some (.inl 0)) S) ∧ (((0 ≤ a ∧ a < 40 ∧ ¬ S.1 209 a.toNat = -1) ∧ (b = -1 ∨ ((0 ≤ b ∧ b < 40 ∧ ¬ S.1 209 b.toNat = -1) ∧ S.1 209 b.toNat = S.1 209 a.toNat)) ∧ ¬ S.1 210 a.toNat = b ∧ ¬ wth (S.1 209) (S.1 210) a 40 b) → Q (some (.inl 1)) (upI S 210 a.toNat b))
  | _ => False
def tbX11_move : aTb := (fX11, pX11, fun j => lk [(194, (some 11), 3, spX11_isTopOrSenseOf), (202, (some 6), 2, spX6_has), (209, (some 6), 3, spX6_isWithin)] j, kX11)
theorem tbX11_move_f : tbX11_move.1 = fX11 := rfl
theorem tbX11_move_p : tbX11_move.2.1 = pX11 := rfl
theorem tbX11_move_k : tbX11_move.2.2.2 = kX11 := rfl
theorem tbX11_move_c194 : tbX11_move.2.2.1 194 = some ((some 11), 3, spX11_isTopOrSenseOf) := rfl
theorem tbX11_move_c202 : tbX11_move.2.2.1 202 = some ((some 6), 2, spX6_has) := rfl
theorem tbX11_move_c209 : tbX11_move.2.2.1 209 = some ((some 6), 3, spX6_isWithin) := rfl
theorem tbX11_move_all (l : Launch) : ∀ e ∈ ([(194, (some 11), 3, spX11_isTopOrSenseOf), (202, (some 6), 2, spX6_has), (209, (some 6), 3, spX6_isWithin)] : List (Nat × Option Nat × Nat × aSp)), cOK l mX11_move e.1 e.2.1 e.2.2.1 e.2.2.2 ∨ mOK mX11_move e.1 e.2.1 e.2.2.1 e.2.2.2 := all_cons (cOK_of (okX11_isTopOrSenseOf l) meX11_isTopOrSenseOf cfX11_194 (by decide) (by decide)) (all_cons (cOK_of (okX6_has l) meX6_has cfX11_202 (by decide) (by decide)) (all_cons (cOK_of (okX6_isWithin l) meX6_isWithin cfX11_209 (by decide) (by decide)) (all_nil)))
theorem tbX11_move_ok (l : Launch) : tOK l mX11_move tbX11_move := ⟨fX11_ok, pX11_ok, fun _ _ _ _ h => tbX11_move_all l _ (lk_mem h), kX11_ok⟩
set_option maxRecDepth 20000 in
set_option maxHeartbeats 4000000 in
theorem okX11_move (l : Launch) : aOK l mX11_move spX11_move := by
  refine aOK_of rfl fun as S Q h => ?_
  unfold spX11_move at h
  split at h
  · rename_i a b
    refine ⟨Nat.le_of_ble_eq_true rfl, wp_ok (tbX11_move_ok l) Q (fun pc => false) 41 0 _ [] S ?_⟩
    show wp cX11_move tbX11_move 3 (some .boolean) Q (fun pc => false) (aGo l mX11_move Q) 41 0 [(0, .inr (.inr 0)), (1, .inl a), (2, .inl b)] [] S
    simp only [wp_s, wpC_f, wpC_t, e_wLd, e_wLd0, e_wLd1, e_wLd2, e_get1, e_get2, e_wJ, e_wJo, f40, f41, f42, f43, Nat.reduceAdd, Nat.reduceBEq, Nat.reduceMul, eq_self, true_or, or_true, true_and, dX11_move_0, dX11_move_1, dX11_move_4, dX11_move_5, dX11_move_8, dX11_move_11, dX11_move_12, dX11_move_13, dX11_move_14, dX11_move_17, dX11_move_20, dX11_move_21, dX11_move_22, dX11_move_25, dX11_move_28, dX11_move_29, dX11_move_30, dX11_move_31, dX11_move_34, dX11_move_37, dX11_move_38, dX11_move_39, dX11_move_40, dX11_move_43, dX11_move_44, dX11_move_47, dX11_move_48, dX11_move_49, dX11_move_52, dX11_move_55, dX11_move_56, dX11_move_57, dX11_move_58, dX11_move_61, dX11_move_64, dX11_move_65, dX11_move_66, dX11_move_67, dX11_move_68, e_aload_n, e_iload_n, e_iconst, e_ifCond, e_if_icmp, e_getfield, e_iaload, e_iastore, e_invokevirtual, e_ireturn, e_ri, e_rz, e_wIc_eq, e_wIf_ne, e_wIf_eq, fX11_203, fX11_206, fX11_49, ic_0, ic_1, jt_25_5, jt_40_15, jt_52_5, jt_8_20, e_call, e_callS0, e_callS1, e_callS2, e_callS3, e_callS4, e_pop0, e_pop1, e_tl0, e_tl1, tbX11_move_f, tbX11_move_p, tbX11_move_k, tbX11_move_c194, tbX11_move_c202, tbX11_move_c209, g_208_0, l_209, s_209, g_0_5, g_208_1, cv_0_0, cv_0_1, cv_0_2, cv_0_3, cv_0_4, l_210, s_210, cv_208_0, cv_208_1, cv_208_2, cv_208_3, cv_208_4, spX6_has, spX11_isTopOrSenseOf, spX6_isWithin, bi_0, bi_1, ne_eq, Classical.not_not, em_r, em_l]
    obtain ⟨hA, hB⟩ := h
    repeat' (with_reducible first | intro _ | refine And.intro ?_ ?_)
    all_goals first
      | omega
      | exact hA (fun z => absurd z.1 (by assumption))
      | exact hA (fun z => absurd z.2.1 (by assumption))
      | exact hA (fun z => absurd (by assumption) z.2.2.1)
      | exact hA (fun z => absurd (by assumption) z.2.2.2)
      | exact hB ⟨by assumption, by assumption, by assumption, by assumption⟩
      | skip
  · exact h.elim
/-- a's slips and senses come to b -/
def jnS (S : aS) (a b : Int) : aS := stA (stA S 84 (fun j => if (j : Int) < S.1 81 4 ∧ S.1 84 j = a then b else S.1 84 j)) 210 (fun j => if j < 40 ∧ ¬ S.1 209 j = -1 ∧ S.1 210 j = a then b else S.1 210 j)
def spX11_join : aSp := fun as S Q => match as with
  | [.inr (.inr 0), .inl a, .inl b] => (0 ≤ S.1 81 4 ∧ S.1 81 4 ≤ 120) ∧ (0 ≤ S.1 219 2 ∧ S.1 219 2 ≤ 20) ∧ (¬ ((0 ≤ a ∧ a < 40 ∧ ¬ S.1 209 a.toNat = -1) ∧ (0 ≤ b ∧ b < 40 ∧ ¬ S.1 209 b.toNat = -1) ∧ S.1 209 a.toNat = S.1 209 b.toNat ∧ ¬ wth (S.1 209) (S.1 210) a 40 b) → Q (some (.inl 0)) S) ∧ (((0 ≤ a ∧ a < 40 ∧ ¬ S.1 209 a.toNat = -1) ∧ (0 ≤ b ∧ b < 40 ∧ ¬ S.1 209 b.toNat = -1) ∧ S.1 209 a.toNat = S.1 209 b.toNat ∧ ¬ wth (S.1 209) (S.1 210) a 40 b) → Q (some (.inl 1)) (fgP a (S.1 219 2).toNat (upI (upI (jnS S a b) 209 a.toNat (-1)) 210 a.toNat (-1))))
  | _ => False
def tbX11_join : aTb := (fX11, pX11, fun j => lk [(202, (some 6), 2, spX6_has), (209, (some 6), 3, spX6_isWithin), (212, (some 7), 3, spX7_moveAll), (216, (some 6), 3, spX6_moveAllUnder), (219, (some 11), 2, spX11_forgetSense)] j, kX11)
theorem tbX11_join_f : tbX11_join.1 = fX11 := rfl
theorem tbX11_join_p : tbX11_join.2.1 = pX11 := rfl
theorem tbX11_join_k : tbX11_join.2.2.2 = kX11 := rfl
theorem tbX11_join_c202 : tbX11_join.2.2.1 202 = some ((some 6), 2, spX6_has) := rfl
theorem tbX11_join_c209 : tbX11_join.2.2.1 209 = some ((some 6), 3, spX6_isWithin) := rfl
theorem tbX11_join_c212 : tbX11_join.2.2.1 212 = some ((some 7), 3, spX7_moveAll) := rfl
theorem tbX11_join_c216 : tbX11_join.2.2.1 216 = some ((some 6), 3, spX6_moveAllUnder) := rfl
theorem tbX11_join_c219 : tbX11_join.2.2.1 219 = some ((some 11), 2, spX11_forgetSense) := rfl
theorem tbX11_join_all (l : Launch) : ∀ e ∈ ([(202, (some 6), 2, spX6_has), (209, (some 6), 3, spX6_isWithin), (212, (some 7), 3, spX7_moveAll), (216, (some 6), 3, spX6_moveAllUnder), (219, (some 11), 2, spX11_forgetSense)] : List (Nat × Option Nat × Nat × aSp)), cOK l mX11_join e.1 e.2.1 e.2.2.1 e.2.2.2 ∨ mOK mX11_join e.1 e.2.1 e.2.2.1 e.2.2.2 := all_cons (cOK_of (okX6_has l) meX6_has cfX11_202 (by decide) (by decide)) (all_cons (cOK_of (okX6_isWithin l) meX6_isWithin cfX11_209 (by decide) (by decide)) (all_cons (cOK_of (okX7_moveAll l) meX7_moveAll cfX11_212 (by decide) (by decide)) (all_cons (cOK_of (okX6_moveAllUnder l) meX6_moveAllUnder cfX11_216 (by decide) (by decide)) (all_cons (cOK_of (okX11_forgetSense l) meX11_forgetSense cfX11_219 (by decide) (by decide)) (all_nil)))))
theorem tbX11_join_ok (l : Launch) : tOK l mX11_join tbX11_join := ⟨fX11_ok, pX11_ok, fun _ _ _ _ h => tbX11_join_all l _ (lk_mem h), kX11_ok⟩
set_option maxRecDepth 20000 in
set_option maxHeartbeats 4000000 in
theorem okX11_join (l : Launch) : aOK l mX11_join spX11_join := by
  refine aOK_of rfl fun as S Q h => ?_
  unfold spX11_join at h
  split at h
  · rename_i a b
    refine ⟨Nat.le_of_ble_eq_true rfl, wp_ok (tbX11_join_ok l) Q (fun pc => false) 46 0 _ [] S ?_⟩
    show wp cX11_join tbX11_join 3 (some .boolean) Q (fun pc => false) (aGo l mX11_join Q) 46 0 [(0, .inr (.inr 0)), (1, .inl a), (2, .inl b)] [] S
    simp only [wp_s, wpC_f, wpC_t, e_wLd, e_wLd0, e_wLd1, e_wLd2, e_get1, e_get2, e_wJ, e_wJo, f40, f41, f42, f43, Nat.reduceAdd, Nat.reduceBEq, Nat.reduceMul, eq_self, true_or, or_true, true_and, dX11_join_0, dX11_join_1, dX11_join_4, dX11_join_5, dX11_join_8, dX11_join_11, dX11_join_12, dX11_join_15, dX11_join_16, dX11_join_19, dX11_join_22, dX11_join_23, dX11_join_26, dX11_join_29, dX11_join_30, dX11_join_31, dX11_join_32, dX11_join_35, dX11_join_38, dX11_join_39, dX11_join_40, dX11_join_43, dX11_join_44, dX11_join_47, dX11_join_48, dX11_join_49, dX11_join_52, dX11_join_55, dX11_join_56, dX11_join_57, dX11_join_58, dX11_join_61, dX11_join_62, dX11_join_63, dX11_join_66, dX11_join_67, dX11_join_70, dX11_join_71, dX11_join_72, dX11_join_75, dX11_join_76, dX11_join_77, dX11_join_80, dX11_join_81, e_aload_n, e_iload_n, e_iconst, e_ifCond, e_if_icmp, e_getfield, e_iaload, e_invokevirtual, e_ireturn, e_ri, e_rz, e_wIf_eq, e_wIc_ne, fX11_203, fX11_42, fX11_49, ic_0, ic_1, jt_19_36, jt_40_15, jt_52_5, jt_8_47, e_call, e_callS0, e_callS1, e_callS2, e_callS3, e_callS4, e_pop0, e_pop1, e_tl0, e_tl1, tbX11_join_f, tbX11_join_p, tbX11_join_k, tbX11_join_c202, tbX11_join_c209, tbX11_join_c212, tbX11_join_c216, tbX11_join_c219, g_208_0, l_209, g_0_5, cv_81_0, cv_81_1, cv_81_2, cv_81_3, cv_81_4, cv_0_0, cv_0_1, cv_0_2, cv_0_3, cv_0_4, g_0_4, cv_208_0, cv_208_1, cv_208_2, cv_208_3, cv_208_4, spX6_has, spX6_isWithin, spX7_moveAll, spX6_moveAllUnder, spX11_forgetSense, bi_0, bi_1, ne_eq, Classical.not_not, em_r, em_l]
    obtain ⟨⟨h0, h0b⟩, ⟨h1, h1b⟩, hA, hB⟩ := h
    unfold jnS at hB
    repeat' (with_reducible first | intro _ | refine And.intro ?_ ?_)
    all_goals (try simp (disch := decide) only [stA_f])
    all_goals first
      | omega
      | assumption
      | exact hA (fun z => absurd z.1 (by assumption))
      | exact hA (fun z => absurd z.2.1 (by assumption))
      | exact hA (fun z => absurd z.2.2.1 (by assumption))
      | exact hA (fun z => absurd (by assumption) z.2.2.2)
      | exact hB ⟨by assumption, by assumption, by assumption, by assumption⟩
      | skip
  · exact h.elim
