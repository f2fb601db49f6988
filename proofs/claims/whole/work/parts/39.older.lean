/-! SLIPHOUSE: older, as -/
def spX11_older : aSp := fun as S Q => match as with
  | [.inr (.inr 0), .inl a, .inl b] => gaP S ∧ (¬ ((0 ≤ a ∧ a < 40 ∧ ¬ S.1 209 a.toNat = -1) ∧ (0 ≤ b ∧ b < 40 ∧ ¬ S.1 209 b.toNat = -1)) → Q (some (.inl (-1))) S) ∧ (((0 ≤ a ∧ a < 40 ∧ ¬ S.1 209 a.toNat = -1) ∧ (0 ≤ b ∧ b < 40 ∧ ¬ S.1 209 b.toNat = -1)) → (((gaT S).1 214 a.toNat = 0 ∨ (gaT S).1 214 b.toNat = 0) → Q (some (.inl (-1))) (gaT S)) ∧ (¬ ((gaT S).1 214 a.toNat = 0 ∨ (gaT S).1 214 b.toNat = 0) → (sOld (gaT S) ((gaT S).1 215 a.toNat) ((gaT S).1 215 b.toNat) → Q (some (.inl 1)) (gaT S)) ∧ (¬ sOld (gaT S) ((gaT S).1 215 a.toNat) ((gaT S).1 215 b.toNat) → sOld (gaT S) ((gaT S).1 215 b.toNat) ((gaT S).1 215 a.toNat) → Q (some (.inl 2)) (gaT S)) ∧ (¬ sOld (gaT S) ((gaT S).1 215 a.toNat) ((gaT S).1 215 b.toNat) → ¬ sOld (gaT S) ((gaT S).1 215 b.toNat) ((gaT S).1 215 a.toNat) → Q (some (.inl 0)) (gaT S))))
  | _ => False
def tbX11_older : aTb := (fX11, pX11, fun j => lk [(202, (some 6), 2, spX6_has), (241, (some 9), 1, spX9_gather), (261, (some 0), 3, spX0_areSurelyOlder)] j, kX11)
theorem tbX11_older_f : tbX11_older.1 = fX11 := rfl
theorem tbX11_older_p : tbX11_older.2.1 = pX11 := rfl
theorem tbX11_older_k : tbX11_older.2.2.2 = kX11 := rfl
theorem tbX11_older_c202 : tbX11_older.2.2.1 202 = some ((some 6), 2, spX6_has) := rfl
theorem tbX11_older_c241 : tbX11_older.2.2.1 241 = some ((some 9), 1, spX9_gather) := rfl
theorem tbX11_older_c261 : tbX11_older.2.2.1 261 = some ((some 0), 3, spX0_areSurelyOlder) := rfl
theorem tbX11_older_all (l : Launch) : ∀ e ∈ ([(202, (some 6), 2, spX6_has), (241, (some 9), 1, spX9_gather), (261, (some 0), 3, spX0_areSurelyOlder)] : List (Nat × Option Nat × Nat × aSp)), cOK l mX11_older e.1 e.2.1 e.2.2.1 e.2.2.2 ∨ mOK mX11_older e.1 e.2.1 e.2.2.1 e.2.2.2 := all_cons (cOK_of (okX6_has l) meX6_has cfX11_202 (by decide) (by decide)) (all_cons (cOK_of (okX9_gather l) meX9_gather cfX11_241 (by decide) (by decide)) (all_cons (cOK_of (okX0_areSurelyOlder l) meX0_areSurelyOlder cfX11_261 (by decide) (by decide)) (all_nil)))
theorem tbX11_older_ok (l : Launch) : tOK l mX11_older tbX11_older := ⟨fX11_ok, pX11_ok, fun _ _ _ _ h => tbX11_older_all l _ (lk_mem h), kX11_ok⟩
set_option maxRecDepth 20000 in
set_option maxHeartbeats 4000000 in
theorem okX11_older (l : Launch) : aOK l mX11_older spX11_older := by
  refine aOK_of rfl fun as S Q h => ?_
  unfold spX11_older at h
  split at h
  · rename_i a b
    refine ⟨Nat.le_of_ble_eq_true rfl, wp_ok (tbX11_older_ok l) Q (fun pc => false) 65 0 _ [] S ?_⟩
    show wp cX11_older tbX11_older 3 (some .int) Q (fun pc => false) (aGo l mX11_older Q) 65 0 [(0, .inr (.inr 0)), (1, .inl a), (2, .inl b)] [] S
    simp only [wp_s, wpC_f, wpC_t, e_wLd, e_wLd0, e_wLd1, e_wLd2, e_get1, e_get2, e_wJ, e_wJo, f40, f41, f42, f43, Nat.reduceAdd, Nat.reduceBEq, Nat.reduceMul, eq_self, true_or, or_true, true_and, dX11_older_0, dX11_older_1, dX11_older_4, dX11_older_5, dX11_older_8, dX11_older_11, dX11_older_12, dX11_older_15, dX11_older_16, dX11_older_19, dX11_older_22, dX11_older_23, dX11_older_24, dX11_older_25, dX11_older_28, dX11_older_31, dX11_older_32, dX11_older_35, dX11_older_38, dX11_older_39, dX11_older_40, dX11_older_43, dX11_older_44, dX11_older_47, dX11_older_50, dX11_older_51, dX11_older_52, dX11_older_55, dX11_older_56, dX11_older_57, dX11_older_58, dX11_older_61, dX11_older_62, dX11_older_65, dX11_older_68, dX11_older_69, dX11_older_70, dX11_older_71, dX11_older_74, dX11_older_77, dX11_older_78, dX11_older_79, dX11_older_82, dX11_older_85, dX11_older_86, dX11_older_87, dX11_older_88, dX11_older_91, dX11_older_92, dX11_older_95, dX11_older_98, dX11_older_99, dX11_older_100, dX11_older_101, dX11_older_104, dX11_older_107, dX11_older_108, dX11_older_109, dX11_older_112, dX11_older_115, dX11_older_116, dX11_older_119, dX11_older_120, e_aload_n, e_iload_n, e_iconst, e_ifCond, e_goto, e_getfield, e_iaload, e_invokevirtual, e_ireturn, e_ri, e_rz, e_wIf_ne, e_wIf_eq, fX11_19, fX11_244, fX11_247, fX11_49, fX11_58, ic_0, ic_1, ic_2, ic_m1, jt_112_7, jt_116_4, jt_19_5, jt_40_15, jt_52_5, jt_82_5, jt_8_14, e_call, e_callS0, e_callS1, e_callS2, e_callS3, e_callS4, e_pop0, e_pop1, e_tl0, e_tl1, tbX11_older_f, tbX11_older_p, tbX11_older_k, tbX11_older_c202, tbX11_older_c241, tbX11_older_c261, l_214, g_0_1, cv_3_0, cv_3_1, cv_3_2, cv_3_3, cv_3_4, cv_208_0, cv_208_1, cv_208_2, cv_208_3, cv_208_4, g_211_6, cv_211_0, cv_211_1, cv_211_2, cv_211_3, cv_211_4, l_215, g_0_6, g_211_5, g_0_5, spX6_has, spX9_gather, spX0_areSurelyOlder, bi_0, bi_1, ne_eq, Classical.not_not, em_r, em_l]
    obtain ⟨⟨g0, g1, g2, g3⟩, hA, hB⟩ := h
    have e3 : (gaT S).1 3 7 = S.1 3 7 := ga3
    have hso : ∀ x y : Int, (mn ((gaT S).1 7) (fun k => inS k x) ((gaT S).1 3 7).toNat < mn ((gaT S).1 6) (fun k => inS k y) ((gaT S).1 3 7).toNat ∨ (∃ k : Nat, k < ((gaT S).1 3 7).toNat ∧ inS k x ∧ bAnd y (bXor ((gaT S).1 8 k) (-1)) = 0)) = sOld (gaT S) x y := fun x y => rfl
    simp only [hso]
    repeat' (with_reducible first | intro _ | refine And.intro ?_ ?_)
    all_goals first
      | omega
      | exact hA (fun z => absurd z.1 (by assumption))
      | exact hA (fun z => absurd z.2 (by assumption))
      | exact (hB ⟨by assumption, by assumption⟩).1 (by omega)
      | exact ((hB ⟨by assumption, by assumption⟩).2 (by omega)).1 (by assumption)
      | exact ((hB ⟨by assumption, by assumption⟩).2 (by omega)).2.1 (by assumption) (by assumption)
      | exact ((hB ⟨by assumption, by assumption⟩).2 (by omega)).2.2 (by assumption) (by assumption)
      | skip
  · exact h.elim
/-- four bytes more on the tape -/
def ad4 (S : aS) (v : Int) : aS := upI (stA S 2 (fun j => if S.1 1 1 ≤ (j : Int) ∧ (j : Int) < S.1 1 1 + 4 then bAnd (bUshr v (8 * 4 - 8 - 8 * ((j : Int) - S.1 1 1))) 255 else S.1 2 j)) 1 1 (S.1 1 1 + 4)
theorem ad4_1 {S : aS} {v : Int} : (ad4 S v).1 1 1 = S.1 1 1 + 4 := up_hit
def spX11_feed : aSp := fun as S Q => match as with
  | [.inr (.inr 0), .inl a, .inl b, .inl c, .inl d, .inl e] => (0 ≤ S.1 1 1 ∧ S.1 1 1 ≤ 40) ∧ (40 < S.1 1 1 + 20 → Q (some (.inl (-1))) S) ∧ (S.1 1 1 + 20 ≤ 40 → Q (some (.inl (S.1 1 1 + 20))) (ad4 (ad4 (ad4 (ad4 (ad4 S a) b) c) d) e))
  | _ => False
def tbX11_feed : aTb := (fX11, pX11, fun j => lk [(91, (some 8), 2, spX8_addFour)] j, kX11)
theorem tbX11_feed_f : tbX11_feed.1 = fX11 := rfl
theorem tbX11_feed_p : tbX11_feed.2.1 = pX11 := rfl
theorem tbX11_feed_k : tbX11_feed.2.2.2 = kX11 := rfl
theorem tbX11_feed_c91 : tbX11_feed.2.2.1 91 = some ((some 8), 2, spX8_addFour) := rfl
theorem tbX11_feed_all (l : Launch) : ∀ e ∈ ([(91, (some 8), 2, spX8_addFour)] : List (Nat × Option Nat × Nat × aSp)), cOK l mX11_feed e.1 e.2.1 e.2.2.1 e.2.2.2 ∨ mOK mX11_feed e.1 e.2.1 e.2.2.1 e.2.2.2 := all_cons (cOK_of (okX8_addFour l) meX8_addFour cfX11_91 (by decide) (by decide)) (all_nil)
theorem tbX11_feed_ok (l : Launch) : tOK l mX11_feed tbX11_feed := ⟨fX11_ok, pX11_ok, fun _ _ _ _ h => tbX11_feed_all l _ (lk_mem h), kX11_ok⟩
theorem spX8_addFour_e {v : Int} {S : aS} {Q : Option aV → aS → Prop} : spX8_addFour [.inr (.inr 1), .inl v] S Q = (0 ≤ S.1 1 1 ∧ S.1 1 1 + 4 ≤ 40 ∧ Q none (ad4 S v)) := propext Iff.rfl
set_option maxRecDepth 20000 in
set_option maxHeartbeats 4000000 in
theorem okX11_feed (l : Launch) : aOK l mX11_feed spX11_feed := by
  refine aOK_of rfl fun as S Q h => ?_
  unfold spX11_feed at h
  split at h
  · rename_i a b c d e
    refine ⟨Nat.le_of_ble_eq_true rfl, wp_ok (tbX11_feed_ok l) Q (fun pc => false) 35 0 _ [] S ?_⟩
    show wp cX11_feed tbX11_feed 6 (some .int) Q (fun pc => false) (aGo l mX11_feed Q) 35 0 [(0, .inr (.inr 0)), (1, .inl a), (2, .inl b), (3, .inl c), (4, .inl d), (5, .inl e)] [] S
    simp only [wp_s, wpC_f, wpC_t, e_wLd, e_wLd0, e_wLd1, e_wLd2, e_get1, e_get2, e_wJ, e_wJo, f40, f41, f42, f43, Nat.reduceAdd, Nat.reduceBEq, Nat.reduceMul, eq_self, true_or, or_true, true_and, dX11_feed_0, dX11_feed_1, dX11_feed_4, dX11_feed_7, dX11_feed_9, dX11_feed_10, dX11_feed_12, dX11_feed_15, dX11_feed_16, dX11_feed_17, dX11_feed_18, dX11_feed_21, dX11_feed_22, dX11_feed_25, dX11_feed_26, dX11_feed_29, dX11_feed_30, dX11_feed_33, dX11_feed_34, dX11_feed_37, dX11_feed_38, dX11_feed_41, dX11_feed_42, dX11_feed_45, dX11_feed_47, dX11_feed_50, dX11_feed_51, dX11_feed_54, dX11_feed_56, dX11_feed_59, dX11_feed_60, dX11_feed_63, dX11_feed_66, e_aload_n, e_iload_n, e_iload, e_iconst, e_bipush, e_iadd, e_if_icmp, e_getfield, e_invokevirtual, e_ireturn, e_wI2, e_ri, e_rz, e_wIc_le, bp_20, bp_40, fX11_10, fX11_87, ic_m1, jt_12_5, e_call, e_callS0, e_callS1, e_callS2, e_callS3, e_callS4, e_pop0, e_pop1, e_tl0, e_tl1, tbX11_feed_f, tbX11_feed_p, tbX11_feed_k, tbX11_feed_c91, g_0_0, g_1_1, cv_1_0, cv_1_1, cv_1_2, cv_1_3, cv_1_4, spX8_addFour_e]
    obtain ⟨⟨h0, h1⟩, hA, hB⟩ := h
    simp (disch := omega) only [ad4_1, wI_id]
    repeat' (with_reducible first | intro _ | refine And.intro ?_ ?_)
    all_goals first
      | omega
      | exact hA (by omega)
      | (have hB' := hB (by omega)
         rw [show S.1 1 1 + 20 = S.1 1 1 + 4 + 4 + 4 + 4 + 4 from by omega] at hB'
         exact hB')
      | skip
  · exact h.elim
def spX11_as : aSp := fun as S Q => match as with
  | [.inr (.inr 0), .inl e, .inl s, .inl w] => edP S ∧ (¬ (((0 ≤ e ∧ e < S.1 222 4) ∧ (0 ≤ s ∧ s < S.1 81 4)) ∧ (w = 0 ∨ w = 1)) → Q (some (.inl (-1))) S) ∧ (((0 ≤ e ∧ e < S.1 222 4) ∧ (0 ≤ s ∧ s < S.1 81 4)) → (w = 0 → Q (some (.inl (edE S 225 e s))) S) ∧ (w = 1 → Q (some (.inl (edE S 234 e s))) S))
  | _ => False
def tbX11_as : aTb := (fX11, pX11, fun j => lk [(176, (some 7), 2, spX7_has), (294, (some 1), 2, spX1_has), (295, (some 1), 3, spX1_entryOf), (298, (some 1), 3, spX1_senseOf)] j, kX11)
theorem tbX11_as_f : tbX11_as.1 = fX11 := rfl
theorem tbX11_as_p : tbX11_as.2.1 = pX11 := rfl
theorem tbX11_as_k : tbX11_as.2.2.2 = kX11 := rfl
theorem tbX11_as_c176 : tbX11_as.2.2.1 176 = some ((some 7), 2, spX7_has) := rfl
theorem tbX11_as_c294 : tbX11_as.2.2.1 294 = some ((some 1), 2, spX1_has) := rfl
theorem tbX11_as_c295 : tbX11_as.2.2.1 295 = some ((some 1), 3, spX1_entryOf) := rfl
theorem tbX11_as_c298 : tbX11_as.2.2.1 298 = some ((some 1), 3, spX1_senseOf) := rfl
theorem tbX11_as_all (l : Launch) : ∀ e ∈ ([(176, (some 7), 2, spX7_has), (294, (some 1), 2, spX1_has), (295, (some 1), 3, spX1_entryOf), (298, (some 1), 3, spX1_senseOf)] : List (Nat × Option Nat × Nat × aSp)), cOK l mX11_as e.1 e.2.1 e.2.2.1 e.2.2.2 ∨ mOK mX11_as e.1 e.2.1 e.2.2.1 e.2.2.2 := all_cons (cOK_of (okX7_has l) meX7_has cfX11_176 (by decide) (by decide)) (all_cons (cOK_of (okX1_has l) meX1_has cfX11_294 (by decide) (by decide)) (all_cons (cOK_of (okX1_entryOf l) meX1_entryOf cfX11_295 (by decide) (by decide)) (all_cons (cOK_of (okX1_senseOf l) meX1_senseOf cfX11_298 (by decide) (by decide)) (all_nil))))
theorem tbX11_as_ok (l : Launch) : tOK l mX11_as tbX11_as := ⟨fX11_ok, pX11_ok, fun _ _ _ _ h => tbX11_as_all l _ (lk_mem h), kX11_ok⟩
set_option maxRecDepth 20000 in
set_option maxHeartbeats 4000000 in
theorem okX11_as (l : Launch) : aOK l mX11_as spX11_as := by
  refine aOK_of rfl fun as S Q h => ?_
  unfold spX11_as at h
  split at h
  · rename_i e s w
    refine ⟨Nat.le_of_ble_eq_true rfl, wp_ok (tbX11_as_ok l) Q (fun pc => false) 30 0 _ [] S ?_⟩
    show wp cX11_as tbX11_as 4 (some .int) Q (fun pc => false) (aGo l mX11_as Q) 30 0 [(0, .inr (.inr 0)), (1, .inl e), (2, .inl s), (3, .inl w)] [] S
    simp only [wp_s, wpC_f, wpC_t, e_wLd, e_wLd0, e_wLd1, e_wLd2, e_get1, e_get2, e_wJ, e_wJo, f40, f41, f42, f43, Nat.reduceAdd, Nat.reduceBEq, Nat.reduceMul, eq_self, true_or, or_true, true_and, dX11_as_0, dX11_as_1, dX11_as_4, dX11_as_5, dX11_as_8, dX11_as_11, dX11_as_12, dX11_as_15, dX11_as_16, dX11_as_19, dX11_as_22, dX11_as_23, dX11_as_24, dX11_as_25, dX11_as_52, dX11_as_53, dX11_as_56, dX11_as_57, dX11_as_58, dX11_as_61, dX11_as_62, dX11_as_63, dX11_as_66, dX11_as_67, dX11_as_68, dX11_as_71, dX11_as_72, dX11_as_73, e_aload_n, e_iload_n, e_iconst, e_ifCond, e_lookupswitch, e_getfield, e_invokevirtual, e_ireturn, e_ri, e_rz, e_lsw, e_lsw0, e_lsw1, e_wIf_ne, e_wIf_eq, fX11_42, fX11_74, ic_m1, jt_19_5, jt_25_27, jt_25_37, jt_25_47, jt_8_14, e_call, e_callS0, e_callS1, e_callS2, e_callS3, e_callS4, e_pop0, e_pop1, e_tl0, e_tl1, tbX11_as_f, tbX11_as_p, tbX11_as_k, tbX11_as_c176, tbX11_as_c294, tbX11_as_c295, tbX11_as_c298, cv_81_0, cv_81_1, cv_81_2, cv_81_3, cv_81_4, cv_222_0, cv_222_1, cv_222_2, cv_222_3, cv_222_4, g_0_8, g_0_4, spX1_has, spX7_has, spX1_entryOf, spX1_senseOf, bi_0, bi_1, ne_eq, Classical.not_not, em_r, em_l]
    obtain ⟨h0, hA, hB⟩ := h
    repeat' (with_reducible first | intro _ | refine And.intro ?_ ?_)
    all_goals first
      | omega
      | exact h0
      | exact hA (by omega)
      | exact (hB (by omega)).1 (by omega)
      | exact (hB (by omega)).2 (by omega)
      | rfl
      | decide
      | skip
  · exact h.elim
