/-! SLIPHOUSE: older, as -/
def spX11_older : aSp := fun as S Q => match as with
  | [.inr (.inr 0), .inl a, .inl b] => gaP S ∧ (¬ ((0 ≤ a ∧ a < 40 ∧ ¬ S.1 209 a.toNat = -1) ∧ (0 ≤ b ∧ b < 40 ∧ ¬ S.1 209 b.toNat = -1)) → Q (some (.inl (-1))) S) ∧ (((0 ≤ a ∧ a < 40 ∧ ¬ S.1 209 a.toNat = -1) ∧ (0 ≤ b ∧ b < 40 ∧ ¬ S.1 209 b.toNat = -1)) → (((gaT S).1 214 a.toNat = 0 ∨ (gaT S).1 214 b.toNat = 0) → Q (some (.inl (-1))) (gaT S)) ∧ (¬ ((gaT S).1 214 a.toNat = 0 ∨ (gaT S).1 214 b.toNat = 0) → (sOld (gaT S) ((gaT S).1 215 a.toNat) ((gaT S).1 215 b.toNat) → Q (some (.inl 1)) (gaT S)) ∧ (¬ sOld (gaT S) ((gaT S).1 215 a.toNat) ((gaT S).1 215 b.toNat) → sOld (gaT S) ((gaT S).1 215 b.toNat) ((gaT S).1 215 a.toNat) → Q (some (.inl 2)) (gaT S)) ∧ (¬ sOld (gaT S) ((gaT S).1 215 a.toNat) ((gaT S).1 215 b.toNat) → ¬ sOld (gaT S) ((gaT S).1 215 b.toNat) ((gaT S).1 215 a.toNat) → Q (some (.inl 0)) (gaT S))))
  | _ => False
def tbX11_older : aTb := (fX11, pX11, fun j => lk [(202, (some 6), 2, spX6_has), (241, (some 9), 1, spX9_gather), (261, (some 0), 3, spX0_areSurelyOlder)] j, kX11)
theorem tbX11_older_f : tbX11_older.1 = fX11 := rfl
theorem tbX11_older_p : tbX11_older.2.1 = pX11 := rfl
theorem tbX11_older_k : tbX11_older.2.2.2 = kX11 := rfl
theorem tbX11_older_c202 : tbX11_older.2.2.1 202 = some ((some 6), 2, spX6_has) := rfl
theorem tbX11_older_c241 : tbX11_older.2.2.1 241 = some ((some 9), 1, spX9_gather) := rfl
theorem tbX11_older_c261 : tbX11_older.2.2.1 261 = some ((some 0), 3, spX0_areSurelyOlder) := rfl
theorem tbX11_older_all (l : Launch) : ∀ e ∈ ([(202, (some 6), 2, spX6_has), (241, (some 9), 1, spX9_gather), (261, (some 0), 3, spX0_areSurelyOlder)] : List (Nat × Option Nat × Nat × aSp)), cOK l mX11_older e.1 e.2.1 e.2.2.1 e.2.2.2 ∨ mOK mX11_older e.1 e.2.1 e.2.2.1 e.2.2.2 := all_cons (cOK_of (okX6_has l) meX6_has cfX11_202 (by decide) (by decide)) (all_cons (cOK_of (okX9_gather l) meX9_gather cfX11_241 (by decide) (by decide)) (all_cons (cOK_of (okX0_areSurelyOlder l) meX0_areSurelyOlder cfX11_261 (by decide) (by decide)) (all_nil)))
theorem tbX11_older_ok (l : Launch) : tOK l mX11_older tbX11_older := ⟨fX11_ok, pX11_ok, fun _ _ _ _ h => tbX11_older_all l _ (lk_mem h), kX11_ok⟩
set_option maxRecDepth 20000 in
set_option maxHeartbeats 4000000 in
theorem okX11_older (l : Launch) : aOK l mX11_older spX11_older := by
  refine aOK_of rfl fun as S Q h => ?_
  unfold spX11_older at h
  split at h
  · rename_i a b
    refine ⟨Nat.le_of_ble_eq_true rfl, wp_ok (tbX11_older_ok l) Q (fun pc => false) 65 0 _ [] S ?_⟩
    show wp cX11_older tbX11_older 3 (some .int) Q (fun pc => false) (aGo l mX11_older Q) 65 0 [(0, .inr (.inr 0)), (1, .inl a), (2, .inl b)] [] S
    simp only [wp_s, wpC_f, wpC_t, e_wLd, e_wLd0, e_wLd1, e_wLd2, e_get1, e_get2, e_wJ, e_wJo, f40, f41, f42, f43, Nat.reduceAdd, Nat.reduceBEq, Nat.reduceMul, eq_self, true_or, or_true, true_and, dX11_older_0, dX11_older_1, dX11_older_4, dX11_older_5, dX11_older_8, dX11_older_11, dX11_older_12, dX11_older_15, dX11_older_16, dX11_older_19, dX11_older_22, dX11_older_23, dX11_older_24, dX11_older_25, dX11_older_28, dX11_older_31, dX11_older_32, dX11_older_35, dX11_older_38, dX11_older_39, dX11_older_40, dX11_older_43, dX11_older_44, dX11_older_47, dX11_older_50, dX11_older_51, dX11_older_52, dX11_older_55, dX11_older_56, dX11_older_57, dX11_older_58, dX11_older_61, dX11_older_62, dX11_older_65, dX11_older_68, dX11_older_69, dX11_older_70, dX11_older_71, dX11_older_74, dX11_older_77, dX11_older_78, dX11_older_79, dX11_older_82, dX11_older_85, dX11_older_86, dX11_older_87, dX11_older_88, dX11_older_91, dX11_older_92, dX11_older_95, dX11_older_98, dX11_older_99, dX11_older_100, dX11_older_101, dX11_older_104, dX11_older_107, dX11_older_108, dX11_older_109, dX11_older_112, dX11_older_115, dX11_older_116, dX11_older_119, dX11_older_120, e_aload_n, e_iload_n, e_iconst, e_ifCond, e_goto, e_getfield, e_iaload, e_invokevirtual, e_ireturn, e_ri, e_rz, e_wIf_ne, e_wIf_eq, fX11_19, fX11_244, fX11_247, fX11_49, fX11_58, ic_0, ic_1, ic_2, ic_m1, jt_112_7, jt_116_4, jt_19_5, jt_40_15, jt_52_5, jt_82_5, jt_8_14, e_call, e_callS0, e_callS1, e_callS2, e_callS3, e_callS4, e_pop0, e_pop1, e_tl0, e_tl1, tbX11_older_f, tbX11_older_p, tbX11_older_k, tbX11_older_c202, tbX11_older_c241, tbX11_older_c261, l_214, g_0_6, cv_3_0, cv_3_1, cv_3_2, cv_3_3, cv_3_4, cv_208_0, cv_208_1, cv_208_2, cv_208_3, cv_208_4, g_211_5, g_0_5, cv_211_0, cv_211_1, cv_211_2, cv_211_3, cv_211_4, g_0_1, g_211_6, l_215, spX6_has, spX9_gather, spX0_areSurelyOlder, bi_0, bi_1, ne_eq, Classical.not_not, em_r, em_l]
    obtain ⟨⟨g0, g1, g2, g3⟩, hA, hB⟩ := h
    have e3 : (gaT S).1 3 7 = S.1 3 7 := ga3
    have hso : ∀ x y : Int, (mn ((gaT S).1 7) (fun k => inS k x) ((gaT S).1 3 7).toNat < mn ((gaT S).1 6) (fun k => inS k y) ((gaT S).1 3 7).toNat ∨ (∃ k : Nat, k < ((gaT S).1 3 7).toNat ∧ inS k x ∧ bAnd y (bXor ((gaT S).1 8 k) (-1)) = 0)) = sOld (gaT S) x y := fun x y => rfl
    simp only [hso]
    repeat' (with_reducible first | intro _ | refine And.intro ?_ ?_)
    all_goals first
      | omega
      | exact hA (fun z => absurd z.1 (by assumption))
      | exact hA (fun z => absurd z.2 (by assumption))
      | exact (hB ⟨by assumption, by assumption⟩).1 (by omega)
      | exact ((hB ⟨by assumption, by assumption⟩).2 (by omega)).1 (by assumption)
      | exact ((hB ⟨by assumption, by assumption⟩).2 (by omega)).2.1 (by assumption) (by assumption)
      | exact ((hB ⟨by assumption, by assumption⟩).2 (by omega)).2.2 (by assumption) (by assumption)
      | skip
  · exact h.elim
