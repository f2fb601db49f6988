/-! SLIPHOUSE: years told -/
def spX11_toldYears : aSp := fun as S Q => match as with
  | [.inr (.inr 0), .inl x, .inl w] => 0 ≤ S.1 3 7 ∧ S.1 3 7 ≤ 30 ∧ yrs S ∧ (w = 4 → Q (some (.inl (mn (S.1 6) (fun k => inS k x) (S.1 3 7).toNat))) S) ∧ (w = 5 → Q (some (.inl (mn (S.1 7) (fun k => inS k x) (S.1 3 7).toNat))) S) ∧ (w = 6 → Q (some (.inl (mx (S.1 6) (fun k => inS k x) (S.1 3 7).toNat))) S) ∧ (w = 7 → Q (some (.inl (mx (S.1 7) (fun k => inS k x) (S.1 3 7).toNat))) S) ∧ (w < 4 ∨ 7 < w → Q (some (.inl (mx (fun b : Nat => max 0 (S.1 6 b - (sn (S.1 6) (S.1 7) (fun k => inS k x) (S.1 6 b) (S.1 3 7).toNat).1 - 1)) (fun k => inS k x) (S.1 3 7).toNat))) S)
  | _ => False
def tbX11_toldYears : aTb := (fX11, pX11, fun j => lk [(335, (some 0), 3, spX0_least), (339, (some 0), 3, spX0_greatest), (342, (some 0), 2, spX0_widestGap)] j, kX11)
theorem tbX11_toldYears_f : tbX11_toldYears.1 = fX11 := rfl
theorem tbX11_toldYears_p : tbX11_toldYears.2.1 = pX11 := rfl
theorem tbX11_toldYears_k : tbX11_toldYears.2.2.2 = kX11 := rfl
theorem tbX11_toldYears_c335 : tbX11_toldYears.2.2.1 335 = some ((some 0), 3, spX0_least) := rfl
theorem tbX11_toldYears_c339 : tbX11_toldYears.2.2.1 339 = some ((some 0), 3, spX0_greatest) := rfl
theorem tbX11_toldYears_c342 : tbX11_toldYears.2.2.1 342 = some ((some 0), 2, spX0_widestGap) := rfl
theorem tbX11_toldYears_all (l : Launch) : ∀ e ∈ ([(335, (some 0), 3, spX0_least), (339, (some 0), 3, spX0_greatest), (342, (some 0), 2, spX0_widestGap)] : List (Nat × Option Nat × Nat × aSp)), cOK l mX11_toldYears e.1 e.2.1 e.2.2.1 e.2.2.2 ∨ mOK mX11_toldYears e.1 e.2.1 e.2.2.1 e.2.2.2 := all_cons (cOK_of (okX0_least l) meX0_least cfX11_335 (by decide) (by decide)) (all_cons (cOK_of (okX0_greatest l) meX0_greatest cfX11_339 (by decide) (by decide)) (all_cons (cOK_of (okX0_widestGap l) meX0_widestGap cfX11_342 (by decide) (by decide)) (all_nil)))
theorem tbX11_toldYears_ok (l : Launch) : tOK l mX11_toldYears tbX11_toldYears := ⟨fX11_ok, pX11_ok, fun _ _ _ _ h => tbX11_toldYears_all l _ (lk_mem h), kX11_ok⟩
set_option maxRecDepth 20000 in
set_option maxHeartbeats 4000000 in
theorem okX11_toldYears (l : Launch) : aOK l mX11_toldYears spX11_toldYears := by
  refine aOK_of rfl fun as S Q h => ?_
  unfold spX11_toldYears at h
  split at h
  · rename_i x w
    refine ⟨Nat.le_of_ble_eq_true rfl, wp_ok (tbX11_toldYears_ok l) Q (fun pc => false) 41 0 _ [] S ?_⟩
    show wp cX11_toldYears tbX11_toldYears 3 (some .int) Q (fun pc => false) (aGo l mX11_toldYears Q) 41 0 [(0, .inr (.inr 0)), (1, .inl x), (2, .inl w)] [] S
    simp only [wp_s, wpC_f, wpC_t, e_wLd, e_wLd0, e_wLd1, e_wLd2, e_get1, e_get2, e_wJ, e_wJo, f40, f41, f42, f43, Nat.reduceAdd, Nat.reduceBEq, Nat.reduceMul, eq_self, true_or, or_true, true_and, dX11_toldYears_0, dX11_toldYears_1, dX11_toldYears_32, dX11_toldYears_33, dX11_toldYears_36, dX11_toldYears_37, dX11_toldYears_40, dX11_toldYears_43, dX11_toldYears_44, dX11_toldYears_47, dX11_toldYears_48, dX11_toldYears_49, dX11_toldYears_52, dX11_toldYears_53, dX11_toldYears_56, dX11_toldYears_59, dX11_toldYears_60, dX11_toldYears_63, dX11_toldYears_64, dX11_toldYears_65, dX11_toldYears_68, dX11_toldYears_69, dX11_toldYears_72, dX11_toldYears_75, dX11_toldYears_76, dX11_toldYears_79, dX11_toldYears_80, dX11_toldYears_81, dX11_toldYears_84, dX11_toldYears_85, dX11_toldYears_88, dX11_toldYears_91, dX11_toldYears_92, dX11_toldYears_95, dX11_toldYears_96, dX11_toldYears_97, dX11_toldYears_100, dX11_toldYears_101, dX11_toldYears_104, e_aload_n, e_iload_n, e_tableswitch, e_getfield, e_invokevirtual, e_ireturn, e_tsw, e_tsw0, e_tsw1, e_ri, e_rz, fX11_111, fX11_115, fX11_19, jt_1_31, jt_1_47, jt_1_63, jt_1_79, jt_1_95, e_call, e_callS0, e_callS1, e_callS2, e_callS3, e_callS4, e_pop0, e_pop1, e_tl0, e_tl1, tbX11_toldYears_f, tbX11_toldYears_p, tbX11_toldYears_k, tbX11_toldYears_c335, tbX11_toldYears_c339, tbX11_toldYears_c342, g_3_3, g_0_1, cv_3_0, cv_3_1, cv_3_2, cv_3_3, cv_3_4, g_3_2, spX0_least, spX0_greatest, spX0_widestGap, List.length_cons, List.length_nil]
    obtain ⟨h0, h1, h2, h4, h5, h6, h7, h8⟩ := h
    repeat' (with_reducible first | intro _ | refine And.intro ?_ ?_)
    all_goals first
      | omega
      | assumption
      | exact h4 (by assumption)
      | exact h5 (by omega)
      | exact h6 (by omega)
      | exact h7 (by omega)
      | exact h8 (by omega)
      | decide
      | skip
  · exact h.elim
