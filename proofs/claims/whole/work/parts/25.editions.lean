/-! EDITIONS -/
section RW2
variable {k : aK} {pc : Nat} {ls : aL} {r : List aV} {S : aS} {a v : Int} {i : Nat}
theorem li_225 (h : i < 8) : wAld (fun t => t == 0) k pc ls (.inl a :: .inr (.inr (225 + i)) :: r) S = (0 ≤ a ∧ a < 120 ∧ k pc ls (.inl (S.1 (225 + i) a.toNat) :: r) S) := by
  have e : LY (225 + i) = .inr (0, 120, 0) := LYr_225 h
  exact e_ald (show _ < 276 by omega) (by unfold lyT; rw [e]; rfl) (by unfold lyN; rw [e]; rfl)
theorem si_225 (h : i < 8) : wAst k pc ls (.inl v :: .inl a :: .inr (.inr (225 + i)) :: r) S = (0 ≤ a ∧ a < 120 ∧ k pc ls r (upI S (225 + i) a.toNat v)) := by
  have e : LY (225 + i) = .inr (0, 120, 0) := LYr_225 h
  exact e_ast (show _ < 276 by omega) (by unfold lyT; rw [e]) (by unfold lyN; rw [e]; rfl)
theorem li_234 (h : i < 8) : wAld (fun t => t == 0) k pc ls (.inl a :: .inr (.inr (234 + i)) :: r) S = (0 ≤ a ∧ a < 120 ∧ k pc ls (.inl (S.1 (234 + i) a.toNat) :: r) S) := by
  have e : LY (234 + i) = .inr (0, 120, 0) := LYr_234 h
  exact e_ald (show _ < 276 by omega) (by unfold lyT; rw [e]; rfl) (by unfold lyN; rw [e]; rfl)
theorem si_234 (h : i < 8) : wAst k pc ls (.inl v :: .inl a :: .inr (.inr (234 + i)) :: r) S = (0 ≤ a ∧ a < 120 ∧ k pc ls r (upI S (234 + i) a.toNat v)) := by
  have e : LY (234 + i) = .inr (0, 120, 0) := LYr_234 h
  exact e_ast (show _ < 276 by omega) (by unfold lyT; rw [e]) (by unfold lyN; rw [e]; rfl)
end RW2
def spX1_has : aSp := fun as S Q => match as with
  | [.inr (.inr 222), .inl b] => Q (some (.inl (bi (0 ≤ b ∧ b < S.1 222 4)))) S
  | _ => False
def tbX1_has : aTb := (fX1, pX1, fun j => lk [] j, kX1)
theorem tbX1_has_f : tbX1_has.1 = fX1 := rfl
theorem tbX1_has_p : tbX1_has.2.1 = pX1 := rfl
theorem tbX1_has_k : tbX1_has.2.2.2 = kX1 := rfl
theorem tbX1_has_all (l : Launch) : ∀ e ∈ ([] : List (Nat × Option Nat × Nat × aSp)), cOK l mX1_has e.1 e.2.1 e.2.2.1 e.2.2.2 ∨ mOK mX1_has e.1 e.2.1 e.2.2.1 e.2.2.2 := all_nil
theorem tbX1_has_ok (l : Launch) : tOK l mX1_has tbX1_has := ⟨fX1_ok, pX1_ok, fun _ _ _ _ h => tbX1_has_all l _ (lk_mem h), kX1_ok⟩
set_option maxRecDepth 20000 in
set_option maxHeartbeats 4000000 in
theorem okX1_has (l : Launch) : aOK l mX1_has spX1_has := by
  refine aOK_of rfl fun as S Q h => ?_
  unfold spX1_has at h
  split at h
  · rename_i b
    refine ⟨Nat.le_of_ble_eq_true rfl, wp_ok (tbX1_has_ok l) Q (fun pc => false) 12 0 _ [] S ?_⟩
    show wp cX1_has tbX1_has 2 (some .boolean) Q (fun pc => false) (aGo l mX1_has Q) 12 0 [(0, .inr (.inr 222)), (1, .inl b)] [] S
    simp only [wp_s, wpC_f, wpC_t, e_wLd, e_wLd0, e_wLd1, e_wLd2, e_get1, e_get2, e_wJ, e_wJo, f40, f41, f42, f43, Nat.reduceAdd, Nat.reduceBEq, Nat.reduceMul, eq_self, true_or, or_true, true_and, dX1_has_0, dX1_has_1, dX1_has_4, dX1_has_5, dX1_has_6, dX1_has_9, dX1_has_12, dX1_has_13, dX1_has_16, dX1_has_17, e_aload_n, e_iload_n, e_iconst, e_ifCond, e_if_icmp, e_goto, e_getfield, e_ireturn, e_ri, e_rz, e_wIc_ge, e_wIf_lt, fX1_27, ic_0, ic_1, jt_13_4, jt_1_15, jt_9_7, tbX1_has_f, tbX1_has_p, tbX1_has_k, g_222_4]
    repeat' (with_reducible first | intro _ | refine And.intro ?_ ?_)
    all_goals first | exact h | (rw [bi_t (by omega)] at h; exact h) | (rw [bi_f (by omega)] at h; exact h) | omega
  · exact h.elim
def spX1_wasThere : aSp := fun as S Q => match as with
  | [.inr (.inr 222), .inl e, .inl s] => S.1 222 4 ≤ 8 ∧ Q (some (.inl (bi (0 ≤ e ∧ e < S.1 222 4 ∧ 0 ≤ s ∧ s < S.1 223 e.toNat)))) S
  | _ => False
def tbX1_wasThere : aTb := (fX1, pX1, fun j => lk [(42, (some 1), 2, spX1_has)] j, kX1)
theorem tbX1_wasThere_f : tbX1_wasThere.1 = fX1 := rfl
theorem tbX1_wasThere_p : tbX1_wasThere.2.1 = pX1 := rfl
theorem tbX1_wasThere_k : tbX1_wasThere.2.2.2 = kX1 := rfl
theorem tbX1_wasThere_c42 : tbX1_wasThere.2.2.1 42 = some ((some 1), 2, spX1_has) := rfl
theorem tbX1_wasThere_all (l : Launch) : ∀ e ∈ ([(42, (some 1), 2, spX1_has)] : List (Nat × Option Nat × Nat × aSp)), cOK l mX1_wasThere e.1 e.2.1 e.2.2.1 e.2.2.2 ∨ mOK mX1_wasThere e.1 e.2.1 e.2.2.1 e.2.2.2 := all_cons (cOK_of (okX1_has l) meX1_has cfX1_42 (by decide) (by decide)) (all_nil)
theorem tbX1_wasThere_ok (l : Launch) : tOK l mX1_wasThere tbX1_wasThere := ⟨fX1_ok, pX1_ok, fun _ _ _ _ h => tbX1_wasThere_all l _ (lk_mem h), kX1_ok⟩
set_option maxRecDepth 20000 in
set_option maxHeartbeats 4000000 in
theorem okX1_wasThere (l : Launch) : aOK l mX1_wasThere spX1_wasThere := by
  refine aOK_of rfl fun as S Q h => ?_
  unfold spX1_wasThere at h
  split at h
  · rename_i e s
    refine ⟨Nat.le_of_ble_eq_true rfl, wp_ok (tbX1_wasThere_ok l) Q (fun pc => false) 18 0 _ [] S ?_⟩
    show wp cX1_wasThere tbX1_wasThere 3 (some .boolean) Q (fun pc => false) (aGo l mX1_wasThere Q) 18 0 [(0, .inr (.inr 222)), (1, .inl e), (2, .inl s)] [] S
    simp only [wp_s, wpC_f, wpC_t, e_wLd, e_wLd0, e_wLd1, e_wLd2, e_get1, e_get2, e_wJ, e_wJo, f40, f41, f42, f43, Nat.reduceAdd, Nat.reduceBEq, Nat.reduceMul, eq_self, true_or, or_true, true_and, dX1_wasThere_0, dX1_wasThere_1, dX1_wasThere_2, dX1_wasThere_5, dX1_wasThere_8, dX1_wasThere_9, dX1_wasThere_12, dX1_wasThere_13, dX1_wasThere_14, dX1_wasThere_17, dX1_wasThere_18, dX1_wasThere_19, dX1_wasThere_22, dX1_wasThere_23, dX1_wasThere_26, dX1_wasThere_27, e_aload_n, e_iload_n, e_iconst, e_ifCond, e_if_icmp, e_goto, e_getfield, e_iaload, e_invokevirtual, e_ireturn, e_ri, e_rz, e_wIf_eq, e_wIc_ge, e_wIf_lt, fX1_9, ic_0, ic_1, jt_19_7, jt_23_4, jt_5_21, jt_9_17, e_call, e_callS0, e_callS1, e_callS2, e_callS3, e_callS4, e_pop0, e_pop1, e_tl0, e_tl1, tbX1_wasThere_f, tbX1_wasThere_p, tbX1_wasThere_k, tbX1_wasThere_c42, l_223, g_222_1, cv_222_0, cv_222_1, cv_222_2, cv_222_3, cv_222_4, spX1_has, bi_0, bi_1, ne_eq, Classical.not_not, em_r, em_l]
    obtain ⟨hs, h⟩ := h
    repeat' (with_reducible first | intro _ | refine And.intro ?_ ?_)
    all_goals first | exact h | (rw [bi_t (by omega)] at h; exact h) | (rw [bi_f (by omega)] at h; exact h) | omega
  · exact h.elim
/-- where slip s stood in edition e, by the rows from b on -/
noncomputable def edE (S : aS) (b : Nat) (e s : Int) : Int := @ite _ (0 ≤ e ∧ e < S.1 222 4 ∧ 0 ≤ s ∧ s < S.1 223 e.toNat) (Classical.propDecidable _) (S.1 (b + e.toNat) s.toNat) (-2)
theorem edE_t {S : aS} {b : Nat} {e s : Int} (h : 0 ≤ e ∧ e < S.1 222 4 ∧ 0 ≤ s ∧ s < S.1 223 e.toNat) : edE S b e s = S.1 (b + e.toNat) s.toNat := if_pos h
theorem edE_f {S : aS} {b : Nat} {e s : Int} (h : ¬ (0 ≤ e ∧ e < S.1 222 4 ∧ 0 ≤ s ∧ s < S.1 223 e.toNat)) : edE S b e s = -2 := if_neg h
def edP (S : aS) : Prop := S.1 222 4 ≤ 8 ∧ ∀ j : Nat, (j : Int) < S.1 222 4 → S.1 223 j ≤ 120
def spX1_entryOf : aSp := fun as S Q => match as with
  | [.inr (.inr 222), .inl e, .inl s] => edP S ∧ Q (some (.inl (edE S 225 e s))) S
  | _ => False
def tbX1_entryOf : aTb := (fX1, pX1, fun j => lk [(38, (some 1), 3, spX1_wasThere)] j, kX1)
theorem tbX1_entryOf_f : tbX1_entryOf.1 = fX1 := rfl
theorem tbX1_entryOf_p : tbX1_entryOf.2.1 = pX1 := rfl
theorem tbX1_entryOf_k : tbX1_entryOf.2.2.2 = kX1 := rfl
theorem tbX1_entryOf_c38 : tbX1_entryOf.2.2.1 38 = some ((some 1), 3, spX1_wasThere) := rfl
theorem tbX1_entryOf_all (l : Launch) : ∀ e ∈ ([(38, (some 1), 3, spX1_wasThere)] : List (Nat × Option Nat × Nat × aSp)), cOK l mX1_entryOf e.1 e.2.1 e.2.2.1 e.2.2.2 ∨ mOK mX1_entryOf e.1 e.2.1 e.2.2.1 e.2.2.2 := all_cons (cOK_of (okX1_wasThere l) meX1_wasThere cfX1_38 (by decide) (by decide)) (all_nil)
theorem tbX1_entryOf_ok (l : Launch) : tOK l mX1_entryOf tbX1_entryOf := ⟨fX1_ok, pX1_ok, fun _ _ _ _ h => tbX1_entryOf_all l _ (lk_mem h), kX1_ok⟩
set_option maxRecDepth 20000 in
set_option maxHeartbeats 4000000 in
theorem okX1_entryOf (l : Launch) : aOK l mX1_entryOf spX1_entryOf := by
  refine aOK_of rfl fun as S Q h => ?_
  unfold spX1_entryOf at h
  split at h
  · rename_i e s
    refine ⟨Nat.le_of_ble_eq_true rfl, wp_ok (tbX1_entryOf_ok l) Q (fun pc => false) 16 0 _ [] S ?_⟩
    show wp cX1_entryOf tbX1_entryOf 3 (some .int) Q (fun pc => false) (aGo l mX1_entryOf Q) 16 0 [(0, .inr (.inr 222)), (1, .inl e), (2, .inl s)] [] S
    simp only [wp_s, wpC_f, wpC_t, e_wLd, e_wLd0, e_wLd1, e_wLd2, e_get1, e_get2, e_wJ, e_wJo, f40, f41, f42, f43, Nat.reduceAdd, Nat.reduceBEq, Nat.reduceMul, eq_self, true_or, or_true, true_and, dX1_entryOf_0, dX1_entryOf_1, dX1_entryOf_2, dX1_entryOf_3, dX1_entryOf_6, dX1_entryOf_9, dX1_entryOf_10, dX1_entryOf_13, dX1_entryOf_14, dX1_entryOf_15, dX1_entryOf_16, dX1_entryOf_17, dX1_entryOf_20, dX1_entryOf_22, e_aload_n, e_iload_n, e_bipush, e_ifCond, e_goto, e_getfield, e_iaload, e_aaload, e_invokevirtual, e_ireturn, e_ri, e_rz, e_wIf_eq, bp_m2, fX1_17, jt_17_5, jt_6_14, e_call, e_callS0, e_callS1, e_callS2, e_callS3, e_callS4, e_pop0, e_pop1, e_tl0, e_tl1, tbX1_entryOf_f, tbX1_entryOf_p, tbX1_entryOf_k, tbX1_entryOf_c38, l_224, g_222_2, cv_222_0, cv_222_1, cv_222_2, cv_222_3, cv_222_4, spX1_wasThere, bi_0, bi_1, ne_eq, Classical.not_not, em_r, em_l]
    obtain ⟨⟨h0, h1⟩, h2⟩ := h
    refine ⟨h0, fun q => ?_, fun q => ?_⟩
    · rw [edE_f q] at h2; exact h2
    · have hi : e.toNat < 8 := by omega
      have := h1 e.toNat (by omega)
      refine ⟨by omega, by omega, ?_⟩
      rw [li_225 hi]
      refine ⟨by omega, by omega, ?_⟩
      rw [edE_t q] at h2
      simp only [wp_s, wpC_f, wpC_t, e_wLd, e_wLd0, e_wLd1, e_wLd2, e_get1, e_get2, e_wJ, e_wJo, f40, f41, f42, f43, Nat.reduceAdd, Nat.reduceBEq, Nat.reduceMul, eq_self, true_or, or_true, true_and, dX1_entryOf_0, dX1_entryOf_1, dX1_entryOf_2, dX1_entryOf_3, dX1_entryOf_6, dX1_entryOf_9, dX1_entryOf_10, dX1_entryOf_13, dX1_entryOf_14, dX1_entryOf_15, dX1_entryOf_16, dX1_entryOf_17, dX1_entryOf_20, dX1_entryOf_22, e_aload_n, e_iload_n, e_bipush, e_ifCond, e_goto, e_getfield, e_iaload, e_aaload, e_invokevirtual, e_ireturn, e_ri, e_rz, e_wIf_eq, bp_m2, fX1_17, jt_17_5, jt_6_14, e_call, e_callS0, e_callS1, e_callS2, e_callS3, e_callS4, e_pop0, e_pop1, e_tl0, e_tl1, tbX1_entryOf_f, tbX1_entryOf_p, tbX1_entryOf_k, tbX1_entryOf_c38, l_224, g_222_2, cv_222_0, cv_222_1, cv_222_2, cv_222_3, cv_222_4]
      exact h2
  · exact h.elim
def spX1_senseOf : aSp := fun as S Q => match as with
  | [.inr (.inr 222), .inl e, .inl s] => edP S ∧ Q (some (.inl (edE S 234 e s))) S
  | _ => False
def tbX1_senseOf : aTb := (fX1, pX1, fun j => lk [(38, (some 1), 3, spX1_wasThere)] j, kX1)
theorem tbX1_senseOf_f : tbX1_senseOf.1 = fX1 := rfl
theorem tbX1_senseOf_p : tbX1_senseOf.2.1 = pX1 := rfl
theorem tbX1_senseOf_k : tbX1_senseOf.2.2.2 = kX1 := rfl
theorem tbX1_senseOf_c38 : tbX1_senseOf.2.2.1 38 = some ((some 1), 3, spX1_wasThere) := rfl
theorem tbX1_senseOf_all (l : Launch) : ∀ e ∈ ([(38, (some 1), 3, spX1_wasThere)] : List (Nat × Option Nat × Nat × aSp)), cOK l mX1_senseOf e.1 e.2.1 e.2.2.1 e.2.2.2 ∨ mOK mX1_senseOf e.1 e.2.1 e.2.2.1 e.2.2.2 := all_cons (cOK_of (okX1_wasThere l) meX1_wasThere cfX1_38 (by decide) (by decide)) (all_nil)
theorem tbX1_senseOf_ok (l : Launch) : tOK l mX1_senseOf tbX1_senseOf := ⟨fX1_ok, pX1_ok, fun _ _ _ _ h => tbX1_senseOf_all l _ (lk_mem h), kX1_ok⟩
set_option maxRecDepth 20000 in
set_option maxHeartbeats 4000000 in
theorem okX1_senseOf (l : Launch) : aOK l mX1_senseOf spX1_senseOf := by
  refine aOK_of rfl fun as S Q h => ?_
  unfold spX1_senseOf at h
  split at h
  · rename_i e s
    refine ⟨Nat.le_of_ble_eq_true rfl, wp_ok (tbX1_senseOf_ok l) Q (fun pc => false) 16 0 _ [] S ?_⟩
    show wp cX1_senseOf tbX1_senseOf 3 (some .int) Q (fun pc => false) (aGo l mX1_senseOf Q) 16 0 [(0, .inr (.inr 222)), (1, .inl e), (2, .inl s)] [] S
    simp only [wp_s, wpC_f, wpC_t, e_wLd, e_wLd0, e_wLd1, e_wLd2, e_get1, e_get2, e_wJ, e_wJo, f40, f41, f42, f43, Nat.reduceAdd, Nat.reduceBEq, Nat.reduceMul, eq_self, true_or, or_true, true_and, dX1_senseOf_0, dX1_senseOf_1, dX1_senseOf_2, dX1_senseOf_3, dX1_senseOf_6, dX1_senseOf_9, dX1_senseOf_10, dX1_senseOf_13, dX1_senseOf_14, dX1_senseOf_15, dX1_senseOf_16, dX1_senseOf_17, dX1_senseOf_20, dX1_senseOf_22, e_aload_n, e_iload_n, e_bipush, e_ifCond, e_goto, e_getfield, e_iaload, e_aaload, e_invokevirtual, e_ireturn, e_ri, e_rz, e_wIf_eq, bp_m2, fX1_20, jt_17_5, jt_6_14, e_call, e_callS0, e_callS1, e_callS2, e_callS3, e_callS4, e_pop0, e_pop1, e_tl0, e_tl1, tbX1_senseOf_f, tbX1_senseOf_p, tbX1_senseOf_k, tbX1_senseOf_c38, l_233, g_222_3, cv_222_0, cv_222_1, cv_222_2, cv_222_3, cv_222_4, spX1_wasThere, bi_0, bi_1, ne_eq, Classical.not_not, em_r, em_l]
    obtain ⟨⟨h0, h1⟩, h2⟩ := h
    refine ⟨h0, fun q => ?_, fun q => ?_⟩
    · rw [edE_f q] at h2; exact h2
    · have hi : e.toNat < 8 := by omega
      have := h1 e.toNat (by omega)
      refine ⟨by omega, by omega, ?_⟩
      rw [li_234 hi]
      refine ⟨by omega, by omega, ?_⟩
      rw [edE_t q] at h2
      simp only [wp_s, wpC_f, wpC_t, e_wLd, e_wLd0, e_wLd1, e_wLd2, e_get1, e_get2, e_wJ, e_wJo, f40, f41, f42, f43, Nat.reduceAdd, Nat.reduceBEq, Nat.reduceMul, eq_self, true_or, or_true, true_and, dX1_senseOf_0, dX1_senseOf_1, dX1_senseOf_2, dX1_senseOf_3, dX1_senseOf_6, dX1_senseOf_9, dX1_senseOf_10, dX1_senseOf_13, dX1_senseOf_14, dX1_senseOf_15, dX1_senseOf_16, dX1_senseOf_17, dX1_senseOf_20, dX1_senseOf_22, e_aload_n, e_iload_n, e_bipush, e_ifCond, e_goto, e_getfield, e_iaload, e_aaload, e_invokevirtual, e_ireturn, e_ri, e_rz, e_wIf_eq, bp_m2, fX1_20, jt_17_5, jt_6_14, e_call, e_callS0, e_callS1, e_callS2, e_callS3, e_callS4, e_pop0, e_pop1, e_tl0, e_tl1, tbX1_senseOf_f, tbX1_senseOf_p, tbX1_senseOf_k, tbX1_senseOf_c38, l_233, g_222_3, cv_222_0, cv_222_1, cv_222_2, cv_222_3, cv_222_4]
      exact h2
  · exact h.elim
def spX1_isOtherwise : aSp := fun as S Q => match as with
  | [.inr (.inr 222), .inl a, .inl b, .inl s] => edP S ∧ Q (some (.inl (bi (¬ (edE S 225 a s = edE S 225 b s ∧ edE S 234 a s = edE S 234 b s))))) S
  | _ => False
def tbX1_isOtherwise : aTb := (fX1, pX1, fun j => lk [(46, (some 1), 3, spX1_entryOf), (50, (some 1), 3, spX1_senseOf)] j, kX1)
theorem tbX1_isOtherwise_f : tbX1_isOtherwise.1 = fX1 := rfl
theorem tbX1_isOtherwise_p : tbX1_isOtherwise.2.1 = pX1 := rfl
theorem tbX1_isOtherwise_k : tbX1_isOtherwise.2.2.2 = kX1 := rfl
theorem tbX1_isOtherwise_c46 : tbX1_isOtherwise.2.2.1 46 = some ((some 1), 3, spX1_entryOf) := rfl
theorem tbX1_isOtherwise_c50 : tbX1_isOtherwise.2.2.1 50 = some ((some 1), 3, spX1_senseOf) := rfl
theorem tbX1_isOtherwise_all (l : Launch) : ∀ e ∈ ([(46, (some 1), 3, spX1_entryOf), (50, (some 1), 3, spX1_senseOf)] : List (Nat × Option Nat × Nat × aSp)), cOK l mX1_isOtherwise e.1 e.2.1 e.2.2.1 e.2.2.2 ∨ mOK mX1_isOtherwise e.1 e.2.1 e.2.2.1 e.2.2.2 := all_cons (cOK_of (okX1_entryOf l) meX1_entryOf cfX1_46 (by decide) (by decide)) (all_cons (cOK_of (okX1_senseOf l) meX1_senseOf cfX1_50 (by decide) (by decide)) (all_nil))
theorem tbX1_isOtherwise_ok (l : Launch) : tOK l mX1_isOtherwise tbX1_isOtherwise := ⟨fX1_ok, pX1_ok, fun _ _ _ _ h => tbX1_isOtherwise_all l _ (lk_mem h), kX1_ok⟩
set_option maxRecDepth 20000 in
set_option maxHeartbeats 4000000 in
theorem okX1_isOtherwise (l : Launch) : aOK l mX1_isOtherwise spX1_isOtherwise := by
  refine aOK_of rfl fun as S Q h => ?_
  unfold spX1_isOtherwise at h
  split at h
  · rename_i a b s
    refine ⟨Nat.le_of_ble_eq_true rfl, wp_ok (tbX1_isOtherwise_ok l) Q (fun pc => false) 24 0 _ [] S ?_⟩
    show wp cX1_isOtherwise tbX1_isOtherwise 4 (some .boolean) Q (fun pc => false) (aGo l mX1_isOtherwise Q) 24 0 [(0, .inr (.inr 222)), (1, .inl a), (2, .inl b), (3, .inl s)] [] S
    simp only [wp_s, wpC_f, wpC_t, e_wLd, e_wLd0, e_wLd1, e_wLd2, e_get1, e_get2, e_wJ, e_wJo, f40, f41, f42, f43, Nat.reduceAdd, Nat.reduceBEq, Nat.reduceMul, eq_self, true_or, or_true, true_and, dX1_isOtherwise_0, dX1_isOtherwise_1, dX1_isOtherwise_2, dX1_isOtherwise_3, dX1_isOtherwise_6, dX1_isOtherwise_7, dX1_isOtherwise_8, dX1_isOtherwise_9, dX1_isOtherwise_12, dX1_isOtherwise_15, dX1_isOtherwise_16, dX1_isOtherwise_17, dX1_isOtherwise_18, dX1_isOtherwise_21, dX1_isOtherwise_22, dX1_isOtherwise_23, dX1_isOtherwise_24, dX1_isOtherwise_27, dX1_isOtherwise_30, dX1_isOtherwise_31, dX1_isOtherwise_34, dX1_isOtherwise_35, e_aload_n, e_iload_n, e_iconst, e_if_icmp, e_goto, e_invokevirtual, e_ireturn, e_ri, e_rz, e_wIc_eq, e_wIc_ne, ic_0, ic_1, jt_12_18, jt_27_7, jt_31_4, e_call, e_callS0, e_callS1, e_callS2, e_callS3, e_callS4, e_pop0, e_pop1, e_tl0, e_tl1, tbX1_isOtherwise_f, tbX1_isOtherwise_p, tbX1_isOtherwise_k, tbX1_isOtherwise_c46, tbX1_isOtherwise_c50, cv_222_0, cv_222_1, cv_222_2, cv_222_3, cv_222_4, spX1_entryOf, spX1_senseOf, bi_0, bi_1, ne_eq, Classical.not_not, em_r, em_l]
    obtain ⟨h0, h⟩ := h
    refine ⟨h0, h0, fun q => ?_, fun q => ⟨h0, h0, fun q2 => ?_, fun q2 => ?_⟩⟩
    · rw [bi_t (fun z => q z.1)] at h; exact h
    · rw [bi_f (fun z => z ⟨q, q2⟩)] at h; exact h
    · rw [bi_t (fun z => q2 z.2)] at h; exact h
  · exact h.elim
/-- an edition more -/
def edA (S : aS) (e : Int) : aS := upI (upI (stA (stA S (225 + e.toNat) (fun j => if 0 ≤ j ∧ (j : Int) < S.1 81 4 then S.1 83 j else S.1 (225 + e.toNat) j)) (234 + e.toNat) (fun j => if 0 ≤ j ∧ (j : Int) < S.1 81 4 then S.1 84 j else S.1 (234 + e.toNat) j)) 223 e.toNat (S.1 81 4)) 222 4 (e + 1)
def spX1_add : aSp := fun as S Q => match as with
  | [.inr (.inr 222)] => 0 ≤ S.1 222 4 ∧ 0 ≤ S.1 81 4 ∧ S.1 81 4 ≤ 120 ∧ (8 ≤ S.1 222 4 → Q (some (.inl (-1))) S) ∧ (S.1 222 4 < 8 → Q (some (.inl (S.1 222 4))) (edA S (S.1 222 4)))
  | _ => False
def tbX1_add : aTb := (fX1, pX1, fun j => lk [] j, kX1)
theorem tbX1_add_f : tbX1_add.1 = fX1 := rfl
theorem tbX1_add_p : tbX1_add.2.1 = pX1 := rfl
theorem tbX1_add_k : tbX1_add.2.2.2 = kX1 := rfl
theorem tbX1_add_all (l : Launch) : ∀ e ∈ ([] : List (Nat × Option Nat × Nat × aSp)), cOK l mX1_add e.1 e.2.1 e.2.2.1 e.2.2.2 ∨ mOK mX1_add e.1 e.2.1 e.2.2.1 e.2.2.2 := all_nil
theorem tbX1_add_ok (l : Launch) : tOK l mX1_add tbX1_add := ⟨fX1_ok, pX1_ok, fun _ _ _ _ h => tbX1_add_all l _ (lk_mem h), kX1_ok⟩
set_option maxRecDepth 20000 in
set_option maxHeartbeats 4000000 in
theorem lpX1_add (l : Launch) (Q : Option aV → aS → Prop) : ∀ (n : Nat) (S : aS) (e : Int) (i : Nat), i + n = (S.1 81 4).toNat → S.1 81 4 ≤ 120 → (0 ≤ e ∧ e < 8) → S.1 222 4 = e → Q (some (.inl e)) (upI (upI (stA (stA S (225 + e.toNat) (fun j => if i ≤ j ∧ (j : Int) < S.1 81 4 then S.1 83 j else S.1 (225 + e.toNat) j)) (234 + e.toNat) (fun j => if i ≤ j ∧ (j : Int) < S.1 81 4 then S.1 84 j else S.1 (234 + e.toNat) j)) 223 e.toNat (S.1 81 4)) 222 4 (e + 1)) → aGo l mX1_add Q 15 [(0, .inr (.inr 222)), (1, .inl e), (2, .inl (i : Int))] [] S := by
  intro n
  induction n using Nat.strongRecOn with
  | _ n ih =>
  intro S  e  i  h0 h1 h2 h3 h4
  refine wp_go (tbX1_add_ok l) (fun pc => pc == 15) 56 dX1_add_15 ?_
  show ws1 tbX1_add 3 (some .int) Q (wp cX1_add tbX1_add 3 (some .int) Q (fun pc => pc == 15) (aGo l mX1_add Q) 56) (.iload_n 2) 1 15 [(0, .inr (.inr 222)), (1, .inl e), (2, .inl (i : Int))] [] S
  have hi : e.toNat < 8 := by omega
  simp only [li_225 hi, li_234 hi, si_225 hi, si_234 hi, wp_s, wpC_f, wpC_t, e_wLd, e_wLd0, e_wLd1, e_wLd2, e_get1, e_get2, e_wJ, e_wJo, f40, f41, f42, f43, Nat.reduceAdd, Nat.reduceBEq, Nat.reduceMul, eq_self, true_or, or_true, true_and, dX1_add_0, dX1_add_1, dX1_add_4, dX1_add_5, dX1_add_6, dX1_add_8, dX1_add_11, dX1_add_12, dX1_add_13, dX1_add_14, dX1_add_15, dX1_add_16, dX1_add_17, dX1_add_20, dX1_add_23, dX1_add_26, dX1_add_27, dX1_add_30, dX1_add_31, dX1_add_32, dX1_add_33, dX1_add_34, dX1_add_37, dX1_add_40, dX1_add_41, dX1_add_42, dX1_add_43, dX1_add_44, dX1_add_47, dX1_add_48, dX1_add_49, dX1_add_50, dX1_add_51, dX1_add_54, dX1_add_57, dX1_add_58, dX1_add_59, dX1_add_60, dX1_add_63, dX1_add_66, dX1_add_67, dX1_add_70, dX1_add_71, dX1_add_72, dX1_add_75, dX1_add_78, dX1_add_79, dX1_add_80, dX1_add_81, dX1_add_84, dX1_add_85, dX1_add_86, dX1_add_89, dX1_add_90, e_aload_n, e_iload_n, e_istore_n, e_iconst, e_bipush, e_iadd, e_dup, e_iinc, e_if_icmp, e_goto, e_getfield, e_putfield, e_iaload, e_aaload, e_iastore, e_ireturn, e_wSt0, e_wSt1, e_wSt2, e_isL0, e_isL1, e_isL2, e_lset, e_lclr0, e_lclr1, e_lclr2, e_lput0, e_lput1, e_lput2, e_wInc, e_wInc0, Nat.reduceLT, not_false_eq_true, Bool.or_false, Bool.false_or, Bool.or_true, Bool.true_or, Bool.and_false, Bool.false_and, Bool.and_true, Bool.true_and, e_wI2, e_ri, e_rz, e_wDup0, e_wDup1, e_wIc_lt, e_wIc_ge, bp_8, fX1_17, fX1_20, fX1_23, fX1_27, fX1_31, fX1_34, fX1_36, fX1_9, ic_0, ic_1, ic_m1, jt_23_43, jt_63_m48, jt_8_5, pX1_27, tbX1_add_f, tbX1_add_p, tbX1_add_k, g_81_4, l_233, p_222_4, g_81_1, l_224, g_222_0, g_222_3, l_223, s_223, l_84, s_84, g_222_2, g_81_2, g_222_4, l_83, s_83, g_222_1]
  simp (disch := omega) only [wI_id, up_hit, up_obj, upL_hit, upL_obj, up_2, upL_1, Int.toNat_natCast]
  repeat' (with_reducible first | intro _ | refine And.intro ?_ ?_)
  all_goals (try simp (disch := omega) only [wI_id, up_hit, up_obj, upL_hit, upL_obj, up_2, upL_1, Int.toNat_natCast])
  all_goals first
    | omega
    | (rw [h3]
       refine Eq.mp (congrArg (Q (some (.inl e))) ?_) h4
       congr 2
       (refine st_ext (fun x y => ?_) (fun x y => rfl)) <;> simp only [stA, upI, up2, true_and, and_true] <;> (repeat' split) <;> first | rfl | omega | (exfalso; omega) | (subst_vars; first | rfl | omega | (exfalso; omega)) | (have hq : y = i := (by omega); subst hq; first | rfl | omega | (exfalso; omega)) | (congr 1 <;> omega); done)
    | (refine ih (n - 1) (by omega) _ e (i + 1) ?_ ?_ h2 ?_ ?_
       · simp (disch := omega) only [up_hit, up_obj, upL_hit, upL_obj, up_2, upL_1, Int.toNat_natCast]; omega
       · simp (disch := omega) only [up_hit, up_obj, upL_hit, upL_obj, up_2, upL_1, Int.toNat_natCast]; omega
       · simp (disch := omega) only [up_hit, up_obj, upL_hit, upL_obj, up_2, upL_1, Int.toNat_natCast]; exact h3
       · refine Eq.mp (congrArg (Q (some (.inl e))) ?_) h4
         simp (disch := omega) only [up_obj]
         congr 2
         (refine st_ext (fun x y => ?_) (fun x y => rfl)) <;> simp only [stA, upI, up2, true_and, and_true] <;> (repeat' split) <;> first | rfl | omega | (exfalso; omega) | (subst_vars; first | rfl | omega | (exfalso; omega)) | (have hq : y = i := (by omega); subst hq; first | rfl | omega | (exfalso; omega)) | (congr 1 <;> omega))
    | skip
set_option maxRecDepth 20000 in
set_option maxHeartbeats 4000000 in
theorem okX1_add (l : Launch) : aOK l mX1_add spX1_add := by
  refine aOK_of rfl fun as S Q h => ?_
  unfold spX1_add at h
  split at h
  · refine ⟨Nat.le_of_ble_eq_true rfl, wp_ok (tbX1_add_ok l) Q (fun pc => pc == 15) 56 0 _ [] S ?_⟩
    show wp cX1_add tbX1_add 3 (some .int) Q (fun pc => pc == 15) (aGo l mX1_add Q) 56 0 [(0, .inr (.inr 222))] [] S
    simp only [wp_s, wpC_f, wpC_t, e_wLd, e_wLd0, e_wLd1, e_wLd2, e_get1, e_get2, e_wJ, e_wJo, f40, f41, f42, f43, Nat.reduceAdd, Nat.reduceBEq, Nat.reduceMul, eq_self, true_or, or_true, true_and, dX1_add_0, dX1_add_1, dX1_add_4, dX1_add_5, dX1_add_6, dX1_add_8, dX1_add_11, dX1_add_12, dX1_add_13, dX1_add_14, dX1_add_15, dX1_add_16, dX1_add_17, dX1_add_20, dX1_add_23, dX1_add_26, dX1_add_27, dX1_add_30, dX1_add_31, dX1_add_32, dX1_add_33, dX1_add_34, dX1_add_37, dX1_add_40, dX1_add_41, dX1_add_42, dX1_add_43, dX1_add_44, dX1_add_47, dX1_add_48, dX1_add_49, dX1_add_50, dX1_add_51, dX1_add_54, dX1_add_57, dX1_add_58, dX1_add_59, dX1_add_60, dX1_add_63, dX1_add_66, dX1_add_67, dX1_add_70, dX1_add_71, dX1_add_72, dX1_add_75, dX1_add_78, dX1_add_79, dX1_add_80, dX1_add_81, dX1_add_84, dX1_add_85, dX1_add_86, dX1_add_89, dX1_add_90, e_aload_n, e_iload_n, e_istore_n, e_iconst, e_bipush, e_iadd, e_dup, e_iinc, e_if_icmp, e_goto, e_getfield, e_putfield, e_iaload, e_aaload, e_iastore, e_ireturn, e_wSt0, e_wSt1, e_wSt2, e_isL0, e_isL1, e_isL2, e_lset, e_lclr0, e_lclr1, e_lclr2, e_lput0, e_lput1, e_lput2, e_wInc, e_wInc0, Nat.reduceLT, not_false_eq_true, Bool.or_false, Bool.false_or, Bool.or_true, Bool.true_or, Bool.and_false, Bool.false_and, Bool.and_true, Bool.true_and, e_wI2, e_ri, e_rz, e_wDup0, e_wDup1, e_wIc_lt, e_wIc_ge, bp_8, fX1_17, fX1_20, fX1_23, fX1_27, fX1_31, fX1_34, fX1_36, fX1_9, ic_0, ic_1, ic_m1, jt_23_43, jt_63_m48, jt_8_5, pX1_27, tbX1_add_f, tbX1_add_p, tbX1_add_k, g_81_4, l_233, p_222_4, g_81_1, l_224, g_222_0, g_222_3, l_223, s_223, l_84, s_84, g_222_2, g_81_2, g_222_4, l_83, s_83, g_222_1]
    obtain ⟨h0, h1, h2, h3, h4⟩ := h
    exact ⟨fun q => lpX1_add l Q _ S _ 0 (Nat.zero_add _) h2 ⟨h0, q⟩ rfl (h4 q), fun q => h3 (by omega)⟩
  · exact h.elim
