/-! BOOKS, second half -/
/-- years of books are small -/
def yrs (S : aS) : Prop := ∀ k : Nat, (k : Int) < S.1 3 7 → (-1000000 ≤ S.1 6 k ∧ S.1 6 k ≤ 1000000) ∧ (-1000000 ≤ S.1 7 k ∧ S.1 7 k ≤ 1000000)
theorem sn_b {F L : Nat → Int} {p : Nat → Prop} {fb lo hi : Int} (h0 : lo ≤ fb ∧ fb ≤ hi) : ∀ n : Nat, (∀ k, k < n → lo ≤ L k ∧ L k ≤ hi) → lo ≤ (sn F L p fb n).1 ∧ (sn F L p fb n).1 ≤ hi ∧ ((sn F L p fb n).2 = 0 ∨ (sn F L p fb n).2 = 1)
  | 0, _ => ⟨h0.1, h0.2, Or.inr rfl⟩
  | n + 1, h => by
    have ih := sn_b (F := F) (p := p) h0 n (fun k hk => h k (by omega))
    have hn := h n (by omega)
    by_cases hc : p n ∧ F n < fb
    · rw [sn_t hc]
      refine ⟨?_, ?_, Or.inl rfl⟩
      · show lo ≤ (if _ then _ else _); split; exact hn.1; exact Int.le_trans hn.1 (Int.le_max_right _ _)
      · show (if _ then _ else _) ≤ hi; split; exact hn.2; exact Int.max_le.mpr ⟨ih.2.1, hn.2⟩
    · rw [sn_f hc]; exact ih
def spX0_gapAhead : aSp := fun as S Q => match as with
  | [.inr (.inr 3), .inl b, .inl x] => 0 ≤ S.1 3 7 ∧ S.1 3 7 ≤ 30 ∧ yrs S ∧ 0 ≤ b ∧ b < S.1 3 7 ∧ Q (some (.inl (max 0 (S.1 6 b.toNat - (sn (S.1 6) (S.1 7) (fun k => inS k x) (S.1 6 b.toNat) (S.1 3 7).toNat).1 - 1)))) S
  | _ => False
def tbX0_gapAhead : aTb := (fX0, pX0, fun j => lk [(58, none, 2, spX0_isIn), (67, none, 2, spMx)] j, kX0)
theorem tbX0_gapAhead_f : tbX0_gapAhead.1 = fX0 := rfl
theorem tbX0_gapAhead_p : tbX0_gapAhead.2.1 = pX0 := rfl
theorem tbX0_gapAhead_k : tbX0_gapAhead.2.2.2 = kX0 := rfl
theorem tbX0_gapAhead_c58 : tbX0_gapAhead.2.2.1 58 = some (none, 2, spX0_isIn) := rfl
theorem tbX0_gapAhead_c67 : tbX0_gapAhead.2.2.1 67 = some (none, 2, spMx) := rfl
theorem tbX0_gapAhead_all (l : Launch) : ∀ e ∈ ([(58, none, 2, spX0_isIn), (67, none, 2, spMx)] : List (Nat × Option Nat × Nat × aSp)), cOK l mX0_gapAhead e.1 e.2.1 e.2.2.1 e.2.2.2 ∨ mOK mX0_gapAhead e.1 e.2.1 e.2.2.1 e.2.2.2 := all_cons (cOK_of (okX0_isIn l) meX0_isIn cfX0_58 (by decide) (by decide)) (all_cons (cmX0_67 rfl (by decide) (by decide)) (all_nil))
theorem tbX0_gapAhead_ok (l : Launch) : tOK l mX0_gapAhead tbX0_gapAhead := ⟨fX0_ok, pX0_ok, fun _ _ _ _ h => tbX0_gapAhead_all l _ (lk_mem h), kX0_ok⟩
set_option maxRecDepth 20000 in
set_option maxHeartbeats 4000000 in
theorem lpX0_gapAhead (l : Launch) (Q : Option aV → aS → Prop) : ∀ (n : Nat) (S : aS) (b x : Int) (i : Nat), i + n = (S.1 3 7).toNat → S.1 3 7 ≤ 30 → yrs S → (0 ≤ b ∧ b < S.1 3 7) → Q (some (.inl (max 0 (S.1 6 b.toNat - (sn (S.1 6) (S.1 7) (fun k => inS k x) (S.1 6 b.toNat) (S.1 3 7).toNat).1 - 1)))) S → aGo l mX0_gapAhead Q 13 [(0, .inr (.inr 3)), (1, .inl b), (2, .inl x), (3, .inl (sn (S.1 6) (S.1 7) (fun k => inS k x) (S.1 6 b.toNat) i).1), (4, .inl (sn (S.1 6) (S.1 7) (fun k => inS k x) (S.1 6 b.toNat) i).2), (5, .inl (i : Int))] [] S := by
  intro n
  induction n using Nat.strongRecOn with
  | _ n ih =>
  intro S  b x  i  h0 h1 h2 h3 h4
  refine wp_go (tbX0_gapAhead_ok l) (fun pc => pc == 13) 57 dX0_gapAhead_13 ?_
  show ws1 tbX0_gapAhead 6 (some .int) Q (wp cX0_gapAhead tbX0_gapAhead 6 (some .int) Q (fun pc => pc == 13) (aGo l mX0_gapAhead Q) 57) (.iload 5) 2 13 [(0, .inr (.inr 3)), (1, .inl b), (2, .inl x), (3, .inl (sn (S.1 6) (S.1 7) (fun k => inS k x) (S.1 6 b.toNat) i).1), (4, .inl (sn (S.1 6) (S.1 7) (fun k => inS k x) (S.1 6 b.toNat) i).2), (5, .inl (i : Int))] [] S
  simp only [wp_s, wpC_f, wpC_t, e_wLd, e_wLd0, e_wLd1, e_wLd2, e_get1, e_get2, e_wJ, e_wJo, f40, f41, f42, f43, Nat.reduceAdd, Nat.reduceBEq, Nat.reduceMul, eq_self, true_or, or_true, true_and, dX0_gapAhead_0, dX0_gapAhead_1, dX0_gapAhead_4, dX0_gapAhead_5, dX0_gapAhead_6, dX0_gapAhead_7, dX0_gapAhead_8, dX0_gapAhead_10, dX0_gapAhead_11, dX0_gapAhead_13, dX0_gapAhead_15, dX0_gapAhead_16, dX0_gapAhead_19, dX0_gapAhead_22, dX0_gapAhead_24, dX0_gapAhead_25, dX0_gapAhead_28, dX0_gapAhead_31, dX0_gapAhead_32, dX0_gapAhead_35, dX0_gapAhead_37, dX0_gapAhead_38, dX0_gapAhead_39, dX0_gapAhead_42, dX0_gapAhead_43, dX0_gapAhead_44, dX0_gapAhead_47, dX0_gapAhead_49, dX0_gapAhead_52, dX0_gapAhead_53, dX0_gapAhead_56, dX0_gapAhead_58, dX0_gapAhead_59, dX0_gapAhead_62, dX0_gapAhead_63, dX0_gapAhead_64, dX0_gapAhead_67, dX0_gapAhead_69, dX0_gapAhead_70, dX0_gapAhead_73, dX0_gapAhead_74, dX0_gapAhead_75, dX0_gapAhead_77, dX0_gapAhead_80, dX0_gapAhead_83, dX0_gapAhead_84, dX0_gapAhead_85, dX0_gapAhead_88, dX0_gapAhead_89, dX0_gapAhead_90, dX0_gapAhead_91, dX0_gapAhead_92, dX0_gapAhead_93, dX0_gapAhead_94, dX0_gapAhead_97, e_aload_n, e_iload_n, e_iload, e_istore_n, e_istore, e_iconst, e_isub, e_iinc, e_ifCond, e_if_icmp, e_goto, e_getfield, e_iaload, e_invokestatic, e_ireturn, e_wSt0, e_wSt1, e_wSt2, e_isL0, e_isL1, e_isL2, e_lset, e_lclr0, e_lclr1, e_lclr2, e_lput0, e_lput1, e_lput2, e_wInc, e_wInc0, Nat.reduceLT, not_false_eq_true, Bool.or_false, Bool.false_or, Bool.or_true, Bool.true_or, Bool.and_false, Bool.false_and, Bool.and_true, Bool.true_and, e_ri, e_rz, e_wI2, e_wIf_eq, e_wIc_ge, fX0_18, fX0_21, fX0_33, ic_0, ic_1, jt_19_64, jt_28_49, jt_44_33, jt_49_13, jt_59_14, jt_80_m67, e_call, e_callS0, e_callS1, e_callS2, e_callS3, e_callS4, e_pop0, e_pop1, e_tl0, e_tl1, tbX0_gapAhead_f, tbX0_gapAhead_p, tbX0_gapAhead_k, tbX0_gapAhead_c58, tbX0_gapAhead_c67, l_7, g_3_7, g_3_3, l_6, g_3_2, spX0_isIn, spMx, bi_0, bi_1, ne_eq, Classical.not_not, em_r, em_l]
  have hb := sn_b (F := S.1 6) (L := S.1 7) (p := fun k => inS k x) (fb := S.1 6 b.toNat) (lo := -1000000) (hi := 1000000) (h2 b.toNat (by omega)).1 i (fun k hk => (h2 k (by omega)).2)
  have hfb := (h2 b.toNat (by omega)).1
  repeat' (with_reducible first | intro _ | refine And.intro ?_ ?_)
  all_goals (try simp (disch := omega) only [wI_id, Int.toNat_natCast])
  all_goals first
    | omega
    | (rw [show (S.1 3 7).toNat = i from by omega] at h4; exact h4)
    | (have e := ih (n - 1) (by omega) S b x (i + 1) (by omega) h1 h2 h3 h4; rw [sn_t ⟨by assumption, by simp only [Int.toNat_natCast] at *; omega⟩] at e; first | (rw [if_pos (by omega)] at e; exact e) | (rw [if_neg (by omega)] at e; exact e))
    | (have e := ih (n - 1) (by omega) S b x (i + 1) (by omega) h1 h2 h3 h4; rw [sn_f (fun q => by simp only [Int.toNat_natCast] at *; omega)] at e; exact e)
    | (have e := ih (n - 1) (by omega) S b x (i + 1) (by omega) h1 h2 h3 h4; rw [sn_f (fun q => absurd q.1 (by assumption))] at e; exact e)
    | skip
set_option maxRecDepth 20000 in
set_option maxHeartbeats 4000000 in
theorem okX0_gapAhead (l : Launch) : aOK l mX0_gapAhead spX0_gapAhead := by
  refine aOK_of rfl fun as S Q h => ?_
  unfold spX0_gapAhead at h
  split at h
  · rename_i b x
    refine ⟨Nat.le_of_ble_eq_true rfl, wp_ok (tbX0_gapAhead_ok l) Q (fun pc => pc == 13) 57 0 _ [] S ?_⟩
    show wp cX0_gapAhead tbX0_gapAhead 6 (some .int) Q (fun pc => pc == 13) (aGo l mX0_gapAhead Q) 57 0 [(0, .inr (.inr 3)), (1, .inl b), (2, .inl x)] [] S
    simp only [wp_s, wpC_f, wpC_t, e_wLd, e_wLd0, e_wLd1, e_wLd2, e_get1, e_get2, e_wJ, e_wJo, f40, f41, f42, f43, Nat.reduceAdd, Nat.reduceBEq, Nat.reduceMul, eq_self, true_or, or_true, true_and, dX0_gapAhead_0, dX0_gapAhead_1, dX0_gapAhead_4, dX0_gapAhead_5, dX0_gapAhead_6, dX0_gapAhead_7, dX0_gapAhead_8, dX0_gapAhead_10, dX0_gapAhead_11, dX0_gapAhead_13, dX0_gapAhead_15, dX0_gapAhead_16, dX0_gapAhead_19, dX0_gapAhead_22, dX0_gapAhead_24, dX0_gapAhead_25, dX0_gapAhead_28, dX0_gapAhead_31, dX0_gapAhead_32, dX0_gapAhead_35, dX0_gapAhead_37, dX0_gapAhead_38, dX0_gapAhead_39, dX0_gapAhead_42, dX0_gapAhead_43, dX0_gapAhead_44, dX0_gapAhead_47, dX0_gapAhead_49, dX0_gapAhead_52, dX0_gapAhead_53, dX0_gapAhead_56, dX0_gapAhead_58, dX0_gapAhead_59, dX0_gapAhead_62, dX0_gapAhead_63, dX0_gapAhead_64, dX0_gapAhead_67, dX0_gapAhead_69, dX0_gapAhead_70, dX0_gapAhead_73, dX0_gapAhead_74, dX0_gapAhead_75, dX0_gapAhead_77, dX0_gapAhead_80, dX0_gapAhead_83, dX0_gapAhead_84, dX0_gapAhead_85, dX0_gapAhead_88, dX0_gapAhead_89, dX0_gapAhead_90, dX0_gapAhead_91, dX0_gapAhead_92, dX0_gapAhead_93, dX0_gapAhead_94, dX0_gapAhead_97, e_aload_n, e_iload_n, e_iload, e_istore_n, e_istore, e_iconst, e_isub, e_iinc, e_ifCond, e_if_icmp, e_goto, e_getfield, e_iaload, e_invokestatic, e_ireturn, e_wSt0, e_wSt1, e_wSt2, e_isL0, e_isL1, e_isL2, e_lset, e_lclr0, e_lclr1, e_lclr2, e_lput0, e_lput1, e_lput2, e_wInc, e_wInc0, Nat.reduceLT, not_false_eq_true, Bool.or_false, Bool.false_or, Bool.or_true, Bool.true_or, Bool.and_false, Bool.false_and, Bool.and_true, Bool.true_and, e_ri, e_rz, e_wI2, e_wIf_eq, e_wIc_ge, fX0_18, fX0_21, fX0_33, ic_0, ic_1, jt_19_64, jt_28_49, jt_44_33, jt_49_13, jt_59_14, jt_80_m67, e_call, e_callS0, e_callS1, e_callS2, e_callS3, e_callS4, e_pop0, e_pop1, e_tl0, e_tl1, tbX0_gapAhead_f, tbX0_gapAhead_p, tbX0_gapAhead_k, tbX0_gapAhead_c58, tbX0_gapAhead_c67, l_7, g_3_7, g_3_3, l_6, g_3_2]
    obtain ⟨h0, h1, h2, h3, h4, h5⟩ := h
    exact ⟨h3, by omega, lpX0_gapAhead l Q _ S b x 0 (Nat.zero_add _) h1 h2 ⟨h3, h4⟩ h5⟩
  · exact h.elim
def spX0_widestGap : aSp := fun as S Q => match as with
  | [.inr (.inr 3), .inl x] => 0 ≤ S.1 3 7 ∧ S.1 3 7 ≤ 30 ∧ yrs S ∧ Q (some (.inl (mx (fun b : Nat => max 0 (S.1 6 b - (sn (S.1 6) (S.1 7) (fun k => inS k x) (S.1 6 b) (S.1 3 7).toNat).1 - 1)) (fun k => inS k x) (S.1 3 7).toNat))) S
  | _ => False
def tbX0_widestGap : aTb := (fX0, pX0, fun j => lk [(58, none, 2, spX0_isIn), (67, none, 2, spMx), (70, (some 0), 3, spX0_gapAhead)] j, kX0)
theorem tbX0_widestGap_f : tbX0_widestGap.1 = fX0 := rfl
theorem tbX0_widestGap_p : tbX0_widestGap.2.1 = pX0 := rfl
theorem tbX0_widestGap_k : tbX0_widestGap.2.2.2 = kX0 := rfl
theorem tbX0_widestGap_c58 : tbX0_widestGap.2.2.1 58 = some (none, 2, spX0_isIn) := rfl
theorem tbX0_widestGap_c67 : tbX0_widestGap.2.2.1 67 = some (none, 2, spMx) := rfl
theorem tbX0_widestGap_c70 : tbX0_widestGap.2.2.1 70 = some ((some 0), 3, spX0_gapAhead) := rfl
theorem tbX0_widestGap_all (l : Launch) : ∀ e ∈ ([(58, none, 2, spX0_isIn), (67, none, 2, spMx), (70, (some 0), 3, spX0_gapAhead)] : List (Nat × Option Nat × Nat × aSp)), cOK l mX0_widestGap e.1 e.2.1 e.2.2.1 e.2.2.2 ∨ mOK mX0_widestGap e.1 e.2.1 e.2.2.1 e.2.2.2 := all_cons (cOK_of (okX0_isIn l) meX0_isIn cfX0_58 (by decide) (by decide)) (all_cons (cmX0_67 rfl (by decide) (by decide)) (all_cons (cOK_of (okX0_gapAhead l) meX0_gapAhead cfX0_70 (by decide) (by decide)) (all_nil)))
theorem tbX0_widestGap_ok (l : Launch) : tOK l mX0_widestGap tbX0_widestGap := ⟨fX0_ok, pX0_ok, fun _ _ _ _ h => tbX0_widestGap_all l _ (lk_mem h), kX0_ok⟩
set_option maxRecDepth 20000 in
set_option maxHeartbeats 4000000 in
theorem lpX0_widestGap (l : Launch) (Q : Option aV → aS → Prop) : ∀ (n : Nat) (S : aS) (x : Int) (i : Nat), i + n = (S.1 3 7).toNat → S.1 3 7 ≤ 30 → yrs S → Q (some (.inl (mx (fun b : Nat => max 0 (S.1 6 b - (sn (S.1 6) (S.1 7) (fun k => inS k x) (S.1 6 b) (S.1 3 7).toNat).1 - 1)) (fun k => inS k x) (S.1 3 7).toNat))) S → aGo l mX0_widestGap Q 4 [(0, .inr (.inr 3)), (1, .inl x), (2, .inl (mx (fun b : Nat => max 0 (S.1 6 b - (sn (S.1 6) (S.1 7) (fun k => inS k x) (S.1 6 b) (S.1 3 7).toNat).1 - 1)) (fun k => inS k x) i)), (3, .inl (i : Int))] [] S := by
  intro n
  induction n using Nat.strongRecOn with
  | _ n ih =>
  intro S  x  i  h0 h1 h2 h3
  refine wp_go (tbX0_widestGap_ok l) (fun pc => pc == 4) 25 dX0_widestGap_4 ?_
  show ws1 tbX0_widestGap 4 (some .int) Q (wp cX0_widestGap tbX0_widestGap 4 (some .int) Q (fun pc => pc == 4) (aGo l mX0_widestGap Q) 25) (.iload_n 3) 1 4 [(0, .inr (.inr 3)), (1, .inl x), (2, .inl (mx (fun b : Nat => max 0 (S.1 6 b - (sn (S.1 6) (S.1 7) (fun k => inS k x) (S.1 6 b) (S.1 3 7).toNat).1 - 1)) (fun k => inS k x) i)), (3, .inl (i : Int))] [] S
  simp only [wp_s, wpC_f, wpC_t, e_wLd, e_wLd0, e_wLd1, e_wLd2, e_get1, e_get2, e_wJ, e_wJo, f40, f41, f42, f43, Nat.reduceAdd, Nat.reduceBEq, Nat.reduceMul, eq_self, true_or, or_true, true_and, dX0_widestGap_0, dX0_widestGap_1, dX0_widestGap_2, dX0_widestGap_3, dX0_widestGap_4, dX0_widestGap_5, dX0_widestGap_6, dX0_widestGap_9, dX0_widestGap_12, dX0_widestGap_13, dX0_widestGap_14, dX0_widestGap_17, dX0_widestGap_20, dX0_widestGap_21, dX0_widestGap_22, dX0_widestGap_23, dX0_widestGap_24, dX0_widestGap_27, dX0_widestGap_30, dX0_widestGap_31, dX0_widestGap_34, dX0_widestGap_37, dX0_widestGap_38, e_aload_n, e_iload_n, e_istore_n, e_iconst, e_iinc, e_ifCond, e_if_icmp, e_goto, e_getfield, e_invokevirtual, e_invokestatic, e_ireturn, e_wSt0, e_wSt1, e_wSt2, e_isL0, e_isL1, e_isL2, e_lset, e_lclr0, e_lclr1, e_lclr2, e_lput0, e_lput1, e_lput2, e_wInc, e_wInc0, Nat.reduceLT, not_false_eq_true, Bool.or_false, Bool.false_or, Bool.or_true, Bool.true_or, Bool.and_false, Bool.false_and, Bool.and_true, Bool.true_and, e_ri, e_rz, e_wIf_eq, e_wIc_ge, fX0_33, ic_0, jt_17_14, jt_34_m30, jt_9_28, e_call, e_callS0, e_callS1, e_callS2, e_callS3, e_callS4, e_pop0, e_pop1, e_tl0, e_tl1, tbX0_widestGap_f, tbX0_widestGap_p, tbX0_widestGap_k, tbX0_widestGap_c58, tbX0_widestGap_c67, tbX0_widestGap_c70, cv_3_0, cv_3_1, cv_3_2, cv_3_3, cv_3_4, g_3_7, spX0_isIn, spMx, spX0_gapAhead, bi_0, bi_1, ne_eq, Classical.not_not, em_r, em_l]
  repeat' (with_reducible first | intro _ | refine And.intro ?_ ?_)
  all_goals (try simp (disch := omega) only [wI_id, Int.toNat_natCast])
  all_goals first
    | omega
    | exact h2
    | exact Eq.mp (congrArg (fun z => Q (some (.inl (mx (fun b : Nat => max 0 (S.1 6 b - (sn (S.1 6) (S.1 7) (fun k => inS k x) (S.1 6 b) (S.1 3 7).toNat).1 - 1)) (fun k => inS k x) z))) S) (show (S.1 3 7).toNat = i by omega)) h3
    | (have e := ih (n - 1) (by omega) S x (i + 1) (by omega) h1 h2 h3; rw [mx_t (by assumption)] at e; exact e)
    | (have e := ih (n - 1) (by omega) S x (i + 1) (by omega) h1 h2 h3; rw [mx_f (by assumption)] at e; exact e)
    | skip
set_option maxRecDepth 20000 in
set_option maxHeartbeats 4000000 in
theorem okX0_widestGap (l : Launch) : aOK l mX0_widestGap spX0_widestGap := by
  refine aOK_of rfl fun as S Q h => ?_
  unfold spX0_widestGap at h
  split at h
  · rename_i x
    refine ⟨Nat.le_of_ble_eq_true rfl, wp_ok (tbX0_widestGap_ok l) Q (fun pc => pc == 4) 25 0 _ [] S ?_⟩
    show wp cX0_widestGap tbX0_widestGap 4 (some .int) Q (fun pc => pc == 4) (aGo l mX0_widestGap Q) 25 0 [(0, .inr (.inr 3)), (1, .inl x)] [] S
    simp only [wp_s, wpC_f, wpC_t, e_wLd, e_wLd0, e_wLd1, e_wLd2, e_get1, e_get2, e_wJ, e_wJo, f40, f41, f42, f43, Nat.reduceAdd, Nat.reduceBEq, Nat.reduceMul, eq_self, true_or, or_true, true_and, dX0_widestGap_0, dX0_widestGap_1, dX0_widestGap_2, dX0_widestGap_3, dX0_widestGap_4, dX0_widestGap_5, dX0_widestGap_6, dX0_widestGap_9, dX0_widestGap_12, dX0_widestGap_13, dX0_widestGap_14, dX0_widestGap_17, dX0_widestGap_20, dX0_widestGap_21, dX0_widestGap_22, dX0_widestGap_23, dX0_widestGap_24, dX0_widestGap_27, dX0_widestGap_30, dX0_widestGap_31, dX0_widestGap_34, dX0_widestGap_37, dX0_widestGap_38, e_aload_n, e_iload_n, e_istore_n, e_iconst, e_iinc, e_ifCond, e_if_icmp, e_goto, e_getfield, e_invokevirtual, e_invokestatic, e_ireturn, e_wSt0, e_wSt1, e_wSt2, e_isL0, e_isL1, e_isL2, e_lset, e_lclr0, e_lclr1, e_lclr2, e_lput0, e_lput1, e_lput2, e_wInc, e_wInc0, Nat.reduceLT, not_false_eq_true, Bool.or_false, Bool.false_or, Bool.or_true, Bool.true_or, Bool.and_false, Bool.false_and, Bool.and_true, Bool.true_and, e_ri, e_rz, e_wIf_eq, e_wIc_ge, fX0_33, ic_0, jt_17_14, jt_34_m30, jt_9_28, e_call, e_callS0, e_callS1, e_callS2, e_callS3, e_callS4, e_pop0, e_pop1, e_tl0, e_tl1, tbX0_widestGap_f, tbX0_widestGap_p, tbX0_widestGap_k, tbX0_widestGap_c58, tbX0_widestGap_c67, tbX0_widestGap_c70, cv_3_0, cv_3_1, cv_3_2, cv_3_3, cv_3_4, g_3_7]
    exact lpX0_widestGap l Q _ S x 0 (Nat.zero_add _) h.2.1 h.2.2.1 h.2.2.2
  · exact h.elim
def spX0_areSurelyOlder : aSp := fun as S Q => match as with
  | [.inr (.inr 3), .inl x, .inl y] => 0 ≤ S.1 3 7 ∧ S.1 3 7 ≤ 30 ∧ Q (some (.inl (bi (mn (S.1 7) (fun k => inS k x) (S.1 3 7).toNat < mn (S.1 6) (fun k => inS k y) (S.1 3 7).toNat ∨ (∃ k : Nat, k < (S.1 3 7).toNat ∧ inS k x ∧ bAnd y (bXor (S.1 8 k) (-1)) = 0))))) S
  | _ => False
def tbX0_areSurelyOlder : aTb := (fX0, pX0, fun j => lk [(58, none, 2, spX0_isIn), (73, (some 0), 3, spX0_least)] j, kX0)
theorem tbX0_areSurelyOlder_f : tbX0_areSurelyOlder.1 = fX0 := rfl
theorem tbX0_areSurelyOlder_p : tbX0_areSurelyOlder.2.1 = pX0 := rfl
theorem tbX0_areSurelyOlder_k : tbX0_areSurelyOlder.2.2.2 = kX0 := rfl
theorem tbX0_areSurelyOlder_c58 : tbX0_areSurelyOlder.2.2.1 58 = some (none, 2, spX0_isIn) := rfl
theorem tbX0_areSurelyOlder_c73 : tbX0_areSurelyOlder.2.2.1 73 = some ((some 0), 3, spX0_least) := rfl
theorem tbX0_areSurelyOlder_all (l : Launch) : ∀ e ∈ ([(58, none, 2, spX0_isIn), (73, (some 0), 3, spX0_least)] : List (Nat × Option Nat × Nat × aSp)), cOK l mX0_areSurelyOlder e.1 e.2.1 e.2.2.1 e.2.2.2 ∨ mOK mX0_areSurelyOlder e.1 e.2.1 e.2.2.1 e.2.2.2 := all_cons (cOK_of (okX0_isIn l) meX0_isIn cfX0_58 (by decide) (by decide)) (all_cons (cOK_of (okX0_least l) meX0_least cfX0_73 (by decide) (by decide)) (all_nil))
theorem tbX0_areSurelyOlder_ok (l : Launch) : tOK l mX0_areSurelyOlder tbX0_areSurelyOlder := ⟨fX0_ok, pX0_ok, fun _ _ _ _ h => tbX0_areSurelyOlder_all l _ (lk_mem h), kX0_ok⟩
set_option maxRecDepth 20000 in
set_option maxHeartbeats 4000000 in
theorem lpX0_areSurelyOlder (l : Launch) (Q : Option aV → aS → Prop) : ∀ (n : Nat) (S : aS) (x y : Int) (i : Nat), i + n = (S.1 3 7).toNat → S.1 3 7 ≤ 30 → ¬ (mn (S.1 7) (fun k => inS k x) (S.1 3 7).toNat < mn (S.1 6) (fun k => inS k y) (S.1 3 7).toNat) → Q (some (.inl (bi (mn (S.1 7) (fun k => inS k x) (S.1 3 7).toNat < mn (S.1 6) (fun k => inS k y) (S.1 3 7).toNat ∨ (∃ k : Nat, k < (S.1 3 7).toNat ∧ inS k x ∧ bAnd y (bXor (S.1 8 k) (-1)) = 0))))) S → (∀ k : Nat, k < i → ¬ (inS k x ∧ bAnd y (bXor (S.1 8 k) (-1)) = 0)) → aGo l mX0_areSurelyOlder Q 25 [(0, .inr (.inr 3)), (1, .inl x), (2, .inl y), (3, .inl (i : Int))] [] S := by
  intro n
  induction n using Nat.strongRecOn with
  | _ n ih =>
  intro S  x y  i  h0 h1 h2 h3 h4
  refine wp_go (tbX0_areSurelyOlder_ok l) (fun pc => pc == 25) 40 dX0_areSurelyOlder_25 ?_
  show ws1 tbX0_areSurelyOlder 4 (some .boolean) Q (wp cX0_areSurelyOlder tbX0_areSurelyOlder 4 (some .boolean) Q (fun pc => pc == 25) (aGo l mX0_areSurelyOlder Q) 40) (.iload_n 3) 1 25 [(0, .inr (.inr 3)), (1, .inl x), (2, .inl y), (3, .inl (i : Int))] [] S
  simp only [wp_s, wpC_f, wpC_t, e_wLd, e_wLd0, e_wLd1, e_wLd2, e_get1, e_get2, e_wJ, e_wJo, f40, f41, f42, f43, Nat.reduceAdd, Nat.reduceBEq, Nat.reduceMul, eq_self, true_or, or_true, true_and, dX0_areSurelyOlder_0, dX0_areSurelyOlder_1, dX0_areSurelyOlder_2, dX0_areSurelyOlder_5, dX0_areSurelyOlder_6, dX0_areSurelyOlder_9, dX0_areSurelyOlder_10, dX0_areSurelyOlder_11, dX0_areSurelyOlder_14, dX0_areSurelyOlder_15, dX0_areSurelyOlder_18, dX0_areSurelyOlder_21, dX0_areSurelyOlder_22, dX0_areSurelyOlder_23, dX0_areSurelyOlder_24, dX0_areSurelyOlder_25, dX0_areSurelyOlder_26, dX0_areSurelyOlder_27, dX0_areSurelyOlder_30, dX0_areSurelyOlder_33, dX0_areSurelyOlder_34, dX0_areSurelyOlder_35, dX0_areSurelyOlder_38, dX0_areSurelyOlder_41, dX0_areSurelyOlder_42, dX0_areSurelyOlder_43, dX0_areSurelyOlder_46, dX0_areSurelyOlder_47, dX0_areSurelyOlder_48, dX0_areSurelyOlder_49, dX0_areSurelyOlder_50, dX0_areSurelyOlder_51, dX0_areSurelyOlder_54, dX0_areSurelyOlder_55, dX0_areSurelyOlder_56, dX0_areSurelyOlder_59, dX0_areSurelyOlder_62, dX0_areSurelyOlder_63, e_aload_n, e_iload_n, e_istore_n, e_iconst, e_iand, e_ixor, e_iinc, e_ifCond, e_if_icmp, e_goto, e_getfield, e_iaload, e_invokevirtual, e_invokestatic, e_ireturn, e_wSt0, e_wSt1, e_wSt2, e_isL0, e_isL1, e_isL2, e_lset, e_lclr0, e_lclr1, e_lclr2, e_lput0, e_lput1, e_lput2, e_wInc, e_wInc0, Nat.reduceLT, not_false_eq_true, Bool.or_false, Bool.false_or, Bool.or_true, Bool.true_or, Bool.and_false, Bool.false_and, Bool.and_true, Bool.true_and, e_wI2, e_ri, e_rz, e_wIf_eq, e_wIc_ge, e_wIf_ne, fX0_18, fX0_21, fX0_24, fX0_33, ic_0, ic_1, ic_m1, jt_18_5, jt_30_32, jt_38_18, jt_51_5, jt_59_m34, e_call, e_callS0, e_callS1, e_callS2, e_callS3, e_callS4, e_pop0, e_pop1, e_tl0, e_tl1, tbX0_areSurelyOlder_f, tbX0_areSurelyOlder_p, tbX0_areSurelyOlder_k, tbX0_areSurelyOlder_c58, tbX0_areSurelyOlder_c73, l_7, g_3_4, g_3_7, g_3_3, cv_3_0, cv_3_1, cv_3_2, cv_3_3, cv_3_4, l_6, g_3_2, l_8, spX0_isIn, bi_0, bi_1, ne_eq, Classical.not_not, em_r, em_l]
  repeat' (with_reducible first | intro _ | refine And.intro ?_ ?_)
  all_goals (try simp (disch := omega) only [wI_id, Int.toNat_natCast] at *)
  all_goals first
    | omega
    | (rw [bi_f (fun q => q.elim h2 (fun ⟨k, hk, hk2⟩ => h4 k (by omega) hk2))] at h3; exact h3)
    | (rw [bi_t (Or.inr ⟨i, by omega, by assumption, by assumption⟩)] at h3; exact h3)
    | (refine ih (n - 1) (by omega) S x y (i + 1) (by omega) h1 h2 h3 (fun k hk q => ?_)
       by_cases hki : k = i
       · subst hki; first | exact absurd q.1 (by assumption) | exact absurd q.2 (by assumption)
       · exact h4 k (by omega) q)
    | skip
set_option maxRecDepth 20000 in
set_option maxHeartbeats 4000000 in
theorem okX0_areSurelyOlder (l : Launch) : aOK l mX0_areSurelyOlder spX0_areSurelyOlder := by
  refine aOK_of rfl fun as S Q h => ?_
  unfold spX0_areSurelyOlder at h
  split at h
  · rename_i x y
    refine ⟨Nat.le_of_ble_eq_true rfl, wp_ok (tbX0_areSurelyOlder_ok l) Q (fun pc => pc == 25) 40 0 _ [] S ?_⟩
    show wp cX0_areSurelyOlder tbX0_areSurelyOlder 4 (some .boolean) Q (fun pc => pc == 25) (aGo l mX0_areSurelyOlder Q) 40 0 [(0, .inr (.inr 3)), (1, .inl x), (2, .inl y)] [] S
    simp only [wp_s, wpC_f, wpC_t, e_wLd, e_wLd0, e_wLd1, e_wLd2, e_get1, e_get2, e_wJ, e_wJo, f40, f41, f42, f43, Nat.reduceAdd, Nat.reduceBEq, Nat.reduceMul, eq_self, true_or, or_true, true_and, dX0_areSurelyOlder_0, dX0_areSurelyOlder_1, dX0_areSurelyOlder_2, dX0_areSurelyOlder_5, dX0_areSurelyOlder_6, dX0_areSurelyOlder_9, dX0_areSurelyOlder_10, dX0_areSurelyOlder_11, dX0_areSurelyOlder_14, dX0_areSurelyOlder_15, dX0_areSurelyOlder_18, dX0_areSurelyOlder_21, dX0_areSurelyOlder_22, dX0_areSurelyOlder_23, dX0_areSurelyOlder_24, dX0_areSurelyOlder_25, dX0_areSurelyOlder_26, dX0_areSurelyOlder_27, dX0_areSurelyOlder_30, dX0_areSurelyOlder_33, dX0_areSurelyOlder_34, dX0_areSurelyOlder_35, dX0_areSurelyOlder_38, dX0_areSurelyOlder_41, dX0_areSurelyOlder_42, dX0_areSurelyOlder_43, dX0_areSurelyOlder_46, dX0_areSurelyOlder_47, dX0_areSurelyOlder_48, dX0_areSurelyOlder_49, dX0_areSurelyOlder_50, dX0_areSurelyOlder_51, dX0_areSurelyOlder_54, dX0_areSurelyOlder_55, dX0_areSurelyOlder_56, dX0_areSurelyOlder_59, dX0_areSurelyOlder_62, dX0_areSurelyOlder_63, e_aload_n, e_iload_n, e_istore_n, e_iconst, e_iand, e_ixor, e_iinc, e_ifCond, e_if_icmp, e_goto, e_getfield, e_iaload, e_invokevirtual, e_invokestatic, e_ireturn, e_wSt0, e_wSt1, e_wSt2, e_isL0, e_isL1, e_isL2, e_lset, e_lclr0, e_lclr1, e_lclr2, e_lput0, e_lput1, e_lput2, e_wInc, e_wInc0, Nat.reduceLT, not_false_eq_true, Bool.or_false, Bool.false_or, Bool.or_true, Bool.true_or, Bool.and_false, Bool.false_and, Bool.and_true, Bool.true_and, e_wI2, e_ri, e_rz, e_wIf_eq, e_wIc_ge, e_wIf_ne, fX0_18, fX0_21, fX0_24, fX0_33, ic_0, ic_1, ic_m1, jt_18_5, jt_30_32, jt_38_18, jt_51_5, jt_59_m34, e_call, e_callS0, e_callS1, e_callS2, e_callS3, e_callS4, e_pop0, e_pop1, e_tl0, e_tl1, tbX0_areSurelyOlder_f, tbX0_areSurelyOlder_p, tbX0_areSurelyOlder_k, tbX0_areSurelyOlder_c58, tbX0_areSurelyOlder_c73, l_7, g_3_4, g_3_7, g_3_3, cv_3_0, cv_3_1, cv_3_2, cv_3_3, cv_3_4, l_6, g_3_2, l_8, spX0_least, bi_0, bi_1, ne_eq, Classical.not_not, em_r, em_l]
    obtain ⟨h0, h1, h2⟩ := h
    refine ⟨h0, h1, h0, h1, fun q => ?_, fun q => ?_⟩
    · exact lpX0_areSurelyOlder l Q _ S x y 0 (Nat.zero_add _) h1 (by omega) h2 (fun k hk => by omega)
    · rw [bi_t (Or.inl (by omega))] at h2; exact h2
  · exact h.elim
def spX0_setBehind : aSp := fun as S Q => match as with
  | [.inr (.inr 3), .inl a, .inl b] => 0 ≤ S.1 3 7 ∧ S.1 3 7 ≤ 30 ∧ 0 ≤ b ∧ b < S.1 3 7 ∧ Q none (stA S 8 (fun j => if (j : Int) < S.1 3 7 ∧ ((j : Int) = a ∨ bAnd (bUshr (S.1 8 j) a) 1 = 1) then bOr (S.1 8 j) (bOr (bShl 1 b) (S.1 8 b.toNat)) else S.1 8 j))
  | _ => False
def tbX0_setBehind : aTb := (fX0, pX0, fun j => lk [(58, none, 2, spX0_isIn)] j, kX0)
theorem tbX0_setBehind_f : tbX0_setBehind.1 = fX0 := rfl
theorem tbX0_setBehind_p : tbX0_setBehind.2.1 = pX0 := rfl
theorem tbX0_setBehind_k : tbX0_setBehind.2.2.2 = kX0 := rfl
theorem tbX0_setBehind_c58 : tbX0_setBehind.2.2.1 58 = some (none, 2, spX0_isIn) := rfl
theorem tbX0_setBehind_all (l : Launch) : ∀ e ∈ ([(58, none, 2, spX0_isIn)] : List (Nat × Option Nat × Nat × aSp)), cOK l mX0_setBehind e.1 e.2.1 e.2.2.1 e.2.2.2 ∨ mOK mX0_setBehind e.1 e.2.1 e.2.2.1 e.2.2.2 := all_cons (cOK_of (okX0_isIn l) meX0_isIn cfX0_58 (by decide) (by decide)) (all_nil)
theorem tbX0_setBehind_ok (l : Launch) : tOK l mX0_setBehind tbX0_setBehind := ⟨fX0_ok, pX0_ok, fun _ _ _ _ h => tbX0_setBehind_all l _ (lk_mem h), kX0_ok⟩
set_option maxRecDepth 20000 in
set_option maxHeartbeats 4000000 in
theorem lpX0_setBehind (l : Launch) (Q : Option aV → aS → Prop) : ∀ (n : Nat) (S : aS) (a b m : Int) (i : Nat), i + n = (S.1 3 7).toNat → Q (none) (stA S 8 (fun j => if i ≤ j ∧ (j : Int) < S.1 3 7 ∧ ((j : Int) = a ∨ bAnd (bUshr (S.1 8 j) a) 1 = 1) then bOr (S.1 8 j) m else S.1 8 j)) → S.1 3 7 ≤ 30 → aGo l mX0_setBehind Q 14 [(0, .inr (.inr 3)), (1, .inl a), (2, .inl b), (3, .inl m), (4, .inl (i : Int))] [] S := by
  intro n
  induction n using Nat.strongRecOn with
  | _ n ih =>
  intro S  a b m  i  h0 h1 h2
  refine wp_go (tbX0_setBehind_ok l) (fun pc => pc == 14) 38 dX0_setBehind_14 ?_
  show ws1 tbX0_setBehind 5 none Q (wp cX0_setBehind tbX0_setBehind 5 none Q (fun pc => pc == 14) (aGo l mX0_setBehind Q) 38) (.iload 4) 2 14 [(0, .inr (.inr 3)), (1, .inl a), (2, .inl b), (3, .inl m), (4, .inl (i : Int))] [] S
  simp only [wp_s, wpC_f, wpC_t, e_wLd, e_wLd0, e_wLd1, e_wLd2, e_get1, e_get2, e_wJ, e_wJo, f40, f41, f42, f43, Nat.reduceAdd, Nat.reduceBEq, Nat.reduceMul, eq_self, true_or, or_true, true_and, dX0_setBehind_0, dX0_setBehind_1, dX0_setBehind_2, dX0_setBehind_3, dX0_setBehind_4, dX0_setBehind_7, dX0_setBehind_8, dX0_setBehind_9, dX0_setBehind_10, dX0_setBehind_11, dX0_setBehind_12, dX0_setBehind_14, dX0_setBehind_16, dX0_setBehind_17, dX0_setBehind_20, dX0_setBehind_23, dX0_setBehind_25, dX0_setBehind_26, dX0_setBehind_29, dX0_setBehind_30, dX0_setBehind_31, dX0_setBehind_34, dX0_setBehind_36, dX0_setBehind_37, dX0_setBehind_40, dX0_setBehind_43, dX0_setBehind_44, dX0_setBehind_47, dX0_setBehind_49, dX0_setBehind_50, dX0_setBehind_51, dX0_setBehind_52, dX0_setBehind_53, dX0_setBehind_54, dX0_setBehind_57, dX0_setBehind_60, e_aload_n, e_iload_n, e_iload, e_istore_n, e_istore, e_iconst, e_ior, e_ishl, e_dup2, e_iinc, e_ifCond, e_if_icmp, e_goto, e_getfield, e_iaload, e_iastore, e_invokestatic, e_return_, e_wSt0, e_wSt1, e_wSt2, e_isL0, e_isL1, e_isL2, e_lset, e_lclr0, e_lclr1, e_lclr2, e_lput0, e_lput1, e_lput2, e_wInc, e_wInc0, Nat.reduceLT, not_false_eq_true, Bool.or_false, Bool.false_or, Bool.or_true, Bool.true_or, Bool.and_false, Bool.false_and, Bool.and_true, Bool.true_and, e_wI2, e_rv, e_wDup2, e_wIf_eq, e_wIc_eq, e_wIc_ge, fX0_24, fX0_33, ic_0, ic_1, jt_20_40, jt_26_17, jt_40_14, jt_57_m43, e_call, e_callS0, e_callS1, e_callS2, e_callS3, e_callS4, e_pop0, e_pop1, e_tl0, e_tl1, tbX0_setBehind_f, tbX0_setBehind_p, tbX0_setBehind_k, tbX0_setBehind_c58, g_3_4, l_8, s_8, g_3_7, spX0_isIn, inS, bi_0, bi_1, ne_eq, Classical.not_not, em_r, em_l]
  repeat' (with_reducible first | intro _ | refine And.intro ?_ ?_)
  all_goals (try simp (disch := omega) only [wI_id, Int.toNat_natCast] at *)
  all_goals first
    | omega
    | (refine Eq.mp (congrArg (Q (none)) ?_) h1; (refine st_ext (fun x y => ?_) (fun x y => ?_) <;> (try simp only [stA, upI, upL, up2]) <;> (repeat' split) <;> first | rfl | omega | (simp_all; done) | (simp_all; omega) | (have hq : y = i := (by omega); subst hq; first | rfl | omega | (simp_all; done) | (simp_all; omega)) | (congr 2 <;> omega) | (congr 3 <;> omega)); done)
    | (refine ih (n - 1) (by omega) _ a b m (i + 1) ?_ ?_ ?_ <;> first | omega | (simp only [up_hit, up_obj, upL_hit, upL_obj, up_2, upL_1, Int.toNat_natCast, stA, upI, upL, up2]; first | omega | (simp; omega)) | (refine Eq.mp (congrArg (Q (none)) ?_) h1; (refine st_ext (fun x y => ?_) (fun x y => ?_) <;> (try simp only [stA, upI, upL, up2]) <;> (repeat' split) <;> first | rfl | omega | (simp_all; done) | (simp_all; omega) | (have hq : y = i := (by omega); subst hq; first | rfl | omega | (simp_all; done) | (simp_all; omega)) | (congr 2 <;> omega) | (congr 3 <;> omega)); done))
    | skip
set_option maxRecDepth 20000 in
set_option maxHeartbeats 4000000 in
theorem okX0_setBehind (l : Launch) : aOK l mX0_setBehind spX0_setBehind := by
  refine aOK_of rfl fun as S Q h => ?_
  unfold spX0_setBehind at h
  split at h
  · rename_i a b
    refine ⟨Nat.le_of_ble_eq_true rfl, wp_ok (tbX0_setBehind_ok l) Q (fun pc => pc == 14) 38 0 _ [] S ?_⟩
    show wp cX0_setBehind tbX0_setBehind 5 none Q (fun pc => pc == 14) (aGo l mX0_setBehind Q) 38 0 [(0, .inr (.inr 3)), (1, .inl a), (2, .inl b)] [] S
    simp only [wp_s, wpC_f, wpC_t, e_wLd, e_wLd0, e_wLd1, e_wLd2, e_get1, e_get2, e_wJ, e_wJo, f40, f41, f42, f43, Nat.reduceAdd, Nat.reduceBEq, Nat.reduceMul, eq_self, true_or, or_true, true_and, dX0_setBehind_0, dX0_setBehind_1, dX0_setBehind_2, dX0_setBehind_3, dX0_setBehind_4, dX0_setBehind_7, dX0_setBehind_8, dX0_setBehind_9, dX0_setBehind_10, dX0_setBehind_11, dX0_setBehind_12, dX0_setBehind_14, dX0_setBehind_16, dX0_setBehind_17, dX0_setBehind_20, dX0_setBehind_23, dX0_setBehind_25, dX0_setBehind_26, dX0_setBehind_29, dX0_setBehind_30, dX0_setBehind_31, dX0_setBehind_34, dX0_setBehind_36, dX0_setBehind_37, dX0_setBehind_40, dX0_setBehind_43, dX0_setBehind_44, dX0_setBehind_47, dX0_setBehind_49, dX0_setBehind_50, dX0_setBehind_51, dX0_setBehind_52, dX0_setBehind_53, dX0_setBehind_54, dX0_setBehind_57, dX0_setBehind_60, e_aload_n, e_iload_n, e_iload, e_istore_n, e_istore, e_iconst, e_ior, e_ishl, e_dup2, e_iinc, e_ifCond, e_if_icmp, e_goto, e_getfield, e_iaload, e_iastore, e_invokestatic, e_return_, e_wSt0, e_wSt1, e_wSt2, e_isL0, e_isL1, e_isL2, e_lset, e_lclr0, e_lclr1, e_lclr2, e_lput0, e_lput1, e_lput2, e_wInc, e_wInc0, Nat.reduceLT, not_false_eq_true, Bool.or_false, Bool.false_or, Bool.or_true, Bool.true_or, Bool.and_false, Bool.false_and, Bool.and_true, Bool.true_and, e_wI2, e_rv, e_wDup2, e_wIf_eq, e_wIc_eq, e_wIc_ge, fX0_24, fX0_33, ic_0, ic_1, jt_20_40, jt_26_17, jt_40_14, jt_57_m43, e_call, e_callS0, e_callS1, e_callS2, e_callS3, e_callS4, e_pop0, e_pop1, e_tl0, e_tl1, tbX0_setBehind_f, tbX0_setBehind_p, tbX0_setBehind_k, tbX0_setBehind_c58, g_3_4, l_8, s_8, g_3_7]
    exact ⟨h.2.2.1, by omega, lpX0_setBehind l Q _ S a b _ 0 (Nat.zero_add _) (by simpa using h.2.2.2.2) h.2.1⟩
  · exact h.elim
/-- the befores lie within the books, of which there are at most 30; the spans are small -/
def bfr (S : aS) : Prop := 0 ≤ S.1 3 7 ∧ S.1 3 7 ≤ 30 ∧ 0 ≤ S.1 3 8 ∧ S.1 3 8 ≤ 60 ∧ ∀ k : Nat, (k : Int) < S.1 3 8 → (0 ≤ S.1 9 k ∧ S.1 9 k < S.1 3 7) ∧ (0 ≤ S.1 10 k ∧ S.1 10 k < S.1 3 7)
/-- the first n years of both rows lie within M -/
def smY (x : aFL) (n : Nat) (M : Int) : Prop := ∀ j : Nat, j < n → (-M ≤ x.1 j ∧ x.1 j ≤ M) ∧ (-M ≤ x.2 j ∧ x.2 j ≤ M)
theorem smY_swE {x : aFL} {n a b : Nat} {M : Int} (h : smY x n M) (ha : a < n) (hb : b < n) : smY (swE a b x) n (M + 1) := by
  intro j hj
  have hA := h a ha
  have hB := h b hb
  have hJ := h j hj
  unfold swE
  dsimp only
  constructor
  · split
    · unfold fu; split <;> omega
    · omega
  · split
    · unfold fu; split <;> omega
    · omega
theorem stFL_1 {S : aS} {x : aFL} {i : Nat} (h1 : ¬ i = 6) (h2 : ¬ i = 7) (j : Nat) : (stFL S x).1 i j = S.1 i j := by simp [stFL, stA, h1, h2]
theorem stFL_f {S : aS} {x : aFL} {i : Nat} (h1 : ¬ i = 6) (h2 : ¬ i = 7) : (stFL S x).1 i = S.1 i := funext fun j => stFL_1 h1 h2 j
theorem stFL_6 {S : aS} {x : aFL} : (stFL S x).1 6 = x.1 := by funext j; simp [stFL, stA]
theorem stFL_7 {S : aS} {x : aFL} : (stFL S x).1 7 = x.2 := by funext j; simp [stFL, stA]
theorem FL_eta (x : aFL) : (x.1, x.2) = x := rfl
theorem stFL_FL {S : aS} {x y : aFL} : stFL (stFL S x) y = stFL S y := by
  refine st_ext (fun a b => ?_) (fun a b => rfl)
  simp only [stFL, stA]
  split
  · rfl
  · split
    · rfl
    · rfl
theorem stFL_self {S : aS} : stFL S (S.1 6, S.1 7) = S := by
  refine st_ext (fun a b => ?_) (fun a b => rfl)
  simp only [stFL, stA]
  split
  · rename_i h; rw [h]
  · split
    · rename_i h; rw [h]
    · rfl
theorem upI_6 {S : aS} {x : aFL} {j : Nat} {v : Int} : upI (stFL S x) 6 j v = stFL S (fu x.1 j v, x.2) := by
  refine st_ext (fun a b => ?_) (fun a b => rfl)
  simp only [stFL, stA, upI, up2, fu]
  by_cases h : a = 6 <;> by_cases h2 : a = 7 <;> by_cases h3 : b = j <;> simp_all
theorem upI_7 {S : aS} {x : aFL} {j : Nat} {v : Int} : upI (stFL S x) 7 j v = stFL S (x.1, fu x.2 j v) := by
  refine st_ext (fun a b => ?_) (fun a b => rfl)
  simp only [stFL, stA, upI, up2, fu]
  by_cases h : a = 6 <;> by_cases h2 : a = 7 <;> by_cases h3 : b = j <;> simp_all
def spX0_tightenOnce : aSp := fun as S Q => match as with
  | [.inr (.inr 3)] => bfr S ∧ smY (S.1 6, S.1 7) (S.1 3 7).toNat 1000000 ∧ Q (some (.inl (bi (swv (S.1 9) (S.1 10) (S.1 3 8).toNat 0 (S.1 6, S.1 7))))) (stFL S (swp (S.1 9) (S.1 10) (S.1 3 8).toNat 0 (S.1 6, S.1 7)))
  | _ => False
def tbX0_tightenOnce : aTb := (fX0, pX0, fun j => lk [] j, kX0)
theorem tbX0_tightenOnce_f : tbX0_tightenOnce.1 = fX0 := rfl
theorem tbX0_tightenOnce_p : tbX0_tightenOnce.2.1 = pX0 := rfl
theorem tbX0_tightenOnce_k : tbX0_tightenOnce.2.2.2 = kX0 := rfl
theorem tbX0_tightenOnce_all (l : Launch) : ∀ e ∈ ([] : List (Nat × Option Nat × Nat × aSp)), cOK l mX0_tightenOnce e.1 e.2.1 e.2.2.1 e.2.2.2 ∨ mOK mX0_tightenOnce e.1 e.2.1 e.2.2.1 e.2.2.2 := all_nil
theorem tbX0_tightenOnce_ok (l : Launch) : tOK l mX0_tightenOnce tbX0_tightenOnce := ⟨fX0_ok, pX0_ok, fun _ _ _ _ h => tbX0_tightenOnce_all l _ (lk_mem h), kX0_ok⟩
set_option maxRecDepth 20000 in
set_option maxHeartbeats 4000000 in
theorem lpX0_tightenOnce (l : Launch) (Q : Option aV → aS → Prop) : ∀ (n : Nat) (S : aS) (x : aFL) (P : Prop) (i : Nat), i + n = (S.1 3 8).toNat → bfr S → smY x (S.1 3 7).toNat (1000000 + i) → Q (some (.inl (bi (P ∨ swv (S.1 9) (S.1 10) n i x)))) (stFL S (swp (S.1 9) (S.1 10) n i x)) → aGo l mX0_tightenOnce Q 4 [(0, .inr (.inr 3)), (1, .inl (bi P)), (2, .inl (i : Int))] [] (stFL S x) := by
  intro n
  induction n using Nat.strongRecOn with
  | _ n ih =>
  intro S  x  P  i  h0 h1 h2 h3
  refine wp_go (tbX0_tightenOnce_ok l) (fun pc => pc == 4) 66 dX0_tightenOnce_4 ?_
  show ws1 tbX0_tightenOnce 5 (some .boolean) Q (wp cX0_tightenOnce tbX0_tightenOnce 5 (some .boolean) Q (fun pc => pc == 4) (aGo l mX0_tightenOnce Q) 66) (.iload_n 2) 1 4 [(0, .inr (.inr 3)), (1, .inl (bi P)), (2, .inl (i : Int))] [] (stFL S x)
  simp only [wp_s, wpC_f, wpC_t, e_wLd, e_wLd0, e_wLd1, e_wLd2, e_get1, e_get2, e_wJ, e_wJo, f40, f41, f42, f43, Nat.reduceAdd, Nat.reduceBEq, Nat.reduceMul, eq_self, true_or, or_true, true_and, dX0_tightenOnce_0, dX0_tightenOnce_1, dX0_tightenOnce_2, dX0_tightenOnce_3, dX0_tightenOnce_4, dX0_tightenOnce_5, dX0_tightenOnce_6, dX0_tightenOnce_9, dX0_tightenOnce_12, dX0_tightenOnce_13, dX0_tightenOnce_16, dX0_tightenOnce_17, dX0_tightenOnce_18, dX0_tightenOnce_19, dX0_tightenOnce_20, dX0_tightenOnce_23, dX0_tightenOnce_24, dX0_tightenOnce_25, dX0_tightenOnce_27, dX0_tightenOnce_28, dX0_tightenOnce_31, dX0_tightenOnce_33, dX0_tightenOnce_34, dX0_tightenOnce_35, dX0_tightenOnce_38, dX0_tightenOnce_39, dX0_tightenOnce_40, dX0_tightenOnce_43, dX0_tightenOnce_44, dX0_tightenOnce_47, dX0_tightenOnce_49, dX0_tightenOnce_50, dX0_tightenOnce_53, dX0_tightenOnce_54, dX0_tightenOnce_55, dX0_tightenOnce_56, dX0_tightenOnce_57, dX0_tightenOnce_58, dX0_tightenOnce_59, dX0_tightenOnce_60, dX0_tightenOnce_61, dX0_tightenOnce_64, dX0_tightenOnce_65, dX0_tightenOnce_66, dX0_tightenOnce_67, dX0_tightenOnce_70, dX0_tightenOnce_72, dX0_tightenOnce_73, dX0_tightenOnce_76, dX0_tightenOnce_77, dX0_tightenOnce_80, dX0_tightenOnce_81, dX0_tightenOnce_82, dX0_tightenOnce_85, dX0_tightenOnce_87, dX0_tightenOnce_88, dX0_tightenOnce_89, dX0_tightenOnce_90, dX0_tightenOnce_91, dX0_tightenOnce_92, dX0_tightenOnce_93, dX0_tightenOnce_96, dX0_tightenOnce_99, dX0_tightenOnce_100, e_aload_n, e_iload_n, e_iload, e_istore_n, e_istore, e_iconst, e_iadd, e_isub, e_iinc, e_if_icmp, e_goto, e_getfield, e_iaload, e_iastore, e_ireturn, e_wSt0, e_wSt1, e_wSt2, e_isL0, e_isL1, e_isL2, e_lset, e_lclr0, e_lclr1, e_lclr2, e_lput0, e_lput1, e_lput2, e_wInc, e_wInc0, Nat.reduceLT, not_false_eq_true, Bool.or_false, Bool.false_or, Bool.or_true, Bool.true_or, Bool.and_false, Bool.false_and, Bool.and_true, Bool.true_and, e_wI2, e_ri, e_rz, e_wIc_gt, e_wIc_lt, e_wIc_ge, fX0_18, fX0_21, fX0_27, fX0_30, fX0_37, ic_0, ic_1, jt_40_20, jt_73_20, jt_96_m92, jt_9_90, tbX0_tightenOnce_f, tbX0_tightenOnce_p, tbX0_tightenOnce_k, l_7, s_7, l_10, s_10, g_3_3, g_3_6, l_6, s_6, l_9, s_9, g_3_2, g_3_8, g_3_5]
  rcases n with _ | n
  · refine ⟨fun q => ?_, fun q => absurd q ?_⟩
    · rw [bi_c (q := P) ⟨fun z => z.elim (fun z => z) (fun z => z.elim), Or.inl⟩] at h3; exact ⟨bi_01 P, h3⟩
    · rw [stFL_1 (by decide) (by decide)]; omega
  · have hk := h1.2.2.2.2 i (by omega)
    have hs := h1.2.1
    have hb := h1.2.2.2.1
    have hA := h2 (S.1 9 i).toNat (by omega)
    have hB := h2 (S.1 10 i).toNat (by omega)
    rw [bi_c (q := (P ∨ x.1 (S.1 10 i).toNat ≤ x.1 (S.1 9 i).toNat ∨ x.2 (S.1 10 i).toNat ≤ x.2 (S.1 9 i).toNat) ∨ swv (S.1 9) (S.1 10) n (i + 1) (swE (S.1 9 i).toNat (S.1 10 i).toNat x)) (by
      show (P ∨ _ ∨ _ ∨ _) ↔ _
      exact ⟨fun z => z.elim (fun z => .inl (.inl z)) (fun z => z.elim (fun z => .inl (.inr (.inl z))) (fun z => z.elim (fun z => .inl (.inr (.inr z))) .inr)), fun z => z.elim (fun z => z.elim .inl (fun z => .inr (z.elim .inl (fun z => .inr (.inl z))))) (fun z => .inr (.inr (.inr z)))⟩)] at h3
    have e := ih n (by omega) S (swE (S.1 9 i).toNat (S.1 10 i).toNat x) (P ∨ x.1 (S.1 10 i).toNat ≤ x.1 (S.1 9 i).toNat ∨ x.2 (S.1 10 i).toNat ≤ x.2 (S.1 9 i).toNat) (i + 1) (by omega) h1 (by have := smY_swE h2 (a := (S.1 9 i).toNat) (b := (S.1 10 i).toNat) (by omega) (by omega); simpa [Int.add_assoc] using this) h3
    unfold swE at e
    repeat' (with_reducible first | intro _ | refine And.intro ?_ ?_)
    all_goals (try simp (disch := omega) only [stFL_1, stFL_6, stFL_7, upI_6, upI_7, Int.toNat_natCast] at *)
    all_goals (try simp (disch := omega) only [wI_id])
    all_goals first
      | omega
      | (rw [if_neg (by omega), if_neg (by omega), bi_c (q := P) ⟨fun z => z.elim (fun z => z) (fun z => by omega), .inl⟩] at e; exact aGo_sub e (fun q hq => List.mem_append_left _ hq))
      | (rw [if_pos (by omega), if_neg (by omega), bi_t (.inr (by omega))] at e; exact aGo_sub e (fun q hq => List.mem_append_left _ hq))
      | (rw [if_neg (by omega), if_pos (by omega), bi_t (.inr (by omega))] at e; exact aGo_sub e (fun q hq => List.mem_append_left _ hq))
      | (rw [if_pos (by omega), if_pos (by omega), bi_t (.inr (by omega))] at e; exact aGo_sub e (fun q hq => List.mem_append_left _ hq))
      | skip
set_option maxRecDepth 20000 in
set_option maxHeartbeats 4000000 in
theorem okX0_tightenOnce (l : Launch) : aOK l mX0_tightenOnce spX0_tightenOnce := by
  refine aOK_of rfl fun as S Q h => ?_
  unfold spX0_tightenOnce at h
  split at h
  · refine ⟨Nat.le_of_ble_eq_true rfl, wp_ok (tbX0_tightenOnce_ok l) Q (fun pc => pc == 4) 66 0 _ [] S ?_⟩
    show wp cX0_tightenOnce tbX0_tightenOnce 5 (some .boolean) Q (fun pc => pc == 4) (aGo l mX0_tightenOnce Q) 66 0 [(0, .inr (.inr 3))] [] S
    simp only [wp_s, wpC_f, wpC_t, e_wLd, e_wLd0, e_wLd1, e_wLd2, e_get1, e_get2, e_wJ, e_wJo, f40, f41, f42, f43, Nat.reduceAdd, Nat.reduceBEq, Nat.reduceMul, eq_self, true_or, or_true, true_and, dX0_tightenOnce_0, dX0_tightenOnce_1, dX0_tightenOnce_2, dX0_tightenOnce_3, dX0_tightenOnce_4, dX0_tightenOnce_5, dX0_tightenOnce_6, dX0_tightenOnce_9, dX0_tightenOnce_12, dX0_tightenOnce_13, dX0_tightenOnce_16, dX0_tightenOnce_17, dX0_tightenOnce_18, dX0_tightenOnce_19, dX0_tightenOnce_20, dX0_tightenOnce_23, dX0_tightenOnce_24, dX0_tightenOnce_25, dX0_tightenOnce_27, dX0_tightenOnce_28, dX0_tightenOnce_31, dX0_tightenOnce_33, dX0_tightenOnce_34, dX0_tightenOnce_35, dX0_tightenOnce_38, dX0_tightenOnce_39, dX0_tightenOnce_40, dX0_tightenOnce_43, dX0_tightenOnce_44, dX0_tightenOnce_47, dX0_tightenOnce_49, dX0_tightenOnce_50, dX0_tightenOnce_53, dX0_tightenOnce_54, dX0_tightenOnce_55, dX0_tightenOnce_56, dX0_tightenOnce_57, dX0_tightenOnce_58, dX0_tightenOnce_59, dX0_tightenOnce_60, dX0_tightenOnce_61, dX0_tightenOnce_64, dX0_tightenOnce_65, dX0_tightenOnce_66, dX0_tightenOnce_67, dX0_tightenOnce_70, dX0_tightenOnce_72, dX0_tightenOnce_73, dX0_tightenOnce_76, dX0_tightenOnce_77, dX0_tightenOnce_80, dX0_tightenOnce_81, dX0_tightenOnce_82, dX0_tightenOnce_85, dX0_tightenOnce_87, dX0_tightenOnce_88, dX0_tightenOnce_89, dX0_tightenOnce_90, dX0_tightenOnce_91, dX0_tightenOnce_92, dX0_tightenOnce_93, dX0_tightenOnce_96, dX0_tightenOnce_99, dX0_tightenOnce_100, e_aload_n, e_iload_n, e_iload, e_istore_n, e_istore, e_iconst, e_iadd, e_isub, e_iinc, e_if_icmp, e_goto, e_getfield, e_iaload, e_iastore, e_ireturn, e_wSt0, e_wSt1, e_wSt2, e_isL0, e_isL1, e_isL2, e_lset, e_lclr0, e_lclr1, e_lclr2, e_lput0, e_lput1, e_lput2, e_wInc, e_wInc0, Nat.reduceLT, not_false_eq_true, Bool.or_false, Bool.false_or, Bool.or_true, Bool.true_or, Bool.and_false, Bool.false_and, Bool.and_true, Bool.true_and, e_wI2, e_ri, e_rz, e_wIc_gt, e_wIc_lt, e_wIc_ge, fX0_18, fX0_21, fX0_27, fX0_30, fX0_37, ic_0, ic_1, jt_40_20, jt_73_20, jt_96_m92, jt_9_90, tbX0_tightenOnce_f, tbX0_tightenOnce_p, tbX0_tightenOnce_k, l_7, s_7, l_10, s_10, g_3_3, g_3_6, l_6, s_6, l_9, s_9, g_3_2, g_3_8, g_3_5]
    obtain ⟨h1, h2, h3⟩ := h
    have e := lpX0_tightenOnce l Q (S.1 3 8).toNat S (S.1 6, S.1 7) False 0 (Nat.zero_add _) h1 (by simpa using h2) (by rw [bi_c (q := swv (S.1 9) (S.1 10) (S.1 3 8).toNat 0 (S.1 6, S.1 7)) ⟨fun z => z.elim (fun z => z.elim) (fun z => z), .inr⟩]; exact h3)
    rw [bi_f (fun z => z), stFL_self] at e
    exact e
  · exact h.elim
/-- the rounds of tightening: n at most, as long as one moves -/
noncomputable def tgX (ea la : Nat → Int) (nb : Nat) : Nat → Prop → aFL → aFL
  | 0, _, x => x
  | n + 1, m, x => @ite _ m (Classical.propDecidable m) (tgX ea la nb n (swv ea la nb 0 x) (swp ea la nb 0 x)) x
def tgM (ea la : Nat → Int) (nb : Nat) : Nat → Prop → aFL → Prop
  | 0, m, _ => m
  | n + 1, m, x => m ∧ tgM ea la nb n (swv ea la nb 0 x) (swp ea la nb 0 x)
theorem tgX_t {ea la : Nat → Int} {nb n : Nat} {m : Prop} {x : aFL} (h : m) : tgX ea la nb (n + 1) m x = tgX ea la nb n (swv ea la nb 0 x) (swp ea la nb 0 x) := if_pos h
theorem tgX_f {ea la : Nat → Int} {nb n : Nat} {m : Prop} {x : aFL} (h : ¬ m) : tgX ea la nb n m x = x := by
  cases n with
  | zero => rfl
  | succ n => exact if_neg h
theorem tgM_f {ea la : Nat → Int} {nb n : Nat} {m : Prop} {x : aFL} (h : ¬ m) : ¬ tgM ea la nb n m x := by
  cases n with
  | zero => exact h
  | succ n => exact fun q => h q.1
theorem smY_swp {ea la : Nat → Int} {N : Nat} : ∀ (n k : Nat) (x : aFL) (M : Int), (∀ j, k ≤ j → j < k + n → (ea j).toNat < N ∧ (la j).toNat < N) → smY x N M → smY (swp ea la n k x) N (M + n)
  | 0, _, _, _, _, h => by simpa [swp] using h
  | n + 1, k, x, M, hk, h => by
    have h1 := smY_swE h (hk k (by omega) (by omega)).1 (hk k (by omega) (by omega)).2
    have h2 := smY_swp n (k + 1) _ (M + 1) (fun j a b => hk j (by omega) (by omega)) h1
    rw [show M + ((n + 1 : Nat) : Int) = M + 1 + (n : Int) from by omega]
    exact h2
/-- the spans as told -/
def tld (S : aS) : aFL := (fun j => if (j : Int) < S.1 3 7 then S.1 4 j else S.1 6 j, fun j => if (j : Int) < S.1 3 7 then S.1 5 j else S.1 7 j)
noncomputable def tgF (S : aS) : aFL := tgX (S.1 9) (S.1 10) (S.1 3 8).toNat 30 True (tld S)
def tgO (S : aS) : Prop := ¬ tgM (S.1 9) (S.1 10) (S.1 3 8).toNat 30 True (tld S) ∧ ∀ k : Nat, (k : Int) < S.1 3 7 → (tgF S).1 k ≤ (tgF S).2 k
def spX0_tighten : aSp := fun as S Q => match as with
  | [.inr (.inr 3)] => bfr S ∧ smY (tld S) (S.1 3 7).toNat 2000 ∧ Q (some (.inl (bi (tgO S)))) (stFL S (tgF S))
  | _ => False
def tbX0_tighten : aTb := (fX0, pX0, fun j => lk [(52, (some 0), 1, spX0_tightenOnce), (55, (some 0), 1, spX0_allHaveYears)] j, kX0)
theorem tbX0_tighten_f : tbX0_tighten.1 = fX0 := rfl
theorem tbX0_tighten_p : tbX0_tighten.2.1 = pX0 := rfl
theorem tbX0_tighten_k : tbX0_tighten.2.2.2 = kX0 := rfl
theorem tbX0_tighten_c52 : tbX0_tighten.2.2.1 52 = some ((some 0), 1, spX0_tightenOnce) := rfl
theorem tbX0_tighten_c55 : tbX0_tighten.2.2.1 55 = some ((some 0), 1, spX0_allHaveYears) := rfl
theorem tbX0_tighten_all (l : Launch) : ∀ e ∈ ([(52, (some 0), 1, spX0_tightenOnce), (55, (some 0), 1, spX0_allHaveYears)] : List (Nat × Option Nat × Nat × aSp)), cOK l mX0_tighten e.1 e.2.1 e.2.2.1 e.2.2.2 ∨ mOK mX0_tighten e.1 e.2.1 e.2.2.1 e.2.2.2 := all_cons (cOK_of (okX0_tightenOnce l) meX0_tightenOnce cfX0_52 (by decide) (by decide)) (all_cons (cOK_of (okX0_allHaveYears l) meX0_allHaveYears cfX0_55 (by decide) (by decide)) (all_nil))
theorem tbX0_tighten_ok (l : Launch) : tOK l mX0_tighten tbX0_tighten := ⟨fX0_ok, pX0_ok, fun _ _ _ _ h => tbX0_tighten_all l _ (lk_mem h), kX0_ok⟩
set_option maxRecDepth 20000 in
set_option maxHeartbeats 4000000 in
theorem lpX0_tighten0 (l : Launch) (Q : Option aV → aS → Prop) : ∀ (n : Nat) (S : aS) (i : Nat), i + n = (S.1 3 7).toNat → S.1 3 7 ≤ 30 → (∀ T : aS, T = stA (stA S 6 (fun j => if i ≤ j ∧ (j : Int) < S.1 3 7 then S.1 4 j else S.1 6 j)) 7 (fun j => if i ≤ j ∧ (j : Int) < S.1 3 7 then S.1 5 j else S.1 7 j) → aGo l mX0_tighten Q 44 [(0, .inr (.inr 3)), (1, .inl 1), (2, .inl 0)] [] T) → aGo l mX0_tighten Q 2 [(0, .inr (.inr 3)), (1, .inl (i : Int))] [] S := by
  intro n
  induction n using Nat.strongRecOn with
  | _ n ih =>
  intro S  i  h0 h1 h2
  refine wp_go (tbX0_tighten_ok l) (fun pc => pc == 2 || pc == 44) 49 dX0_tighten_2 ?_
  show ws1 tbX0_tighten 3 (some .boolean) Q (wp cX0_tighten tbX0_tighten 3 (some .boolean) Q (fun pc => pc == 2 || pc == 44) (aGo l mX0_tighten Q) 49) (.iload_n 1) 1 2 [(0, .inr (.inr 3)), (1, .inl (i : Int))] [] S
  simp only [wp_s, wpC_f, wpC_t, e_wLd, e_wLd0, e_wLd1, e_wLd2, e_get1, e_get2, e_wJ, e_wJo, f40, f41, f42, f43, Nat.reduceAdd, Nat.reduceBEq, Nat.reduceMul, eq_self, true_or, or_true, true_and, dX0_tighten_0, dX0_tighten_1, dX0_tighten_2, dX0_tighten_3, dX0_tighten_4, dX0_tighten_7, dX0_tighten_10, dX0_tighten_11, dX0_tighten_14, dX0_tighten_15, dX0_tighten_16, dX0_tighten_19, dX0_tighten_20, dX0_tighten_21, dX0_tighten_22, dX0_tighten_23, dX0_tighten_26, dX0_tighten_27, dX0_tighten_28, dX0_tighten_31, dX0_tighten_32, dX0_tighten_33, dX0_tighten_34, dX0_tighten_37, dX0_tighten_40, dX0_tighten_41, dX0_tighten_42, dX0_tighten_43, dX0_tighten_44, dX0_tighten_45, dX0_tighten_48, dX0_tighten_49, dX0_tighten_51, dX0_tighten_54, dX0_tighten_55, dX0_tighten_58, dX0_tighten_59, dX0_tighten_62, dX0_tighten_65, dX0_tighten_66, dX0_tighten_69, dX0_tighten_70, dX0_tighten_73, dX0_tighten_76, dX0_tighten_77, dX0_tighten_80, dX0_tighten_81, e_aload_n, e_iload_n, e_istore_n, e_iconst, e_bipush, e_iinc, e_ifCond, e_if_icmp, e_goto, e_getfield, e_iaload, e_iastore, e_invokevirtual, e_ireturn, e_wSt0, e_wSt1, e_wSt2, e_isL0, e_isL1, e_isL2, e_lset, e_lclr0, e_lclr1, e_lclr2, e_lput0, e_lput1, e_lput2, e_wInc, e_wInc0, Nat.reduceLT, not_false_eq_true, Bool.or_false, Bool.false_or, Bool.or_true, Bool.true_or, Bool.and_false, Bool.false_and, Bool.and_true, Bool.true_and, e_ri, e_rz, e_wIf_eq, e_wIc_ge, e_wIf_ne, bp_30, fX0_15, fX0_18, fX0_21, fX0_33, fX0_9, ic_0, ic_1, jt_37_m35, jt_45_20, jt_51_14, jt_62_m18, jt_66_14, jt_73_7, jt_77_4, jt_7_33, e_call, e_callS0, e_callS1, e_callS2, e_callS3, e_callS4, e_pop0, e_pop1, e_tl0, e_tl1, tbX0_tighten_f, tbX0_tighten_p, tbX0_tighten_k, tbX0_tighten_c52, tbX0_tighten_c55, l_7, s_7, l_4, s_4, g_3_7, g_3_3, cv_3_0, cv_3_1, cv_3_2, cv_3_3, cv_3_4, g_3_0, l_6, s_6, l_5, s_5, g_3_2, g_3_1]
  repeat' (with_reducible first | intro _ | refine And.intro ?_ ?_)
  all_goals (try simp (disch := omega) only [wI_id, up_hit, up_obj, upL_hit, upL_obj, up_2, upL_1, Int.toNat_natCast])
  all_goals first
    | omega
    | (refine h2 _ ?_; (refine st_ext (fun x y => ?_) (fun x y => ?_) <;> (try simp only [stA, upI, upL, up2]) <;> (repeat' split) <;> first | rfl | omega | (simp_all; done) | (simp_all; omega) | (have hq : y = i := (by omega); subst hq; first | rfl | omega | (simp_all; done) | (simp_all; omega)) | (congr 2 <;> omega) | (congr 3 <;> omega)); done)
    | (refine ih (n - 1) (by omega) _ (i + 1) ?_ ?_ ?_ <;> first | (simp (disch := omega) only [up_hit, up_obj, upL_hit, upL_obj, up_2, upL_1, Int.toNat_natCast]; omega) | (intro V hV; refine h2 V ?_; rw [hV]; (refine st_ext (fun x y => ?_) (fun x y => ?_) <;> (try simp only [stA, upI, upL, up2]) <;> (repeat' split) <;> first | rfl | omega | (simp_all; done) | (simp_all; omega) | (have hq : y = i := (by omega); subst hq; first | rfl | omega | (simp_all; done) | (simp_all; omega)) | (congr 2 <;> omega) | (congr 3 <;> omega))))
    | skip
theorem bfr_st {S : aS} {x : aFL} (h : bfr S) : bfr (stFL S x) := by
  unfold bfr
  simp (disch := decide) only [stFL_1]
  exact h
theorem smY_st {S : aS} {x : aFL} {M M2 : Int} (h : smY x (S.1 3 7).toNat M) (hM : M ≤ M2) : smY ((stFL S x).1 6, (stFL S x).1 7) ((stFL S x).1 3 7).toNat M2 := by
  simp (disch := decide) only [stFL_1, stFL_6, stFL_7]
  intro j hj
  have := h j hj
  dsimp only
  omega
set_option maxRecDepth 20000 in
set_option maxHeartbeats 4000000 in
theorem lpX0_tighten (l : Launch) (Q : Option aV → aS → Prop) : ∀ (n : Nat) (S : aS) (x : aFL) (m : Prop) (r : Int), (0 ≤ r ∧ r + n = 30) → bfr S → smY x (S.1 3 7).toNat (2000 + 60 * r) → Q (some (.inl (bi (¬ tgM (S.1 9) (S.1 10) (S.1 3 8).toNat n m x ∧ ∀ k : Nat, (k : Int) < S.1 3 7 → (tgX (S.1 9) (S.1 10) (S.1 3 8).toNat n m x).1 k ≤ (tgX (S.1 9) (S.1 10) (S.1 3 8).toNat n m x).2 k)))) (stFL S (tgX (S.1 9) (S.1 10) (S.1 3 8).toNat n m x)) → aGo l mX0_tighten Q 44 [(0, .inr (.inr 3)), (1, .inl (bi m)), (2, .inl r)] [] (stFL S x) := by
  intro n
  induction n using Nat.strongRecOn with
  | _ n ih =>
  intro S  x  m  r  h0 h1 h2 h3
  refine wp_go (tbX0_tighten_ok l) (fun pc => pc == 44) 49 dX0_tighten_44 ?_
  show ws1 tbX0_tighten 3 (some .boolean) Q (wp cX0_tighten tbX0_tighten 3 (some .boolean) Q (fun pc => pc == 44) (aGo l mX0_tighten Q) 49) (.iload_n 1) 1 44 [(0, .inr (.inr 3)), (1, .inl (bi m)), (2, .inl r)] [] (stFL S x)
  simp only [wp_s, wpC_f, wpC_t, e_wLd, e_wLd0, e_wLd1, e_wLd2, e_get1, e_get2, e_wJ, e_wJo, f40, f41, f42, f43, Nat.reduceAdd, Nat.reduceBEq, Nat.reduceMul, eq_self, true_or, or_true, true_and, dX0_tighten_0, dX0_tighten_1, dX0_tighten_2, dX0_tighten_3, dX0_tighten_4, dX0_tighten_7, dX0_tighten_10, dX0_tighten_11, dX0_tighten_14, dX0_tighten_15, dX0_tighten_16, dX0_tighten_19, dX0_tighten_20, dX0_tighten_21, dX0_tighten_22, dX0_tighten_23, dX0_tighten_26, dX0_tighten_27, dX0_tighten_28, dX0_tighten_31, dX0_tighten_32, dX0_tighten_33, dX0_tighten_34, dX0_tighten_37, dX0_tighten_40, dX0_tighten_41, dX0_tighten_42, dX0_tighten_43, dX0_tighten_44, dX0_tighten_45, dX0_tighten_48, dX0_tighten_49, dX0_tighten_51, dX0_tighten_54, dX0_tighten_55, dX0_tighten_58, dX0_tighten_59, dX0_tighten_62, dX0_tighten_65, dX0_tighten_66, dX0_tighten_69, dX0_tighten_70, dX0_tighten_73, dX0_tighten_76, dX0_tighten_77, dX0_tighten_80, dX0_tighten_81, e_aload_n, e_iload_n, e_istore_n, e_iconst, e_bipush, e_iinc, e_ifCond, e_if_icmp, e_goto, e_getfield, e_iaload, e_iastore, e_invokevirtual, e_ireturn, e_wSt0, e_wSt1, e_wSt2, e_isL0, e_isL1, e_isL2, e_lset, e_lclr0, e_lclr1, e_lclr2, e_lput0, e_lput1, e_lput2, e_wInc, e_wInc0, Nat.reduceLT, not_false_eq_true, Bool.or_false, Bool.false_or, Bool.or_true, Bool.true_or, Bool.and_false, Bool.false_and, Bool.and_true, Bool.true_and, e_ri, e_rz, e_wIf_eq, e_wIc_ge, e_wIf_ne, bp_30, fX0_15, fX0_18, fX0_21, fX0_33, fX0_9, ic_0, ic_1, jt_37_m35, jt_45_20, jt_51_14, jt_62_m18, jt_66_14, jt_73_7, jt_77_4, jt_7_33, e_call, e_callS0, e_callS1, e_callS2, e_callS3, e_callS4, e_pop0, e_pop1, e_tl0, e_tl1, tbX0_tighten_f, tbX0_tighten_p, tbX0_tighten_k, tbX0_tighten_c52, tbX0_tighten_c55, l_7, s_7, l_4, s_4, g_3_7, g_3_3, cv_3_0, cv_3_1, cv_3_2, cv_3_3, cv_3_4, g_3_0, l_6, s_6, l_5, s_5, g_3_2, g_3_1, spX0_tightenOnce, spX0_allHaveYears, bi_0, bi_1, ne_eq, Classical.not_not, em_r, em_l]
  have h1s : bfr (stFL S x) := bfr_st h1
  by_cases hm : m
  · simp only [hm, not_true_eq_false, not_false_eq_true, false_implies, implies_true, forall_const, true_implies, true_and, and_true]
    refine ⟨fun hr => ?_, fun hr => ?_⟩
    · obtain rfl : n = 0 := by omega
      rw [bi_f (fun z => z.1 hm)] at h3
      exact h3
    · obtain ⟨n', rfl⟩ : ∃ n', n = n' + 1 := ⟨n - 1, by omega⟩
      refine ⟨h1s, smY_st h2 (by omega), ?_⟩
      simp (disch := first | decide | omega) only [stFL_f, stFL_6, stFL_7, stFL_FL, wI_id, FL_eta]
      refine ih n' (by omega) S _ _ (r + 1) (by omega) h1 ?_ ?_
      · have hb := h1.2.2.2.2
        have := smY_swp (ea := S.1 9) (la := S.1 10) (S.1 3 8).toNat 0 x _ (fun j _ hj => by have := hb j (by omega); omega) h2
        intro j hj
        have := this j hj
        have := h1.2.2.2.1
        omega
      · rw [tgX_t hm, bi_c (q := ¬ tgM (S.1 9) (S.1 10) (S.1 3 8).toNat n' (swv (S.1 9) (S.1 10) (S.1 3 8).toNat 0 x) (swp (S.1 9) (S.1 10) (S.1 3 8).toNat 0 x) ∧ ∀ k : Nat, (k : Int) < S.1 3 7 → (tgX (S.1 9) (S.1 10) (S.1 3 8).toNat n' (swv (S.1 9) (S.1 10) (S.1 3 8).toNat 0 x) (swp (S.1 9) (S.1 10) (S.1 3 8).toNat 0 x)).1 k ≤ (tgX (S.1 9) (S.1 10) (S.1 3 8).toNat n' (swv (S.1 9) (S.1 10) (S.1 3 8).toNat 0 x) (swp (S.1 9) (S.1 10) (S.1 3 8).toNat 0 x)).2 k) ⟨fun z => ⟨fun w => z.1 ⟨hm, w⟩, z.2⟩, fun z => ⟨fun w => z.1 w.2, z.2⟩⟩] at h3
        exact h3
  · simp only [hm, not_true_eq_false, not_false_eq_true, false_implies, implies_true, forall_const, true_implies, true_and, and_true]
    rw [tgX_f hm] at h3
    refine ⟨h1s.1, h1s.2.1, fun q => ?_, fun q => ?_⟩
    · simp (disch := decide) only [stFL_1, stFL_6, stFL_7] at q
      rw [bi_f (fun z => q z.2)] at h3
      exact h3
    · simp (disch := decide) only [stFL_1, stFL_6, stFL_7] at q
      rw [bi_t ⟨tgM_f hm, q⟩] at h3
      exact h3
set_option maxRecDepth 20000 in
set_option maxHeartbeats 4000000 in
theorem okX0_tighten (l : Launch) : aOK l mX0_tighten spX0_tighten := by
  refine aOK_of rfl fun as S Q h => ?_
  unfold spX0_tighten at h
  split at h
  · refine ⟨Nat.le_of_ble_eq_true rfl, wp_ok (tbX0_tighten_ok l) Q (fun pc => pc == 2) 49 0 _ [] S ?_⟩
    show wp cX0_tighten tbX0_tighten 3 (some .boolean) Q (fun pc => pc == 2) (aGo l mX0_tighten Q) 49 0 [(0, .inr (.inr 3))] [] S
    simp only [wp_s, wpC_f, wpC_t, e_wLd, e_wLd0, e_wLd1, e_wLd2, e_get1, e_get2, e_wJ, e_wJo, f40, f41, f42, f43, Nat.reduceAdd, Nat.reduceBEq, Nat.reduceMul, eq_self, true_or, or_true, true_and, dX0_tighten_0, dX0_tighten_1, dX0_tighten_2, dX0_tighten_3, dX0_tighten_4, dX0_tighten_7, dX0_tighten_10, dX0_tighten_11, dX0_tighten_14, dX0_tighten_15, dX0_tighten_16, dX0_tighten_19, dX0_tighten_20, dX0_tighten_21, dX0_tighten_22, dX0_tighten_23, dX0_tighten_26, dX0_tighten_27, dX0_tighten_28, dX0_tighten_31, dX0_tighten_32, dX0_tighten_33, dX0_tighten_34, dX0_tighten_37, dX0_tighten_40, dX0_tighten_41, dX0_tighten_42, dX0_tighten_43, dX0_tighten_44, dX0_tighten_45, dX0_tighten_48, dX0_tighten_49, dX0_tighten_51, dX0_tighten_54, dX0_tighten_55, dX0_tighten_58, dX0_tighten_59, dX0_tighten_62, dX0_tighten_65, dX0_tighten_66, dX0_tighten_69, dX0_tighten_70, dX0_tighten_73, dX0_tighten_76, dX0_tighten_77, dX0_tighten_80, dX0_tighten_81, e_aload_n, e_iload_n, e_istore_n, e_iconst, e_bipush, e_iinc, e_ifCond, e_if_icmp, e_goto, e_getfield, e_iaload, e_iastore, e_invokevirtual, e_ireturn, e_wSt0, e_wSt1, e_wSt2, e_isL0, e_isL1, e_isL2, e_lset, e_lclr0, e_lclr1, e_lclr2, e_lput0, e_lput1, e_lput2, e_wInc, e_wInc0, Nat.reduceLT, not_false_eq_true, Bool.or_false, Bool.false_or, Bool.or_true, Bool.true_or, Bool.and_false, Bool.false_and, Bool.and_true, Bool.true_and, e_ri, e_rz, e_wIf_eq, e_wIc_ge, e_wIf_ne, bp_30, fX0_15, fX0_18, fX0_21, fX0_33, fX0_9, ic_0, ic_1, jt_37_m35, jt_45_20, jt_51_14, jt_62_m18, jt_66_14, jt_73_7, jt_77_4, jt_7_33, e_call, e_callS0, e_callS1, e_callS2, e_callS3, e_callS4, e_pop0, e_pop1, e_tl0, e_tl1, tbX0_tighten_f, tbX0_tighten_p, tbX0_tighten_k, tbX0_tighten_c52, tbX0_tighten_c55, l_7, s_7, l_4, s_4, g_3_7, g_3_3, cv_3_0, cv_3_1, cv_3_2, cv_3_3, cv_3_4, g_3_0, l_6, s_6, l_5, s_5, g_3_2, g_3_1]
    obtain ⟨h1, h2, h3⟩ := h
    refine lpX0_tighten0 l Q (S.1 3 7).toNat S 0 (Nat.zero_add _) h1.2.1 (fun V hV => ?_)
    have hV' : V = stFL S (tld S) := by rw [hV]; unfold stFL tld; simp
    rw [hV']
    have e := lpX0_tighten l Q 30 S (tld S) True 0 (by omega) h1 (by simpa using h2) h3
    rw [bi_t trivial] at e
    exact e
  · exact h.elim
/-- the two rows of befores with one more, and their number -/
def bfA (S : aS) (a b : Int) : aS := upI (upI (upI S 9 (S.1 3 8).toNat a) 10 (S.1 3 8).toNat b) 3 8 (S.1 3 8 + 1)
noncomputable def bfT (S : aS) : aS := stFL S (tgF S)
def bhA (S : aS) (a b : Int) : aS := stA S 8 (fun j => if (j : Int) < S.1 3 7 ∧ ((j : Int) = a ∨ bAnd (bUshr (S.1 8 j) a) 1 = 1) then bOr (S.1 8 j) (bOr (bShl 1 b) (S.1 8 b.toNat)) else S.1 8 j)
def tgP (S : aS) : Prop := bfr S ∧ smY (tld S) (S.1 3 7).toNat 2000
def spX0_addBefore : aSp := fun as S Q => match as with
  | [.inr (.inr 3), .inl a, .inl b] => 0 ≤ S.1 3 8 ∧ S.1 3 8 ≤ 60 ∧ 0 ≤ S.1 3 7 ∧ S.1 3 7 ≤ 30 ∧ 0 ≤ b ∧ b < S.1 3 7 ∧ (S.1 3 8 < 60 → tgP (bfA S a b) ∧ tgP (upI (bfT (bfA S a b)) 3 8 (S.1 3 8))) ∧ (60 ≤ S.1 3 8 ∨ (∃ k : Nat, (k : Int) < S.1 3 8 ∧ S.1 9 k = a ∧ S.1 10 k = b) → Q (some (.inl 0)) S) ∧ (S.1 3 8 < 60 → ¬ (∃ k : Nat, (k : Int) < S.1 3 8 ∧ S.1 9 k = a ∧ S.1 10 k = b) → (tgO (bfA S a b) → Q (some (.inl 1)) (bhA (bfT (bfA S a b)) a b)) ∧ (¬ tgO (bfA S a b) → Q (some (.inl 0)) (bfT (upI (bfT (bfA S a b)) 3 8 (S.1 3 8)))))
  | _ => False
def tbX0_addBefore : aTb := (fX0, pX0, fun j => lk [(40, (some 0), 3, spX0_wasTold), (44, (some 0), 1, spX0_tighten), (48, (some 0), 3, spX0_setBehind)] j, kX0)
theorem tbX0_addBefore_f : tbX0_addBefore.1 = fX0 := rfl
theorem tbX0_addBefore_p : tbX0_addBefore.2.1 = pX0 := rfl
theorem tbX0_addBefore_k : tbX0_addBefore.2.2.2 = kX0 := rfl
theorem tbX0_addBefore_c40 : tbX0_addBefore.2.2.1 40 = some ((some 0), 3, spX0_wasTold) := rfl
theorem tbX0_addBefore_c44 : tbX0_addBefore.2.2.1 44 = some ((some 0), 1, spX0_tighten) := rfl
theorem tbX0_addBefore_c48 : tbX0_addBefore.2.2.1 48 = some ((some 0), 3, spX0_setBehind) := rfl
theorem tbX0_addBefore_all (l : Launch) : ∀ e ∈ ([(40, (some 0), 3, spX0_wasTold), (44, (some 0), 1, spX0_tighten), (48, (some 0), 3, spX0_setBehind)] : List (Nat × Option Nat × Nat × aSp)), cOK l mX0_addBefore e.1 e.2.1 e.2.2.1 e.2.2.2 ∨ mOK mX0_addBefore e.1 e.2.1 e.2.2.1 e.2.2.2 := all_cons (cOK_of (okX0_wasTold l) meX0_wasTold cfX0_40 (by decide) (by decide)) (all_cons (cOK_of (okX0_tighten l) meX0_tighten cfX0_44 (by decide) (by decide)) (all_cons (cOK_of (okX0_setBehind l) meX0_setBehind cfX0_48 (by decide) (by decide)) (all_nil)))
theorem tbX0_addBefore_ok (l : Launch) : tOK l mX0_addBefore tbX0_addBefore := ⟨fX0_ok, pX0_ok, fun _ _ _ _ h => tbX0_addBefore_all l _ (lk_mem h), kX0_ok⟩
set_option maxRecDepth 20000 in
set_option maxHeartbeats 4000000 in
theorem okX0_addBefore (l : Launch) : aOK l mX0_addBefore spX0_addBefore := by
  refine aOK_of rfl fun as S Q h => ?_
  unfold spX0_addBefore at h
  split at h
  · rename_i a b
    refine ⟨Nat.le_of_ble_eq_true rfl, wp_ok (tbX0_addBefore_ok l) Q (fun pc => false) 51 0 _ [] S ?_⟩
    show wp cX0_addBefore tbX0_addBefore 3 (some .boolean) Q (fun pc => false) (aGo l mX0_addBefore Q) 51 0 [(0, .inr (.inr 3)), (1, .inl a), (2, .inl b)] [] S
    simp only [wp_s, wpC_f, wpC_t, e_wLd, e_wLd0, e_wLd1, e_wLd2, e_get1, e_get2, e_wJ, e_wJo, f40, f41, f42, f43, Nat.reduceAdd, Nat.reduceBEq, Nat.reduceMul, eq_self, true_or, or_true, true_and, dX0_addBefore_0, dX0_addBefore_1, dX0_addBefore_4, dX0_addBefore_6, dX0_addBefore_9, dX0_addBefore_10, dX0_addBefore_11, dX0_addBefore_12, dX0_addBefore_15, dX0_addBefore_18, dX0_addBefore_19, dX0_addBefore_20, dX0_addBefore_21, dX0_addBefore_24, dX0_addBefore_25, dX0_addBefore_28, dX0_addBefore_29, dX0_addBefore_30, dX0_addBefore_31, dX0_addBefore_34, dX0_addBefore_35, dX0_addBefore_38, dX0_addBefore_39, dX0_addBefore_40, dX0_addBefore_41, dX0_addBefore_42, dX0_addBefore_45, dX0_addBefore_46, dX0_addBefore_47, dX0_addBefore_50, dX0_addBefore_51, dX0_addBefore_54, dX0_addBefore_57, dX0_addBefore_58, dX0_addBefore_59, dX0_addBefore_62, dX0_addBefore_63, dX0_addBefore_64, dX0_addBefore_67, dX0_addBefore_68, dX0_addBefore_71, dX0_addBefore_72, dX0_addBefore_73, dX0_addBefore_74, dX0_addBefore_75, dX0_addBefore_76, dX0_addBefore_77, dX0_addBefore_80, dX0_addBefore_81, e_aload_n, e_iload_n, e_iconst, e_bipush, e_iadd, e_isub, e_dup, e_pop, e_ifCond, e_if_icmp, e_getfield, e_putfield, e_iastore, e_invokevirtual, e_ireturn, e_wI2, e_wPop, e_wDup0, e_wDup1, e_ri, e_rz, e_wIf_eq, e_wIc_ge, e_wIf_ne, bp_60, fX0_27, fX0_30, fX0_37, ic_0, ic_1, jt_15_5, jt_54_20, jt_6_12, pX0_37, e_call, e_callS0, e_callS1, e_callS2, e_callS3, e_callS4, e_pop0, e_pop1, e_tl0, e_tl1, tbX0_addBefore_f, tbX0_addBefore_p, tbX0_addBefore_k, tbX0_addBefore_c40, tbX0_addBefore_c44, tbX0_addBefore_c48, s_10, cv_3_0, cv_3_1, cv_3_2, cv_3_3, cv_3_4, g_3_6, s_9, g_3_8, g_3_5, p_3_8, spX0_wasTold, spX0_tighten, spX0_setBehind, bi_0, bi_1, ne_eq, Classical.not_not, em_r, em_l]
    obtain ⟨h0, h1, h2, h3, h4, h5, h6, h7, h8⟩ := h
    refine ⟨fun q => h7 (.inl q), fun q => ⟨h0, h1, fun q2 => ?_, fun q2 => h7 (.inr q2)⟩⟩
    simp (disch := omega) only [wI_id, up_hit, up_obj, upL_hit, upL_obj, up_2, upL_1, Int.toNat_natCast]
    refine ⟨by omega, by omega, by omega, by omega, ?_⟩
    have e : upI (upI (upI S 9 (S.1 3 8).toNat a) 10 (S.1 3 8).toNat b) 3 8 (S.1 3 8 + 1) = bfA S a b := rfl
    have g7 : (bfA S a b).1 3 7 = S.1 3 7 := by unfold bfA; simp [upI, up2]
    have g8 : (bfA S a b).1 3 8 = S.1 3 8 + 1 := by unfold bfA; simp [upI, up2]
    rw [e]
    refine ⟨(h6 (by omega)).1.1, (h6 (by omega)).1.2, fun q3 => ?_, fun q3 => ?_⟩
    · have hh := (h8 (by omega) q2).1 q3
      unfold bhA bfT at hh
      simp (disch := first | decide | omega) only [stFL_f, g7] at hh
      simp (disch := first | decide | omega) only [stFL_f, g7, g8, wI_id]
      exact ⟨h2, h3, h4, h5, hh⟩
    · simp (disch := first | decide | omega) only [stFL_f, g8, wI_id, Int.add_sub_cancel]
      exact ⟨(h6 (by omega)).2.1, (h6 (by omega)).2.2, (h8 (by omega) q2).2 q3⟩
  · exact h.elim
