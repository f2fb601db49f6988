/-! WITNESSES (211): own 212, ownBooks 213, all 214, allBooks 215, firstFrom 216, firstTo 217, place 218 -/
noncomputable def cb (p : Prop) : Bool := @decide p (Classical.propDecidable p)
theorem cb_t {p : Prop} (h : p) : cb p = true := by unfold cb; simp [h]
theorem cb_f {p : Prop} (h : ¬ p) : cb p = false := by unfold cb; simp [h]
def sOld (S : aS) (x y : Int) : Prop := mn (S.1 7) (fun k => inS k x) (S.1 3 7).toNat < mn (S.1 6) (fun k => inS k y) (S.1 3 7).toNat ∨ (∃ k : Nat, k < (S.1 3 7).toNat ∧ inS k x ∧ bAnd y (bXor (S.1 8 k) (-1)) = 0)
def ahd (S : aS) (a b : Nat) : Prop := S.1 216 a < S.1 216 b ∨ (S.1 216 a = S.1 216 b ∧ (S.1 217 a < S.1 217 b ∨ (S.1 217 a = S.1 217 b ∧ a < b)))
def bsd (S : aS) (a b : Int) : Prop := (0 ≤ a ∧ a < 40 ∧ ¬ S.1 209 a.toNat = -1) ∧ (0 ≤ b ∧ b < 40 ∧ ¬ S.1 209 b.toNat = -1) ∧ S.1 209 a.toNat = S.1 209 b.toNat ∧ S.1 210 a.toNat = S.1 210 b.toNat
def spX9_hasOwn : aSp := fun as S Q => match as with
  | [.inr (.inr 211), .inl b] => Q (some (.inl (bi ((0 ≤ b ∧ b < 40 ∧ ¬ S.1 209 b.toNat = -1) ∧ 0 < S.1 212 b.toNat)))) S
  | _ => False
def tbX9_hasOwn : aTb := (fX9, pX9, fun j => lk [(61, (some 6), 2, spX6_has)] j, kX9)
theorem tbX9_hasOwn_f : tbX9_hasOwn.1 = fX9 := rfl
theorem tbX9_hasOwn_p : tbX9_hasOwn.2.1 = pX9 := rfl
theorem tbX9_hasOwn_k : tbX9_hasOwn.2.2.2 = kX9 := rfl
theorem tbX9_hasOwn_c61 : tbX9_hasOwn.2.2.1 61 = some ((some 6), 2, spX6_has) := rfl
theorem tbX9_hasOwn_all (l : Launch) : ∀ e ∈ ([(61, (some 6), 2, spX6_has)] : List (Nat × Option Nat × Nat × aSp)), cOK l mX9_hasOwn e.1 e.2.1 e.2.2.1 e.2.2.2 ∨ mOK mX9_hasOwn e.1 e.2.1 e.2.2.1 e.2.2.2 := all_cons (cOK_of (okX6_has l) meX6_has cfX9_61 (by decide) (by decide)) (all_nil)
theorem tbX9_hasOwn_ok (l : Launch) : tOK l mX9_hasOwn tbX9_hasOwn := ⟨fX9_ok, pX9_ok, fun _ _ _ _ h => tbX9_hasOwn_all l _ (lk_mem h), kX9_ok⟩
set_option maxRecDepth 20000 in
set_option maxHeartbeats 4000000 in
theorem okX9_hasOwn (l : Launch) : aOK l mX9_hasOwn spX9_hasOwn := by
  refine aOK_of rfl fun as S Q h => ?_
  unfold spX9_hasOwn at h
  split at h
  · rename_i b
    refine ⟨Nat.le_of_ble_eq_true rfl, wp_ok (tbX9_hasOwn_ok l) Q (fun pc => false) 16 0 _ [] S ?_⟩
    show wp cX9_hasOwn tbX9_hasOwn 2 (some .boolean) Q (fun pc => false) (aGo l mX9_hasOwn Q) 16 0 [(0, .inr (.inr 211)), (1, .inl b)] [] S
    simp only [wp_s, wpC_f, wpC_t, e_wLd, e_wLd0, e_wLd1, e_wLd2, e_get1, e_get2, e_wJ, e_wJo, f40, f41, f42, f43, Nat.reduceAdd, Nat.reduceBEq, Nat.reduceMul, eq_self, true_or, or_true, true_and, dX9_hasOwn_0, dX9_hasOwn_1, dX9_hasOwn_4, dX9_hasOwn_5, dX9_hasOwn_8, dX9_hasOwn_11, dX9_hasOwn_12, dX9_hasOwn_15, dX9_hasOwn_16, dX9_hasOwn_17, dX9_hasOwn_20, dX9_hasOwn_21, dX9_hasOwn_24, dX9_hasOwn_25, e_aload_n, e_iload_n, e_iconst, e_ifCond, e_goto, e_getfield, e_iaload, e_invokevirtual, e_ireturn, e_ri, e_rz, e_wIf_eq, e_wIf_le, fX9_41, fX9_9, ic_0, ic_1, jt_17_7, jt_21_4, jt_8_16, e_call, e_callS0, e_callS1, e_callS2, e_callS3, e_callS4, e_pop0, e_pop1, e_tl0, e_tl1, tbX9_hasOwn_f, tbX9_hasOwn_p, tbX9_hasOwn_k, tbX9_hasOwn_c61, g_211_3, l_212, cv_208_0, cv_208_1, cv_208_2, cv_208_3, cv_208_4, g_211_2, spX6_has, bi_0, bi_1, ne_eq, Classical.not_not, em_r, em_l]
    repeat' (with_reducible first | intro _ | refine And.intro ?_ ?_)
    all_goals first | exact h | (rw [bi_t (by omega)] at h; exact h) | (rw [bi_f (by omega)] at h; exact h) | omega
  · exact h.elim
def spX9_isAhead : aSp := fun as S Q => match as with
  | [.inr (.inr 211), .inl a, .inl b] => 0 ≤ a ∧ a < 40 ∧ 0 ≤ b ∧ b < 40 ∧ Q (some (.inl (bi (ahd S a.toNat b.toNat)))) S
  | _ => False
def tbX9_isAhead : aTb := (fX9, pX9, fun j => lk [] j, kX9)
theorem tbX9_isAhead_f : tbX9_isAhead.1 = fX9 := rfl
theorem tbX9_isAhead_p : tbX9_isAhead.2.1 = pX9 := rfl
theorem tbX9_isAhead_k : tbX9_isAhead.2.2.2 = kX9 := rfl
theorem tbX9_isAhead_all (l : Launch) : ∀ e ∈ ([] : List (Nat × Option Nat × Nat × aSp)), cOK l mX9_isAhead e.1 e.2.1 e.2.2.1 e.2.2.2 ∨ mOK mX9_isAhead e.1 e.2.1 e.2.2.1 e.2.2.2 := all_nil
theorem tbX9_isAhead_ok (l : Launch) : tOK l mX9_isAhead tbX9_isAhead := ⟨fX9_ok, pX9_ok, fun _ _ _ _ h => tbX9_isAhead_all l _ (lk_mem h), kX9_ok⟩
set_option maxRecDepth 20000 in
set_option maxHeartbeats 4000000 in
theorem okX9_isAhead (l : Launch) : aOK l mX9_isAhead spX9_isAhead := by
  refine aOK_of rfl fun as S Q h => ?_
  unfold spX9_isAhead at h
  split at h
  · rename_i a b
    refine ⟨Nat.le_of_ble_eq_true rfl, wp_ok (tbX9_isAhead_ok l) Q (fun pc => false) 53 0 _ [] S ?_⟩
    show wp cX9_isAhead tbX9_isAhead 3 (some .boolean) Q (fun pc => false) (aGo l mX9_isAhead Q) 53 0 [(0, .inr (.inr 211)), (1, .inl a), (2, .inl b)] [] S
    simp only [wp_s, wpC_f, wpC_t, e_wLd, e_wLd0, e_wLd1, e_wLd2, e_get1, e_get2, e_wJ, e_wJo, f40, f41, f42, f43, Nat.reduceAdd, Nat.reduceBEq, Nat.reduceMul, eq_self, true_or, or_true, true_and, dX9_isAhead_0, dX9_isAhead_1, dX9_isAhead_4, dX9_isAhead_5, dX9_isAhead_6, dX9_isAhead_7, dX9_isAhead_10, dX9_isAhead_11, dX9_isAhead_12, dX9_isAhead_15, dX9_isAhead_16, dX9_isAhead_19, dX9_isAhead_20, dX9_isAhead_21, dX9_isAhead_22, dX9_isAhead_25, dX9_isAhead_26, dX9_isAhead_27, dX9_isAhead_30, dX9_isAhead_31, dX9_isAhead_34, dX9_isAhead_35, dX9_isAhead_36, dX9_isAhead_37, dX9_isAhead_40, dX9_isAhead_41, dX9_isAhead_42, dX9_isAhead_43, dX9_isAhead_46, dX9_isAhead_47, dX9_isAhead_48, dX9_isAhead_51, dX9_isAhead_52, dX9_isAhead_55, dX9_isAhead_56, dX9_isAhead_57, dX9_isAhead_58, dX9_isAhead_61, dX9_isAhead_62, dX9_isAhead_63, dX9_isAhead_66, dX9_isAhead_67, dX9_isAhead_70, dX9_isAhead_71, dX9_isAhead_72, dX9_isAhead_73, dX9_isAhead_74, dX9_isAhead_77, dX9_isAhead_78, dX9_isAhead_81, dX9_isAhead_82, e_aload_n, e_iload_n, e_iconst, e_if_icmp, e_goto, e_getfield, e_iaload, e_ireturn, e_ri, e_rz, e_wIc_eq, e_wIc_ge, fX9_24, fX9_27, ic_0, ic_1, jt_12_24, jt_27_7, jt_31_4, jt_48_24, jt_63_7, jt_67_4, jt_74_7, jt_78_4, tbX9_isAhead_f, tbX9_isAhead_p, tbX9_isAhead_k, l_216, g_211_7, l_217, g_211_8]
    obtain ⟨h0, h1, h2, h3, h⟩ := h
    repeat' (with_reducible first | intro _ | refine And.intro ?_ ?_)
    all_goals first | omega | (rw [bi_t (by unfold ahd; omega)] at h; exact h) | (rw [bi_f (by unfold ahd; omega)] at h; exact h)
  · exact h.elim
def spX9_placeOf : aSp := fun as S Q => match as with
  | [.inr (.inr 211), .inl a] => Q (some (.inl (cnt (fun j => cb (bsd S j a ∧ ahd S j a.toNat)) 40 + 1))) S
  | _ => False
def tbX9_placeOf : aTb := (fX9, pX9, fun j => lk [(86, (some 6), 3, spX6_areBeside), (90, (some 9), 3, spX9_isAhead)] j, kX9)
theorem tbX9_placeOf_f : tbX9_placeOf.1 = fX9 := rfl
theorem tbX9_placeOf_p : tbX9_placeOf.2.1 = pX9 := rfl
theorem tbX9_placeOf_k : tbX9_placeOf.2.2.2 = kX9 := rfl
theorem tbX9_placeOf_c86 : tbX9_placeOf.2.2.1 86 = some ((some 6), 3, spX6_areBeside) := rfl
theorem tbX9_placeOf_c90 : tbX9_placeOf.2.2.1 90 = some ((some 9), 3, spX9_isAhead) := rfl
theorem tbX9_placeOf_all (l : Launch) : ∀ e ∈ ([(86, (some 6), 3, spX6_areBeside), (90, (some 9), 3, spX9_isAhead)] : List (Nat × Option Nat × Nat × aSp)), cOK l mX9_placeOf e.1 e.2.1 e.2.2.1 e.2.2.2 ∨ mOK mX9_placeOf e.1 e.2.1 e.2.2.1 e.2.2.2 := all_cons (cOK_of (okX6_areBeside l) meX6_areBeside cfX9_86 (by decide) (by decide)) (all_cons (cOK_of (okX9_isAhead l) meX9_isAhead cfX9_90 (by decide) (by decide)) (all_nil))
theorem tbX9_placeOf_ok (l : Launch) : tOK l mX9_placeOf tbX9_placeOf := ⟨fX9_ok, pX9_ok, fun _ _ _ _ h => tbX9_placeOf_all l _ (lk_mem h), kX9_ok⟩
set_option maxRecDepth 20000 in
set_option maxHeartbeats 4000000 in
theorem lpX9_placeOf (l : Launch) (Q : Option aV → aS → Prop) : ∀ (n : Nat) (S : aS) (a : Int) (i : Nat), i + n = 40 → Q (some (.inl (cnt (fun j : Nat => cb (bsd S (j : Int) a ∧ ahd S j a.toNat)) 40 + 1))) S → aGo l mX9_placeOf Q 4 [(0, .inr (.inr 211)), (1, .inl a), (2, .inl (cnt (fun j : Nat => cb (bsd S (j : Int) a ∧ ahd S j a.toNat)) i)), (3, .inl (i : Int))] [] S := by
  intro n
  induction n using Nat.strongRecOn with
  | _ n ih =>
  intro S  a  i  h0 h1
  refine wp_go (tbX9_placeOf_ok l) (fun pc => pc == 4) 27 dX9_placeOf_4 ?_
  show ws1 tbX9_placeOf 4 (some .int) Q (wp cX9_placeOf tbX9_placeOf 4 (some .int) Q (fun pc => pc == 4) (aGo l mX9_placeOf Q) 27) (.iload_n 3) 1 4 [(0, .inr (.inr 211)), (1, .inl a), (2, .inl (cnt (fun j : Nat => cb (bsd S (j : Int) a ∧ ahd S j a.toNat)) i)), (3, .inl (i : Int))] [] S
  simp only [wp_s, wpC_f, wpC_t, e_wLd, e_wLd0, e_wLd1, e_wLd2, e_get1, e_get2, e_wJ, e_wJo, f40, f41, f42, f43, Nat.reduceAdd, Nat.reduceBEq, Nat.reduceMul, eq_self, true_or, or_true, true_and, dX9_placeOf_0, dX9_placeOf_1, dX9_placeOf_2, dX9_placeOf_3, dX9_placeOf_4, dX9_placeOf_5, dX9_placeOf_7, dX9_placeOf_10, dX9_placeOf_11, dX9_placeOf_14, dX9_placeOf_15, dX9_placeOf_16, dX9_placeOf_19, dX9_placeOf_22, dX9_placeOf_23, dX9_placeOf_24, dX9_placeOf_25, dX9_placeOf_28, dX9_placeOf_31, dX9_placeOf_34, dX9_placeOf_37, dX9_placeOf_40, dX9_placeOf_41, dX9_placeOf_42, dX9_placeOf_43, e_aload_n, e_iload_n, e_istore_n, e_iconst, e_bipush, e_iadd, e_iinc, e_ifCond, e_if_icmp, e_goto, e_getfield, e_invokevirtual, e_ireturn, e_wSt0, e_wSt1, e_wSt2, e_isL0, e_isL1, e_isL2, e_lset, e_lclr0, e_lclr1, e_lclr2, e_lput0, e_lput1, e_lput2, e_wInc, e_wInc0, Nat.reduceLT, not_false_eq_true, Bool.or_false, Bool.false_or, Bool.or_true, Bool.true_or, Bool.and_false, Bool.false_and, Bool.and_true, Bool.true_and, e_wI2, e_ri, e_rz, e_wIf_eq, e_wIc_ge, bp_40, fX9_41, ic_0, ic_1, jt_19_15, jt_28_6, jt_37_m33, jt_7_33, e_call, e_callS0, e_callS1, e_callS2, e_callS3, e_callS4, e_pop0, e_pop1, e_tl0, e_tl1, tbX9_placeOf_f, tbX9_placeOf_p, tbX9_placeOf_k, tbX9_placeOf_c86, tbX9_placeOf_c90, cv_211_0, cv_211_1, cv_211_2, cv_211_3, cv_211_4, cv_208_0, cv_208_1, cv_208_2, cv_208_3, cv_208_4, g_211_2, spX6_areBeside, spX9_isAhead, bi_0, bi_1, ne_eq, Classical.not_not, em_r, em_l]
  have cbb := cnt_b (fun j : Nat => cb (bsd S (j : Int) a ∧ ahd S j a.toNat)) i
  repeat' (with_reducible first | intro _ | refine And.intro ?_ ?_)
  all_goals (try simp (disch := omega) only [wI_id, Int.toNat_natCast] at *)
  all_goals first
    | omega
    | (rw [show i = 40 from by omega]; exact h1)
    | (have e := ih (n - 1) (by omega) S a (i + 1) (by omega) h1
       first
         | (rw [cnt_t (cb_t ⟨by unfold bsd; simp only [Int.toNat_natCast]; assumption, by assumption⟩)] at e; exact e)
         | (rw [cnt_f (cb_f (fun q => absurd q.2 (by assumption)))] at e; exact e)
         | (rw [cnt_f (cb_f (fun q => absurd (show _ ∧ _ from q.1) (by unfold bsd at *; simp only [Int.toNat_natCast] at *; assumption)))] at e; exact e))
    | skip
set_option maxRecDepth 20000 in
set_option maxHeartbeats 4000000 in
theorem okX9_placeOf (l : Launch) : aOK l mX9_placeOf spX9_placeOf := by
  refine aOK_of rfl fun as S Q h => ?_
  unfold spX9_placeOf at h
  split at h
  · rename_i a
    refine ⟨Nat.le_of_ble_eq_true rfl, wp_ok (tbX9_placeOf_ok l) Q (fun pc => pc == 4) 27 0 _ [] S ?_⟩
    show wp cX9_placeOf tbX9_placeOf 4 (some .int) Q (fun pc => pc == 4) (aGo l mX9_placeOf Q) 27 0 [(0, .inr (.inr 211)), (1, .inl a)] [] S
    simp only [wp_s, wpC_f, wpC_t, e_wLd, e_wLd0, e_wLd1, e_wLd2, e_get1, e_get2, e_wJ, e_wJo, f40, f41, f42, f43, Nat.reduceAdd, Nat.reduceBEq, Nat.reduceMul, eq_self, true_or, or_true, true_and, dX9_placeOf_0, dX9_placeOf_1, dX9_placeOf_2, dX9_placeOf_3, dX9_placeOf_4, dX9_placeOf_5, dX9_placeOf_7, dX9_placeOf_10, dX9_placeOf_11, dX9_placeOf_14, dX9_placeOf_15, dX9_placeOf_16, dX9_placeOf_19, dX9_placeOf_22, dX9_placeOf_23, dX9_placeOf_24, dX9_placeOf_25, dX9_placeOf_28, dX9_placeOf_31, dX9_placeOf_34, dX9_placeOf_37, dX9_placeOf_40, dX9_placeOf_41, dX9_placeOf_42, dX9_placeOf_43, e_aload_n, e_iload_n, e_istore_n, e_iconst, e_bipush, e_iadd, e_iinc, e_ifCond, e_if_icmp, e_goto, e_getfield, e_invokevirtual, e_ireturn, e_wSt0, e_wSt1, e_wSt2, e_isL0, e_isL1, e_isL2, e_lset, e_lclr0, e_lclr1, e_lclr2, e_lput0, e_lput1, e_lput2, e_wInc, e_wInc0, Nat.reduceLT, not_false_eq_true, Bool.or_false, Bool.false_or, Bool.or_true, Bool.true_or, Bool.and_false, Bool.false_and, Bool.and_true, Bool.true_and, e_wI2, e_ri, e_rz, e_wIf_eq, e_wIc_ge, bp_40, fX9_41, ic_0, ic_1, jt_19_15, jt_28_6, jt_37_m33, jt_7_33, e_call, e_callS0, e_callS1, e_callS2, e_callS3, e_callS4, e_pop0, e_pop1, e_tl0, e_tl1, tbX9_placeOf_f, tbX9_placeOf_p, tbX9_placeOf_k, tbX9_placeOf_c86, tbX9_placeOf_c90, cv_211_0, cv_211_1, cv_211_2, cv_211_3, cv_211_4, cv_208_0, cv_208_1, cv_208_2, cv_208_3, cv_208_4, g_211_2]
    exact lpX9_placeOf l Q 40 S a 0 rfl h
  · exact h.elim
def spX9_isFlaw : aSp := fun as S Q => match as with
  | [.inr (.inr 211), .inl a, .inl b] => 0 ≤ S.1 3 7 ∧ S.1 3 7 ≤ 30 ∧ Q (some (.inl (bi (¬ a = b ∧ ((0 ≤ a ∧ a < 40 ∧ ¬ S.1 209 a.toNat = -1) ∧ 0 < S.1 212 a.toNat) ∧ ((0 ≤ b ∧ b < 40 ∧ ¬ S.1 209 b.toNat = -1) ∧ 0 < S.1 212 b.toNat) ∧ wth (S.1 209) (S.1 210) b 40 a ∧ sOld S (S.1 213 a.toNat) (S.1 213 b.toNat))))) S
  | _ => False
def tbX9_isFlaw : aTb := (fX9, pX9, fun j => lk [(93, (some 9), 2, spX9_hasOwn), (96, (some 6), 3, spX6_isWithin), (99, (some 0), 3, spX0_areSurelyOlder)] j, kX9)
theorem tbX9_isFlaw_f : tbX9_isFlaw.1 = fX9 := rfl
theorem tbX9_isFlaw_p : tbX9_isFlaw.2.1 = pX9 := rfl
theorem tbX9_isFlaw_k : tbX9_isFlaw.2.2.2 = kX9 := rfl
theorem tbX9_isFlaw_c93 : tbX9_isFlaw.2.2.1 93 = some ((some 9), 2, spX9_hasOwn) := rfl
theorem tbX9_isFlaw_c96 : tbX9_isFlaw.2.2.1 96 = some ((some 6), 3, spX6_isWithin) := rfl
theorem tbX9_isFlaw_c99 : tbX9_isFlaw.2.2.1 99 = some ((some 0), 3, spX0_areSurelyOlder) := rfl
theorem tbX9_isFlaw_all (l : Launch) : ∀ e ∈ ([(93, (some 9), 2, spX9_hasOwn), (96, (some 6), 3, spX6_isWithin), (99, (some 0), 3, spX0_areSurelyOlder)] : List (Nat × Option Nat × Nat × aSp)), cOK l mX9_isFlaw e.1 e.2.1 e.2.2.1 e.2.2.2 ∨ mOK mX9_isFlaw e.1 e.2.1 e.2.2.1 e.2.2.2 := all_cons (cOK_of (okX9_hasOwn l) meX9_hasOwn cfX9_93 (by decide) (by decide)) (all_cons (cOK_of (okX6_isWithin l) meX6_isWithin cfX9_96 (by decide) (by decide)) (all_cons (cOK_of (okX0_areSurelyOlder l) meX0_areSurelyOlder cfX9_99 (by decide) (by decide)) (all_nil)))
theorem tbX9_isFlaw_ok (l : Launch) : tOK l mX9_isFlaw tbX9_isFlaw := ⟨fX9_ok, pX9_ok, fun _ _ _ _ h => tbX9_isFlaw_all l _ (lk_mem h), kX9_ok⟩
set_option maxRecDepth 20000 in
set_option maxHeartbeats 4000000 in
theorem okX9_isFlaw (l : Launch) : aOK l mX9_isFlaw spX9_isFlaw := by
  refine aOK_of rfl fun as S Q h => ?_
  unfold spX9_isFlaw at h
  split at h
  · rename_i a b
    refine ⟨Nat.le_of_ble_eq_true rfl, wp_ok (tbX9_isFlaw_ok l) Q (fun pc => false) 35 0 _ [] S ?_⟩
    show wp cX9_isFlaw tbX9_isFlaw 3 (some .boolean) Q (fun pc => false) (aGo l mX9_isFlaw Q) 35 0 [(0, .inr (.inr 211)), (1, .inl a), (2, .inl b)] [] S
    simp only [wp_s, wpC_f, wpC_t, e_wLd, e_wLd0, e_wLd1, e_wLd2, e_get1, e_get2, e_wJ, e_wJo, f40, f41, f42, f43, Nat.reduceAdd, Nat.reduceBEq, Nat.reduceMul, eq_self, true_or, or_true, true_and, dX9_isFlaw_0, dX9_isFlaw_1, dX9_isFlaw_2, dX9_isFlaw_5, dX9_isFlaw_6, dX9_isFlaw_7, dX9_isFlaw_10, dX9_isFlaw_13, dX9_isFlaw_14, dX9_isFlaw_15, dX9_isFlaw_18, dX9_isFlaw_21, dX9_isFlaw_22, dX9_isFlaw_25, dX9_isFlaw_26, dX9_isFlaw_27, dX9_isFlaw_30, dX9_isFlaw_33, dX9_isFlaw_34, dX9_isFlaw_37, dX9_isFlaw_38, dX9_isFlaw_41, dX9_isFlaw_42, dX9_isFlaw_43, dX9_isFlaw_44, dX9_isFlaw_47, dX9_isFlaw_48, dX9_isFlaw_49, dX9_isFlaw_52, dX9_isFlaw_55, dX9_isFlaw_56, dX9_isFlaw_59, dX9_isFlaw_60, e_aload_n, e_iload_n, e_iconst, e_ifCond, e_if_icmp, e_goto, e_getfield, e_iaload, e_invokevirtual, e_ireturn, e_ri, e_rz, e_wIf_eq, e_wIc_eq, fX9_15, fX9_33, fX9_41, ic_0, ic_1, jt_10_49, jt_18_41, jt_2_57, jt_30_29, jt_52_7, jt_56_4, e_call, e_callS0, e_callS1, e_callS2, e_callS3, e_callS4, e_pop0, e_pop1, e_tl0, e_tl1, tbX9_isFlaw_f, tbX9_isFlaw_p, tbX9_isFlaw_k, tbX9_isFlaw_c93, tbX9_isFlaw_c96, tbX9_isFlaw_c99, l_213, g_211_2, g_211_4, cv_3_0, cv_3_1, cv_3_2, cv_3_3, cv_3_4, cv_211_0, cv_211_1, cv_211_2, cv_211_3, cv_211_4, g_211_0, cv_208_0, cv_208_1, cv_208_2, cv_208_3, cv_208_4, spX9_hasOwn, spX6_isWithin, spX0_areSurelyOlder, bi_0, bi_1, ne_eq, Classical.not_not, em_r, em_l]
    obtain ⟨h0, h1, h⟩ := h
    repeat' (with_reducible first | intro _ | refine And.intro ?_ ?_)
    all_goals first
      | omega
      | (rw [bi_t ⟨by assumption, by assumption, by assumption, by assumption, by assumption⟩] at h; exact h)
      | (rw [bi_f (fun q => absurd q.1 (by first | assumption | omega))] at h; exact h)
      | (rw [bi_f (fun q => absurd q.2.1 (by assumption))] at h; exact h)
      | (rw [bi_f (fun q => absurd q.2.2.1 (by assumption))] at h; exact h)
      | (rw [bi_f (fun q => absurd q.2.2.2.1 (by assumption))] at h; exact h)
      | (rw [bi_f (fun q => absurd q.2.2.2.2 (by assumption))] at h; exact h)
      | skip
  · exact h.elim
/-- the way up from u, n steps at most: each sense one witness more, of book set x -/
noncomputable def adU (E P : Nat → Int) (x : Int) : Nat → Int → aFL → aFL
  | 0, _, y => y
  | n + 1, u, y => @ite _ (hasT E u) (Classical.propDecidable _) (adU E P x n (P u.toNat) (fu y.1 u.toNat (wI (y.1 u.toNat + 1)), fu y.2 u.toNat (bOr (y.2 u.toNat) x))) y
theorem adU_t {E P : Nat → Int} {x : Int} {n : Nat} {u : Int} {y : aFL} (h : hasT E u) : adU E P x (n + 1) u y = adU E P x n (P u.toNat) (fu y.1 u.toNat (wI (y.1 u.toNat + 1)), fu y.2 u.toNat (bOr (y.2 u.toNat) x)) := if_pos h
theorem adU_f {E P : Nat → Int} {x : Int} {n : Nat} {u : Int} {y : aFL} (h : ¬ hasT E u) : adU E P x n u y = y := by
  cases n with
  | zero => rfl
  | succ n => exact if_neg h
def stC (S : aS) (y : aFL) : aS := stA (stA S 214 y.1) 215 y.2
theorem stC_f {S : aS} {y : aFL} {i : Nat} (h1 : ¬ i = 214) (h2 : ¬ i = 215) : (stC S y).1 i = S.1 i := by funext j; simp [stC, stA, h1, h2]
theorem stC_4 {S : aS} {y : aFL} : (stC S y).1 214 = y.1 := by funext j; simp [stC, stA]
theorem stC_5 {S : aS} {y : aFL} : (stC S y).1 215 = y.2 := by funext j; simp [stC, stA]
theorem stC_self {S : aS} : stC S (S.1 214, S.1 215) = S := by
  refine st_ext (fun a b => ?_) (fun a b => rfl)
  simp only [stC, stA]
  split
  · rename_i h; rw [h]
  · split
    · rename_i h; rw [h]
    · rfl
theorem upI_C {S : aS} {y : aFL} {j : Nat} {v w : Int} : upI (upI (stC S y) 214 j v) 215 j w = stC S (fu y.1 j v, fu y.2 j w) := by
  refine st_ext (fun a b => ?_) (fun a b => rfl)
  simp only [stC, stA, upI, up2, fu]
  by_cases h : a = 214 <;> by_cases h2 : a = 215 <;> by_cases h3 : b = j <;> simp_all
/-- one slip told: at sense t, of book set x -/
noncomputable def asl (S : aS) (t x : Int) : aS := @ite _ (hasT (S.1 209) t) (Classical.propDecidable _) (stC (upI (upI S 212 t.toNat (wI (S.1 212 t.toNat + 1))) 213 t.toNat (bOr (S.1 213 t.toNat) x)) (adU (S.1 209) (S.1 210) x 40 t (S.1 214, S.1 215))) S
def spX9_addSlip : aSp := fun as S Q => match as with
  | [.inr (.inr 211), .inl t, .inl x] => Q none (asl S t x)
  | _ => False
def tbX9_addSlip : aTb := (fX9, pX9, fun j => lk [(61, (some 6), 2, spX6_has)] j, kX9)
theorem tbX9_addSlip_f : tbX9_addSlip.1 = fX9 := rfl
theorem tbX9_addSlip_p : tbX9_addSlip.2.1 = pX9 := rfl
theorem tbX9_addSlip_k : tbX9_addSlip.2.2.2 = kX9 := rfl
theorem tbX9_addSlip_c61 : tbX9_addSlip.2.2.1 61 = some ((some 6), 2, spX6_has) := rfl
theorem tbX9_addSlip_all (l : Launch) : ∀ e ∈ ([(61, (some 6), 2, spX6_has)] : List (Nat × Option Nat × Nat × aSp)), cOK l mX9_addSlip e.1 e.2.1 e.2.2.1 e.2.2.2 ∨ mOK mX9_addSlip e.1 e.2.1 e.2.2.1 e.2.2.2 := all_cons (cOK_of (okX6_has l) meX6_has cfX9_61 (by decide) (by decide)) (all_nil)
theorem tbX9_addSlip_ok (l : Launch) : tOK l mX9_addSlip tbX9_addSlip := ⟨fX9_ok, pX9_ok, fun _ _ _ _ h => tbX9_addSlip_all l _ (lk_mem h), kX9_ok⟩
set_option maxRecDepth 20000 in
set_option maxHeartbeats 4000000 in
theorem lpX9_addSlip (l : Launch) (Q : Option aV → aS → Prop) : ∀ (n : Nat) (S : aS) (y : aFL) (t x u r : Int), (0 ≤ r ∧ r + n = 40) → Q none (stC S (adU (S.1 209) (S.1 210) x n u y)) → aGo l mX9_addSlip Q 37 [(0, .inr (.inr 211)), (1, .inl t), (2, .inl x), (3, .inl u), (4, .inl r)] [] (stC S y) := by
  intro n
  induction n using Nat.strongRecOn with
  | _ n ih =>
  intro S  y  t x u r  h0 h1
  refine wp_go (tbX9_addSlip_ok l) (fun pc => pc == 37) 61 dX9_addSlip_37 ?_
  show ws1 tbX9_addSlip 5 none Q (wp cX9_addSlip tbX9_addSlip 5 none Q (fun pc => pc == 37) (aGo l mX9_addSlip Q) 61) (.iload 4) 2 37 [(0, .inr (.inr 211)), (1, .inl t), (2, .inl x), (3, .inl u), (4, .inl r)] [] (stC S y)
  simp only [wp_s, wpC_f, wpC_t, e_wLd, e_wLd0, e_wLd1, e_wLd2, e_get1, e_get2, e_wJ, e_wJo, f40, f41, f42, f43, Nat.reduceAdd, Nat.reduceBEq, Nat.reduceMul, eq_self, true_or, or_true, true_and, dX9_addSlip_0, dX9_addSlip_1, dX9_addSlip_4, dX9_addSlip_5, dX9_addSlip_8, dX9_addSlip_11, dX9_addSlip_12, dX9_addSlip_13, dX9_addSlip_16, dX9_addSlip_17, dX9_addSlip_18, dX9_addSlip_19, dX9_addSlip_20, dX9_addSlip_21, dX9_addSlip_22, dX9_addSlip_23, dX9_addSlip_26, dX9_addSlip_27, dX9_addSlip_28, dX9_addSlip_29, dX9_addSlip_30, dX9_addSlip_31, dX9_addSlip_32, dX9_addSlip_33, dX9_addSlip_34, dX9_addSlip_35, dX9_addSlip_37, dX9_addSlip_39, dX9_addSlip_41, dX9_addSlip_44, dX9_addSlip_45, dX9_addSlip_48, dX9_addSlip_49, dX9_addSlip_52, dX9_addSlip_55, dX9_addSlip_56, dX9_addSlip_59, dX9_addSlip_60, dX9_addSlip_61, dX9_addSlip_62, dX9_addSlip_63, dX9_addSlip_64, dX9_addSlip_65, dX9_addSlip_66, dX9_addSlip_69, dX9_addSlip_70, dX9_addSlip_71, dX9_addSlip_72, dX9_addSlip_73, dX9_addSlip_74, dX9_addSlip_75, dX9_addSlip_76, dX9_addSlip_79, dX9_addSlip_82, dX9_addSlip_83, dX9_addSlip_84, dX9_addSlip_85, dX9_addSlip_88, dX9_addSlip_91, e_aload_n, e_iload_n, e_iload, e_istore_n, e_istore, e_iconst, e_bipush, e_iadd, e_ior, e_dup2, e_iinc, e_ifCond, e_if_icmp, e_goto, e_getfield, e_iaload, e_iastore, e_invokevirtual, e_return_, e_wSt0, e_wSt1, e_wSt2, e_isL0, e_isL1, e_isL2, e_lset, e_lclr0, e_lclr1, e_lclr2, e_lput0, e_lput1, e_lput2, e_wInc, e_wInc0, Nat.reduceLT, not_false_eq_true, Bool.or_false, Bool.false_or, Bool.or_true, Bool.true_or, Bool.and_false, Bool.false_and, Bool.and_true, Bool.true_and, e_wDup2, e_rv, e_wI2, e_wIf_eq, e_wIf_ne, e_wIc_ge, bp_40, fX9_15, fX9_18, fX9_21, fX9_41, fX9_83, fX9_9, ic_0, ic_1, jt_41_50, jt_52_39, jt_88_m51, jt_8_4, e_call, e_callS0, e_callS1, e_callS2, e_callS3, e_callS4, e_pop0, e_pop1, e_tl0, e_tl1, tbX9_addSlip_f, tbX9_addSlip_p, tbX9_addSlip_k, tbX9_addSlip_c61, l_213, s_213, g_211_2, g_211_5, l_215, s_215, l_212, s_212, g_211_4, g_208_1, g_211_6, g_211_3, l_214, s_214, l_210, s_210, cv_208_0, cv_208_1, cv_208_2, cv_208_3, cv_208_4, spX6_has, bi_0, bi_1, ne_eq, Classical.not_not, em_r, em_l]
  simp (disch := omega) only [stC_f, stC_4, stC_5, wI_id]
  repeat' (with_reducible first | intro _ | refine And.intro ?_ ?_)
  all_goals first
    | omega
    | (rw [show n = 0 from by omega] at h1; exact h1)
    | (rw [adU_f (by unfold hasT; omega)] at h1; exact h1)
    | (obtain ⟨m, rfl⟩ : ∃ m, n = m + 1 := ⟨n - 1, by omega⟩
       rw [adU_t (by unfold hasT; omega)] at h1
       simp (disch := omega) only [up_obj, stC_f, stC_4, stC_5, upI_C]
       exact ih m (by omega) S _ t x _ (r + 1) (by omega) h1)
theorem up_f {S : aS} {i j n : Nat} {v : Int} (h : ¬ n = i) : (upI S i j v).1 n = S.1 n := funext fun m => up_obj h
set_option maxRecDepth 20000 in
set_option maxHeartbeats 4000000 in
theorem okX9_addSlip (l : Launch) : aOK l mX9_addSlip spX9_addSlip := by
  refine aOK_of rfl fun as S Q h => ?_
  unfold spX9_addSlip at h
  split at h
  · rename_i t x
    refine ⟨Nat.le_of_ble_eq_true rfl, wp_ok (tbX9_addSlip_ok l) Q (fun pc => pc == 37) 61 0 _ [] S ?_⟩
    show wp cX9_addSlip tbX9_addSlip 5 none Q (fun pc => pc == 37) (aGo l mX9_addSlip Q) 61 0 [(0, .inr (.inr 211)), (1, .inl t), (2, .inl x)] [] S
    simp only [wp_s, wpC_f, wpC_t, e_wLd, e_wLd0, e_wLd1, e_wLd2, e_get1, e_get2, e_wJ, e_wJo, f40, f41, f42, f43, Nat.reduceAdd, Nat.reduceBEq, Nat.reduceMul, eq_self, true_or, or_true, true_and, dX9_addSlip_0, dX9_addSlip_1, dX9_addSlip_4, dX9_addSlip_5, dX9_addSlip_8, dX9_addSlip_11, dX9_addSlip_12, dX9_addSlip_13, dX9_addSlip_16, dX9_addSlip_17, dX9_addSlip_18, dX9_addSlip_19, dX9_addSlip_20, dX9_addSlip_21, dX9_addSlip_22, dX9_addSlip_23, dX9_addSlip_26, dX9_addSlip_27, dX9_addSlip_28, dX9_addSlip_29, dX9_addSlip_30, dX9_addSlip_31, dX9_addSlip_32, dX9_addSlip_33, dX9_addSlip_34, dX9_addSlip_35, dX9_addSlip_37, dX9_addSlip_39, dX9_addSlip_41, dX9_addSlip_44, dX9_addSlip_45, dX9_addSlip_48, dX9_addSlip_49, dX9_addSlip_52, dX9_addSlip_55, dX9_addSlip_56, dX9_addSlip_59, dX9_addSlip_60, dX9_addSlip_61, dX9_addSlip_62, dX9_addSlip_63, dX9_addSlip_64, dX9_addSlip_65, dX9_addSlip_66, dX9_addSlip_69, dX9_addSlip_70, dX9_addSlip_71, dX9_addSlip_72, dX9_addSlip_73, dX9_addSlip_74, dX9_addSlip_75, dX9_addSlip_76, dX9_addSlip_79, dX9_addSlip_82, dX9_addSlip_83, dX9_addSlip_84, dX9_addSlip_85, dX9_addSlip_88, dX9_addSlip_91, e_aload_n, e_iload_n, e_iload, e_istore_n, e_istore, e_iconst, e_bipush, e_iadd, e_ior, e_dup2, e_iinc, e_ifCond, e_if_icmp, e_goto, e_getfield, e_iaload, e_iastore, e_invokevirtual, e_return_, e_wSt0, e_wSt1, e_wSt2, e_isL0, e_isL1, e_isL2, e_lset, e_lclr0, e_lclr1, e_lclr2, e_lput0, e_lput1, e_lput2, e_wInc, e_wInc0, Nat.reduceLT, not_false_eq_true, Bool.or_false, Bool.false_or, Bool.or_true, Bool.true_or, Bool.and_false, Bool.false_and, Bool.and_true, Bool.true_and, e_wDup2, e_rv, e_wI2, e_wIf_eq, e_wIf_ne, e_wIc_ge, bp_40, fX9_15, fX9_18, fX9_21, fX9_41, fX9_83, fX9_9, ic_0, ic_1, jt_41_50, jt_52_39, jt_88_m51, jt_8_4, e_call, e_callS0, e_callS1, e_callS2, e_callS3, e_callS4, e_pop0, e_pop1, e_tl0, e_tl1, tbX9_addSlip_f, tbX9_addSlip_p, tbX9_addSlip_k, tbX9_addSlip_c61, l_213, s_213, g_211_2, g_211_5, l_215, s_215, l_212, s_212, g_211_4, g_208_1, g_211_6, g_211_3, l_214, s_214, l_210, s_210, cv_208_0, cv_208_1, cv_208_2, cv_208_3, cv_208_4, spX6_has, bi_0, bi_1, ne_eq, Classical.not_not, em_r, em_l]
    unfold asl at h
    refine ⟨fun q => ?_, fun q => ?_⟩
    · refine ⟨by omega, by omega, by omega, by omega, by omega, by omega, by omega, by omega, ?_⟩
      rw [if_pos (show hasT (S.1 209) t from q)] at h
      simp (disch := omega) only [up_obj]
      have e := lpX9_addSlip l Q 40 (upI (upI S 212 t.toNat (wI (S.1 212 t.toNat + 1))) 213 t.toNat (bOr (S.1 213 t.toNat) x)) (S.1 214, S.1 215) t x t 0 (by omega) (by simp (disch := omega) only [up_f]; exact h)
      have z := stC_self (S := (upI (upI S 212 t.toNat (wI (S.1 212 t.toNat + 1))) 213 t.toNat (bOr (S.1 213 t.toNat) x)))
      simp (disch := omega) only [up_f] at z
      rw [z] at e
      exact e
    · rw [if_neg (by unfold hasT; omega)] at h; exact h
  · exact h.elim
theorem asl_f {S : aS} {t x : Int} {i : Nat} (h1 : ¬ i = 212) (h2 : ¬ i = 213) (h3 : ¬ i = 214) (h4 : ¬ i = 215) : (asl S t x).1 i = S.1 i := by
  unfold asl
  by_cases h : hasT (S.1 209) t
  · rw [if_pos h, stC_f h3 h4, up_f h2, up_f h1]
  · rw [if_neg h]
noncomputable def gS : Nat → Nat → aS → aS
  | 0, _, S => S
  | n + 1, i, S => gS n (i + 1) (asl S (S.1 84 i) (bShl 1 (S.1 82 i)))
def gZ (S : aS) : aS := stA (stA (stA (stA S 212 (fun j => if j < 40 then 0 else S.1 212 j)) 213 (fun j => if j < 40 then 0 else S.1 213 j)) 214 (fun j => if j < 40 then 0 else S.1 214 j)) 215 (fun j => if j < 40 then 0 else S.1 215 j)
noncomputable def gF (S : aS) : aS := stA (stA S 216 (fun j => @ite _ (j < 40 ∧ hasT (S.1 209) (j : Int)) (Classical.propDecidable _) (mn (S.1 6) (fun k => inS k (S.1 215 j)) (S.1 3 7).toNat) (S.1 216 j))) 217 (fun j => @ite _ (j < 40 ∧ hasT (S.1 209) (j : Int)) (Classical.propDecidable _) (mn (S.1 7) (fun k => inS k (S.1 215 j)) (S.1 3 7).toNat) (S.1 217 j))
noncomputable def gP (S : aS) : aS := stA S 218 (fun j => @ite _ (j < 40 ∧ hasT (S.1 209) (j : Int)) (Classical.propDecidable _) (cnt (fun m => cb (bsd S m j ∧ ahd S m j)) 40 + 1) (S.1 218 j))
/-- all that is gathered -/
noncomputable def gaT (S : aS) : aS := gP (gF (gS (S.1 81 4).toNat 0 (gZ S)))
def spX9_gather : aSp := fun as S Q => match as with
  | [.inr (.inr 211)] => 0 ≤ S.1 81 4 ∧ S.1 81 4 ≤ 120 ∧ 0 ≤ S.1 3 7 ∧ S.1 3 7 ≤ 30 ∧ Q none (gaT S)
  | _ => False
def tbX9_gather : aTb := (fX9, pX9, fun j => lk [(57, (some 9), 3, spX9_addSlip), (61, (some 6), 2, spX6_has), (72, (some 0), 3, spX0_least), (79, (some 9), 2, spX9_placeOf)] j, kX9)
theorem tbX9_gather_f : tbX9_gather.1 = fX9 := rfl
theorem tbX9_gather_p : tbX9_gather.2.1 = pX9 := rfl
theorem tbX9_gather_k : tbX9_gather.2.2.2 = kX9 := rfl
theorem tbX9_gather_c57 : tbX9_gather.2.2.1 57 = some ((some 9), 3, spX9_addSlip) := rfl
theorem tbX9_gather_c61 : tbX9_gather.2.2.1 61 = some ((some 6), 2, spX6_has) := rfl
theorem tbX9_gather_c72 : tbX9_gather.2.2.1 72 = some ((some 0), 3, spX0_least) := rfl
theorem tbX9_gather_c79 : tbX9_gather.2.2.1 79 = some ((some 9), 2, spX9_placeOf) := rfl
theorem tbX9_gather_all (l : Launch) : ∀ e ∈ ([(57, (some 9), 3, spX9_addSlip), (61, (some 6), 2, spX6_has), (72, (some 0), 3, spX0_least), (79, (some 9), 2, spX9_placeOf)] : List (Nat × Option Nat × Nat × aSp)), cOK l mX9_gather e.1 e.2.1 e.2.2.1 e.2.2.2 ∨ mOK mX9_gather e.1 e.2.1 e.2.2.1 e.2.2.2 := all_cons (cOK_of (okX9_addSlip l) meX9_addSlip cfX9_57 (by decide) (by decide)) (all_cons (cOK_of (okX6_has l) meX6_has cfX9_61 (by decide) (by decide)) (all_cons (cOK_of (okX0_least l) meX0_least cfX9_72 (by decide) (by decide)) (all_cons (cOK_of (okX9_placeOf l) meX9_placeOf cfX9_79 (by decide) (by decide)) (all_nil))))
theorem tbX9_gather_ok (l : Launch) : tOK l mX9_gather tbX9_gather := ⟨fX9_ok, pX9_ok, fun _ _ _ _ h => tbX9_gather_all l _ (lk_mem h), kX9_ok⟩
set_option maxRecDepth 20000 in
set_option maxHeartbeats 4000000 in
theorem lpGZ (l : Launch) (Q : Option aV → aS → Prop) : ∀ (n : Nat) (S : aS) (i : Nat), i + n = 40 → (∀ V : aS, V = stA (stA (stA (stA S 212 (fun j => if i ≤ j ∧ j < 40 then 0 else S.1 212 j)) 213 (fun j => if i ≤ j ∧ j < 40 then 0 else S.1 213 j)) 214 (fun j => if i ≤ j ∧ j < 40 then 0 else S.1 214 j)) 215 (fun j => if i ≤ j ∧ j < 40 then 0 else S.1 215 j) → aGo l mX9_gather Q 44 [(0, .inr (.inr 211)), (1, .inl 0)] [] V) → aGo l mX9_gather Q 2 [(0, .inr (.inr 211)), (1, .inl (i : Int))] [] S := by
  intro n
  induction n using Nat.strongRecOn with
  | _ n ih =>
  intro S  i  h0 h1
  refine wp_go (tbX9_gather_ok l) (fun pc => pc == 2 || pc == 44 || pc == 87 || pc == 164) 112 dX9_gather_2 ?_
  show ws1 tbX9_gather 2 none Q (wp cX9_gather tbX9_gather 2 none Q (fun pc => pc == 2 || pc == 44 || pc == 87 || pc == 164) (aGo l mX9_gather Q) 112) (.iload_n 1) 1 2 [(0, .inr (.inr 211)), (1, .inl (i : Int))] [] S
  simp only [wp_s, wpC_f, wpC_t, e_wLd, e_wLd0, e_wLd1, e_wLd2, e_get1, e_get2, e_wJ, e_wJo, f40, f41, f42, f43, Nat.reduceAdd, Nat.reduceBEq, Nat.reduceMul, eq_self, true_or, or_true, true_and, dX9_gather_0, dX9_gather_1, dX9_gather_2, dX9_gather_3, dX9_gather_5, dX9_gather_8, dX9_gather_9, dX9_gather_12, dX9_gather_13, dX9_gather_14, dX9_gather_15, dX9_gather_16, dX9_gather_19, dX9_gather_20, dX9_gather_21, dX9_gather_22, dX9_gather_23, dX9_gather_26, dX9_gather_27, dX9_gather_28, dX9_gather_29, dX9_gather_30, dX9_gather_33, dX9_gather_34, dX9_gather_35, dX9_gather_36, dX9_gather_39, dX9_gather_42, dX9_gather_43, dX9_gather_44, dX9_gather_45, dX9_gather_46, dX9_gather_49, dX9_gather_52, dX9_gather_55, dX9_gather_56, dX9_gather_57, dX9_gather_60, dX9_gather_63, dX9_gather_64, dX9_gather_65, dX9_gather_66, dX9_gather_67, dX9_gather_70, dX9_gather_73, dX9_gather_74, dX9_gather_75, dX9_gather_76, dX9_gather_79, dX9_gather_82, dX9_gather_85, dX9_gather_86, dX9_gather_87, dX9_gather_88, dX9_gather_90, dX9_gather_93, dX9_gather_94, dX9_gather_97, dX9_gather_98, dX9_gather_101, dX9_gather_104, dX9_gather_105, dX9_gather_108, dX9_gather_109, dX9_gather_110, dX9_gather_113, dX9_gather_114, dX9_gather_117, dX9_gather_120, dX9_gather_121, dX9_gather_124, dX9_gather_125, dX9_gather_126, dX9_gather_129, dX9_gather_130, dX9_gather_131, dX9_gather_134, dX9_gather_135, dX9_gather_136, dX9_gather_139, dX9_gather_140, dX9_gather_143, dX9_gather_146, dX9_gather_147, dX9_gather_150, dX9_gather_151, dX9_gather_152, dX9_gather_155, dX9_gather_156, dX9_gather_159, dX9_gather_162, dX9_gather_163, dX9_gather_164, dX9_gather_165, dX9_gather_167, dX9_gather_170, dX9_gather_171, dX9_gather_174, dX9_gather_175, dX9_gather_178, dX9_gather_181, dX9_gather_182, dX9_gather_185, dX9_gather_186, dX9_gather_187, dX9_gather_188, dX9_gather_191, dX9_gather_192, dX9_gather_195, dX9_gather_198, e_aload_n, e_iload_n, e_istore_n, e_iconst, e_bipush, e_ishl, e_iinc, e_ifCond, e_if_icmp, e_goto, e_getfield, e_iaload, e_iastore, e_invokevirtual, e_return_, e_wSt0, e_wSt1, e_wSt2, e_isL0, e_isL1, e_isL2, e_lset, e_lclr0, e_lclr1, e_lclr2, e_lput0, e_lput1, e_lput2, e_wInc, e_wInc0, Nat.reduceLT, not_false_eq_true, Bool.or_false, Bool.false_or, Bool.or_true, Bool.true_or, Bool.and_false, Bool.false_and, Bool.and_true, Bool.true_and, e_wI2, e_rv, e_wIf_eq, e_wIc_ge, bp_40, fX9_15, fX9_18, fX9_21, fX9_24, fX9_27, fX9_30, fX9_33, fX9_37, fX9_41, fX9_45, fX9_51, fX9_54, fX9_67, fX9_76, fX9_9, ic_0, ic_1, jt_101_55, jt_159_m72, jt_167_31, jt_178_14, jt_195_m31, jt_39_m37, jt_52_33, jt_5_37, jt_82_m38, jt_90_72, e_call, e_callS0, e_callS1, e_callS2, e_callS3, e_callS4, e_pop0, e_pop1, e_tl0, e_tl1, tbX9_gather_f, tbX9_gather_p, tbX9_gather_k, tbX9_gather_c57, tbX9_gather_c61, tbX9_gather_c72, tbX9_gather_c79, g_3_2, l_6, s_6, l_82, s_82, g_211_3, cv_211_0, cv_211_1, cv_211_2, cv_211_3, cv_211_4, g_211_0, g_211_6, g_81_0, cv_208_0, cv_208_1, cv_208_2, cv_208_3, cv_208_4, g_211_9, l_213, s_213, l_216, s_216, cv_3_0, cv_3_1, cv_3_2, cv_3_3, cv_3_4, g_211_2, g_81_2, l_84, s_84, g_211_8, g_211_5, l_215, s_215, l_212, s_212, l_218, s_218, g_3_3, l_7, s_7, g_211_1, g_211_4, g_81_4, g_211_7, l_217, s_217, l_214, s_214]
  repeat' (with_reducible first | intro _ | refine And.intro ?_ ?_)
  all_goals (try simp (disch := omega) only [wI_id, up_hit, up_obj, upL_hit, upL_obj, up_2, upL_1, Int.toNat_natCast])
  all_goals first
    | omega
    | (refine h1 _ ?_; (refine st_ext (fun x y => ?_) (fun x y => ?_) <;> (try simp only [stA, upI, upL, up2]) <;> (repeat' split) <;> first | rfl | omega | (simp_all; done) | (simp_all; omega) | (have hq : y = i := (by omega); subst hq; first | rfl | omega | (simp_all; done) | (simp_all; omega)) | (congr 2 <;> omega) | (congr 3 <;> omega)); done)
    | (refine ih (n - 1) (by omega) _ (i + 1) (by omega) (fun V hV => h1 V ?_); rw [hV]; (refine st_ext (fun x y => ?_) (fun x y => ?_) <;> (try simp only [stA, upI, upL, up2]) <;> (repeat' split) <;> first | rfl | omega | (simp_all; done) | (simp_all; omega) | (have hq : y = i := (by omega); subst hq; first | rfl | omega | (simp_all; done) | (simp_all; omega)) | (congr 2 <;> omega) | (congr 3 <;> omega)))
    | skip
set_option maxRecDepth 20000 in
set_option maxHeartbeats 4000000 in
theorem lpGS (l : Launch) (Q : Option aV → aS → Prop) : ∀ (n : Nat) (S : aS) (i : Nat), i + n = (S.1 81 4).toNat → S.1 81 4 ≤ 120 → aGo l mX9_gather Q 87 [(0, .inr (.inr 211)), (1, .inl 0)] [] (gS n i S) → aGo l mX9_gather Q 44 [(0, .inr (.inr 211)), (1, .inl (i : Int))] [] S := by
  intro n
  induction n using Nat.strongRecOn with
  | _ n ih =>
  intro S  i  h0 h1 h2
  refine wp_go (tbX9_gather_ok l) (fun pc => pc == 2 || pc == 44 || pc == 87 || pc == 164) 112 dX9_gather_44 ?_
  show ws1 tbX9_gather 2 none Q (wp cX9_gather tbX9_gather 2 none Q (fun pc => pc == 2 || pc == 44 || pc == 87 || pc == 164) (aGo l mX9_gather Q) 112) (.iload_n 1) 1 44 [(0, .inr (.inr 211)), (1, .inl (i : Int))] [] S
  simp only [wp_s, wpC_f, wpC_t, e_wLd, e_wLd0, e_wLd1, e_wLd2, e_get1, e_get2, e_wJ, e_wJo, f40, f41, f42, f43, Nat.reduceAdd, Nat.reduceBEq, Nat.reduceMul, eq_self, true_or, or_true, true_and, dX9_gather_0, dX9_gather_1, dX9_gather_2, dX9_gather_3, dX9_gather_5, dX9_gather_8, dX9_gather_9, dX9_gather_12, dX9_gather_13, dX9_gather_14, dX9_gather_15, dX9_gather_16, dX9_gather_19, dX9_gather_20, dX9_gather_21, dX9_gather_22, dX9_gather_23, dX9_gather_26, dX9_gather_27, dX9_gather_28, dX9_gather_29, dX9_gather_30, dX9_gather_33, dX9_gather_34, dX9_gather_35, dX9_gather_36, dX9_gather_39, dX9_gather_42, dX9_gather_43, dX9_gather_44, dX9_gather_45, dX9_gather_46, dX9_gather_49, dX9_gather_52, dX9_gather_55, dX9_gather_56, dX9_gather_57, dX9_gather_60, dX9_gather_63, dX9_gather_64, dX9_gather_65, dX9_gather_66, dX9_gather_67, dX9_gather_70, dX9_gather_73, dX9_gather_74, dX9_gather_75, dX9_gather_76, dX9_gather_79, dX9_gather_82, dX9_gather_85, dX9_gather_86, dX9_gather_87, dX9_gather_88, dX9_gather_90, dX9_gather_93, dX9_gather_94, dX9_gather_97, dX9_gather_98, dX9_gather_101, dX9_gather_104, dX9_gather_105, dX9_gather_108, dX9_gather_109, dX9_gather_110, dX9_gather_113, dX9_gather_114, dX9_gather_117, dX9_gather_120, dX9_gather_121, dX9_gather_124, dX9_gather_125, dX9_gather_126, dX9_gather_129, dX9_gather_130, dX9_gather_131, dX9_gather_134, dX9_gather_135, dX9_gather_136, dX9_gather_139, dX9_gather_140, dX9_gather_143, dX9_gather_146, dX9_gather_147, dX9_gather_150, dX9_gather_151, dX9_gather_152, dX9_gather_155, dX9_gather_156, dX9_gather_159, dX9_gather_162, dX9_gather_163, dX9_gather_164, dX9_gather_165, dX9_gather_167, dX9_gather_170, dX9_gather_171, dX9_gather_174, dX9_gather_175, dX9_gather_178, dX9_gather_181, dX9_gather_182, dX9_gather_185, dX9_gather_186, dX9_gather_187, dX9_gather_188, dX9_gather_191, dX9_gather_192, dX9_gather_195, dX9_gather_198, e_aload_n, e_iload_n, e_istore_n, e_iconst, e_bipush, e_ishl, e_iinc, e_ifCond, e_if_icmp, e_goto, e_getfield, e_iaload, e_iastore, e_invokevirtual, e_return_, e_wSt0, e_wSt1, e_wSt2, e_isL0, e_isL1, e_isL2, e_lset, e_lclr0, e_lclr1, e_lclr2, e_lput0, e_lput1, e_lput2, e_wInc, e_wInc0, Nat.reduceLT, not_false_eq_true, Bool.or_false, Bool.false_or, Bool.or_true, Bool.true_or, Bool.and_false, Bool.false_and, Bool.and_true, Bool.true_and, e_wI2, e_rv, e_wIf_eq, e_wIc_ge, bp_40, fX9_15, fX9_18, fX9_21, fX9_24, fX9_27, fX9_30, fX9_33, fX9_37, fX9_41, fX9_45, fX9_51, fX9_54, fX9_67, fX9_76, fX9_9, ic_0, ic_1, jt_101_55, jt_159_m72, jt_167_31, jt_178_14, jt_195_m31, jt_39_m37, jt_52_33, jt_5_37, jt_82_m38, jt_90_72, e_call, e_callS0, e_callS1, e_callS2, e_callS3, e_callS4, e_pop0, e_pop1, e_tl0, e_tl1, tbX9_gather_f, tbX9_gather_p, tbX9_gather_k, tbX9_gather_c57, tbX9_gather_c61, tbX9_gather_c72, tbX9_gather_c79, g_3_2, l_6, s_6, l_82, s_82, g_211_3, cv_211_0, cv_211_1, cv_211_2, cv_211_3, cv_211_4, g_211_0, g_211_6, g_81_0, cv_208_0, cv_208_1, cv_208_2, cv_208_3, cv_208_4, g_211_9, l_213, s_213, l_216, s_216, cv_3_0, cv_3_1, cv_3_2, cv_3_3, cv_3_4, g_211_2, g_81_2, l_84, s_84, g_211_8, g_211_5, l_215, s_215, l_212, s_212, l_218, s_218, g_3_3, l_7, s_7, g_211_1, g_211_4, g_81_4, g_211_7, l_217, s_217, l_214, s_214, spX9_addSlip]
  repeat' (with_reducible first | intro _ | refine And.intro ?_ ?_)
  all_goals (try simp (disch := omega) only [wI_id, Int.toNat_natCast])
  all_goals first
    | omega
    | (rw [show n = 0 from by omega] at h2; exact h2)
    | (obtain ⟨m, rfl⟩ : ∃ m, n = m + 1 := ⟨n - 1, by omega⟩
       exact ih m (by omega) _ (i + 1) (by rw [asl_f (by decide) (by decide) (by decide) (by decide)]; omega) (by rw [asl_f (by decide) (by decide) (by decide) (by decide)]; exact h1) h2)
    | skip
/-- places from i on (below 40) that have P get the value g -/
noncomputable def iF (i : Nat) (P : Nat → Prop) (g f : Nat → Int) : Nat → Int := fun j => @ite _ (i ≤ j ∧ j < 40 ∧ P j) (Classical.propDecidable _) (g j) (f j)
theorem iF_end {i : Nat} {P : Nat → Prop} {g f : Nat → Int} (h : 40 ≤ i) : iF i P g f = f := by
  funext j; exact if_neg (by omega)
theorem iF_no {i : Nat} {P : Nat → Prop} {g f : Nat → Int} (h : ¬ P i) : iF (i + 1) P g f = iF i P g f := by
  funext j
  unfold iF
  by_cases hj : j = i
  · subst hj; rw [if_neg (by omega), if_neg (fun z => h z.2.2)]
  · by_cases hc : i ≤ j ∧ j < 40 ∧ P j
    · rw [if_pos hc, if_pos ⟨by omega, hc.2⟩]
    · rw [if_neg hc, if_neg (fun z => hc ⟨by omega, z.2⟩)]
theorem iF_yes {i : Nat} {P : Nat → Prop} {g f : Nat → Int} (h : P i) (hi : i < 40) : iF (i + 1) P g (fu f i (g i)) = iF i P g f := by
  funext j
  unfold iF fu
  by_cases hj : j = i
  · subst hj; rw [if_neg (by omega), if_pos rfl, if_pos ⟨by omega, hi, h⟩]
  · rw [if_neg hj]
    by_cases hc : i ≤ j ∧ j < 40 ∧ P j
    · rw [if_pos hc, if_pos ⟨by omega, hc.2⟩]
    · rw [if_neg hc, if_neg (fun z => hc ⟨by omega, z.2⟩)]
theorem iF_0 {P : Nat → Prop} {g f : Nat → Int} : iF 0 P g f = fun j => @ite _ (j < 40 ∧ P j) (Classical.propDecidable _) (g j) (f j) := by
  funext j
  unfold iF
  by_cases hc : j < 40 ∧ P j
  · rw [if_pos hc, if_pos ⟨Nat.zero_le _, hc⟩]
  · rw [if_neg hc, if_neg (fun z => hc z.2)]
theorem up_fu {S : aS} {i j : Nat} {v : Int} : (upI S i j v).1 i = fu (S.1 i) j v := by
  funext m; simp [upI, up2, fu]
theorem stA_up {S : aS} {i j : Nat} {v : Int} {f : Nat → Int} : stA (upI S i j v) i f = stA S i f := by
  refine st_ext (fun a b => ?_) (fun _ _ => rfl)
  simp only [stA, upI, up2]
  by_cases h : a = i <;> simp [h]
theorem stA_upc {S : aS} {i j k : Nat} {v : Int} {f : Nat → Int} (h : ¬ k = i) : stA (upI S i j v) k f = upI (stA S k f) i j v := by
  refine st_ext (fun a b => ?_) (fun _ _ => rfl)
  simp only [stA, upI, up2]
  by_cases h1 : a = k
  · subst h1; rw [if_pos rfl, if_neg (fun z => h z.1), if_pos rfl]
  · rw [if_neg h1, if_neg h1]
theorem stA_self {S : aS} {i : Nat} : stA S i (S.1 i) = S := by
  refine st_ext (fun a b => ?_) (fun _ _ => rfl)
  simp only [stA]
  split
  · rename_i h; rw [h]
  · rfl
set_option maxRecDepth 20000 in
set_option maxHeartbeats 4000000 in
theorem lpGF (l : Launch) (Q : Option aV → aS → Prop) : ∀ (n : Nat) (S : aS) (i : Nat), i + n = 40 → (0 ≤ S.1 3 7 ∧ S.1 3 7 ≤ 30) → (∀ V : aS, V = stA (stA S 216 (iF i (fun j => hasT (S.1 209) (j : Int)) (fun j => mn (S.1 6) (fun k => inS k (S.1 215 j)) (S.1 3 7).toNat) (S.1 216))) 217 (iF i (fun j => hasT (S.1 209) (j : Int)) (fun j => mn (S.1 7) (fun k => inS k (S.1 215 j)) (S.1 3 7).toNat) (S.1 217)) → aGo l mX9_gather Q 164 [(0, .inr (.inr 211)), (1, .inl 0)] [] V) → aGo l mX9_gather Q 87 [(0, .inr (.inr 211)), (1, .inl (i : Int))] [] S := by
  intro n
  induction n using Nat.strongRecOn with
  | _ n ih =>
  intro S  i  h0 h1 h2
  refine wp_go (tbX9_gather_ok l) (fun pc => pc == 2 || pc == 44 || pc == 87 || pc == 164) 112 dX9_gather_87 ?_
  show ws1 tbX9_gather 2 none Q (wp cX9_gather tbX9_gather 2 none Q (fun pc => pc == 2 || pc == 44 || pc == 87 || pc == 164) (aGo l mX9_gather Q) 112) (.iload_n 1) 1 87 [(0, .inr (.inr 211)), (1, .inl (i : Int))] [] S
  simp only [wp_s, wpC_f, wpC_t, e_wLd, e_wLd0, e_wLd1, e_wLd2, e_get1, e_get2, e_wJ, e_wJo, f40, f41, f42, f43, Nat.reduceAdd, Nat.reduceBEq, Nat.reduceMul, eq_self, true_or, or_true, true_and, dX9_gather_0, dX9_gather_1, dX9_gather_2, dX9_gather_3, dX9_gather_5, dX9_gather_8, dX9_gather_9, dX9_gather_12, dX9_gather_13, dX9_gather_14, dX9_gather_15, dX9_gather_16, dX9_gather_19, dX9_gather_20, dX9_gather_21, dX9_gather_22, dX9_gather_23, dX9_gather_26, dX9_gather_27, dX9_gather_28, dX9_gather_29, dX9_gather_30, dX9_gather_33, dX9_gather_34, dX9_gather_35, dX9_gather_36, dX9_gather_39, dX9_gather_42, dX9_gather_43, dX9_gather_44, dX9_gather_45, dX9_gather_46, dX9_gather_49, dX9_gather_52, dX9_gather_55, dX9_gather_56, dX9_gather_57, dX9_gather_60, dX9_gather_63, dX9_gather_64, dX9_gather_65, dX9_gather_66, dX9_gather_67, dX9_gather_70, dX9_gather_73, dX9_gather_74, dX9_gather_75, dX9_gather_76, dX9_gather_79, dX9_gather_82, dX9_gather_85, dX9_gather_86, dX9_gather_87, dX9_gather_88, dX9_gather_90, dX9_gather_93, dX9_gather_94, dX9_gather_97, dX9_gather_98, dX9_gather_101, dX9_gather_104, dX9_gather_105, dX9_gather_108, dX9_gather_109, dX9_gather_110, dX9_gather_113, dX9_gather_114, dX9_gather_117, dX9_gather_120, dX9_gather_121, dX9_gather_124, dX9_gather_125, dX9_gather_126, dX9_gather_129, dX9_gather_130, dX9_gather_131, dX9_gather_134, dX9_gather_135, dX9_gather_136, dX9_gather_139, dX9_gather_140, dX9_gather_143, dX9_gather_146, dX9_gather_147, dX9_gather_150, dX9_gather_151, dX9_gather_152, dX9_gather_155, dX9_gather_156, dX9_gather_159, dX9_gather_162, dX9_gather_163, dX9_gather_164, dX9_gather_165, dX9_gather_167, dX9_gather_170, dX9_gather_171, dX9_gather_174, dX9_gather_175, dX9_gather_178, dX9_gather_181, dX9_gather_182, dX9_gather_185, dX9_gather_186, dX9_gather_187, dX9_gather_188, dX9_gather_191, dX9_gather_192, dX9_gather_195, dX9_gather_198, e_aload_n, e_iload_n, e_istore_n, e_iconst, e_bipush, e_ishl, e_iinc, e_ifCond, e_if_icmp, e_goto, e_getfield, e_iaload, e_iastore, e_invokevirtual, e_return_, e_wSt0, e_wSt1, e_wSt2, e_isL0, e_isL1, e_isL2, e_lset, e_lclr0, e_lclr1, e_lclr2, e_lput0, e_lput1, e_lput2, e_wInc, e_wInc0, Nat.reduceLT, not_false_eq_true, Bool.or_false, Bool.false_or, Bool.or_true, Bool.true_or, Bool.and_false, Bool.false_and, Bool.and_true, Bool.true_and, e_wI2, e_rv, e_wIf_eq, e_wIc_ge, bp_40, fX9_15, fX9_18, fX9_21, fX9_24, fX9_27, fX9_30, fX9_33, fX9_37, fX9_41, fX9_45, fX9_51, fX9_54, fX9_67, fX9_76, fX9_9, ic_0, ic_1, jt_101_55, jt_159_m72, jt_167_31, jt_178_14, jt_195_m31, jt_39_m37, jt_52_33, jt_5_37, jt_82_m38, jt_90_72, e_call, e_callS0, e_callS1, e_callS2, e_callS3, e_callS4, e_pop0, e_pop1, e_tl0, e_tl1, tbX9_gather_f, tbX9_gather_p, tbX9_gather_k, tbX9_gather_c57, tbX9_gather_c61, tbX9_gather_c72, tbX9_gather_c79, g_3_2, l_6, s_6, l_82, s_82, g_211_3, cv_211_0, cv_211_1, cv_211_2, cv_211_3, cv_211_4, g_211_0, g_211_6, g_81_0, cv_208_0, cv_208_1, cv_208_2, cv_208_3, cv_208_4, g_211_9, l_213, s_213, l_216, s_216, cv_3_0, cv_3_1, cv_3_2, cv_3_3, cv_3_4, g_211_2, g_81_2, l_84, s_84, g_211_8, g_211_5, l_215, s_215, l_212, s_212, l_218, s_218, g_3_3, l_7, s_7, g_211_1, g_211_4, g_81_4, g_211_7, l_217, s_217, l_214, s_214, spX6_has, spX0_least, bi_0, bi_1, ne_eq, Classical.not_not, em_r, em_l]
  repeat' (with_reducible first | intro _ | refine And.intro ?_ ?_)
  all_goals (try simp (disch := omega) only [wI_id, up_obj, up_f, Int.toNat_natCast] at *)
  all_goals first
    | omega
    | (refine h2 _ ?_
       rw [iF_end (by omega), iF_end (by omega), stA_self, stA_self])
    | (refine ih (n - 1) (by omega) S (i + 1) (by omega) h1 (fun V hV => h2 V ?_)
       rw [hV, iF_no (by unfold hasT; simp only [Int.toNat_natCast]; omega), iF_no (by unfold hasT; simp only [Int.toNat_natCast]; omega)])
    | (have hi : hasT (S.1 209) (i : Int) := by unfold hasT; simp only [Int.toNat_natCast]; omega
       refine ih (n - 1) (by omega) _ (i + 1) (by omega) (by simp (disch := omega) only [up_obj]; exact h1) (fun V hV => h2 V ?_)
       rw [hV]
       simp (disch := omega) only [up_f, up_obj, up_fu]
       have e1 := iF_yes (i := i) (P := (fun j => hasT (S.1 209) (j : Int))) (g := fun j => mn (S.1 6) (fun k => inS k (S.1 215 j)) (S.1 3 7).toNat) (f := S.1 216) hi (by omega)
       have e2 := iF_yes (i := i) (P := (fun j => hasT (S.1 209) (j : Int))) (g := fun j => mn (S.1 7) (fun k => inS k (S.1 215 j)) (S.1 3 7).toNat) (f := S.1 217) hi (by omega)
       rw [e1, e2, stA_upc (by decide), stA_up, stA_up])
theorem bsd_up {S : aS} {j : Nat} {v : Int} {a b : Int} : bsd (upI S 218 j v) a b = bsd S a b := by
  unfold bsd; simp (disch := omega) only [up_obj]
theorem ahd_up {S : aS} {j : Nat} {v : Int} {a b : Nat} : ahd (upI S 218 j v) a b = ahd S a b := by
  unfold ahd; simp (disch := omega) only [up_obj]
set_option maxRecDepth 20000 in
set_option maxHeartbeats 4000000 in
theorem lpGP (l : Launch) (Q : Option aV → aS → Prop) : ∀ (n : Nat) (S : aS) (i : Nat), i + n = 40 → Q none (stA S 218 (iF i (fun j => hasT (S.1 209) (j : Int)) (fun j => cnt (fun m => cb (bsd S m j ∧ ahd S m j)) 40 + 1) (S.1 218))) → aGo l mX9_gather Q 164 [(0, .inr (.inr 211)), (1, .inl (i : Int))] [] S := by
  intro n
  induction n using Nat.strongRecOn with
  | _ n ih =>
  intro S  i  h0 h1
  refine wp_go (tbX9_gather_ok l) (fun pc => pc == 2 || pc == 44 || pc == 87 || pc == 164) 112 dX9_gather_164 ?_
  show ws1 tbX9_gather 2 none Q (wp cX9_gather tbX9_gather 2 none Q (fun pc => pc == 2 || pc == 44 || pc == 87 || pc == 164) (aGo l mX9_gather Q) 112) (.iload_n 1) 1 164 [(0, .inr (.inr 211)), (1, .inl (i : Int))] [] S
  simp only [wp_s, wpC_f, wpC_t, e_wLd, e_wLd0, e_wLd1, e_wLd2, e_get1, e_get2, e_wJ, e_wJo, f40, f41, f42, f43, Nat.reduceAdd, Nat.reduceBEq, Nat.reduceMul, eq_self, true_or, or_true, true_and, dX9_gather_0, dX9_gather_1, dX9_gather_2, dX9_gather_3, dX9_gather_5, dX9_gather_8, dX9_gather_9, dX9_gather_12, dX9_gather_13, dX9_gather_14, dX9_gather_15, dX9_gather_16, dX9_gather_19, dX9_gather_20, dX9_gather_21, dX9_gather_22, dX9_gather_23, dX9_gather_26, dX9_gather_27, dX9_gather_28, dX9_gather_29, dX9_gather_30, dX9_gather_33, dX9_gather_34, dX9_gather_35, dX9_gather_36, dX9_gather_39, dX9_gather_42, dX9_gather_43, dX9_gather_44, dX9_gather_45, dX9_gather_46, dX9_gather_49, dX9_gather_52, dX9_gather_55, dX9_gather_56, dX9_gather_57, dX9_gather_60, dX9_gather_63, dX9_gather_64, dX9_gather_65, dX9_gather_66, dX9_gather_67, dX9_gather_70, dX9_gather_73, dX9_gather_74, dX9_gather_75, dX9_gather_76, dX9_gather_79, dX9_gather_82, dX9_gather_85, dX9_gather_86, dX9_gather_87, dX9_gather_88, dX9_gather_90, dX9_gather_93, dX9_gather_94, dX9_gather_97, dX9_gather_98, dX9_gather_101, dX9_gather_104, dX9_gather_105, dX9_gather_108, dX9_gather_109, dX9_gather_110, dX9_gather_113, dX9_gather_114, dX9_gather_117, dX9_gather_120, dX9_gather_121, dX9_gather_124, dX9_gather_125, dX9_gather_126, dX9_gather_129, dX9_gather_130, dX9_gather_131, dX9_gather_134, dX9_gather_135, dX9_gather_136, dX9_gather_139, dX9_gather_140, dX9_gather_143, dX9_gather_146, dX9_gather_147, dX9_gather_150, dX9_gather_151, dX9_gather_152, dX9_gather_155, dX9_gather_156, dX9_gather_159, dX9_gather_162, dX9_gather_163, dX9_gather_164, dX9_gather_165, dX9_gather_167, dX9_gather_170, dX9_gather_171, dX9_gather_174, dX9_gather_175, dX9_gather_178, dX9_gather_181, dX9_gather_182, dX9_gather_185, dX9_gather_186, dX9_gather_187, dX9_gather_188, dX9_gather_191, dX9_gather_192, dX9_gather_195, dX9_gather_198, e_aload_n, e_iload_n, e_istore_n, e_iconst, e_bipush, e_ishl, e_iinc, e_ifCond, e_if_icmp, e_goto, e_getfield, e_iaload, e_iastore, e_invokevirtual, e_return_, e_wSt0, e_wSt1, e_wSt2, e_isL0, e_isL1, e_isL2, e_lset, e_lclr0, e_lclr1, e_lclr2, e_lput0, e_lput1, e_lput2, e_wInc, e_wInc0, Nat.reduceLT, not_false_eq_true, Bool.or_false, Bool.false_or, Bool.or_true, Bool.true_or, Bool.and_false, Bool.false_and, Bool.and_true, Bool.true_and, e_wI2, e_rv, e_wIf_eq, e_wIc_ge, bp_40, fX9_15, fX9_18, fX9_21, fX9_24, fX9_27, fX9_30, fX9_33, fX9_37, fX9_41, fX9_45, fX9_51, fX9_54, fX9_67, fX9_76, fX9_9, ic_0, ic_1, jt_101_55, jt_159_m72, jt_167_31, jt_178_14, jt_195_m31, jt_39_m37, jt_52_33, jt_5_37, jt_82_m38, jt_90_72, e_call, e_callS0, e_callS1, e_callS2, e_callS3, e_callS4, e_pop0, e_pop1, e_tl0, e_tl1, tbX9_gather_f, tbX9_gather_p, tbX9_gather_k, tbX9_gather_c57, tbX9_gather_c61, tbX9_gather_c72, tbX9_gather_c79, g_3_2, l_6, s_6, l_82, s_82, g_211_3, cv_211_0, cv_211_1, cv_211_2, cv_211_3, cv_211_4, g_211_0, g_211_6, g_81_0, cv_208_0, cv_208_1, cv_208_2, cv_208_3, cv_208_4, g_211_9, l_213, s_213, l_216, s_216, cv_3_0, cv_3_1, cv_3_2, cv_3_3, cv_3_4, g_211_2, g_81_2, l_84, s_84, g_211_8, g_211_5, l_215, s_215, l_212, s_212, l_218, s_218, g_3_3, l_7, s_7, g_211_1, g_211_4, g_81_4, g_211_7, l_217, s_217, l_214, s_214, spX6_has, spX9_placeOf, bi_0, bi_1, ne_eq, Classical.not_not, em_r, em_l]
  repeat' (with_reducible first | intro _ | refine And.intro ?_ ?_)
  all_goals (try simp (disch := omega) only [wI_id, up_obj, up_f, Int.toNat_natCast] at *)
  all_goals first
    | omega
    | (rw [iF_end (by omega), stA_self] at h1; exact h1)
    | (refine ih (n - 1) (by omega) S (i + 1) (by omega) ?_
       rw [iF_no (by unfold hasT; simp only [Int.toNat_natCast]; omega)]; exact h1)
    | (have hi : hasT (S.1 209) (i : Int) := by unfold hasT; simp only [Int.toNat_natCast]; omega
       refine ih (n - 1) (by omega) _ (i + 1) (by omega) ?_
       simp (disch := omega) only [up_f, up_obj, up_fu, bsd_up, ahd_up]
       have e1 := iF_yes (i := i) (P := (fun j => hasT (S.1 209) (j : Int))) (g := fun j => cnt (fun m => cb (bsd S m j ∧ ahd S m j)) 40 + 1) (f := S.1 218) hi (by omega)
       rw [e1, stA_up]
       exact h1)
set_option maxRecDepth 20000 in
set_option maxHeartbeats 4000000 in
theorem okX9_gather (l : Launch) : aOK l mX9_gather spX9_gather := by
  refine aOK_of rfl fun as S Q h => ?_
  unfold spX9_gather at h
  split at h
  · refine ⟨Nat.le_of_ble_eq_true rfl, wp_ok (tbX9_gather_ok l) Q (fun pc => pc == 2 || pc == 44 || pc == 87 || pc == 164) 112 0 _ [] S ?_⟩
    show wp cX9_gather tbX9_gather 2 none Q (fun pc => pc == 2 || pc == 44 || pc == 87 || pc == 164) (aGo l mX9_gather Q) 112 0 [(0, .inr (.inr 211))] [] S
    simp only [wp_s, wpC_f, wpC_t, e_wLd, e_wLd0, e_wLd1, e_wLd2, e_get1, e_get2, e_wJ, e_wJo, f40, f41, f42, f43, Nat.reduceAdd, Nat.reduceBEq, Nat.reduceMul, eq_self, true_or, or_true, true_and, dX9_gather_0, dX9_gather_1, dX9_gather_2, dX9_gather_3, dX9_gather_5, dX9_gather_8, dX9_gather_9, dX9_gather_12, dX9_gather_13, dX9_gather_14, dX9_gather_15, dX9_gather_16, dX9_gather_19, dX9_gather_20, dX9_gather_21, dX9_gather_22, dX9_gather_23, dX9_gather_26, dX9_gather_27, dX9_gather_28, dX9_gather_29, dX9_gather_30, dX9_gather_33, dX9_gather_34, dX9_gather_35, dX9_gather_36, dX9_gather_39, dX9_gather_42, dX9_gather_43, dX9_gather_44, dX9_gather_45, dX9_gather_46, dX9_gather_49, dX9_gather_52, dX9_gather_55, dX9_gather_56, dX9_gather_57, dX9_gather_60, dX9_gather_63, dX9_gather_64, dX9_gather_65, dX9_gather_66, dX9_gather_67, dX9_gather_70, dX9_gather_73, dX9_gather_74, dX9_gather_75, dX9_gather_76, dX9_gather_79, dX9_gather_82, dX9_gather_85, dX9_gather_86, dX9_gather_87, dX9_gather_88, dX9_gather_90, dX9_gather_93, dX9_gather_94, dX9_gather_97, dX9_gather_98, dX9_gather_101, dX9_gather_104, dX9_gather_105, dX9_gather_108, dX9_gather_109, dX9_gather_110, dX9_gather_113, dX9_gather_114, dX9_gather_117, dX9_gather_120, dX9_gather_121, dX9_gather_124, dX9_gather_125, dX9_gather_126, dX9_gather_129, dX9_gather_130, dX9_gather_131, dX9_gather_134, dX9_gather_135, dX9_gather_136, dX9_gather_139, dX9_gather_140, dX9_gather_143, dX9_gather_146, dX9_gather_147, dX9_gather_150, dX9_gather_151, dX9_gather_152, dX9_gather_155, dX9_gather_156, dX9_gather_159, dX9_gather_162, dX9_gather_163, dX9_gather_164, dX9_gather_165, dX9_gather_167, dX9_gather_170, dX9_gather_171, dX9_gather_174, dX9_gather_175, dX9_gather_178, dX9_gather_181, dX9_gather_182, dX9_gather_185, dX9_gather_186, dX9_gather_187, dX9_gather_188, dX9_gather_191, dX9_gather_192, dX9_gather_195, dX9_gather_198, e_aload_n, e_iload_n, e_istore_n, e_iconst, e_bipush, e_ishl, e_iinc, e_ifCond, e_if_icmp, e_goto, e_getfield, e_iaload, e_iastore, e_invokevirtual, e_return_, e_wSt0, e_wSt1, e_wSt2, e_isL0, e_isL1, e_isL2, e_lset, e_lclr0, e_lclr1, e_lclr2, e_lput0, e_lput1, e_lput2, e_wInc, e_wInc0, Nat.reduceLT, not_false_eq_true, Bool.or_false, Bool.false_or, Bool.or_true, Bool.true_or, Bool.and_false, Bool.false_and, Bool.and_true, Bool.true_and, e_wI2, e_rv, e_wIf_eq, e_wIc_ge, bp_40, fX9_15, fX9_18, fX9_21, fX9_24, fX9_27, fX9_30, fX9_33, fX9_37, fX9_41, fX9_45, fX9_51, fX9_54, fX9_67, fX9_76, fX9_9, ic_0, ic_1, jt_101_55, jt_159_m72, jt_167_31, jt_178_14, jt_195_m31, jt_39_m37, jt_52_33, jt_5_37, jt_82_m38, jt_90_72, e_call, e_callS0, e_callS1, e_callS2, e_callS3, e_callS4, e_pop0, e_pop1, e_tl0, e_tl1, tbX9_gather_f, tbX9_gather_p, tbX9_gather_k, tbX9_gather_c57, tbX9_gather_c61, tbX9_gather_c72, tbX9_gather_c79, g_3_2, l_6, s_6, l_82, s_82, g_211_3, cv_211_0, cv_211_1, cv_211_2, cv_211_3, cv_211_4, g_211_0, g_211_6, g_81_0, cv_208_0, cv_208_1, cv_208_2, cv_208_3, cv_208_4, g_211_9, l_213, s_213, l_216, s_216, cv_3_0, cv_3_1, cv_3_2, cv_3_3, cv_3_4, g_211_2, g_81_2, l_84, s_84, g_211_8, g_211_5, l_215, s_215, l_212, s_212, l_218, s_218, g_3_3, l_7, s_7, g_211_1, g_211_4, g_81_4, g_211_7, l_217, s_217, l_214, s_214]
    obtain ⟨h0, h1, h2, h3, h4⟩ := h
    unfold gaT at h4
    have z81 : (gZ S).1 81 4 = S.1 81 4 := by unfold gZ; simp [stA]
    have z3 : (gZ S).1 3 7 = S.1 3 7 := by unfold gZ; simp [stA]
    refine lpGZ l Q 40 S 0 rfl (fun V hV => ?_)
    have hV' : V = gZ S := by rw [hV]; unfold gZ; simp
    rw [hV']
    have gs3 : ∀ (n i : Nat) (U : aS), (gS n i U).1 3 7 = U.1 3 7 := by
      intro n
      induction n with
      | zero => intro i U; rfl
      | succ n ih => intro i U; show (gS n (i + 1) _).1 3 7 = _; rw [ih, asl_f (by decide) (by decide) (by decide) (by decide)]
    refine lpGS l Q (S.1 81 4).toNat (gZ S) 0 (by rw [z81]; exact Nat.zero_add _) (by rw [z81]; exact h1) ?_
    refine lpGF l Q 40 _ 0 rfl (by rw [gs3, z3]; exact ⟨h2, h3⟩) (fun V hV => ?_)
    rw [iF_0, iF_0] at hV
    rw [hV]
    refine lpGP l Q 40 _ 0 rfl ?_
    rw [iF_0]
    exact h4
  · exact h.elim
