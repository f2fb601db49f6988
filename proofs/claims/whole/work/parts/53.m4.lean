/-! THE REFERENCE: tape and words -/
def wd8 (B : Nat → Int) : Nat → Nat → Int → Int
  | 0, _, w => w
  | n + 1, i, w => if 97 ≤ B i ∧ B i ≤ 122 then wd8 B n (i + 1) (lOr (lShl w 8) (B i)) else 0
def sz8 : Nat → Int → Int
  | 0, _ => 0
  | n + 1, w => if w = 0 then 0 else 1 + sz8 n (w / 256)
theorem sz8_b : ∀ (n : Nat) (w : Int), 0 ≤ sz8 n w ∧ sz8 n w ≤ n
  | 0, _ => by simp [sz8]
  | n + 1, w => by
    have := sz8_b n (w / 256)
    unfold sz8
    by_cases q : w = 0
    · rw [if_pos q]; omega
    · rw [if_neg q]; push_cast; omega
def wrd8 (w : Int) : Prop := 0 ≤ w ∧ w < 9223372036854775808
def ty4 (S : aS) (v : Int) : aS := upI (stA S 246 (fun j => if S.1 245 2 ≤ (j : Int) ∧ (j : Int) < S.1 245 2 + 4 then narB (narB (bShr v (8 * (4 - 1 - ((j : Int) - S.1 245 2))))) else S.1 246 j)) 245 2 (S.1 245 2 + 4)
def spX12_types : aSp := fun as S Q => match as with
  | [.inr (.inr 245), .inl v] => 0 ≤ S.1 245 2 ∧ S.1 245 2 + 4 ≤ 40 ∧ Q none (ty4 S v)
  | _ => False
def tbX12_types : aTb := (fX12, pX12, fun j => lk [] j, kX12)
theorem tbX12_types_f : tbX12_types.1 = fX12 := rfl
theorem tbX12_types_p : tbX12_types.2.1 = pX12 := rfl
theorem tbX12_types_k : tbX12_types.2.2.2 = kX12 := rfl
theorem tbX12_types_all (l : Launch) : ∀ e ∈ ([] : List (Nat × Option Nat × Nat × aSp)), cOK l mX12_types e.1 e.2.1 e.2.2.1 e.2.2.2 ∨ mOK mX12_types e.1 e.2.1 e.2.2.1 e.2.2.2 := all_nil
theorem tbX12_types_ok (l : Launch) : tOK l mX12_types tbX12_types := ⟨fX12_ok, pX12_ok, fun _ _ _ _ h => tbX12_types_all l _ (lk_mem h), kX12_ok⟩
set_option maxRecDepth 20000 in
set_option maxHeartbeats 4000000 in
theorem lpX12_types (l : Launch) (Q : Option aV → aS → Prop) : ∀ (n : Nat) (S : aS) (v : Int) (g : Int → Int), (∀ k : Int, narB (narB (bShr v k)) = g k) → 0 ≤ S.1 245 2 ∧ S.1 245 2 + n ≤ 40 ∧ n ≤ 4 → Q none (upI (stA S 246 (fun j => if S.1 245 2 ≤ (j : Int) ∧ (j : Int) < S.1 245 2 + (n : Int) then g (8 * ((n : Int) - 1 - ((j : Int) - S.1 245 2))) else S.1 246 j)) 245 2 (S.1 245 2 + (n : Int))) → aGo l mX12_types Q 2 [(0, .inr (.inr 245)), (1, .inl v), (2, .inl ((n : Int) - 1))] [] S := by
  intro n
  induction n using Nat.strongRecOn with
  | _ n ih =>
  intro S  v  g  h0 h1 h2
  refine wp_go (tbX12_types_ok l) (fun pc => pc == 2) 26 dX12_types_2 ?_
  show ws1 tbX12_types 3 none Q (wp cX12_types tbX12_types 3 none Q (fun pc => pc == 2) (aGo l mX12_types Q) 26) (.iload_n 2) 1 2 [(0, .inr (.inr 245)), (1, .inl v), (2, .inl ((n : Int) - 1))] [] S
  simp only [wp_s, wpC_f, wpC_t, e_wLd, e_wLd0, e_wLd1, e_wLd2, e_get1, e_get2, e_wJ, e_wJo, f40, f41, f42, f43, Nat.reduceAdd, Nat.reduceBEq, Nat.reduceMul, eq_self, true_or, or_true, true_and, dX12_types_0, dX12_types_1, dX12_types_2, dX12_types_3, dX12_types_6, dX12_types_7, dX12_types_10, dX12_types_11, dX12_types_14, dX12_types_15, dX12_types_17, dX12_types_18, dX12_types_19, dX12_types_20, dX12_types_21, dX12_types_22, dX12_types_23, dX12_types_24, dX12_types_27, dX12_types_28, dX12_types_29, dX12_types_32, dX12_types_35, dX12_types_38, e_aload_n, e_iload_n, e_istore_n, e_iconst, e_bipush, e_iadd, e_imul, e_ishr, e_i2b, e_iinc, e_ifCond, e_goto, e_getfield, e_putfield, e_bastore, e_return_, e_wSt0, e_wSt1, e_wSt2, e_isL0, e_isL1, e_isL2, e_lset, e_lclr0, e_lclr1, e_lclr2, e_lput0, e_lput1, e_lput2, e_wInc, e_wInc0, Nat.reduceLT, not_false_eq_true, Bool.or_false, Bool.false_or, Bool.or_true, Bool.true_or, Bool.and_false, Bool.false_and, Bool.and_true, Bool.true_and, e_wI2, e_wI2B, e_rv, e_wIf_lt, bp_8, fX12_103, fX12_7, ic_1, ic_3, jt_35_m33, jt_3_35, pX12_103, tbX12_types_f, tbX12_types_p, tbX12_types_k, g_245_0, g_245_2, s_246, p_245_2]
  simp only [h0]
  repeat' (with_reducible first | intro _ | refine And.intro ?_ ?_)
  all_goals (try simp (disch := omega) only [wI_id, h0, up_hit, up_obj, upL_hit, upL_obj, up_2, upL_1, Int.toNat_natCast])
  all_goals first
    | omega
    | (refine Eq.mp (congrArg (Q none) ?_) h2; (refine st_ext (fun x y => ?_) (fun x y => ?_) <;> (try simp only [stA, upI, upL, up2]) <;> (repeat' split) <;> first | rfl | omega | (simp_all; done) | (simp_all; omega) | (have hq : y = i := (by omega); subst hq; first | rfl | omega | (simp_all; done) | (simp_all; omega)) | (congr 2 <;> omega) | (congr 3 <;> omega)); done)
    | (have e := ih (n - 1) (by omega) (upI (upI S 246 (S.1 245 2).toNat (g (8 * ((n : Int) - 1)))) 245 2 (S.1 245 2 + 1)) v g h0 (by simp (disch := omega) only [up_hit, up_obj, upL_hit, upL_obj, up_2, upL_1, Int.toNat_natCast]; omega) (by refine Eq.mp (congrArg (Q none) ?_) h2; (refine st_ext (fun x y => ?_) (fun x y => ?_) <;> (try simp only [stA, upI, upL, up2]) <;> (repeat' split) <;> first | rfl | omega | (simp_all; done) | (simp_all; omega) | (have hq : y = i := (by omega); subst hq; first | rfl | omega | (simp_all; done) | (simp_all; omega)) | (congr 2 <;> omega) | (congr 3 <;> omega)))
       rw [show ((n - 1 : Nat) : Int) - 1 = (n : Int) - 1 + -1 from by omega] at e
       exact e)
    | skip
set_option maxRecDepth 20000 in
set_option maxHeartbeats 4000000 in
theorem okX12_types (l : Launch) : aOK l mX12_types spX12_types := by
  refine aOK_of rfl fun as S Q h => ?_
  unfold spX12_types at h
  split at h
  · rename_i v
    refine ⟨Nat.le_of_ble_eq_true rfl, wp_ok (tbX12_types_ok l) Q (fun pc => pc == 2) 26 0 _ [] S ?_⟩
    show wp cX12_types tbX12_types 3 none Q (fun pc => pc == 2) (aGo l mX12_types Q) 26 0 [(0, .inr (.inr 245)), (1, .inl v)] [] S
    simp only [wp_s, wpC_f, wpC_t, e_wLd, e_wLd0, e_wLd1, e_wLd2, e_get1, e_get2, e_wJ, e_wJo, f40, f41, f42, f43, Nat.reduceAdd, Nat.reduceBEq, Nat.reduceMul, eq_self, true_or, or_true, true_and, dX12_types_0, dX12_types_1, dX12_types_2, dX12_types_3, dX12_types_6, dX12_types_7, dX12_types_10, dX12_types_11, dX12_types_14, dX12_types_15, dX12_types_17, dX12_types_18, dX12_types_19, dX12_types_20, dX12_types_21, dX12_types_22, dX12_types_23, dX12_types_24, dX12_types_27, dX12_types_28, dX12_types_29, dX12_types_32, dX12_types_35, dX12_types_38, e_aload_n, e_iload_n, e_istore_n, e_iconst, e_bipush, e_iadd, e_imul, e_ishr, e_i2b, e_iinc, e_ifCond, e_goto, e_getfield, e_putfield, e_bastore, e_return_, e_wSt0, e_wSt1, e_wSt2, e_isL0, e_isL1, e_isL2, e_lset, e_lclr0, e_lclr1, e_lclr2, e_lput0, e_lput1, e_lput2, e_wInc, e_wInc0, Nat.reduceLT, not_false_eq_true, Bool.or_false, Bool.false_or, Bool.or_true, Bool.true_or, Bool.and_false, Bool.false_and, Bool.and_true, Bool.true_and, e_wI2, e_wI2B, e_rv, e_wIf_lt, bp_8, fX12_103, fX12_7, ic_1, ic_3, jt_35_m33, jt_3_35, pX12_103, tbX12_types_f, tbX12_types_p, tbX12_types_k, g_245_0, g_245_2, s_246, p_245_2]
    exact lpX12_types l Q 4 S v (fun k => narB (narB (bShr v k))) (fun _ => rfl) ⟨h.1, h.2.1, by omega⟩ h.2.2
  · exact h.elim
theorem ty4_1 {S : aS} {v : Int} : (ty4 S v).1 245 2 = S.1 245 2 + 4 := up_hit
def spX12_feed : aSp := fun as S Q => match as with
  | [.inr (.inr 245), .inl a, .inl b, .inl c, .inl d, .inl e] => (0 ≤ S.1 245 2 ∧ S.1 245 2 ≤ 40) ∧ (40 < S.1 245 2 + 20 → Q (some (.inl (-1))) S) ∧ (S.1 245 2 + 20 ≤ 40 → Q (some (.inl (S.1 245 2 + 20))) (ty4 (ty4 (ty4 (ty4 (ty4 S a) b) c) d) e))
  | _ => False
def tbX12_feed : aTb := (fX12, pX12, fun j => lk [(107, (some 12), 2, spX12_types)] j, kX12)
theorem tbX12_feed_f : tbX12_feed.1 = fX12 := rfl
theorem tbX12_feed_p : tbX12_feed.2.1 = pX12 := rfl
theorem tbX12_feed_k : tbX12_feed.2.2.2 = kX12 := rfl
theorem tbX12_feed_c107 : tbX12_feed.2.2.1 107 = some ((some 12), 2, spX12_types) := rfl
theorem tbX12_feed_all (l : Launch) : ∀ e ∈ ([(107, (some 12), 2, spX12_types)] : List (Nat × Option Nat × Nat × aSp)), cOK l mX12_feed e.1 e.2.1 e.2.2.1 e.2.2.2 ∨ mOK mX12_feed e.1 e.2.1 e.2.2.1 e.2.2.2 := all_cons (cOK_of (okX12_types l) meX12_types cfX12_107 (by decide) (by decide)) (all_nil)
theorem tbX12_feed_ok (l : Launch) : tOK l mX12_feed tbX12_feed := ⟨fX12_ok, pX12_ok, fun _ _ _ _ h => tbX12_feed_all l _ (lk_mem h), kX12_ok⟩
set_option maxRecDepth 20000 in
set_option maxHeartbeats 4000000 in
theorem okX12_feed (l : Launch) : aOK l mX12_feed spX12_feed := by
  refine aOK_of rfl fun as S Q h => ?_
  unfold spX12_feed at h
  split at h
  · rename_i a b c d e
    refine ⟨Nat.le_of_ble_eq_true rfl, wp_ok (tbX12_feed_ok l) Q (fun pc => false) 28 0 _ [] S ?_⟩
    show wp cX12_feed tbX12_feed 6 (some .int) Q (fun pc => false) (aGo l mX12_feed Q) 28 0 [(0, .inr (.inr 245)), (1, .inl a), (2, .inl b), (3, .inl c), (4, .inl d), (5, .inl e)] [] S
    simp only [wp_s, wpC_f, wpC_t, e_wLd, e_wLd0, e_wLd1, e_wLd2, e_get1, e_get2, e_wJ, e_wJo, f40, f41, f42, f43, Nat.reduceAdd, Nat.reduceBEq, Nat.reduceMul, eq_self, true_or, or_true, true_and, dX12_feed_0, dX12_feed_1, dX12_feed_4, dX12_feed_6, dX12_feed_7, dX12_feed_9, dX12_feed_12, dX12_feed_13, dX12_feed_14, dX12_feed_15, dX12_feed_16, dX12_feed_19, dX12_feed_20, dX12_feed_21, dX12_feed_24, dX12_feed_25, dX12_feed_26, dX12_feed_29, dX12_feed_30, dX12_feed_32, dX12_feed_35, dX12_feed_36, dX12_feed_38, dX12_feed_41, dX12_feed_42, dX12_feed_45, e_aload_n, e_iload_n, e_iload, e_iconst, e_bipush, e_iadd, e_if_icmp, e_getfield, e_invokevirtual, e_ireturn, e_wI2, e_ri, e_rz, e_wIc_le, bp_20, bp_40, fX12_103, ic_m1, jt_9_5, e_call, e_callS0, e_callS1, e_callS2, e_callS3, e_callS4, e_pop0, e_pop1, e_tl0, e_tl1, tbX12_feed_f, tbX12_feed_p, tbX12_feed_k, tbX12_feed_c107, cv_245_0, cv_245_1, cv_245_2, cv_245_3, cv_245_4, g_245_2, spX12_types]
    obtain ⟨⟨h0, h1⟩, hA, hB⟩ := h
    replace hA := hid hA
    replace hB := hid hB
    simp (disch := omega) only [wI_id, ty4_1]
    repeat' (with_reducible first | intro _ | refine And.intro ?_ ?_)
    all_goals (try simp only [ty4_1])
    all_goals first
      | omega
      | exact hA (by omega)
      | (have z := hB (by omega); rw [show S.1 245 2 + 20 = S.1 245 2 + 4 + 4 + 4 + 4 + 4 from by omega] at z; exact z)
      | skip
  · exact h.elim
def tkS (S : aS) (c : Int) : aS := upI (stA S 247 (fun j => if 0 ≤ j ∧ (j : Int) < c then narB (S.1 246 j) else S.1 247 j)) 245 2 0
def spX12_takes : aSp := fun as S Q => match as with
  | [.inr (.inr 245), .inl c] => 0 ≤ c ∧ c ≤ 40 ∧ Q none (tkS S c)
  | _ => False
def tbX12_takes : aTb := (fX12, pX12, fun j => lk [] j, kX12)
theorem tbX12_takes_f : tbX12_takes.1 = fX12 := rfl
theorem tbX12_takes_p : tbX12_takes.2.1 = pX12 := rfl
theorem tbX12_takes_k : tbX12_takes.2.2.2 = kX12 := rfl
theorem tbX12_takes_all (l : Launch) : ∀ e ∈ ([] : List (Nat × Option Nat × Nat × aSp)), cOK l mX12_takes e.1 e.2.1 e.2.2.1 e.2.2.2 ∨ mOK mX12_takes e.1 e.2.1 e.2.2.1 e.2.2.2 := all_nil
theorem tbX12_takes_ok (l : Launch) : tOK l mX12_takes tbX12_takes := ⟨fX12_ok, pX12_ok, fun _ _ _ _ h => tbX12_takes_all l _ (lk_mem h), kX12_ok⟩
set_option maxRecDepth 20000 in
set_option maxHeartbeats 4000000 in
theorem lpX12_takes (l : Launch) (Q : Option aV → aS → Prop) : ∀ (n : Nat) (S : aS) (c : Int) (g : Int → Int) (i : Nat), i + n = c.toNat → Q (none) (upI (stA S 247 (fun j => if i ≤ j ∧ (j : Int) < c then g (S.1 246 j) else S.1 247 j)) 245 2 0) → (0 ≤ c ∧ c ≤ 40) → (∀ k : Int, narB k = g k) → aGo l mX12_takes Q 2 [(0, .inr (.inr 245)), (1, .inl c), (2, .inl (i : Int))] [] S := by
  intro n
  induction n using Nat.strongRecOn with
  | _ n ih =>
  intro S  c  g  i  h0 h1 h2 h3
  refine wp_go (tbX12_takes_ok l) (fun pc => pc == 2) 21 dX12_takes_2 ?_
  show ws1 tbX12_takes 3 none Q (wp cX12_takes tbX12_takes 3 none Q (fun pc => pc == 2) (aGo l mX12_takes Q) 21) (.iload_n 2) 1 2 [(0, .inr (.inr 245)), (1, .inl c), (2, .inl (i : Int))] [] S
  simp only [wp_s, wpC_f, wpC_t, e_wLd, e_wLd0, e_wLd1, e_wLd2, e_get1, e_get2, e_wJ, e_wJo, f40, f41, f42, f43, Nat.reduceAdd, Nat.reduceBEq, Nat.reduceMul, eq_self, true_or, or_true, true_and, dX12_takes_0, dX12_takes_1, dX12_takes_2, dX12_takes_3, dX12_takes_4, dX12_takes_7, dX12_takes_8, dX12_takes_11, dX12_takes_12, dX12_takes_13, dX12_takes_16, dX12_takes_17, dX12_takes_18, dX12_takes_19, dX12_takes_22, dX12_takes_25, dX12_takes_26, dX12_takes_27, dX12_takes_30, e_aload_n, e_iload_n, e_istore_n, e_iconst, e_iinc, e_if_icmp, e_goto, e_getfield, e_putfield, e_baload, e_bastore, e_return_, e_wSt0, e_wSt1, e_wSt2, e_isL0, e_isL1, e_isL2, e_lset, e_lclr0, e_lclr1, e_lclr2, e_lput0, e_lput1, e_lput2, e_wInc, e_wInc0, Nat.reduceLT, not_false_eq_true, Bool.or_false, Bool.false_or, Bool.or_true, Bool.true_or, Bool.and_false, Bool.false_and, Bool.and_true, Bool.true_and, e_rv, e_wIc_ge, fX12_13, fX12_7, ic_0, jt_22_m20, jt_4_21, pX12_103, tbX12_takes_f, tbX12_takes_p, tbX12_takes_k, g_245_0, l_247, s_247, l_246, s_246, p_245_2, g_245_1, h3]
  repeat' (with_reducible first | intro _ | refine And.intro ?_ ?_)
  all_goals (try simp (disch := omega) only [wI_id, Int.toNat_natCast] at *)
  all_goals first
    | omega
    | (refine Eq.mp (congrArg (Q (none)) ?_) h1; (refine st_ext (fun x y => ?_) (fun x y => ?_) <;> (try simp only [stA, upI, upL, up2]) <;> (repeat' split) <;> first | rfl | omega | (simp_all; done) | (simp_all; omega) | (have hq : y = i := (by omega); subst hq; first | rfl | omega | (simp_all; done) | (simp_all; omega)) | (congr 2 <;> omega) | (congr 3 <;> omega)); done)
    | (refine ih (n - 1) (by omega) _ c g (i + 1) ?_ ?_ ?_ ?_ <;> first | omega | assumption | (simp only [up_hit, up_obj, upL_hit, upL_obj, up_2, upL_1, Int.toNat_natCast, stA, upI, upL, up2]; first | omega | (simp; omega)) | (refine Eq.mp (congrArg (Q (none)) ?_) h1; (refine st_ext (fun x y => ?_) (fun x y => ?_) <;> (try simp only [stA, upI, upL, up2]) <;> (repeat' split) <;> first | rfl | omega | (simp_all; done) | (simp_all; omega) | (have hq : y = i := (by omega); subst hq; first | rfl | omega | (simp_all; done) | (simp_all; omega)) | (congr 2 <;> omega) | (congr 3 <;> omega)); done))
    | skip
set_option maxRecDepth 20000 in
set_option maxHeartbeats 4000000 in
theorem okX12_takes (l : Launch) : aOK l mX12_takes spX12_takes := by
  refine aOK_of rfl fun as S Q h => ?_
  unfold spX12_takes at h
  split at h
  · rename_i c
    refine ⟨Nat.le_of_ble_eq_true rfl, wp_ok (tbX12_takes_ok l) Q (fun pc => pc == 2) 21 0 _ [] S ?_⟩
    show wp cX12_takes tbX12_takes 3 none Q (fun pc => pc == 2) (aGo l mX12_takes Q) 21 0 [(0, .inr (.inr 245)), (1, .inl c)] [] S
    simp only [wp_s, wpC_f, wpC_t, e_wLd, e_wLd0, e_wLd1, e_wLd2, e_get1, e_get2, e_wJ, e_wJo, f40, f41, f42, f43, Nat.reduceAdd, Nat.reduceBEq, Nat.reduceMul, eq_self, true_or, or_true, true_and, dX12_takes_0, dX12_takes_1, dX12_takes_2, dX12_takes_3, dX12_takes_4, dX12_takes_7, dX12_takes_8, dX12_takes_11, dX12_takes_12, dX12_takes_13, dX12_takes_16, dX12_takes_17, dX12_takes_18, dX12_takes_19, dX12_takes_22, dX12_takes_25, dX12_takes_26, dX12_takes_27, dX12_takes_30, e_aload_n, e_iload_n, e_istore_n, e_iconst, e_iinc, e_if_icmp, e_goto, e_getfield, e_putfield, e_baload, e_bastore, e_return_, e_wSt0, e_wSt1, e_wSt2, e_isL0, e_isL1, e_isL2, e_lset, e_lclr0, e_lclr1, e_lclr2, e_lput0, e_lput1, e_lput2, e_wInc, e_wInc0, Nat.reduceLT, not_false_eq_true, Bool.or_false, Bool.false_or, Bool.or_true, Bool.true_or, Bool.and_false, Bool.false_and, Bool.and_true, Bool.true_and, e_rv, e_wIc_ge, fX12_13, fX12_7, ic_0, jt_22_m20, jt_4_21, pX12_103, tbX12_takes_f, tbX12_takes_p, tbX12_takes_k, g_245_0, l_247, s_247, l_246, s_246, p_245_2, g_245_1]
    exact lpX12_takes l Q _ S c narB 0 (Nat.zero_add _) h.2.2 ⟨h.1, h.2.1⟩ (fun _ => rfl)
  · exact h.elim
def spX12_word : aSp := fun as S Q => match as with
  | [.inr (.inr 245), .inl a, .inl c] => 0 ≤ a ∧ 0 ≤ c ∧ a + c ≤ 40 ∧ Q (some (.inr (.inl (wd8 (S.1 247) c.toNat a.toNat 0)))) S
  | _ => False
def tbX12_word : aTb := (fX12, pX12, fun j => lk [] j, kX12)
theorem tbX12_word_f : tbX12_word.1 = fX12 := rfl
theorem tbX12_word_p : tbX12_word.2.1 = pX12 := rfl
theorem tbX12_word_k : tbX12_word.2.2.2 = kX12 := rfl
theorem tbX12_word_all (l : Launch) : ∀ e ∈ ([] : List (Nat × Option Nat × Nat × aSp)), cOK l mX12_word e.1 e.2.1 e.2.2.1 e.2.2.2 ∨ mOK mX12_word e.1 e.2.1 e.2.2.1 e.2.2.2 := all_nil
theorem tbX12_word_ok (l : Launch) : tOK l mX12_word tbX12_word := ⟨fX12_ok, pX12_ok, fun _ _ _ _ h => tbX12_word_all l _ (lk_mem h), kX12_ok⟩
set_option maxRecDepth 20000 in
set_option maxHeartbeats 4000000 in
theorem lpX12_word (l : Launch) (Q : Option aV → aS → Prop) : ∀ (n : Nat) (S : aS) (a c w : Int) (i : Nat), i + n = (a + c).toNat → (0 ≤ a ∧ 0 ≤ c ∧ a + c ≤ 40) → Q (some (.inr (.inl (wd8 (S.1 247) n i w)))) S → aGo l mX12_word Q 5 [(0, .inr (.inr 245)), (1, .inl a), (2, .inl c), (3, .inr (.inl w)), (5, .inl (i : Int))] [] S := by
  intro n
  induction n using Nat.strongRecOn with
  | _ n ih =>
  intro S  a c w  i  h0 h1 h2
  refine wp_go (tbX12_word_ok l) (fun pc => pc == 5) 39 dX12_word_5 ?_
  show ws1 tbX12_word 6 (some .long) Q (wp cX12_word tbX12_word 6 (some .long) Q (fun pc => pc == 5) (aGo l mX12_word Q) 39) (.iload 5) 2 5 [(0, .inr (.inr 245)), (1, .inl a), (2, .inl c), (3, .inr (.inl w)), (5, .inl (i : Int))] [] S
  simp only [wp_s, wpC_f, wpC_t, e_wLd, e_wLd0, e_wLd1, e_wLd2, e_get1, e_get2, e_wJ, e_wJo, f40, f41, f42, f43, Nat.reduceAdd, Nat.reduceBEq, Nat.reduceMul, eq_self, true_or, or_true, true_and, dX12_word_0, dX12_word_1, dX12_word_2, dX12_word_3, dX12_word_5, dX12_word_7, dX12_word_8, dX12_word_9, dX12_word_10, dX12_word_13, dX12_word_14, dX12_word_17, dX12_word_19, dX12_word_20, dX12_word_22, dX12_word_25, dX12_word_26, dX12_word_29, dX12_word_31, dX12_word_32, dX12_word_34, dX12_word_37, dX12_word_38, dX12_word_39, dX12_word_40, dX12_word_42, dX12_word_43, dX12_word_44, dX12_word_47, dX12_word_49, dX12_word_50, dX12_word_51, dX12_word_52, dX12_word_53, dX12_word_56, dX12_word_59, dX12_word_60, e_aload_n, e_iload_n, e_iload, e_lload_n, e_istore, e_lstore_n, e_bipush, e_lconst, e_iadd, e_lor, e_lshl, e_i2l, e_iinc, e_if_icmp, e_goto, e_getfield, e_baload, e_lreturn, e_wSt0, e_wSt1, e_wSt2, e_isL0, e_isL1, e_isL2, e_lset, e_lclr0, e_lclr1, e_lclr2, e_lput0, e_lput1, e_lput2, e_wInc, e_wInc0, Nat.reduceLT, not_false_eq_true, Bool.or_false, Bool.false_or, Bool.or_true, Bool.true_or, Bool.and_false, Bool.false_and, Bool.and_true, Bool.true_and, e_wI2, e_wLI2, e_wI2L, lc0, lc1, e_rl, e_wL2, e_wIc_lt, e_wIc_le, e_wIc_ge, bp_122, bp_8, bp_97, fX12_13, jt_10_49, jt_22_15, jt_34_5, jt_56_m51, tbX12_word_f, tbX12_word_p, tbX12_word_k, g_245_1, l_247]
  simp (disch := omega) only [wI_id, Int.toNat_natCast]
  rcases n with _ | n
  · exact ⟨fun _ => h2, fun q => absurd q (by omega)⟩
  · have e1 : 97 ≤ S.1 247 i ∧ S.1 247 i ≤ 122 → wd8 (S.1 247) (n + 1) i w = wd8 (S.1 247) n (i + 1) (lOr (lShl w 8) (S.1 247 i)) := fun q => if_pos q
    have e2 : ¬ (97 ≤ S.1 247 i ∧ S.1 247 i ≤ 122) → wd8 (S.1 247) (n + 1) i w = 0 := fun q => if_neg q
    replace e1 := hid e1
    replace e2 := hid e2
    repeat' (with_reducible first | intro _ | refine And.intro ?_ ?_)
    all_goals first
      | omega
      | (rw [e2 (by omega)] at h2; exact h2)
      | (rw [e1 (by omega)] at h2; exact ih n (by omega) S a c _ (i + 1) (by omega) h1 h2)
      | skip
set_option maxRecDepth 20000 in
set_option maxHeartbeats 4000000 in
theorem okX12_word (l : Launch) : aOK l mX12_word spX12_word := by
  refine aOK_of rfl fun as S Q h => ?_
  unfold spX12_word at h
  split at h
  · rename_i a c
    refine ⟨Nat.le_of_ble_eq_true rfl, wp_ok (tbX12_word_ok l) Q (fun pc => pc == 5) 39 0 _ [] S ?_⟩
    show wp cX12_word tbX12_word 6 (some .long) Q (fun pc => pc == 5) (aGo l mX12_word Q) 39 0 [(0, .inr (.inr 245)), (1, .inl a), (2, .inl c)] [] S
    simp only [wp_s, wpC_f, wpC_t, e_wLd, e_wLd0, e_wLd1, e_wLd2, e_get1, e_get2, e_wJ, e_wJo, f40, f41, f42, f43, Nat.reduceAdd, Nat.reduceBEq, Nat.reduceMul, eq_self, true_or, or_true, true_and, dX12_word_0, dX12_word_1, dX12_word_2, dX12_word_3, dX12_word_5, dX12_word_7, dX12_word_8, dX12_word_9, dX12_word_10, dX12_word_13, dX12_word_14, dX12_word_17, dX12_word_19, dX12_word_20, dX12_word_22, dX12_word_25, dX12_word_26, dX12_word_29, dX12_word_31, dX12_word_32, dX12_word_34, dX12_word_37, dX12_word_38, dX12_word_39, dX12_word_40, dX12_word_42, dX12_word_43, dX12_word_44, dX12_word_47, dX12_word_49, dX12_word_50, dX12_word_51, dX12_word_52, dX12_word_53, dX12_word_56, dX12_word_59, dX12_word_60, e_aload_n, e_iload_n, e_iload, e_lload_n, e_istore, e_lstore_n, e_bipush, e_lconst, e_iadd, e_lor, e_lshl, e_i2l, e_iinc, e_if_icmp, e_goto, e_getfield, e_baload, e_lreturn, e_wSt0, e_wSt1, e_wSt2, e_isL0, e_isL1, e_isL2, e_lset, e_lclr0, e_lclr1, e_lclr2, e_lput0, e_lput1, e_lput2, e_wInc, e_wInc0, Nat.reduceLT, not_false_eq_true, Bool.or_false, Bool.false_or, Bool.or_true, Bool.true_or, Bool.and_false, Bool.false_and, Bool.and_true, Bool.true_and, e_wI2, e_wLI2, e_wI2L, lc0, lc1, e_rl, e_wL2, e_wIc_lt, e_wIc_le, e_wIc_ge, bp_122, bp_8, bp_97, fX12_13, jt_10_49, jt_22_15, jt_34_5, jt_56_m51, tbX12_word_f, tbX12_word_p, tbX12_word_k, g_245_1, l_247]
    obtain ⟨h0, h1, h2, h3⟩ := h
    have e := lpX12_word l Q c.toNat S a c 0 a.toNat (by omega) ⟨h0, h1, h2⟩ h3
    rw [show ((a.toNat : Nat) : Int) = a from by omega] at e
    exact e
  · exact h.elim
theorem lUshr_8s {w : Int} (h : wrd8 w) {c : Nat} (hc : c + 1 < 8) : lUshr w (8 * ((c + 1 : Nat) : Int)) = lUshr w (8 * (c : Int)) / 256 := by
  unfold wrd8 at h
  rw [lUshr_div h.1 h.2 (by omega) (by omega), lUshr_div h.1 h.2 (by omega) (by omega)]
  rw [show (8 * ((c + 1 : Nat) : Int)).toNat = 8 * c + 8 from by omega, show (8 * (c : Int)).toNat = 8 * c from by omega, Nat.pow_add, ← Nat.div_div_eq_div_mul]
  omega
theorem lCmp_z {x : Int} : (lCmp x 0 = 0) = (x = 0) := by
  unfold lCmp
  apply propext
  split
  · constructor <;> omega
  · split <;> constructor <;> omega
def spX12_size : aSp := fun as S Q => match as with
  | [.inr (.inl w)] => wrd8 w ∧ Q (some (.inl (sz8 8 w))) S
  | _ => False
def tbX12_size : aTb := (fX12, pX12, fun j => lk [] j, kX12)
theorem tbX12_size_f : tbX12_size.1 = fX12 := rfl
theorem tbX12_size_p : tbX12_size.2.1 = pX12 := rfl
theorem tbX12_size_k : tbX12_size.2.2.2 = kX12 := rfl
theorem tbX12_size_all (l : Launch) : ∀ e ∈ ([] : List (Nat × Option Nat × Nat × aSp)), cOK l mX12_size e.1 e.2.1 e.2.2.1 e.2.2.2 ∨ mOK mX12_size e.1 e.2.1 e.2.2.1 e.2.2.2 := all_nil
theorem tbX12_size_ok (l : Launch) : tOK l mX12_size tbX12_size := ⟨fX12_ok, pX12_ok, fun _ _ _ _ h => tbX12_size_all l _ (lk_mem h), kX12_ok⟩
set_option maxRecDepth 20000 in
set_option maxHeartbeats 4000000 in
theorem lpX12_size (l : Launch) (Q : Option aV → aS → Prop) : ∀ (n : Nat) (S : aS) (w x : Int) (c : Nat), c + n = 8 → wrd8 w → (c < 8 → x = lUshr w (8 * (c : Int))) → Q (some (.inl (c + sz8 n x))) S → aGo l mX12_size Q 2 [(0, .inr (.inl w)), (2, .inl (c : Int))] [] S := by
  intro n
  induction n using Nat.strongRecOn with
  | _ n ih =>
  intro S  w x  c  h0 h1 h2 h3
  refine wp_go (tbX12_size_ok l) (fun pc => pc == 2) 22 dX12_size_2 ?_
  show ws1 tbX12_size 3 (some .int) Q (wp cX12_size tbX12_size 3 (some .int) Q (fun pc => pc == 2) (aGo l mX12_size Q) 22) (.iload_n 2) 1 2 [(0, .inr (.inl w)), (2, .inl (c : Int))] [] S
  simp only [wp_s, wpC_f, wpC_t, e_wLd, e_wLd0, e_wLd1, e_wLd2, e_get1, e_get2, e_wJ, e_wJo, f40, f41, f42, f43, Nat.reduceAdd, Nat.reduceBEq, Nat.reduceMul, eq_self, true_or, or_true, true_and, dX12_size_0, dX12_size_1, dX12_size_2, dX12_size_3, dX12_size_5, dX12_size_8, dX12_size_9, dX12_size_11, dX12_size_12, dX12_size_13, dX12_size_14, dX12_size_15, dX12_size_16, dX12_size_19, dX12_size_20, dX12_size_21, dX12_size_22, dX12_size_23, dX12_size_26, dX12_size_27, e_iload_n, e_lload_n, e_istore_n, e_iconst, e_bipush, e_lconst, e_iadd, e_imul, e_lushr, e_lcmp, e_ifCond, e_if_icmp, e_goto, e_ireturn, e_wSt0, e_wSt1, e_wSt2, e_isL0, e_isL1, e_isL2, e_lset, e_lclr0, e_lclr1, e_lclr2, e_lput0, e_lput1, e_lput2, e_wInc, e_wInc0, Nat.reduceLT, not_false_eq_true, Bool.or_false, Bool.false_or, Bool.or_true, Bool.true_or, Bool.and_false, Bool.false_and, Bool.and_true, Bool.true_and, e_wLI2, e_wI2, lc0, lc1, e_wCmp, e_ri, e_rz, e_wIf_eq, e_wIc_ge, bp_8, ic_0, ic_1, jt_16_10, jt_23_m21, jt_5_21, tbX12_size_f, tbX12_size_p, tbX12_size_k]
  simp (disch := omega) only [wI_id, lCmp_z]
  rcases n with _ | n
  · have h3' : Q (some (.inl (c + 0))) S := h3
    rw [Int.add_zero] at h3'
    exact ⟨fun _ => h3', fun q => absurd q (by omega)⟩
  · rw [← h2 (by omega)]
    refine ⟨fun q => absurd q (by omega), fun _ => ⟨fun q => ?_, fun q => ?_⟩⟩
    · have e : sz8 (n + 1) x = 0 := if_pos q
      rw [e, Int.add_zero] at h3; exact h3
    · have e : sz8 (n + 1) x = 1 + sz8 n (x / 256) := if_neg q
      rw [e, ← Int.add_assoc] at h3
      refine ih n (by omega) S w (x / 256) (c + 1) (by omega) h1 (fun z => ?_) h3
      rw [lUshr_8s h1 z, h2 (by omega)]
set_option maxRecDepth 20000 in
set_option maxHeartbeats 4000000 in
theorem okX12_size (l : Launch) : aOK l mX12_size spX12_size := by
  refine aOK_of rfl fun as S Q h => ?_
  unfold spX12_size at h
  split at h
  · rename_i w
    refine ⟨Nat.le_of_ble_eq_true rfl, wp_ok (tbX12_size_ok l) Q (fun pc => pc == 2) 22 0 _ [] S ?_⟩
    show wp cX12_size tbX12_size 3 (some .int) Q (fun pc => pc == 2) (aGo l mX12_size Q) 22 0 [(0, .inr (.inl w))] [] S
    simp only [wp_s, wpC_f, wpC_t, e_wLd, e_wLd0, e_wLd1, e_wLd2, e_get1, e_get2, e_wJ, e_wJo, f40, f41, f42, f43, Nat.reduceAdd, Nat.reduceBEq, Nat.reduceMul, eq_self, true_or, or_true, true_and, dX12_size_0, dX12_size_1, dX12_size_2, dX12_size_3, dX12_size_5, dX12_size_8, dX12_size_9, dX12_size_11, dX12_size_12, dX12_size_13, dX12_size_14, dX12_size_15, dX12_size_16, dX12_size_19, dX12_size_20, dX12_size_21, dX12_size_22, dX12_size_23, dX12_size_26, dX12_size_27, e_iload_n, e_lload_n, e_istore_n, e_iconst, e_bipush, e_lconst, e_iadd, e_imul, e_lushr, e_lcmp, e_ifCond, e_if_icmp, e_goto, e_ireturn, e_wSt0, e_wSt1, e_wSt2, e_isL0, e_isL1, e_isL2, e_lset, e_lclr0, e_lclr1, e_lclr2, e_lput0, e_lput1, e_lput2, e_wInc, e_wInc0, Nat.reduceLT, not_false_eq_true, Bool.or_false, Bool.false_or, Bool.or_true, Bool.true_or, Bool.and_false, Bool.false_and, Bool.and_true, Bool.true_and, e_wLI2, e_wI2, lc0, lc1, e_wCmp, e_ri, e_rz, e_wIf_eq, e_wIc_ge, bp_8, ic_0, ic_1, jt_16_10, jt_23_m21, jt_5_21, tbX12_size_f, tbX12_size_p, tbX12_size_k]
    have e0 : lUshr w (8 * ((0 : Nat) : Int)) = w := by
      rw [lUshr_div h.1.1 h.1.2 (by omega) (by omega)]
      have := h.1.1
      simp only [Int.toNat_zero, Nat.pow_zero, Nat.div_one, Int.natCast_zero, Int.mul_zero]
      omega
    exact lpX12_size l Q 8 S w w 0 rfl h.1 (fun _ => e0.symm) (by rw [Int.natCast_zero, Int.zero_add]; exact h.2)
  · exact h.elim
def spX12_byteOf : aSp := fun as S Q => match as with
  | [.inr (.inl w), .inl i] => wrd8 w ∧ 0 ≤ i ∧ i ≤ 100 ∧ Q (some (.inl (bAnd (wI (lUshr w (8 * (sz8 8 w - 1 - i)))) 255))) S
  | _ => False
def tbX12_byteOf : aTb := (fX12, pX12, fun j => lk [(158, none, 1, spX12_size)] j, kX12)
theorem tbX12_byteOf_f : tbX12_byteOf.1 = fX12 := rfl
theorem tbX12_byteOf_p : tbX12_byteOf.2.1 = pX12 := rfl
theorem tbX12_byteOf_k : tbX12_byteOf.2.2.2 = kX12 := rfl
theorem tbX12_byteOf_c158 : tbX12_byteOf.2.2.1 158 = some (none, 1, spX12_size) := rfl
theorem tbX12_byteOf_all (l : Launch) : ∀ e ∈ ([(158, none, 1, spX12_size)] : List (Nat × Option Nat × Nat × aSp)), cOK l mX12_byteOf e.1 e.2.1 e.2.2.1 e.2.2.2 ∨ mOK mX12_byteOf e.1 e.2.1 e.2.2.1 e.2.2.2 := all_cons (cOK_of (okX12_size l) meX12_size cfX12_158 (by decide) (by decide)) (all_nil)
theorem tbX12_byteOf_ok (l : Launch) : tOK l mX12_byteOf tbX12_byteOf := ⟨fX12_ok, pX12_ok, fun _ _ _ _ h => tbX12_byteOf_all l _ (lk_mem h), kX12_ok⟩
set_option maxRecDepth 20000 in
set_option maxHeartbeats 4000000 in
theorem okX12_byteOf (l : Launch) : aOK l mX12_byteOf spX12_byteOf := by
  refine aOK_of rfl fun as S Q h => ?_
  unfold spX12_byteOf at h
  split at h
  · rename_i w i
    refine ⟨Nat.le_of_ble_eq_true rfl, wp_ok (tbX12_byteOf_ok l) Q (fun pc => false) 16 0 _ [] S ?_⟩
    show wp cX12_byteOf tbX12_byteOf 3 (some .int) Q (fun pc => false) (aGo l mX12_byteOf Q) 16 0 [(0, .inr (.inl w)), (2, .inl i)] [] S
    simp only [wp_s, wpC_f, wpC_t, e_wLd, e_wLd0, e_wLd1, e_wLd2, e_get1, e_get2, e_wJ, e_wJo, f40, f41, f42, f43, Nat.reduceAdd, Nat.reduceBEq, Nat.reduceMul, eq_self, true_or, or_true, true_and, dX12_byteOf_0, dX12_byteOf_1, dX12_byteOf_3, dX12_byteOf_4, dX12_byteOf_7, dX12_byteOf_8, dX12_byteOf_9, dX12_byteOf_10, dX12_byteOf_11, dX12_byteOf_12, dX12_byteOf_13, dX12_byteOf_14, dX12_byteOf_17, dX12_byteOf_18, e_iload_n, e_lload_n, e_iconst, e_bipush, e_sipush, e_isub, e_imul, e_iand, e_lushr, e_l2i, e_invokestatic, e_ireturn, e_wLI2, e_wI2, e_wL2I, e_ri, e_rz, bp_8, ic_1, sp_255, e_call, e_callS0, e_callS1, e_callS2, e_callS3, e_callS4, e_pop0, e_pop1, e_tl0, e_tl1, tbX12_byteOf_f, tbX12_byteOf_p, tbX12_byteOf_k, tbX12_byteOf_c158, spX12_size]
    obtain ⟨h0, h1, h2, h3⟩ := h
    have hb := sz8_b 8 w
    simp (disch := omega) only [wI_id]
    exact ⟨h0, h3⟩
  · exact h.elim
def lyM (S : aS) (e v a b : Int) : aS := upI (upI (upI (upL S 263 (5 * e + S.1 260 e.toNat).toNat v) 261 (5 * e + S.1 260 e.toNat).toNat a) 262 (5 * e + S.1 260 e.toNat).toNat b) 260 e.toNat (S.1 260 e.toNat + 1)
def spX12_lays : aSp := fun as S Q => match as with
  | [.inr (.inr 245), .inl e, .inr (.inl v), .inl a, .inl b] => (0 ≤ e ∧ e < 12) ∧ (0 ≤ S.1 260 e.toNat ∧ S.1 260 e.toNat < 5) ∧ Q none (lyM S e v a b)
  | _ => False
def tbX12_lays : aTb := (fX12, pX12, fun j => lk [] j, kX12)
theorem tbX12_lays_f : tbX12_lays.1 = fX12 := rfl
theorem tbX12_lays_p : tbX12_lays.2.1 = pX12 := rfl
theorem tbX12_lays_k : tbX12_lays.2.2.2 = kX12 := rfl
theorem tbX12_lays_all (l : Launch) : ∀ e ∈ ([] : List (Nat × Option Nat × Nat × aSp)), cOK l mX12_lays e.1 e.2.1 e.2.2.1 e.2.2.2 ∨ mOK mX12_lays e.1 e.2.1 e.2.2.1 e.2.2.2 := all_nil
theorem tbX12_lays_ok (l : Launch) : tOK l mX12_lays tbX12_lays := ⟨fX12_ok, pX12_ok, fun _ _ _ _ h => tbX12_lays_all l _ (lk_mem h), kX12_ok⟩
set_option maxRecDepth 20000 in
set_option maxHeartbeats 4000000 in
theorem okX12_lays (l : Launch) : aOK l mX12_lays spX12_lays := by
  refine aOK_of rfl fun as S Q h => ?_
  unfold spX12_lays at h
  split at h
  · rename_i e v a b
    refine ⟨Nat.le_of_ble_eq_true rfl, wp_ok (tbX12_lays_ok l) Q (fun pc => false) 37 0 _ [] S ?_⟩
    show wp cX12_lays tbX12_lays 7 none Q (fun pc => false) (aGo l mX12_lays Q) 37 0 [(0, .inr (.inr 245)), (1, .inl e), (2, .inr (.inl v)), (4, .inl a), (5, .inl b)] [] S
    simp only [wp_s, wpC_f, wpC_t, e_wLd, e_wLd0, e_wLd1, e_wLd2, e_get1, e_get2, e_wJ, e_wJo, f40, f41, f42, f43, Nat.reduceAdd, Nat.reduceBEq, Nat.reduceMul, eq_self, true_or, or_true, true_and, dX12_lays_0, dX12_lays_1, dX12_lays_2, dX12_lays_3, dX12_lays_4, dX12_lays_7, dX12_lays_8, dX12_lays_9, dX12_lays_10, dX12_lays_12, dX12_lays_13, dX12_lays_16, dX12_lays_18, dX12_lays_19, dX12_lays_20, dX12_lays_21, dX12_lays_24, dX12_lays_26, dX12_lays_28, dX12_lays_29, dX12_lays_30, dX12_lays_33, dX12_lays_35, dX12_lays_37, dX12_lays_38, dX12_lays_39, dX12_lays_42, dX12_lays_43, dX12_lays_44, dX12_lays_47, dX12_lays_48, dX12_lays_49, dX12_lays_50, dX12_lays_51, dX12_lays_52, e_aload_n, e_iload_n, e_iload, e_lload_n, e_istore, e_iconst, e_iadd, e_imul, e_getfield, e_iaload, e_iastore, e_lastore, e_return_, e_wSt0, e_wSt1, e_wSt2, e_isL0, e_isL1, e_isL2, e_lset, e_lclr0, e_lclr1, e_lclr2, e_lput0, e_lput1, e_lput2, e_wInc, e_wInc0, Nat.reduceLT, not_false_eq_true, Bool.or_false, Bool.false_or, Bool.or_true, Bool.true_or, Bool.and_false, Bool.false_and, Bool.and_true, Bool.true_and, e_wI2, e_rv, fX12_55, fX12_58, fX12_61, fX12_64, ic_1, ic_5, tbX12_lays_f, tbX12_lays_p, tbX12_lays_k, g_245_23, l_263, s_263, l_260, s_260, g_245_22, l_262, s_262, g_245_21, l_261, s_261, g_245_20]
    obtain ⟨h0, h1, h2⟩ := h
    simp (disch := omega) only [wI_id]
    repeat' (with_reducible first | intro _ | refine And.intro ?_ ?_)
    all_goals (try simp (disch := first | omega | decide) only [wI_id, up_hit, up_obj, upL_hit, upL_obj, up_2, upL_1, Int.toNat_natCast])
    all_goals first
      | omega
      | exact h2
      | skip
  · exact h.elim
