/-! BOOKS -/
def inS (b x : Int) : Prop := bAnd (bUshr x b) 1 = 1
noncomputable def mn (f : Nat → Int) (p : Nat → Prop) : Nat → Int
  | 0 => 2001
  | n + 1 => @ite _ (p n) (Classical.propDecidable _) (min (mn f p n) (f n)) (mn f p n)
theorem mn_t {f : Nat → Int} {p : Nat → Prop} {n : Nat} (h : p n) : mn f p (n + 1) = min (mn f p n) (f n) := if_pos h
theorem mn_f {f : Nat → Int} {p : Nat → Prop} {n : Nat} (h : ¬ p n) : mn f p (n + 1) = mn f p n := if_neg h
noncomputable def mx (f : Nat → Int) (p : Nat → Prop) : Nat → Int
  | 0 => 0
  | n + 1 => @ite _ (p n) (Classical.propDecidable _) (max (mx f p n) (f n)) (mx f p n)
theorem mx_t {f : Nat → Int} {p : Nat → Prop} {n : Nat} (h : p n) : mx f p (n + 1) = max (mx f p n) (f n) := if_pos h
theorem mx_f {f : Nat → Int} {p : Nat → Prop} {n : Nat} (h : ¬ p n) : mx f p (n + 1) = mx f p n := if_neg h
/-- what has been seen of the spans that begin ahead of fb: up to which year, and whether there was none -/
noncomputable def sn (F L : Nat → Int) (p : Nat → Prop) (fb : Int) : Nat → Int × Int
  | 0 => (fb, 1)
  | n + 1 => @ite _ (p n ∧ F n < fb) (Classical.propDecidable _) (if (sn F L p fb n).2 = 1 then L n else max (sn F L p fb n).1 (L n), 0) (sn F L p fb n)
theorem sn_t {F L : Nat → Int} {p : Nat → Prop} {fb : Int} {n : Nat} (h : p n ∧ F n < fb) : sn F L p fb (n + 1) = (if (sn F L p fb n).2 = 1 then L n else max (sn F L p fb n).1 (L n), 0) := if_pos h
theorem sn_f {F L : Nat → Int} {p : Nat → Prop} {fb : Int} {n : Nat} (h : ¬ (p n ∧ F n < fb)) : sn F L p fb (n + 1) = sn F L p fb n := if_neg h
abbrev aFL : Type := (Nat → Int) × (Nat → Int)
def fu (f : Nat → Int) (k : Nat) (v : Int) : Nat → Int := fun j => if j = k then v else f j
/-- one before drawn tight -/
def swE (a b : Nat) (x : aFL) : aFL := (if x.1 b ≤ x.1 a then fu x.1 b (x.1 a + 1) else x.1, if x.2 b ≤ x.2 a then fu x.2 a (x.2 b - 1) else x.2)
def swp (ea la : Nat → Int) : Nat → Nat → aFL → aFL
  | 0, _, x => x
  | n + 1, k, x => swp ea la n (k + 1) (swE (ea k).toNat (la k).toNat x)
def swv (ea la : Nat → Int) : Nat → Nat → aFL → Prop
  | 0, _, _ => False
  | n + 1, k, x => x.1 (la k).toNat ≤ x.1 (ea k).toNat ∨ x.2 (la k).toNat ≤ x.2 (ea k).toNat ∨ swv ea la n (k + 1) (swE (ea k).toNat (la k).toNat x)
def stFL (S : aS) (x : aFL) : aS := stA (stA S 6 x.1) 7 x.2
def spX0_has : aSp := fun as S Q => match as with
  | [.inr (.inr 3), .inl b] => Q (some (.inl (bi (0 ≤ b ∧ b < S.1 3 7)))) S
  | _ => False
def tbX0_has : aTb := (fX0, pX0, fun j => lk [] j, kX0)
theorem tbX0_has_f : tbX0_has.1 = fX0 := rfl
theorem tbX0_has_p : tbX0_has.2.1 = pX0 := rfl
theorem tbX0_has_k : tbX0_has.2.2.2 = kX0 := rfl
theorem tbX0_has_all (l : Launch) : ∀ e ∈ ([] : List (Nat × Option Nat × Nat × aSp)), cOK l mX0_has e.1 e.2.1 e.2.2.1 e.2.2.2 ∨ mOK mX0_has e.1 e.2.1 e.2.2.1 e.2.2.2 := all_nil
theorem tbX0_has_ok (l : Launch) : tOK l mX0_has tbX0_has := ⟨fX0_ok, pX0_ok, fun _ _ _ _ h => tbX0_has_all l _ (lk_mem h), kX0_ok⟩
set_option maxRecDepth 20000 in
set_option maxHeartbeats 4000000 in
theorem okX0_has (l : Launch) : aOK l mX0_has spX0_has := by
  refine aOK_of rfl fun as S Q h => ?_
  unfold spX0_has at h
  split at h
  · rename_i b
    refine ⟨Nat.le_of_ble_eq_true rfl, wp_ok (tbX0_has_ok l) Q (fun pc => false) 12 0 _ [] S ?_⟩
    show wp cX0_has tbX0_has 2 (some .boolean) Q (fun pc => false) (aGo l mX0_has Q) 12 0 [(0, .inr (.inr 3)), (1, .inl b)] [] S
    simp only [wp_s, wpC_f, wpC_t, e_wLd, e_wLd0, e_wLd1, e_wLd2, e_get1, e_get2, e_wJ, e_wJo, f40, f41, f42, f43, Nat.reduceAdd, Nat.reduceBEq, Nat.reduceMul, eq_self, true_or, or_true, true_and, dX0_has_0, dX0_has_1, dX0_has_4, dX0_has_5, dX0_has_6, dX0_has_9, dX0_has_12, dX0_has_13, dX0_has_16, dX0_has_17, e_aload_n, e_iload_n, e_iconst, e_ifCond, e_if_icmp, e_goto, e_getfield, e_ireturn, e_ri, e_rz, e_wIf_lt, e_wIc_ge, fX0_33, ic_0, ic_1, jt_13_4, jt_1_15, jt_9_7, tbX0_has_f, tbX0_has_p, tbX0_has_k, g_3_7]
    repeat' (with_reducible first | intro _ | refine And.intro ?_ ?_)
    all_goals first | exact h | (rw [bi_t (by omega)] at h; exact h) | (rw [bi_f (by omega)] at h; exact h) | omega
  · exact h.elim
def spX0_isIn : aSp := fun as S Q => match as with
  | [.inl b, .inl x] => Q (some (.inl (bi (inS b x)))) S
  | _ => False
def tbX0_isIn : aTb := (fX0, pX0, fun j => lk [] j, kX0)
theorem tbX0_isIn_f : tbX0_isIn.1 = fX0 := rfl
theorem tbX0_isIn_p : tbX0_isIn.2.1 = pX0 := rfl
theorem tbX0_isIn_k : tbX0_isIn.2.2.2 = kX0 := rfl
theorem tbX0_isIn_all (l : Launch) : ∀ e ∈ ([] : List (Nat × Option Nat × Nat × aSp)), cOK l mX0_isIn e.1 e.2.1 e.2.2.1 e.2.2.2 ∨ mOK mX0_isIn e.1 e.2.1 e.2.2.1 e.2.2.2 := all_nil
theorem tbX0_isIn_ok (l : Launch) : tOK l mX0_isIn tbX0_isIn := ⟨fX0_ok, pX0_ok, fun _ _ _ _ h => tbX0_isIn_all l _ (lk_mem h), kX0_ok⟩
set_option maxRecDepth 20000 in
set_option maxHeartbeats 4000000 in
theorem okX0_isIn (l : Launch) : aOK l mX0_isIn spX0_isIn := by
  refine aOK_of rfl fun as S Q h => ?_
  unfold spX0_isIn at h
  split at h
  · rename_i b x
    refine ⟨Nat.le_of_ble_eq_true rfl, wp_ok (tbX0_isIn_ok l) Q (fun pc => false) 13 0 _ [] S ?_⟩
    show wp cX0_isIn tbX0_isIn 2 (some .boolean) Q (fun pc => false) (aGo l mX0_isIn Q) 13 0 [(0, .inl b), (1, .inl x)] [] S
    simp only [wp_s, wpC_f, wpC_t, e_wLd, e_wLd0, e_wLd1, e_wLd2, e_get1, e_get2, e_wJ, e_wJo, f40, f41, f42, f43, Nat.reduceAdd, Nat.reduceBEq, Nat.reduceMul, eq_self, true_or, or_true, true_and, dX0_isIn_0, dX0_isIn_1, dX0_isIn_2, dX0_isIn_3, dX0_isIn_4, dX0_isIn_5, dX0_isIn_6, dX0_isIn_9, dX0_isIn_10, dX0_isIn_13, dX0_isIn_14, e_iload_n, e_iconst, e_iand, e_iushr, e_if_icmp, e_goto, e_ireturn, e_wI2, e_ri, e_rz, e_wIc_ne, ic_0, ic_1, jt_10_4, jt_6_7, tbX0_isIn_f, tbX0_isIn_p, tbX0_isIn_k]
    repeat' (with_reducible first | intro _ | refine And.intro ?_ ?_)
    all_goals first | (rw [bi_t (show inS b x by assumption)] at h; exact h) | (rw [bi_f (show ¬ inS b x by assumption)] at h; exact h)
  · exact h.elim
def spX0_add : aSp := fun as S Q => match as with
  | [.inr (.inr 3), .inl a, .inl b] => 0 ≤ S.1 3 7 ∧ (30 ≤ S.1 3 7 → Q (some (.inl (-1))) S) ∧ (S.1 3 7 < 30 → Q (some (.inl (S.1 3 7))) (upI (upI (upI (upI (upI S 4 (S.1 3 7).toNat a) 5 (S.1 3 7).toNat b) 6 (S.1 3 7).toNat a) 7 (S.1 3 7).toNat b) 3 7 (S.1 3 7 + 1)))
  | _ => False
def tbX0_add : aTb := (fX0, pX0, fun j => lk [] j, kX0)
theorem tbX0_add_f : tbX0_add.1 = fX0 := rfl
theorem tbX0_add_p : tbX0_add.2.1 = pX0 := rfl
theorem tbX0_add_k : tbX0_add.2.2.2 = kX0 := rfl
theorem tbX0_add_all (l : Launch) : ∀ e ∈ ([] : List (Nat × Option Nat × Nat × aSp)), cOK l mX0_add e.1 e.2.1 e.2.2.1 e.2.2.2 ∨ mOK mX0_add e.1 e.2.1 e.2.2.1 e.2.2.2 := all_nil
theorem tbX0_add_ok (l : Launch) : tOK l mX0_add tbX0_add := ⟨fX0_ok, pX0_ok, fun _ _ _ _ h => tbX0_add_all l _ (lk_mem h), kX0_ok⟩
set_option maxRecDepth 20000 in
set_option maxHeartbeats 4000000 in
theorem okX0_add (l : Launch) : aOK l mX0_add spX0_add := by
  refine aOK_of rfl fun as S Q h => ?_
  unfold spX0_add at h
  split at h
  · rename_i a b
    refine ⟨Nat.le_of_ble_eq_true rfl, wp_ok (tbX0_add_ok l) Q (fun pc => false) 38 0 _ [] S ?_⟩
    show wp cX0_add tbX0_add 4 (some .int) Q (fun pc => false) (aGo l mX0_add Q) 38 0 [(0, .inr (.inr 3)), (1, .inl a), (2, .inl b)] [] S
    simp only [wp_s, wpC_f, wpC_t, e_wLd, e_wLd0, e_wLd1, e_wLd2, e_get1, e_get2, e_wJ, e_wJo, f40, f41, f42, f43, Nat.reduceAdd, Nat.reduceBEq, Nat.reduceMul, eq_self, true_or, or_true, true_and, dX0_add_0, dX0_add_1, dX0_add_4, dX0_add_5, dX0_add_6, dX0_add_8, dX0_add_11, dX0_add_12, dX0_add_13, dX0_add_14, dX0_add_17, dX0_add_18, dX0_add_19, dX0_add_20, dX0_add_21, dX0_add_24, dX0_add_25, dX0_add_26, dX0_add_27, dX0_add_28, dX0_add_31, dX0_add_32, dX0_add_33, dX0_add_34, dX0_add_35, dX0_add_38, dX0_add_39, dX0_add_40, dX0_add_41, dX0_add_42, dX0_add_43, dX0_add_46, dX0_add_47, dX0_add_48, dX0_add_51, dX0_add_52, e_aload_n, e_iload_n, e_istore_n, e_iconst, e_bipush, e_iadd, e_dup, e_if_icmp, e_getfield, e_putfield, e_iastore, e_ireturn, e_wSt0, e_wSt1, e_wSt2, e_isL0, e_isL1, e_isL2, e_lset, e_lclr0, e_lclr1, e_lclr2, e_lput0, e_lput1, e_lput2, e_wInc, e_wInc0, Nat.reduceLT, not_false_eq_true, Bool.or_false, Bool.false_or, Bool.or_true, Bool.true_or, Bool.and_false, Bool.false_and, Bool.and_true, Bool.true_and, e_ri, e_rz, e_wDup0, e_wDup1, e_wI2, e_wIc_lt, bp_30, fX0_15, fX0_18, fX0_21, fX0_33, fX0_9, ic_1, ic_m1, jt_8_5, pX0_33, tbX0_add_f, tbX0_add_p, tbX0_add_k, g_3_1, g_3_7, s_5, g_3_0, s_4, g_3_3, s_7, g_3_2, s_6, p_3_7]
    obtain ⟨h0, h1, h2⟩ := h
    repeat' (with_reducible first | intro _ | refine And.intro ?_ ?_)
    all_goals (try simp (disch := omega) only [wI_id, up_hit, up_obj, upL_hit, upL_obj, up_2, upL_1, Int.toNat_natCast])
    all_goals first | omega | exact h1 (by omega) | exact h2 (by omega)
  · exact h.elim
def spX0_wasTold : aSp := fun as S Q => match as with
  | [.inr (.inr 3), .inl a, .inl b] => 0 ≤ S.1 3 8 ∧ S.1 3 8 ≤ 60 ∧ Q (some (.inl (bi (∃ k : Nat, (k : Int) < S.1 3 8 ∧ S.1 9 k = a ∧ S.1 10 k = b)))) S
  | _ => False
def tbX0_wasTold : aTb := (fX0, pX0, fun j => lk [] j, kX0)
theorem tbX0_wasTold_f : tbX0_wasTold.1 = fX0 := rfl
theorem tbX0_wasTold_p : tbX0_wasTold.2.1 = pX0 := rfl
theorem tbX0_wasTold_k : tbX0_wasTold.2.2.2 = kX0 := rfl
theorem tbX0_wasTold_all (l : Launch) : ∀ e ∈ ([] : List (Nat × Option Nat × Nat × aSp)), cOK l mX0_wasTold e.1 e.2.1 e.2.2.1 e.2.2.2 ∨ mOK mX0_wasTold e.1 e.2.1 e.2.2.1 e.2.2.2 := all_nil
theorem tbX0_wasTold_ok (l : Launch) : tOK l mX0_wasTold tbX0_wasTold := ⟨fX0_ok, pX0_ok, fun _ _ _ _ h => tbX0_wasTold_all l _ (lk_mem h), kX0_ok⟩
set_option maxRecDepth 20000 in
set_option maxHeartbeats 4000000 in
theorem lpX0_wasTold (l : Launch) (Q : Option aV → aS → Prop) : ∀ (n : Nat) (S : aS) (a b : Int) (i : Nat), i + n = (S.1 3 8).toNat → S.1 3 8 ≤ 60 → Q (some (.inl (bi (∃ k : Nat, (k : Int) < S.1 3 8 ∧ S.1 9 k = a ∧ S.1 10 k = b)))) S → (∀ k : Nat, k < i → ¬ (S.1 9 k = a ∧ S.1 10 k = b)) → aGo l mX0_wasTold Q 2 [(0, .inr (.inr 3)), (1, .inl a), (2, .inl b), (3, .inl (i : Int))] [] S := by
  intro n
  induction n using Nat.strongRecOn with
  | _ n ih =>
  intro S  a b  i  h0 h1 h2 h3
  refine wp_go (tbX0_wasTold_ok l) (fun pc => pc == 2) 26 dX0_wasTold_2 ?_
  show ws1 tbX0_wasTold 4 (some .boolean) Q (wp cX0_wasTold tbX0_wasTold 4 (some .boolean) Q (fun pc => pc == 2) (aGo l mX0_wasTold Q) 26) (.iload_n 3) 1 2 [(0, .inr (.inr 3)), (1, .inl a), (2, .inl b), (3, .inl (i : Int))] [] S
  simp only [wp_s, wpC_f, wpC_t, e_wLd, e_wLd0, e_wLd1, e_wLd2, e_get1, e_get2, e_wJ, e_wJo, f40, f41, f42, f43, Nat.reduceAdd, Nat.reduceBEq, Nat.reduceMul, eq_self, true_or, or_true, true_and, dX0_wasTold_0, dX0_wasTold_1, dX0_wasTold_2, dX0_wasTold_3, dX0_wasTold_4, dX0_wasTold_7, dX0_wasTold_10, dX0_wasTold_11, dX0_wasTold_14, dX0_wasTold_15, dX0_wasTold_16, dX0_wasTold_17, dX0_wasTold_20, dX0_wasTold_21, dX0_wasTold_24, dX0_wasTold_25, dX0_wasTold_26, dX0_wasTold_27, dX0_wasTold_30, dX0_wasTold_31, dX0_wasTold_32, dX0_wasTold_35, dX0_wasTold_38, dX0_wasTold_39, e_aload_n, e_iload_n, e_istore_n, e_iconst, e_iinc, e_if_icmp, e_goto, e_getfield, e_iaload, e_ireturn, e_wSt0, e_wSt1, e_wSt2, e_isL0, e_isL1, e_isL2, e_lset, e_lclr0, e_lclr1, e_lclr2, e_lput0, e_lput1, e_lput2, e_wInc, e_wInc0, Nat.reduceLT, not_false_eq_true, Bool.or_false, Bool.false_or, Bool.or_true, Bool.true_or, Bool.and_false, Bool.false_and, Bool.and_true, Bool.true_and, e_ri, e_rz, e_wIc_ne, e_wIc_ge, fX0_27, fX0_30, fX0_37, ic_0, ic_1, jt_17_15, jt_27_5, jt_35_m33, jt_7_31, tbX0_wasTold_f, tbX0_wasTold_p, tbX0_wasTold_k, l_9, g_3_6, l_10, g_3_5, g_3_8]
  repeat' (with_reducible first | intro _ | refine And.intro ?_ ?_)
  all_goals (try simp (disch := omega) only [wI_id, Int.toNat_natCast] at *)
  all_goals first
    | omega
    | (rw [bi_f (by rintro ⟨k, hk, hk2⟩; exact h3 k (by omega) hk2)] at h2; exact h2)
    | (rw [bi_t ⟨i, by omega, by omega, by omega⟩] at h2; exact h2)
    | (refine ih (n - 1) (by omega) S a b (i + 1) (by omega) h1 h2 (fun k hk => ?_)
       by_cases hki : k = i
       · subst hki; omega
       · exact h3 k (by omega))
    | skip
set_option maxRecDepth 20000 in
set_option maxHeartbeats 4000000 in
theorem okX0_wasTold (l : Launch) : aOK l mX0_wasTold spX0_wasTold := by
  refine aOK_of rfl fun as S Q h => ?_
  unfold spX0_wasTold at h
  split at h
  · rename_i a b
    refine ⟨Nat.le_of_ble_eq_true rfl, wp_ok (tbX0_wasTold_ok l) Q (fun pc => pc == 2) 26 0 _ [] S ?_⟩
    show wp cX0_wasTold tbX0_wasTold 4 (some .boolean) Q (fun pc => pc == 2) (aGo l mX0_wasTold Q) 26 0 [(0, .inr (.inr 3)), (1, .inl a), (2, .inl b)] [] S
    simp only [wp_s, wpC_f, wpC_t, e_wLd, e_wLd0, e_wLd1, e_wLd2, e_get1, e_get2, e_wJ, e_wJo, f40, f41, f42, f43, Nat.reduceAdd, Nat.reduceBEq, Nat.reduceMul, eq_self, true_or, or_true, true_and, dX0_wasTold_0, dX0_wasTold_1, dX0_wasTold_2, dX0_wasTold_3, dX0_wasTold_4, dX0_wasTold_7, dX0_wasTold_10, dX0_wasTold_11, dX0_wasTold_14, dX0_wasTold_15, dX0_wasTold_16, dX0_wasTold_17, dX0_wasTold_20, dX0_wasTold_21, dX0_wasTold_24, dX0_wasTold_25, dX0_wasTold_26, dX0_wasTold_27, dX0_wasTold_30, dX0_wasTold_31, dX0_wasTold_32, dX0_wasTold_35, dX0_wasTold_38, dX0_wasTold_39, e_aload_n, e_iload_n, e_istore_n, e_iconst, e_iinc, e_if_icmp, e_goto, e_getfield, e_iaload, e_ireturn, e_wSt0, e_wSt1, e_wSt2, e_isL0, e_isL1, e_isL2, e_lset, e_lclr0, e_lclr1, e_lclr2, e_lput0, e_lput1, e_lput2, e_wInc, e_wInc0, Nat.reduceLT, not_false_eq_true, Bool.or_false, Bool.false_or, Bool.or_true, Bool.true_or, Bool.and_false, Bool.false_and, Bool.and_true, Bool.true_and, e_ri, e_rz, e_wIc_ne, e_wIc_ge, fX0_27, fX0_30, fX0_37, ic_0, ic_1, jt_17_15, jt_27_5, jt_35_m33, jt_7_31, tbX0_wasTold_f, tbX0_wasTold_p, tbX0_wasTold_k, l_9, g_3_6, l_10, g_3_5, g_3_8]
    exact lpX0_wasTold l Q (S.1 3 8).toNat S a b 0 (by omega) h.2.1 h.2.2 (fun k hk => by omega)
  · exact h.elim
def spX0_allHaveYears : aSp := fun as S Q => match as with
  | [.inr (.inr 3)] => 0 ≤ S.1 3 7 ∧ S.1 3 7 ≤ 30 ∧ Q (some (.inl (bi (∀ k : Nat, (k : Int) < S.1 3 7 → S.1 6 k ≤ S.1 7 k)))) S
  | _ => False
def tbX0_allHaveYears : aTb := (fX0, pX0, fun j => lk [] j, kX0)
theorem tbX0_allHaveYears_f : tbX0_allHaveYears.1 = fX0 := rfl
theorem tbX0_allHaveYears_p : tbX0_allHaveYears.2.1 = pX0 := rfl
theorem tbX0_allHaveYears_k : tbX0_allHaveYears.2.2.2 = kX0 := rfl
theorem tbX0_allHaveYears_all (l : Launch) : ∀ e ∈ ([] : List (Nat × Option Nat × Nat × aSp)), cOK l mX0_allHaveYears e.1 e.2.1 e.2.2.1 e.2.2.2 ∨ mOK mX0_allHaveYears e.1 e.2.1 e.2.2.1 e.2.2.2 := all_nil
theorem tbX0_allHaveYears_ok (l : Launch) : tOK l mX0_allHaveYears tbX0_allHaveYears := ⟨fX0_ok, pX0_ok, fun _ _ _ _ h => tbX0_allHaveYears_all l _ (lk_mem h), kX0_ok⟩
set_option maxRecDepth 20000 in
set_option maxHeartbeats 4000000 in
theorem lpX0_allHaveYears (l : Launch) (Q : Option aV → aS → Prop) : ∀ (n : Nat) (S : aS) (i : Nat), i + n = (S.1 3 7).toNat → S.1 3 7 ≤ 30 → Q (some (.inl (bi (∀ k : Nat, (k : Int) < S.1 3 7 → S.1 6 k ≤ S.1 7 k)))) S → (∀ k : Nat, k < i → S.1 6 k ≤ S.1 7 k) → aGo l mX0_allHaveYears Q 2 [(0, .inr (.inr 3)), (1, .inl (i : Int))] [] S := by
  intro n
  induction n using Nat.strongRecOn with
  | _ n ih =>
  intro S  i  h0 h1 h2 h3
  refine wp_go (tbX0_allHaveYears_ok l) (fun pc => pc == 2) 23 dX0_allHaveYears_2 ?_
  show ws1 tbX0_allHaveYears 2 (some .boolean) Q (wp cX0_allHaveYears tbX0_allHaveYears 2 (some .boolean) Q (fun pc => pc == 2) (aGo l mX0_allHaveYears Q) 23) (.iload_n 1) 1 2 [(0, .inr (.inr 3)), (1, .inl (i : Int))] [] S
  simp only [wp_s, wpC_f, wpC_t, e_wLd, e_wLd0, e_wLd1, e_wLd2, e_get1, e_get2, e_wJ, e_wJo, f40, f41, f42, f43, Nat.reduceAdd, Nat.reduceBEq, Nat.reduceMul, eq_self, true_or, or_true, true_and, dX0_allHaveYears_0, dX0_allHaveYears_1, dX0_allHaveYears_2, dX0_allHaveYears_3, dX0_allHaveYears_4, dX0_allHaveYears_7, dX0_allHaveYears_10, dX0_allHaveYears_11, dX0_allHaveYears_14, dX0_allHaveYears_15, dX0_allHaveYears_16, dX0_allHaveYears_17, dX0_allHaveYears_20, dX0_allHaveYears_21, dX0_allHaveYears_22, dX0_allHaveYears_25, dX0_allHaveYears_26, dX0_allHaveYears_27, dX0_allHaveYears_30, dX0_allHaveYears_33, dX0_allHaveYears_34, e_aload_n, e_iload_n, e_istore_n, e_iconst, e_iinc, e_if_icmp, e_goto, e_getfield, e_iaload, e_ireturn, e_wSt0, e_wSt1, e_wSt2, e_isL0, e_isL1, e_isL2, e_lset, e_lclr0, e_lclr1, e_lclr2, e_lput0, e_lput1, e_lput2, e_wInc, e_wInc0, Nat.reduceLT, not_false_eq_true, Bool.or_false, Bool.false_or, Bool.or_true, Bool.true_or, Bool.and_false, Bool.false_and, Bool.and_true, Bool.true_and, e_ri, e_rz, e_wIc_le, e_wIc_ge, fX0_18, fX0_21, fX0_33, ic_0, ic_1, jt_22_5, jt_30_m28, jt_7_26, tbX0_allHaveYears_f, tbX0_allHaveYears_p, tbX0_allHaveYears_k, g_3_7, l_7, g_3_3, l_6, g_3_2]
  repeat' (with_reducible first | intro _ | refine And.intro ?_ ?_)
  all_goals (try simp (disch := omega) only [wI_id, Int.toNat_natCast] at *)
  all_goals first
    | omega
    | (rw [bi_t (fun k hk => h3 k (by omega))] at h2; exact h2)
    | (rw [bi_f (fun q => by have := q i (by omega); omega)] at h2; exact h2)
    | (refine ih (n - 1) (by omega) S (i + 1) (by omega) h1 h2 (fun k hk => ?_)
       by_cases hki : k = i
       · subst hki; omega
       · exact h3 k (by omega))
    | skip
set_option maxRecDepth 20000 in
set_option maxHeartbeats 4000000 in
theorem okX0_allHaveYears (l : Launch) : aOK l mX0_allHaveYears spX0_allHaveYears := by
  refine aOK_of rfl fun as S Q h => ?_
  unfold spX0_allHaveYears at h
  split at h
  · refine ⟨Nat.le_of_ble_eq_true rfl, wp_ok (tbX0_allHaveYears_ok l) Q (fun pc => pc == 2) 23 0 _ [] S ?_⟩
    show wp cX0_allHaveYears tbX0_allHaveYears 2 (some .boolean) Q (fun pc => pc == 2) (aGo l mX0_allHaveYears Q) 23 0 [(0, .inr (.inr 3))] [] S
    simp only [wp_s, wpC_f, wpC_t, e_wLd, e_wLd0, e_wLd1, e_wLd2, e_get1, e_get2, e_wJ, e_wJo, f40, f41, f42, f43, Nat.reduceAdd, Nat.reduceBEq, Nat.reduceMul, eq_self, true_or, or_true, true_and, dX0_allHaveYears_0, dX0_allHaveYears_1, dX0_allHaveYears_2, dX0_allHaveYears_3, dX0_allHaveYears_4, dX0_allHaveYears_7, dX0_allHaveYears_10, dX0_allHaveYears_11, dX0_allHaveYears_14, dX0_allHaveYears_15, dX0_allHaveYears_16, dX0_allHaveYears_17, dX0_allHaveYears_20, dX0_allHaveYears_21, dX0_allHaveYears_22, dX0_allHaveYears_25, dX0_allHaveYears_26, dX0_allHaveYears_27, dX0_allHaveYears_30, dX0_allHaveYears_33, dX0_allHaveYears_34, e_aload_n, e_iload_n, e_istore_n, e_iconst, e_iinc, e_if_icmp, e_goto, e_getfield, e_iaload, e_ireturn, e_wSt0, e_wSt1, e_wSt2, e_isL0, e_isL1, e_isL2, e_lset, e_lclr0, e_lclr1, e_lclr2, e_lput0, e_lput1, e_lput2, e_wInc, e_wInc0, Nat.reduceLT, not_false_eq_true, Bool.or_false, Bool.false_or, Bool.or_true, Bool.true_or, Bool.and_false, Bool.false_and, Bool.and_true, Bool.true_and, e_ri, e_rz, e_wIc_le, e_wIc_ge, fX0_18, fX0_21, fX0_33, ic_0, ic_1, jt_22_5, jt_30_m28, jt_7_26, tbX0_allHaveYears_f, tbX0_allHaveYears_p, tbX0_allHaveYears_k, g_3_7, l_7, g_3_3, l_6, g_3_2]
    exact lpX0_allHaveYears l Q (S.1 3 7).toNat S 0 (by omega) h.2.1 h.2.2 (fun k hk => by omega)
  · exact h.elim
def spX0_least : aSp := fun as S Q => match as with
  | [.inr (.inr 3), .inr (.inr y), .inl x] => (y = 6 ∨ y = 7) ∧ 0 ≤ S.1 3 7 ∧ S.1 3 7 ≤ 30 ∧ Q (some (.inl (mn (S.1 y) (fun k => inS k x) (S.1 3 7).toNat))) S
  | _ => False
def tbX0_least : aTb := (fX0, pX0, fun j => lk [(58, none, 2, spX0_isIn), (61, none, 2, spMn)] j, kX0)
theorem tbX0_least_f : tbX0_least.1 = fX0 := rfl
theorem tbX0_least_p : tbX0_least.2.1 = pX0 := rfl
theorem tbX0_least_k : tbX0_least.2.2.2 = kX0 := rfl
theorem tbX0_least_c58 : tbX0_least.2.2.1 58 = some (none, 2, spX0_isIn) := rfl
theorem tbX0_least_c61 : tbX0_least.2.2.1 61 = some (none, 2, spMn) := rfl
theorem tbX0_least_all (l : Launch) : ∀ e ∈ ([(58, none, 2, spX0_isIn), (61, none, 2, spMn)] : List (Nat × Option Nat × Nat × aSp)), cOK l mX0_least e.1 e.2.1 e.2.2.1 e.2.2.2 ∨ mOK mX0_least e.1 e.2.1 e.2.2.1 e.2.2.2 := all_cons (cOK_of (okX0_isIn l) meX0_isIn cfX0_58 (by decide) (by decide)) (all_cons (cmX0_61 rfl (by decide) (by decide)) (all_nil))
theorem tbX0_least_ok (l : Launch) : tOK l mX0_least tbX0_least := ⟨fX0_ok, pX0_ok, fun _ _ _ _ h => tbX0_least_all l _ (lk_mem h), kX0_ok⟩
set_option maxRecDepth 20000 in
set_option maxHeartbeats 4000000 in
theorem lpX0_least_6 (l : Launch) (Q : Option aV → aS → Prop) : ∀ (n : Nat) (S : aS) (x : Int) (i : Nat), i + n = (S.1 3 7).toNat → S.1 3 7 ≤ 30 → Q (some (.inl (mn (S.1 6) (fun k => inS k x) (S.1 3 7).toNat))) S → aGo l mX0_least Q 7 [(0, .inr (.inr 3)), (1, .inr (.inr 6)), (2, .inl x), (3, .inl (mn (S.1 6) (fun k => inS k x) i)), (4, .inl (i : Int))] [] S := by
  intro n
  induction n using Nat.strongRecOn with
  | _ n ih =>
  intro S  x  i  h0 h1 h2
  refine wp_go (tbX0_least_ok l) (fun pc => pc == 7) 28 dX0_least_7 ?_
  show ws1 tbX0_least 5 (some .int) Q (wp cX0_least tbX0_least 5 (some .int) Q (fun pc => pc == 7) (aGo l mX0_least Q) 28) (.iload 4) 2 7 [(0, .inr (.inr 3)), (1, .inr (.inr 6)), (2, .inl x), (3, .inl (mn (S.1 6) (fun k => inS k x) i)), (4, .inl (i : Int))] [] S
  simp only [wp_s, wpC_f, wpC_t, e_wLd, e_wLd0, e_wLd1, e_wLd2, e_get1, e_get2, e_wJ, e_wJo, f40, f41, f42, f43, Nat.reduceAdd, Nat.reduceBEq, Nat.reduceMul, eq_self, true_or, or_true, true_and, dX0_least_0, dX0_least_3, dX0_least_4, dX0_least_5, dX0_least_7, dX0_least_9, dX0_least_10, dX0_least_13, dX0_least_16, dX0_least_18, dX0_least_19, dX0_least_20, dX0_least_23, dX0_least_25, dX0_least_26, dX0_least_29, dX0_least_32, dX0_least_33, dX0_least_34, dX0_least_36, dX0_least_37, dX0_least_40, dX0_least_41, dX0_least_44, dX0_least_47, dX0_least_48, e_aload_n, e_iload_n, e_iload, e_istore_n, e_istore, e_iconst, e_sipush, e_iinc, e_ifCond, e_if_icmp, e_goto, e_getfield, e_iaload, e_arraylength, e_invokestatic, e_ireturn, e_wSt0, e_wSt1, e_wSt2, e_isL0, e_isL1, e_isL2, e_lset, e_lclr0, e_lclr1, e_lclr2, e_lput0, e_lput1, e_lput2, e_wInc, e_wInc0, Nat.reduceLT, not_false_eq_true, Bool.or_false, Bool.false_or, Bool.or_true, Bool.true_or, Bool.and_false, Bool.false_and, Bool.and_true, Bool.true_and, e_ri, e_rz, e_wIf_eq, e_wIc_ge, fX0_33, ic_0, jt_13_34, jt_20_27, jt_29_12, jt_44_m37, sp_2001, e_call, e_callS0, e_callS1, e_callS2, e_callS3, e_callS4, e_pop0, e_pop1, e_tl0, e_tl1, tbX0_least_f, tbX0_least_p, tbX0_least_k, tbX0_least_c58, tbX0_least_c61, g_3_7, l_6, n_6, spX0_isIn, spMn, bi_0, bi_1, ne_eq, Classical.not_not, em_r, em_l]
  repeat' (with_reducible first | intro _ | refine And.intro ?_ ?_)
  all_goals (try simp (disch := omega) only [wI_id, Int.toNat_natCast] at *)
  all_goals first
    | omega
    | (rw [show (S.1 3 7).toNat = i from by omega] at h2; exact h2)
    | (have e := ih (n - 1) (by omega) S x (i + 1) (by omega) h1 h2; rw [mn_t (by assumption)] at e; exact e)
    | (have e := ih (n - 1) (by omega) S x (i + 1) (by omega) h1 h2; rw [mn_f (by assumption)] at e; exact e)
    | skip
set_option maxRecDepth 20000 in
set_option maxHeartbeats 4000000 in
theorem lpX0_least_7 (l : Launch) (Q : Option aV → aS → Prop) : ∀ (n : Nat) (S : aS) (x : Int) (i : Nat), i + n = (S.1 3 7).toNat → S.1 3 7 ≤ 30 → Q (some (.inl (mn (S.1 7) (fun k => inS k x) (S.1 3 7).toNat))) S → aGo l mX0_least Q 7 [(0, .inr (.inr 3)), (1, .inr (.inr 7)), (2, .inl x), (3, .inl (mn (S.1 7) (fun k => inS k x) i)), (4, .inl (i : Int))] [] S := by
  intro n
  induction n using Nat.strongRecOn with
  | _ n ih =>
  intro S  x  i  h0 h1 h2
  refine wp_go (tbX0_least_ok l) (fun pc => pc == 7) 28 dX0_least_7 ?_
  show ws1 tbX0_least 5 (some .int) Q (wp cX0_least tbX0_least 5 (some .int) Q (fun pc => pc == 7) (aGo l mX0_least Q) 28) (.iload 4) 2 7 [(0, .inr (.inr 3)), (1, .inr (.inr 7)), (2, .inl x), (3, .inl (mn (S.1 7) (fun k => inS k x) i)), (4, .inl (i : Int))] [] S
  simp only [wp_s, wpC_f, wpC_t, e_wLd, e_wLd0, e_wLd1, e_wLd2, e_get1, e_get2, e_wJ, e_wJo, f40, f41, f42, f43, Nat.reduceAdd, Nat.reduceBEq, Nat.reduceMul, eq_self, true_or, or_true, true_and, dX0_least_0, dX0_least_3, dX0_least_4, dX0_least_5, dX0_least_7, dX0_least_9, dX0_least_10, dX0_least_13, dX0_least_16, dX0_least_18, dX0_least_19, dX0_least_20, dX0_least_23, dX0_least_25, dX0_least_26, dX0_least_29, dX0_least_32, dX0_least_33, dX0_least_34, dX0_least_36, dX0_least_37, dX0_least_40, dX0_least_41, dX0_least_44, dX0_least_47, dX0_least_48, e_aload_n, e_iload_n, e_iload, e_istore_n, e_istore, e_iconst, e_sipush, e_iinc, e_ifCond, e_if_icmp, e_goto, e_getfield, e_iaload, e_arraylength, e_invokestatic, e_ireturn, e_wSt0, e_wSt1, e_wSt2, e_isL0, e_isL1, e_isL2, e_lset, e_lclr0, e_lclr1, e_lclr2, e_lput0, e_lput1, e_lput2, e_wInc, e_wInc0, Nat.reduceLT, not_false_eq_true, Bool.or_false, Bool.false_or, Bool.or_true, Bool.true_or, Bool.and_false, Bool.false_and, Bool.and_true, Bool.true_and, e_ri, e_rz, e_wIf_eq, e_wIc_ge, fX0_33, ic_0, jt_13_34, jt_20_27, jt_29_12, jt_44_m37, sp_2001, e_call, e_callS0, e_callS1, e_callS2, e_callS3, e_callS4, e_pop0, e_pop1, e_tl0, e_tl1, tbX0_least_f, tbX0_least_p, tbX0_least_k, tbX0_least_c58, tbX0_least_c61, g_3_7, l_7, n_7, spX0_isIn, spMn, bi_0, bi_1, ne_eq, Classical.not_not, em_r, em_l]
  repeat' (with_reducible first | intro _ | refine And.intro ?_ ?_)
  all_goals (try simp (disch := omega) only [wI_id, Int.toNat_natCast] at *)
  all_goals first
    | omega
    | (rw [show (S.1 3 7).toNat = i from by omega] at h2; exact h2)
    | (have e := ih (n - 1) (by omega) S x (i + 1) (by omega) h1 h2; rw [mn_t (by assumption)] at e; exact e)
    | (have e := ih (n - 1) (by omega) S x (i + 1) (by omega) h1 h2; rw [mn_f (by assumption)] at e; exact e)
    | skip

set_option maxRecDepth 20000 in
set_option maxHeartbeats 4000000 in
theorem okX0_least (l : Launch) : aOK l mX0_least spX0_least := by
  refine aOK_of rfl fun as S Q h => ?_
  unfold spX0_least at h
  split at h
  · rename_i y x
    refine ⟨Nat.le_of_ble_eq_true rfl, wp_ok (tbX0_least_ok l) Q (fun pc => pc == 7) 40 0 _ [] S ?_⟩
    show wp cX0_least tbX0_least 5 (some .int) Q (fun pc => pc == 7) (aGo l mX0_least Q) 40 0 [(0, .inr (.inr 3)), (1, .inr (.inr y)), (2, .inl x)] [] S
    simp only [wp_s, wpC_f, wpC_t, e_wLd, e_wLd0, e_wLd1, e_wLd2, e_get1, e_get2, e_wJ, e_wJo, f40, f41, f42, f43, Nat.reduceAdd, Nat.reduceBEq, Nat.reduceMul, eq_self, true_or, or_true, true_and, dX0_least_0, dX0_least_3, dX0_least_4, dX0_least_5, dX0_least_7, dX0_least_9, dX0_least_10, dX0_least_13, dX0_least_16, dX0_least_18, dX0_least_19, dX0_least_20, dX0_least_23, dX0_least_25, dX0_least_26, dX0_least_29, dX0_least_32, dX0_least_33, dX0_least_34, dX0_least_36, dX0_least_37, dX0_least_40, dX0_least_41, dX0_least_44, dX0_least_47, dX0_least_48, e_aload_n, e_iload_n, e_iload, e_istore_n, e_istore, e_iconst, e_sipush, e_iinc, e_ifCond, e_if_icmp, e_goto, e_getfield, e_iaload, e_arraylength, e_invokestatic, e_ireturn, e_wSt0, e_wSt1, e_wSt2, e_isL0, e_isL1, e_isL2, e_lset, e_lclr0, e_lclr1, e_lclr2, e_lput0, e_lput1, e_lput2, e_wInc, e_wInc0, Nat.reduceLT, not_false_eq_true, Bool.or_false, Bool.false_or, Bool.or_true, Bool.true_or, Bool.and_false, Bool.false_and, Bool.and_true, Bool.true_and, e_ri, e_rz, e_wIf_eq, e_wIc_ge, fX0_33, ic_0, jt_13_34, jt_20_27, jt_29_12, jt_44_m37, sp_2001, e_call, e_callS0, e_callS1, e_callS2, e_callS3, e_callS4, e_pop0, e_pop1, e_tl0, e_tl1, tbX0_least_f, tbX0_least_p, tbX0_least_k, tbX0_least_c58, tbX0_least_c61, g_3_7]
    rcases h.1 with rfl | rfl
    · exact lpX0_least_6 l Q _ S x 0 (Nat.zero_add _) h.2.2.1 h.2.2.2
    · exact lpX0_least_7 l Q _ S x 0 (Nat.zero_add _) h.2.2.1 h.2.2.2
  · exact h.elim
def spX0_greatest : aSp := fun as S Q => match as with
  | [.inr (.inr 3), .inr (.inr y), .inl x] => (y = 6 ∨ y = 7) ∧ 0 ≤ S.1 3 7 ∧ S.1 3 7 ≤ 30 ∧ Q (some (.inl (mx (S.1 y) (fun k => inS k x) (S.1 3 7).toNat))) S
  | _ => False
def tbX0_greatest : aTb := (fX0, pX0, fun j => lk [(58, none, 2, spX0_isIn), (67, none, 2, spMx)] j, kX0)
theorem tbX0_greatest_f : tbX0_greatest.1 = fX0 := rfl
theorem tbX0_greatest_p : tbX0_greatest.2.1 = pX0 := rfl
theorem tbX0_greatest_k : tbX0_greatest.2.2.2 = kX0 := rfl
theorem tbX0_greatest_c58 : tbX0_greatest.2.2.1 58 = some (none, 2, spX0_isIn) := rfl
theorem tbX0_greatest_c67 : tbX0_greatest.2.2.1 67 = some (none, 2, spMx) := rfl
theorem tbX0_greatest_all (l : Launch) : ∀ e ∈ ([(58, none, 2, spX0_isIn), (67, none, 2, spMx)] : List (Nat × Option Nat × Nat × aSp)), cOK l mX0_greatest e.1 e.2.1 e.2.2.1 e.2.2.2 ∨ mOK mX0_greatest e.1 e.2.1 e.2.2.1 e.2.2.2 := all_cons (cOK_of (okX0_isIn l) meX0_isIn cfX0_58 (by decide) (by decide)) (all_cons (cmX0_67 rfl (by decide) (by decide)) (all_nil))
theorem tbX0_greatest_ok (l : Launch) : tOK l mX0_greatest tbX0_greatest := ⟨fX0_ok, pX0_ok, fun _ _ _ _ h => tbX0_greatest_all l _ (lk_mem h), kX0_ok⟩
set_option maxRecDepth 20000 in
set_option maxHeartbeats 4000000 in
theorem lpX0_greatest_6 (l : Launch) (Q : Option aV → aS → Prop) : ∀ (n : Nat) (S : aS) (x : Int) (i : Nat), i + n = (S.1 3 7).toNat → S.1 3 7 ≤ 30 → Q (some (.inl (mx (S.1 6) (fun k => inS k x) (S.1 3 7).toNat))) S → aGo l mX0_greatest Q 5 [(0, .inr (.inr 3)), (1, .inr (.inr 6)), (2, .inl x), (3, .inl (mx (S.1 6) (fun k => inS k x) i)), (4, .inl (i : Int))] [] S := by
  intro n
  induction n using Nat.strongRecOn with
  | _ n ih =>
  intro S  x  i  h0 h1 h2
  refine wp_go (tbX0_greatest_ok l) (fun pc => pc == 5) 28 dX0_greatest_5 ?_
  show ws1 tbX0_greatest 5 (some .int) Q (wp cX0_greatest tbX0_greatest 5 (some .int) Q (fun pc => pc == 5) (aGo l mX0_greatest Q) 28) (.iload 4) 2 5 [(0, .inr (.inr 3)), (1, .inr (.inr 6)), (2, .inl x), (3, .inl (mx (S.1 6) (fun k => inS k x) i)), (4, .inl (i : Int))] [] S
  simp only [wp_s, wpC_f, wpC_t, e_wLd, e_wLd0, e_wLd1, e_wLd2, e_get1, e_get2, e_wJ, e_wJo, f40, f41, f42, f43, Nat.reduceAdd, Nat.reduceBEq, Nat.reduceMul, eq_self, true_or, or_true, true_and, dX0_greatest_0, dX0_greatest_1, dX0_greatest_2, dX0_greatest_3, dX0_greatest_5, dX0_greatest_7, dX0_greatest_8, dX0_greatest_11, dX0_greatest_14, dX0_greatest_16, dX0_greatest_17, dX0_greatest_18, dX0_greatest_21, dX0_greatest_23, dX0_greatest_24, dX0_greatest_27, dX0_greatest_30, dX0_greatest_31, dX0_greatest_32, dX0_greatest_34, dX0_greatest_35, dX0_greatest_38, dX0_greatest_39, dX0_greatest_42, dX0_greatest_45, dX0_greatest_46, e_aload_n, e_iload_n, e_iload, e_istore_n, e_istore, e_iconst, e_iinc, e_ifCond, e_if_icmp, e_goto, e_getfield, e_iaload, e_arraylength, e_invokestatic, e_ireturn, e_wSt0, e_wSt1, e_wSt2, e_isL0, e_isL1, e_isL2, e_lset, e_lclr0, e_lclr1, e_lclr2, e_lput0, e_lput1, e_lput2, e_wInc, e_wInc0, Nat.reduceLT, not_false_eq_true, Bool.or_false, Bool.false_or, Bool.or_true, Bool.true_or, Bool.and_false, Bool.false_and, Bool.and_true, Bool.true_and, e_ri, e_rz, e_wIf_eq, e_wIc_ge, fX0_33, ic_0, jt_11_34, jt_18_27, jt_27_12, jt_42_m37, e_call, e_callS0, e_callS1, e_callS2, e_callS3, e_callS4, e_pop0, e_pop1, e_tl0, e_tl1, tbX0_greatest_f, tbX0_greatest_p, tbX0_greatest_k, tbX0_greatest_c58, tbX0_greatest_c67, g_3_7, l_6, n_6, spX0_isIn, spMx, bi_0, bi_1, ne_eq, Classical.not_not, em_r, em_l]
  repeat' (with_reducible first | intro _ | refine And.intro ?_ ?_)
  all_goals (try simp (disch := omega) only [wI_id, Int.toNat_natCast] at *)
  all_goals first
    | omega
    | (rw [show (S.1 3 7).toNat = i from by omega] at h2; exact h2)
    | (have e := ih (n - 1) (by omega) S x (i + 1) (by omega) h1 h2; rw [mx_t (by assumption)] at e; exact e)
    | (have e := ih (n - 1) (by omega) S x (i + 1) (by omega) h1 h2; rw [mx_f (by assumption)] at e; exact e)
    | skip
set_option maxRecDepth 20000 in
set_option maxHeartbeats 4000000 in
theorem lpX0_greatest_7 (l : Launch) (Q : Option aV → aS → Prop) : ∀ (n : Nat) (S : aS) (x : Int) (i : Nat), i + n = (S.1 3 7).toNat → S.1 3 7 ≤ 30 → Q (some (.inl (mx (S.1 7) (fun k => inS k x) (S.1 3 7).toNat))) S → aGo l mX0_greatest Q 5 [(0, .inr (.inr 3)), (1, .inr (.inr 7)), (2, .inl x), (3, .inl (mx (S.1 7) (fun k => inS k x) i)), (4, .inl (i : Int))] [] S := by
  intro n
  induction n using Nat.strongRecOn with
  | _ n ih =>
  intro S  x  i  h0 h1 h2
  refine wp_go (tbX0_greatest_ok l) (fun pc => pc == 5) 28 dX0_greatest_5 ?_
  show ws1 tbX0_greatest 5 (some .int) Q (wp cX0_greatest tbX0_greatest 5 (some .int) Q (fun pc => pc == 5) (aGo l mX0_greatest Q) 28) (.iload 4) 2 5 [(0, .inr (.inr 3)), (1, .inr (.inr 7)), (2, .inl x), (3, .inl (mx (S.1 7) (fun k => inS k x) i)), (4, .inl (i : Int))] [] S
  simp only [wp_s, wpC_f, wpC_t, e_wLd, e_wLd0, e_wLd1, e_wLd2, e_get1, e_get2, e_wJ, e_wJo, f40, f41, f42, f43, Nat.reduceAdd, Nat.reduceBEq, Nat.reduceMul, eq_self, true_or, or_true, true_and, dX0_greatest_0, dX0_greatest_1, dX0_greatest_2, dX0_greatest_3, dX0_greatest_5, dX0_greatest_7, dX0_greatest_8, dX0_greatest_11, dX0_greatest_14, dX0_greatest_16, dX0_greatest_17, dX0_greatest_18, dX0_greatest_21, dX0_greatest_23, dX0_greatest_24, dX0_greatest_27, dX0_greatest_30, dX0_greatest_31, dX0_greatest_32, dX0_greatest_34, dX0_greatest_35, dX0_greatest_38, dX0_greatest_39, dX0_greatest_42, dX0_greatest_45, dX0_greatest_46, e_aload_n, e_iload_n, e_iload, e_istore_n, e_istore, e_iconst, e_iinc, e_ifCond, e_if_icmp, e_goto, e_getfield, e_iaload, e_arraylength, e_invokestatic, e_ireturn, e_wSt0, e_wSt1, e_wSt2, e_isL0, e_isL1, e_isL2, e_lset, e_lclr0, e_lclr1, e_lclr2, e_lput0, e_lput1, e_lput2, e_wInc, e_wInc0, Nat.reduceLT, not_false_eq_true, Bool.or_false, Bool.false_or, Bool.or_true, Bool.true_or, Bool.and_false, Bool.false_and, Bool.and_true, Bool.true_and, e_ri, e_rz, e_wIf_eq, e_wIc_ge, fX0_33, ic_0, jt_11_34, jt_18_27, jt_27_12, jt_42_m37, e_call, e_callS0, e_callS1, e_callS2, e_callS3, e_callS4, e_pop0, e_pop1, e_tl0, e_tl1, tbX0_greatest_f, tbX0_greatest_p, tbX0_greatest_k, tbX0_greatest_c58, tbX0_greatest_c67, g_3_7, l_7, n_7, spX0_isIn, spMx, bi_0, bi_1, ne_eq, Classical.not_not, em_r, em_l]
  repeat' (with_reducible first | intro _ | refine And.intro ?_ ?_)
  all_goals (try simp (disch := omega) only [wI_id, Int.toNat_natCast] at *)
  all_goals first
    | omega
    | (rw [show (S.1 3 7).toNat = i from by omega] at h2; exact h2)
    | (have e := ih (n - 1) (by omega) S x (i + 1) (by omega) h1 h2; rw [mx_t (by assumption)] at e; exact e)
    | (have e := ih (n - 1) (by omega) S x (i + 1) (by omega) h1 h2; rw [mx_f (by assumption)] at e; exact e)
    | skip

set_option maxRecDepth 20000 in
set_option maxHeartbeats 4000000 in
theorem okX0_greatest (l : Launch) : aOK l mX0_greatest spX0_greatest := by
  refine aOK_of rfl fun as S Q h => ?_
  unfold spX0_greatest at h
  split at h
  · rename_i y x
    refine ⟨Nat.le_of_ble_eq_true rfl, wp_ok (tbX0_greatest_ok l) Q (fun pc => pc == 5) 40 0 _ [] S ?_⟩
    show wp cX0_greatest tbX0_greatest 5 (some .int) Q (fun pc => pc == 5) (aGo l mX0_greatest Q) 40 0 [(0, .inr (.inr 3)), (1, .inr (.inr y)), (2, .inl x)] [] S
    simp only [wp_s, wpC_f, wpC_t, e_wLd, e_wLd0, e_wLd1, e_wLd2, e_get1, e_get2, e_wJ, e_wJo, f40, f41, f42, f43, Nat.reduceAdd, Nat.reduceBEq, Nat.reduceMul, eq_self, true_or, or_true, true_and, dX0_greatest_0, dX0_greatest_1, dX0_greatest_2, dX0_greatest_3, dX0_greatest_5, dX0_greatest_7, dX0_greatest_8, dX0_greatest_11, dX0_greatest_14, dX0_greatest_16, dX0_greatest_17, dX0_greatest_18, dX0_greatest_21, dX0_greatest_23, dX0_greatest_24, dX0_greatest_27, dX0_greatest_30, dX0_greatest_31, dX0_greatest_32, dX0_greatest_34, dX0_greatest_35, dX0_greatest_38, dX0_greatest_39, dX0_greatest_42, dX0_greatest_45, dX0_greatest_46, e_aload_n, e_iload_n, e_iload, e_istore_n, e_istore, e_iconst, e_iinc, e_ifCond, e_if_icmp, e_goto, e_getfield, e_iaload, e_arraylength, e_invokestatic, e_ireturn, e_wSt0, e_wSt1, e_wSt2, e_isL0, e_isL1, e_isL2, e_lset, e_lclr0, e_lclr1, e_lclr2, e_lput0, e_lput1, e_lput2, e_wInc, e_wInc0, Nat.reduceLT, not_false_eq_true, Bool.or_false, Bool.false_or, Bool.or_true, Bool.true_or, Bool.and_false, Bool.false_and, Bool.and_true, Bool.true_and, e_ri, e_rz, e_wIf_eq, e_wIc_ge, fX0_33, ic_0, jt_11_34, jt_18_27, jt_27_12, jt_42_m37, e_call, e_callS0, e_callS1, e_callS2, e_callS3, e_callS4, e_pop0, e_pop1, e_tl0, e_tl1, tbX0_greatest_f, tbX0_greatest_p, tbX0_greatest_k, tbX0_greatest_c58, tbX0_greatest_c67, g_3_7]
    rcases h.1 with rfl | rfl
    · exact lpX0_greatest_6 l Q _ S x 0 (Nat.zero_add _) h.2.2.1 h.2.2.2
    · exact lpX0_greatest_7 l Q _ S x 0 (Nat.zero_add _) h.2.2.1 h.2.2.2
  · exact h.elim
