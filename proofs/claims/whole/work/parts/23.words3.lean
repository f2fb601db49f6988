/-! WORDS: set, addNeighbours, meet -/
theorem adn_b {w o f : Int} : ∀ (n a : Nat) (x : aX), 1 ≤ x.2 ∧ x.2 ≤ 81 → 1 ≤ (adn w o f n a x).2 ∧ (adn w o f n a x).2 ≤ 81
  | 0, _, _, h => h
  | n + 1, a, x, h => adn_b n (a + 1) _ (adn1_b h)
theorem adn_0 {w o f : Int} : ∀ (n a : Nat) (x : aX), 1 ≤ x.2 ∧ x.2 ≤ 81 → (adn w o f n a x).1 0 = x.1 0
  | 0, _, _, _ => rfl
  | n + 1, a, x, h => (adn_0 n (a + 1) _ (adn1_b h)).trans (adn1_0 h.1)
def adA (w : Int) (o f : Nat → Int) : Nat → Nat → aX → aX
  | 0, _, x => x
  | n + 1, r, x => adA w o f n (r + 1) (adn w (o r) (f r) 8 0 x)
theorem stN_1f {S : aS} {R le i a : Nat} {x : aX} (h : ¬ a = le) : (stN S R le i x).1 a = S.1 a := funext fun b => stN_1 h
theorem stN_2f {S : aS} {R le i : Nat} {x : aX} : (stN S R le i x).2 R = x.1 := funext fun b => stN_2
theorem stN_of {S : aS} {R le i a : Nat} {x : aX} (h : ¬ a = R) : (stN S R le i x).2 a = S.2 a := funext fun b => stN_o h
theorem stN_stN {S : aS} {R le i : Nat} {x y : aX} : stN (stN S R le i x) R le i y = stN S R le i y := by
  refine st_ext (fun a b => ?_) (fun a b => ?_)
  · simp only [stN, up2]; split <;> rfl
  · simp only [stN]; split <;> rfl
theorem stN_ini {S : aS} {R le i : Nat} {v c : Int} : upI (upL S R 0 v) le i c = stN S R le i (fu (S.2 R) 0 v, c) := by
  have := stN_up (S := S) (R := R) (le := le) (i := i) (x := (S.2 R, S.1 le i)) (j := 0) (v := v) (c := c)
  rw [stN_self] at this
  exact this
def spX10_set : aSp := fun as S Q => match as with
  | [.inr (.inr 18), .inl i, .inr (.inl v)] => 0 ≤ S.1 11 2 ∧ S.1 11 2 ≤ 10 ∧ (S.1 18 1 = 0) ∧ (¬ (0 ≤ i ∧ i < 60) → Q none S) ∧ (0 ≤ i ∧ i < 60 → (∀ r : Nat, (r : Int) < S.1 11 2 → chOK v ((S.2 12) r) ((S.2 13) r)) ∧ Q none (stN S (20 + i.toNat) 80 i.toNat (adA v (S.2 12) (S.2 13) (S.1 11 2).toNat 0 (fu (S.2 (20 + i.toNat)) 0 v, 1))))
  | [.inr (.inr 85), .inl i, .inr (.inl v)] => 0 ≤ S.1 11 2 ∧ S.1 11 2 ≤ 10 ∧ (¬ S.1 85 1 = 0) ∧ (¬ (0 ≤ i ∧ i < 120) → Q none S) ∧ (0 ≤ i ∧ i < 120 → (∀ r : Nat, (r : Int) < S.1 11 2 → chOK v ((S.2 13) r) ((S.2 12) r)) ∧ Q none (stN S (87 + i.toNat) 207 i.toNat (adA v (S.2 13) (S.2 12) (S.1 11 2).toNat 0 (fu (S.2 (87 + i.toNat)) 0 v, 1))))
  | _ => False
def tbX10_set : aTb := (fX10, pX10, fun j => lk [(34, (some 10), 3, spX10_addNeighboursOf)] j, kX10)
theorem tbX10_set_f : tbX10_set.1 = fX10 := rfl
theorem tbX10_set_p : tbX10_set.2.1 = pX10 := rfl
theorem tbX10_set_k : tbX10_set.2.2.2 = kX10 := rfl
theorem tbX10_set_c34 : tbX10_set.2.2.1 34 = some ((some 10), 3, spX10_addNeighboursOf) := rfl
theorem tbX10_set_all (l : Launch) : ∀ e ∈ ([(34, (some 10), 3, spX10_addNeighboursOf)] : List (Nat × Option Nat × Nat × aSp)), cOK l mX10_set e.1 e.2.1 e.2.2.1 e.2.2.2 ∨ mOK mX10_set e.1 e.2.1 e.2.2.1 e.2.2.2 := all_cons (cOK_of (okX10_addNeighboursOf l) meX10_addNeighboursOf cfX10_34 (by decide) (by decide)) (all_nil)
theorem tbX10_set_ok (l : Launch) : tOK l mX10_set tbX10_set := ⟨fX10_ok, pX10_ok, fun _ _ _ _ h => tbX10_set_all l _ (lk_mem h), kX10_ok⟩
set_option maxRecDepth 20000 in
set_option maxHeartbeats 4000000 in
theorem lpWS_18 (l : Launch) (Q : Option aV → aS → Prop) : ∀ (n : Nat) (S : aS) (x : aX) (i v : Int) (r : Nat), r + n = (S.1 11 2).toNat → (0 ≤ i ∧ i < 60) → (1 ≤ x.2 ∧ x.2 ≤ 81) → x.1 0 = v → (∀ r : Nat, (r : Int) < S.1 11 2 → chOK v ((S.2 12) r) ((S.2 13) r)) → Q none (stN S (20 + i.toNat) 80 i.toNat (adA v (S.2 12) (S.2 13) n r x)) → S.1 11 2 ≤ 10 → S.1 18 1 = 0 → aGo l mX10_set Q 33 [(0, .inr (.inr 18)), (1, .inl i), (2, .inr (.inl v)), (4, .inl (r : Int))] [] (stN S (20 + i.toNat) 80 i.toNat x) := by
  intro n
  induction n using Nat.strongRecOn with
  | _ n ih =>
  intro S  x  i v  r  h0 h1 h2 h3 h4 h5 h6 h7
  refine wp_go (tbX10_set_ok l) (fun pc => pc == 33) 36 dX10_set_33 ?_
  show ws1 tbX10_set 5 none Q (wp cX10_set tbX10_set 5 none Q (fun pc => pc == 33) (aGo l mX10_set Q) 36) (.iload 4) 2 33 [(0, .inr (.inr 18)), (1, .inl i), (2, .inr (.inl v)), (4, .inl (r : Int))] [] (stN S (20 + i.toNat) 80 i.toNat x)
  simp only [wp_s, wpC_f, wpC_t, e_wLd, e_wLd0, e_wLd1, e_wLd2, e_get1, e_get2, e_wJ, e_wJo, f40, f41, f42, f43, Nat.reduceAdd, Nat.reduceBEq, Nat.reduceMul, eq_self, true_or, or_true, true_and, dX10_set_0, dX10_set_1, dX10_set_4, dX10_set_5, dX10_set_6, dX10_set_9, dX10_set_10, dX10_set_13, dX10_set_14, dX10_set_15, dX10_set_18, dX10_set_19, dX10_set_20, dX10_set_21, dX10_set_22, dX10_set_23, dX10_set_24, dX10_set_27, dX10_set_28, dX10_set_29, dX10_set_30, dX10_set_31, dX10_set_33, dX10_set_35, dX10_set_36, dX10_set_39, dX10_set_42, dX10_set_45, dX10_set_46, dX10_set_47, dX10_set_49, dX10_set_52, dX10_set_55, dX10_set_58, e_aload_n, e_iload_n, e_iload, e_lload_n, e_istore, e_iconst, e_iinc, e_ifCond, e_if_icmp, e_goto, e_getfield, e_aaload, e_arraylength, e_iastore, e_lastore, e_invokevirtual, e_return_, e_wSt0, e_wSt1, e_wSt2, e_isL0, e_isL1, e_isL2, e_lset, e_lclr0, e_lclr1, e_lclr2, e_lput0, e_lput1, e_lput2, e_wInc, e_wInc0, Nat.reduceLT, not_false_eq_true, Bool.or_false, Bool.false_or, Bool.or_true, Bool.true_or, Bool.and_false, Bool.false_and, Bool.and_true, Bool.true_and, e_rv, e_wIf_lt, e_wIc_lt, e_wIc_ge, fX10_21, fX10_24, fX10_28, fX10_9, ic_0, ic_1, jt_10_4, jt_1_12, jt_42_16, jt_55_m22, e_call, e_callS0, e_callS1, e_callS2, e_callS3, e_callS4, e_pop0, e_pop1, e_tl0, e_tl1, tbX10_set_f, tbX10_set_p, tbX10_set_k, tbX10_set_c34, g_18_0, g_18_3, l_19, n_19, l_80, s_80, n_80, g_11_2, cv_18_0, cv_18_1, cv_18_2, cv_18_3, cv_18_4, g_18_2, cv_85_0, cv_85_1, cv_85_2, cv_85_3, cv_85_4, spX10_addNeighboursOf]
  simp (disch := omega) only [stN_1, stN_2f, stN_of, stN_l, stN_stN, wI_id, Int.toNat_natCast]
  repeat' (with_reducible first | intro _ | refine And.intro ?_ ?_)
  all_goals first
    | omega
    | exact h7
    | (rw [show n = 0 from by omega] at h5; exact h5)
    | (exact absurd (⟨by omega, by omega⟩ : 0 ≤ (r : Int) ∧ (r : Int) < S.1 11 2) (by assumption))
    | (rw [h3]; exact h4 r (by omega))
    | (obtain ⟨m, rfl⟩ : ∃ m, n = m + 1 := ⟨n - 1, by omega⟩
       rw [h3]
       exact ih m (by omega) S (adn v ((S.2 12) r) ((S.2 13) r) 8 0 x) i v (r + 1) (by omega) h1 (adn_b 8 0 x h2) ((adn_0 8 0 x h2).trans h3) h4 h5 h6 h7)
    | skip
set_option maxRecDepth 20000 in
set_option maxHeartbeats 4000000 in
theorem lpWS_85 (l : Launch) (Q : Option aV → aS → Prop) : ∀ (n : Nat) (S : aS) (x : aX) (i v : Int) (r : Nat), r + n = (S.1 11 2).toNat → (0 ≤ i ∧ i < 120) → (1 ≤ x.2 ∧ x.2 ≤ 81) → x.1 0 = v → (∀ r : Nat, (r : Int) < S.1 11 2 → chOK v ((S.2 13) r) ((S.2 12) r)) → Q none (stN S (87 + i.toNat) 207 i.toNat (adA v (S.2 13) (S.2 12) n r x)) → S.1 11 2 ≤ 10 → ¬ S.1 85 1 = 0 → aGo l mX10_set Q 33 [(0, .inr (.inr 85)), (1, .inl i), (2, .inr (.inl v)), (4, .inl (r : Int))] [] (stN S (87 + i.toNat) 207 i.toNat x) := by
  intro n
  induction n using Nat.strongRecOn with
  | _ n ih =>
  intro S  x  i v  r  h0 h1 h2 h3 h4 h5 h6 h7
  refine wp_go (tbX10_set_ok l) (fun pc => pc == 33) 36 dX10_set_33 ?_
  show ws1 tbX10_set 5 none Q (wp cX10_set tbX10_set 5 none Q (fun pc => pc == 33) (aGo l mX10_set Q) 36) (.iload 4) 2 33 [(0, .inr (.inr 85)), (1, .inl i), (2, .inr (.inl v)), (4, .inl (r : Int))] [] (stN S (87 + i.toNat) 207 i.toNat x)
  simp only [wp_s, wpC_f, wpC_t, e_wLd, e_wLd0, e_wLd1, e_wLd2, e_get1, e_get2, e_wJ, e_wJo, f40, f41, f42, f43, Nat.reduceAdd, Nat.reduceBEq, Nat.reduceMul, eq_self, true_or, or_true, true_and, dX10_set_0, dX10_set_1, dX10_set_4, dX10_set_5, dX10_set_6, dX10_set_9, dX10_set_10, dX10_set_13, dX10_set_14, dX10_set_15, dX10_set_18, dX10_set_19, dX10_set_20, dX10_set_21, dX10_set_22, dX10_set_23, dX10_set_24, dX10_set_27, dX10_set_28, dX10_set_29, dX10_set_30, dX10_set_31, dX10_set_33, dX10_set_35, dX10_set_36, dX10_set_39, dX10_set_42, dX10_set_45, dX10_set_46, dX10_set_47, dX10_set_49, dX10_set_52, dX10_set_55, dX10_set_58, e_aload_n, e_iload_n, e_iload, e_lload_n, e_istore, e_iconst, e_iinc, e_ifCond, e_if_icmp, e_goto, e_getfield, e_aaload, e_arraylength, e_iastore, e_lastore, e_invokevirtual, e_return_, e_wSt0, e_wSt1, e_wSt2, e_isL0, e_isL1, e_isL2, e_lset, e_lclr0, e_lclr1, e_lclr2, e_lput0, e_lput1, e_lput2, e_wInc, e_wInc0, Nat.reduceLT, not_false_eq_true, Bool.or_false, Bool.false_or, Bool.or_true, Bool.true_or, Bool.and_false, Bool.false_and, Bool.and_true, Bool.true_and, e_rv, e_wIf_lt, e_wIc_lt, e_wIc_ge, fX10_21, fX10_24, fX10_28, fX10_9, ic_0, ic_1, jt_10_4, jt_1_12, jt_42_16, jt_55_m22, e_call, e_callS0, e_callS1, e_callS2, e_callS3, e_callS4, e_pop0, e_pop1, e_tl0, e_tl1, tbX10_set_f, tbX10_set_p, tbX10_set_k, tbX10_set_c34, g_85_0, l_207, s_207, n_207, g_85_3, g_85_2, g_11_2, cv_18_0, cv_18_1, cv_18_2, cv_18_3, cv_18_4, l_86, n_86, cv_85_0, cv_85_1, cv_85_2, cv_85_3, cv_85_4, spX10_addNeighboursOf]
  simp (disch := omega) only [stN_1, stN_2f, stN_of, stN_l, stN_stN, wI_id, Int.toNat_natCast]
  repeat' (with_reducible first | intro _ | refine And.intro ?_ ?_)
  all_goals first
    | omega
    | exact h7
    | (rw [show n = 0 from by omega] at h5; exact h5)
    | (exact absurd (⟨by omega, by omega⟩ : 0 ≤ (r : Int) ∧ (r : Int) < S.1 11 2) (by assumption))
    | (rw [h3]; exact h4 r (by omega))
    | (obtain ⟨m, rfl⟩ : ∃ m, n = m + 1 := ⟨n - 1, by omega⟩
       rw [h3]
       exact ih m (by omega) S (adn v ((S.2 13) r) ((S.2 12) r) 8 0 x) i v (r + 1) (by omega) h1 (adn_b 8 0 x h2) ((adn_0 8 0 x h2).trans h3) h4 h5 h6 h7)
    | skip
set_option maxRecDepth 20000 in
set_option maxHeartbeats 4000000 in
theorem okX10_set (l : Launch) : aOK l mX10_set spX10_set := by
  refine aOK_of rfl fun as S Q h => ?_
  unfold spX10_set at h
  split at h
  · rename_i i v
    refine ⟨Nat.le_of_ble_eq_true rfl, wp_ok (tbX10_set_ok l) Q (fun pc => pc == 33) 36 0 _ [] S ?_⟩
    show wp cX10_set tbX10_set 5 none Q (fun pc => pc == 33) (aGo l mX10_set Q) 36 0 [(0, .inr (.inr 18)), (1, .inl i), (2, .inr (.inl v))] [] S
    simp only [wp_s, wpC_f, wpC_t, e_wLd, e_wLd0, e_wLd1, e_wLd2, e_get1, e_get2, e_wJ, e_wJo, f40, f41, f42, f43, Nat.reduceAdd, Nat.reduceBEq, Nat.reduceMul, eq_self, true_or, or_true, true_and, dX10_set_0, dX10_set_1, dX10_set_4, dX10_set_5, dX10_set_6, dX10_set_9, dX10_set_10, dX10_set_13, dX10_set_14, dX10_set_15, dX10_set_18, dX10_set_19, dX10_set_20, dX10_set_21, dX10_set_22, dX10_set_23, dX10_set_24, dX10_set_27, dX10_set_28, dX10_set_29, dX10_set_30, dX10_set_31, dX10_set_33, dX10_set_35, dX10_set_36, dX10_set_39, dX10_set_42, dX10_set_45, dX10_set_46, dX10_set_47, dX10_set_49, dX10_set_52, dX10_set_55, dX10_set_58, e_aload_n, e_iload_n, e_iload, e_lload_n, e_istore, e_iconst, e_iinc, e_ifCond, e_if_icmp, e_goto, e_getfield, e_aaload, e_arraylength, e_iastore, e_lastore, e_invokevirtual, e_return_, e_wSt0, e_wSt1, e_wSt2, e_isL0, e_isL1, e_isL2, e_lset, e_lclr0, e_lclr1, e_lclr2, e_lput0, e_lput1, e_lput2, e_wInc, e_wInc0, Nat.reduceLT, not_false_eq_true, Bool.or_false, Bool.false_or, Bool.or_true, Bool.true_or, Bool.and_false, Bool.false_and, Bool.and_true, Bool.true_and, e_rv, e_wIf_lt, e_wIc_lt, e_wIc_ge, fX10_21, fX10_24, fX10_28, fX10_9, ic_0, ic_1, jt_10_4, jt_1_12, jt_42_16, jt_55_m22, e_call, e_callS0, e_callS1, e_callS2, e_callS3, e_callS4, e_pop0, e_pop1, e_tl0, e_tl1, tbX10_set_f, tbX10_set_p, tbX10_set_k, tbX10_set_c34, g_85_0, l_207, s_207, n_207, g_85_3, g_18_0, g_85_2, g_18_3, l_19, n_19, l_80, s_80, n_80, g_11_2, cv_18_0, cv_18_1, cv_18_2, cv_18_3, cv_18_4, g_18_2, l_86, n_86, cv_85_0, cv_85_1, cv_85_2, cv_85_3, cv_85_4]
    obtain ⟨h0, h1, h2, h3, h4⟩ := h
    refine ⟨fun q => h3 (by omega), fun q => ⟨fun q2 => ⟨by omega, by omega, ?_⟩, fun q2 => h3 (by omega)⟩⟩
    have hi : i.toNat < 60 := by omega
    rw [sr_18 hi]
    refine ⟨by omega, by omega, ?_⟩
    simp only [wp_s, wpC_f, wpC_t, e_wLd, e_wLd0, e_wLd1, e_wLd2, e_get1, e_get2, e_wJ, e_wJo, f40, f41, f42, f43, Nat.reduceAdd, Nat.reduceBEq, Nat.reduceMul, eq_self, true_or, or_true, true_and, dX10_set_0, dX10_set_1, dX10_set_4, dX10_set_5, dX10_set_6, dX10_set_9, dX10_set_10, dX10_set_13, dX10_set_14, dX10_set_15, dX10_set_18, dX10_set_19, dX10_set_20, dX10_set_21, dX10_set_22, dX10_set_23, dX10_set_24, dX10_set_27, dX10_set_28, dX10_set_29, dX10_set_30, dX10_set_31, dX10_set_33, dX10_set_35, dX10_set_36, dX10_set_39, dX10_set_42, dX10_set_45, dX10_set_46, dX10_set_47, dX10_set_49, dX10_set_52, dX10_set_55, dX10_set_58, e_aload_n, e_iload_n, e_iload, e_lload_n, e_istore, e_iconst, e_iinc, e_ifCond, e_if_icmp, e_goto, e_getfield, e_aaload, e_arraylength, e_iastore, e_lastore, e_invokevirtual, e_return_, e_wSt0, e_wSt1, e_wSt2, e_isL0, e_isL1, e_isL2, e_lset, e_lclr0, e_lclr1, e_lclr2, e_lput0, e_lput1, e_lput2, e_wInc, e_wInc0, Nat.reduceLT, not_false_eq_true, Bool.or_false, Bool.false_or, Bool.or_true, Bool.true_or, Bool.and_false, Bool.false_and, Bool.and_true, Bool.true_and, e_rv, e_wIf_lt, e_wIc_lt, e_wIc_ge, fX10_21, fX10_24, fX10_28, fX10_9, ic_0, ic_1, jt_10_4, jt_1_12, jt_42_16, jt_55_m22, e_call, e_callS0, e_callS1, e_callS2, e_callS3, e_callS4, e_pop0, e_pop1, e_tl0, e_tl1, tbX10_set_f, tbX10_set_p, tbX10_set_k, tbX10_set_c34, g_85_0, l_207, s_207, n_207, g_85_3, g_18_0, g_85_2, g_18_3, l_19, n_19, l_80, s_80, n_80, g_11_2, cv_18_0, cv_18_1, cv_18_2, cv_18_3, cv_18_4, g_18_2, l_86, n_86, cv_85_0, cv_85_1, cv_85_2, cv_85_3, cv_85_4]
    refine ⟨by omega, by omega, ?_⟩
    have e := lpWS_18 l Q (S.1 11 2).toNat S (fu (S.2 (20 + i.toNat)) 0 v, 1) i v 0 (Nat.zero_add _) (by omega) (by dsimp only; omega) rfl (h4 (by omega)).1 (h4 (by omega)).2 h1 h2
    rw [← stN_ini] at e
    exact e
  · rename_i i v
    refine ⟨Nat.le_of_ble_eq_true rfl, wp_ok (tbX10_set_ok l) Q (fun pc => pc == 33) 36 0 _ [] S ?_⟩
    show wp cX10_set tbX10_set 5 none Q (fun pc => pc == 33) (aGo l mX10_set Q) 36 0 [(0, .inr (.inr 85)), (1, .inl i), (2, .inr (.inl v))] [] S
    simp only [wp_s, wpC_f, wpC_t, e_wLd, e_wLd0, e_wLd1, e_wLd2, e_get1, e_get2, e_wJ, e_wJo, f40, f41, f42, f43, Nat.reduceAdd, Nat.reduceBEq, Nat.reduceMul, eq_self, true_or, or_true, true_and, dX10_set_0, dX10_set_1, dX10_set_4, dX10_set_5, dX10_set_6, dX10_set_9, dX10_set_10, dX10_set_13, dX10_set_14, dX10_set_15, dX10_set_18, dX10_set_19, dX10_set_20, dX10_set_21, dX10_set_22, dX10_set_23, dX10_set_24, dX10_set_27, dX10_set_28, dX10_set_29, dX10_set_30, dX10_set_31, dX10_set_33, dX10_set_35, dX10_set_36, dX10_set_39, dX10_set_42, dX10_set_45, dX10_set_46, dX10_set_47, dX10_set_49, dX10_set_52, dX10_set_55, dX10_set_58, e_aload_n, e_iload_n, e_iload, e_lload_n, e_istore, e_iconst, e_iinc, e_ifCond, e_if_icmp, e_goto, e_getfield, e_aaload, e_arraylength, e_iastore, e_lastore, e_invokevirtual, e_return_, e_wSt0, e_wSt1, e_wSt2, e_isL0, e_isL1, e_isL2, e_lset, e_lclr0, e_lclr1, e_lclr2, e_lput0, e_lput1, e_lput2, e_wInc, e_wInc0, Nat.reduceLT, not_false_eq_true, Bool.or_false, Bool.false_or, Bool.or_true, Bool.true_or, Bool.and_false, Bool.false_and, Bool.and_true, Bool.true_and, e_rv, e_wIf_lt, e_wIc_lt, e_wIc_ge, fX10_21, fX10_24, fX10_28, fX10_9, ic_0, ic_1, jt_10_4, jt_1_12, jt_42_16, jt_55_m22, e_call, e_callS0, e_callS1, e_callS2, e_callS3, e_callS4, e_pop0, e_pop1, e_tl0, e_tl1, tbX10_set_f, tbX10_set_p, tbX10_set_k, tbX10_set_c34, g_85_0, l_207, s_207, n_207, g_85_3, g_18_0, g_85_2, g_18_3, l_19, n_19, l_80, s_80, n_80, g_11_2, cv_18_0, cv_18_1, cv_18_2, cv_18_3, cv_18_4, g_18_2, l_86, n_86, cv_85_0, cv_85_1, cv_85_2, cv_85_3, cv_85_4]
    obtain ⟨h0, h1, h2, h3, h4⟩ := h
    refine ⟨fun q => h3 (by omega), fun q => ⟨fun q2 => ⟨by omega, by omega, ?_⟩, fun q2 => h3 (by omega)⟩⟩
    have hi : i.toNat < 120 := by omega
    rw [sr_85 hi]
    refine ⟨by omega, by omega, ?_⟩
    simp only [wp_s, wpC_f, wpC_t, e_wLd, e_wLd0, e_wLd1, e_wLd2, e_get1, e_get2, e_wJ, e_wJo, f40, f41, f42, f43, Nat.reduceAdd, Nat.reduceBEq, Nat.reduceMul, eq_self, true_or, or_true, true_and, dX10_set_0, dX10_set_1, dX10_set_4, dX10_set_5, dX10_set_6, dX10_set_9, dX10_set_10, dX10_set_13, dX10_set_14, dX10_set_15, dX10_set_18, dX10_set_19, dX10_set_20, dX10_set_21, dX10_set_22, dX10_set_23, dX10_set_24, dX10_set_27, dX10_set_28, dX10_set_29, dX10_set_30, dX10_set_31, dX10_set_33, dX10_set_35, dX10_set_36, dX10_set_39, dX10_set_42, dX10_set_45, dX10_set_46, dX10_set_47, dX10_set_49, dX10_set_52, dX10_set_55, dX10_set_58, e_aload_n, e_iload_n, e_iload, e_lload_n, e_istore, e_iconst, e_iinc, e_ifCond, e_if_icmp, e_goto, e_getfield, e_aaload, e_arraylength, e_iastore, e_lastore, e_invokevirtual, e_return_, e_wSt0, e_wSt1, e_wSt2, e_isL0, e_isL1, e_isL2, e_lset, e_lclr0, e_lclr1, e_lclr2, e_lput0, e_lput1, e_lput2, e_wInc, e_wInc0, Nat.reduceLT, not_false_eq_true, Bool.or_false, Bool.false_or, Bool.or_true, Bool.true_or, Bool.and_false, Bool.false_and, Bool.and_true, Bool.true_and, e_rv, e_wIf_lt, e_wIc_lt, e_wIc_ge, fX10_21, fX10_24, fX10_28, fX10_9, ic_0, ic_1, jt_10_4, jt_1_12, jt_42_16, jt_55_m22, e_call, e_callS0, e_callS1, e_callS2, e_callS3, e_callS4, e_pop0, e_pop1, e_tl0, e_tl1, tbX10_set_f, tbX10_set_p, tbX10_set_k, tbX10_set_c34, g_85_0, l_207, s_207, n_207, g_85_3, g_18_0, g_85_2, g_18_3, l_19, n_19, l_80, s_80, n_80, g_11_2, cv_18_0, cv_18_1, cv_18_2, cv_18_3, cv_18_4, g_18_2, l_86, n_86, cv_85_0, cv_85_1, cv_85_2, cv_85_3, cv_85_4]
    refine ⟨by omega, by omega, ?_⟩
    have e := lpWS_85 l Q (S.1 11 2).toNat S (fu (S.2 (87 + i.toNat)) 0 v, 1) i v 0 (Nat.zero_add _) (by omega) (by dsimp only; omega) rfl (h4 (by omega)).1 (h4 (by omega)).2 h1 h2
    rw [← stN_ini] at e
    exact e
  · exact h.elim
/-- all rows that are there, with the neighbours by (o, f) added, from place i on -/
def adS (S : aS) (b0 N le i : Nat) (o f : Int) : aS := (fun a b => if a = le ∧ i ≤ b ∧ b < N ∧ 0 < S.1 le b then (adn (S.2 (b0 + b) 0) o f 8 0 (S.2 (b0 + b), S.1 le b)).2 else S.1 a b,
  fun a b => if b0 + i ≤ a ∧ a < b0 + N ∧ 0 < S.1 le (a - b0) then (adn (S.2 a 0) o f 8 0 (S.2 a, S.1 le (a - b0))).1 b else S.2 a b)
theorem adS_end {S : aS} {b0 N le i : Nat} {o f : Int} (h : N ≤ i) : adS S b0 N le i o f = S := by
  refine st_ext (fun a b => ?_) (fun a b => ?_)
  · simp only [adS]; rw [if_neg (by omega)]
  · simp only [adS]; rw [if_neg (by omega)]
theorem adS_no {S : aS} {b0 N le i : Nat} {o f : Int} (h : ¬ 0 < S.1 le i) : adS S b0 N le (i + 1) o f = adS S b0 N le i o f := by
  refine st_ext (fun a b => ?_) (fun a b => ?_)
  · simp only [adS]
    by_cases hb : b = i
    · subst hb; rw [if_neg (by omega), if_neg (by omega)]
    · by_cases hc : a = le ∧ i + 1 ≤ b ∧ b < N ∧ 0 < S.1 le b
      · rw [if_pos hc, if_pos ⟨hc.1, by omega, hc.2.2⟩]
      · rw [if_neg hc, if_neg (fun q => hc ⟨q.1, by omega, q.2.2⟩)]
  · simp only [adS]
    by_cases hb : a = b0 + i
    · subst hb; rw [if_neg (by omega), if_neg (by rw [show b0 + i - b0 = i from by omega]; omega)]
    · by_cases hc : b0 + (i + 1) ≤ a ∧ a < b0 + N ∧ 0 < S.1 le (a - b0)
      · rw [if_pos hc, if_pos ⟨by omega, hc.2⟩]
      · rw [if_neg hc, if_neg (fun q => hc ⟨by omega, q.2⟩)]
theorem adS_yes {S : aS} {b0 N le i : Nat} {o f : Int} (h : 0 < S.1 le i) (hi : i < N) : adS (stN S (b0 + i) le i (adn (S.2 (b0 + i) 0) o f 8 0 (S.2 (b0 + i), S.1 le i))) b0 N le (i + 1) o f = adS S b0 N le i o f := by
  refine st_ext (fun a b => ?_) (fun a b => ?_)
  · simp only [adS]
    by_cases ha : a = le
    · subst ha
      by_cases hb : b = i
      · subst hb
        rw [if_neg (by omega), if_pos ⟨rfl, by omega, hi, h⟩, stN_l]
      · have e1 : ∀ c, ¬ c = i → (stN S (b0 + i) a i (adn (S.2 (b0 + i) 0) o f 8 0 (S.2 (b0 + i), S.1 a i))).1 a c = S.1 a c := fun c hc => by simp [stN, up2, hc]
        rw [e1 b hb, stN_of (by omega)]
        by_cases hc : i + 1 ≤ b ∧ b < N ∧ 0 < S.1 a b
        · rw [if_pos ⟨rfl, hc⟩, if_pos ⟨rfl, by omega, hc.2⟩]
        · rw [if_neg (fun q => hc q.2), if_neg (fun q => hc ⟨by omega, q.2.2⟩)]
    · rw [if_neg (fun q => ha q.1), if_neg (fun q => ha q.1), stN_1 ha]
  · simp only [adS]
    by_cases ha : a = b0 + i
    · subst ha
      rw [if_neg (by omega), if_pos ⟨by omega, by omega, by rw [show b0 + i - b0 = i from by omega]; exact h⟩, stN_2, show b0 + i - b0 = i from by omega]
    · by_cases hr : b0 + i < a ∧ a < b0 + N
      · have e1 : (stN S (b0 + i) le i (adn (S.2 (b0 + i) 0) o f 8 0 (S.2 (b0 + i), S.1 le i))).1 le (a - b0) = S.1 le (a - b0) := by
          simp only [stN, up2]; rw [if_neg (by omega)]
        rw [e1, stN_of ha]
        by_cases hc : 0 < S.1 le (a - b0)
        · rw [if_pos ⟨by omega, hr.2, hc⟩, if_pos ⟨by omega, hr.2, hc⟩]
        · rw [if_neg (fun q => hc q.2.2), if_neg (fun q => hc q.2.2)]
      · rw [if_neg (by omega), if_neg (by omega), stN_o ha]
def spX10_addNeighbours : aSp := fun as S Q => match as with
  | [.inr (.inr 18), .inl r] => 0 ≤ S.1 11 2 ∧ S.1 11 2 ≤ 10 ∧ (S.1 18 1 = 0) ∧ 0 ≤ r ∧ r < S.1 11 2 ∧ (∀ i : Nat, i < 60 → S.1 80 i ≤ 81 ∧ (0 < S.1 80 i → chOK (S.2 (20 + i) 0) ((S.2 12) r.toNat) ((S.2 13) r.toNat))) ∧ Q none (adS S 20 60 80 0 ((S.2 12) r.toNat) ((S.2 13) r.toNat))
  | [.inr (.inr 85), .inl r] => 0 ≤ S.1 11 2 ∧ S.1 11 2 ≤ 10 ∧ (¬ S.1 85 1 = 0) ∧ 0 ≤ r ∧ r < S.1 11 2 ∧ (∀ i : Nat, i < 120 → S.1 207 i ≤ 81 ∧ (0 < S.1 207 i → chOK (S.2 (87 + i) 0) ((S.2 13) r.toNat) ((S.2 12) r.toNat))) ∧ Q none (adS S 87 120 207 0 ((S.2 13) r.toNat) ((S.2 12) r.toNat))
  | _ => False
def tbX10_addNeighbours : aTb := (fX10, pX10, fun j => lk [(34, (some 10), 3, spX10_addNeighboursOf), (38, (some 10), 2, spX10_has)] j, kX10)
theorem tbX10_addNeighbours_f : tbX10_addNeighbours.1 = fX10 := rfl
theorem tbX10_addNeighbours_p : tbX10_addNeighbours.2.1 = pX10 := rfl
theorem tbX10_addNeighbours_k : tbX10_addNeighbours.2.2.2 = kX10 := rfl
theorem tbX10_addNeighbours_c34 : tbX10_addNeighbours.2.2.1 34 = some ((some 10), 3, spX10_addNeighboursOf) := rfl
theorem tbX10_addNeighbours_c38 : tbX10_addNeighbours.2.2.1 38 = some ((some 10), 2, spX10_has) := rfl
theorem tbX10_addNeighbours_all (l : Launch) : ∀ e ∈ ([(34, (some 10), 3, spX10_addNeighboursOf), (38, (some 10), 2, spX10_has)] : List (Nat × Option Nat × Nat × aSp)), cOK l mX10_addNeighbours e.1 e.2.1 e.2.2.1 e.2.2.2 ∨ mOK mX10_addNeighbours e.1 e.2.1 e.2.2.1 e.2.2.2 := all_cons (cOK_of (okX10_addNeighboursOf l) meX10_addNeighboursOf cfX10_34 (by decide) (by decide)) (all_cons (cOK_of (okX10_has l) meX10_has cfX10_38 (by decide) (by decide)) (all_nil))
theorem tbX10_addNeighbours_ok (l : Launch) : tOK l mX10_addNeighbours tbX10_addNeighbours := ⟨fX10_ok, pX10_ok, fun _ _ _ _ h => tbX10_addNeighbours_all l _ (lk_mem h), kX10_ok⟩
set_option maxRecDepth 20000 in
set_option maxHeartbeats 4000000 in
theorem lpWA_18 (l : Launch) (Q : Option aV → aS → Prop) : ∀ (n : Nat) (S : aS) (r : Int) (i : Nat), i + n = 60 → 0 ≤ S.1 11 2 ∧ S.1 11 2 ≤ 10 → S.1 18 1 = 0 → (0 ≤ r ∧ r < S.1 11 2) → (∀ j : Nat, i ≤ j → j < 60 → S.1 80 j ≤ 81 ∧ (0 < S.1 80 j → chOK (S.2 (20 + j) 0) ((S.2 12) r.toNat) ((S.2 13) r.toNat))) → Q none (adS S 20 60 80 i ((S.2 12) r.toNat) ((S.2 13) r.toNat)) → aGo l mX10_addNeighbours Q 2 [(0, .inr (.inr 18)), (1, .inl r), (2, .inl (i : Int))] [] S := by
  intro n
  induction n using Nat.strongRecOn with
  | _ n ih =>
  intro S  r  i  h0 h1 h2 h3 h4 h5
  refine wp_go (tbX10_addNeighbours_ok l) (fun pc => pc == 2) 20 dX10_addNeighbours_2 ?_
  show ws1 tbX10_addNeighbours 3 none Q (wp cX10_addNeighbours tbX10_addNeighbours 3 none Q (fun pc => pc == 2) (aGo l mX10_addNeighbours Q) 20) (.iload_n 2) 1 2 [(0, .inr (.inr 18)), (1, .inl r), (2, .inl (i : Int))] [] S
  simp only [wp_s, wpC_f, wpC_t, e_wLd, e_wLd0, e_wLd1, e_wLd2, e_get1, e_get2, e_wJ, e_wJo, f40, f41, f42, f43, Nat.reduceAdd, Nat.reduceBEq, Nat.reduceMul, eq_self, true_or, or_true, true_and, dX10_addNeighbours_0, dX10_addNeighbours_1, dX10_addNeighbours_2, dX10_addNeighbours_3, dX10_addNeighbours_4, dX10_addNeighbours_7, dX10_addNeighbours_8, dX10_addNeighbours_11, dX10_addNeighbours_12, dX10_addNeighbours_13, dX10_addNeighbours_16, dX10_addNeighbours_19, dX10_addNeighbours_20, dX10_addNeighbours_21, dX10_addNeighbours_22, dX10_addNeighbours_25, dX10_addNeighbours_28, dX10_addNeighbours_31, e_aload_n, e_iload_n, e_istore_n, e_iconst, e_iinc, e_ifCond, e_if_icmp, e_goto, e_getfield, e_arraylength, e_invokevirtual, e_return_, e_wSt0, e_wSt1, e_wSt2, e_isL0, e_isL1, e_isL2, e_lset, e_lclr0, e_lclr1, e_lclr2, e_lput0, e_lput1, e_lput2, e_wInc, e_wInc0, Nat.reduceLT, not_false_eq_true, Bool.or_false, Bool.false_or, Bool.or_true, Bool.true_or, Bool.and_false, Bool.false_and, Bool.and_true, Bool.true_and, e_rv, e_wIf_eq, e_wIc_ge, fX10_21, ic_0, jt_16_9, jt_28_m26, jt_8_23, e_call, e_callS0, e_callS1, e_callS2, e_callS3, e_callS4, e_pop0, e_pop1, e_tl0, e_tl1, tbX10_addNeighbours_f, tbX10_addNeighbours_p, tbX10_addNeighbours_k, tbX10_addNeighbours_c34, tbX10_addNeighbours_c38, n_19, cv_85_0, cv_85_1, cv_85_2, cv_85_3, cv_85_4, cv_18_0, cv_18_1, cv_18_2, cv_18_3, cv_18_4, g_18_2, spX10_addNeighboursOf, spX10_has, bi_0, bi_1, ne_eq, Classical.not_not, em_r, em_l]
  simp (disch := omega) only [wI_id, Int.toNat_natCast]
  repeat' (with_reducible first | intro _ | refine And.intro ?_ ?_)
  all_goals first
    | omega
    | exact h2
    | (rw [adS_end (by omega)] at h5; exact h5)
    | exact absurd h3 (by assumption)
    | exact (h4 i (by omega) (by omega)).1
    | exact (h4 i (by omega) (by omega)).2 (by omega)
    | (refine ih (n - 1) (by omega) S r (i + 1) (by omega) h1 h2 h3 (fun j hj hj2 => h4 j (by omega) hj2) ?_
       rw [adS_no (by omega)]; exact h5)
    | (refine ih (n - 1) (by omega) _ r (i + 1) (by omega) ?_ ?_ ?_ (fun j hj hj2 => ?_) ?_
       · rw [stN_1 (by decide)]; exact h1
       · rw [stN_1 (by decide)]; exact h2
       · rw [stN_1 (by decide)]; exact h3
       · have e1 : ∀ x : aX, (stN S (20 + i) 80 i x).1 80 j = S.1 80 j := fun x => by simp only [stN, up2]; rw [if_neg (by omega)]
         rw [e1, stN_of (by omega), stN_of (by omega), stN_of (by omega)]
         exact h4 j (by omega) hj2
       · rw [stN_of (by omega), stN_of (by omega), adS_yes (by omega) (by omega)]; exact h5)
    | skip
set_option maxRecDepth 20000 in
set_option maxHeartbeats 4000000 in
theorem lpWA_85 (l : Launch) (Q : Option aV → aS → Prop) : ∀ (n : Nat) (S : aS) (r : Int) (i : Nat), i + n = 120 → 0 ≤ S.1 11 2 ∧ S.1 11 2 ≤ 10 → ¬ S.1 85 1 = 0 → (0 ≤ r ∧ r < S.1 11 2) → (∀ j : Nat, i ≤ j → j < 120 → S.1 207 j ≤ 81 ∧ (0 < S.1 207 j → chOK (S.2 (87 + j) 0) ((S.2 13) r.toNat) ((S.2 12) r.toNat))) → Q none (adS S 87 120 207 i ((S.2 13) r.toNat) ((S.2 12) r.toNat)) → aGo l mX10_addNeighbours Q 2 [(0, .inr (.inr 85)), (1, .inl r), (2, .inl (i : Int))] [] S := by
  intro n
  induction n using Nat.strongRecOn with
  | _ n ih =>
  intro S  r  i  h0 h1 h2 h3 h4 h5
  refine wp_go (tbX10_addNeighbours_ok l) (fun pc => pc == 2) 20 dX10_addNeighbours_2 ?_
  show ws1 tbX10_addNeighbours 3 none Q (wp cX10_addNeighbours tbX10_addNeighbours 3 none Q (fun pc => pc == 2) (aGo l mX10_addNeighbours Q) 20) (.iload_n 2) 1 2 [(0, .inr (.inr 85)), (1, .inl r), (2, .inl (i : Int))] [] S
  simp only [wp_s, wpC_f, wpC_t, e_wLd, e_wLd0, e_wLd1, e_wLd2, e_get1, e_get2, e_wJ, e_wJo, f40, f41, f42, f43, Nat.reduceAdd, Nat.reduceBEq, Nat.reduceMul, eq_self, true_or, or_true, true_and, dX10_addNeighbours_0, dX10_addNeighbours_1, dX10_addNeighbours_2, dX10_addNeighbours_3, dX10_addNeighbours_4, dX10_addNeighbours_7, dX10_addNeighbours_8, dX10_addNeighbours_11, dX10_addNeighbours_12, dX10_addNeighbours_13, dX10_addNeighbours_16, dX10_addNeighbours_19, dX10_addNeighbours_20, dX10_addNeighbours_21, dX10_addNeighbours_22, dX10_addNeighbours_25, dX10_addNeighbours_28, dX10_addNeighbours_31, e_aload_n, e_iload_n, e_istore_n, e_iconst, e_iinc, e_ifCond, e_if_icmp, e_goto, e_getfield, e_arraylength, e_invokevirtual, e_return_, e_wSt0, e_wSt1, e_wSt2, e_isL0, e_isL1, e_isL2, e_lset, e_lclr0, e_lclr1, e_lclr2, e_lput0, e_lput1, e_lput2, e_wInc, e_wInc0, Nat.reduceLT, not_false_eq_true, Bool.or_false, Bool.false_or, Bool.or_true, Bool.true_or, Bool.and_false, Bool.false_and, Bool.and_true, Bool.true_and, e_rv, e_wIf_eq, e_wIc_ge, fX10_21, ic_0, jt_16_9, jt_28_m26, jt_8_23, e_call, e_callS0, e_callS1, e_callS2, e_callS3, e_callS4, e_pop0, e_pop1, e_tl0, e_tl1, tbX10_addNeighbours_f, tbX10_addNeighbours_p, tbX10_addNeighbours_k, tbX10_addNeighbours_c34, tbX10_addNeighbours_c38, n_86, cv_85_0, cv_85_1, cv_85_2, cv_85_3, cv_85_4, cv_18_0, cv_18_1, cv_18_2, cv_18_3, cv_18_4, g_85_2, spX10_addNeighboursOf, spX10_has, bi_0, bi_1, ne_eq, Classical.not_not, em_r, em_l]
  simp (disch := omega) only [wI_id, Int.toNat_natCast]
  repeat' (with_reducible first | intro _ | refine And.intro ?_ ?_)
  all_goals first
    | omega
    | exact h2
    | (rw [adS_end (by omega)] at h5; exact h5)
    | exact absurd h3 (by assumption)
    | exact (h4 i (by omega) (by omega)).1
    | exact (h4 i (by omega) (by omega)).2 (by omega)
    | (refine ih (n - 1) (by omega) S r (i + 1) (by omega) h1 h2 h3 (fun j hj hj2 => h4 j (by omega) hj2) ?_
       rw [adS_no (by omega)]; exact h5)
    | (refine ih (n - 1) (by omega) _ r (i + 1) (by omega) ?_ ?_ ?_ (fun j hj hj2 => ?_) ?_
       · rw [stN_1 (by decide)]; exact h1
       · rw [stN_1 (by decide)]; exact h2
       · rw [stN_1 (by decide)]; exact h3
       · have e1 : ∀ x : aX, (stN S (87 + i) 207 i x).1 207 j = S.1 207 j := fun x => by simp only [stN, up2]; rw [if_neg (by omega)]
         rw [e1, stN_of (by omega), stN_of (by omega), stN_of (by omega)]
         exact h4 j (by omega) hj2
       · rw [stN_of (by omega), stN_of (by omega), adS_yes (by omega) (by omega)]; exact h5)
    | skip
set_option maxRecDepth 20000 in
set_option maxHeartbeats 4000000 in
theorem okX10_addNeighbours (l : Launch) : aOK l mX10_addNeighbours spX10_addNeighbours := by
  refine aOK_of rfl fun as S Q h => ?_
  unfold spX10_addNeighbours at h
  split at h
  · rename_i r
    refine ⟨Nat.le_of_ble_eq_true rfl, wp_ok (tbX10_addNeighbours_ok l) Q (fun pc => pc == 2) 20 0 _ [] S ?_⟩
    show wp cX10_addNeighbours tbX10_addNeighbours 3 none Q (fun pc => pc == 2) (aGo l mX10_addNeighbours Q) 20 0 [(0, .inr (.inr 18)), (1, .inl r)] [] S
    simp only [wp_s, wpC_f, wpC_t, e_wLd, e_wLd0, e_wLd1, e_wLd2, e_get1, e_get2, e_wJ, e_wJo, f40, f41, f42, f43, Nat.reduceAdd, Nat.reduceBEq, Nat.reduceMul, eq_self, true_or, or_true, true_and, dX10_addNeighbours_0, dX10_addNeighbours_1, dX10_addNeighbours_2, dX10_addNeighbours_3, dX10_addNeighbours_4, dX10_addNeighbours_7, dX10_addNeighbours_8, dX10_addNeighbours_11, dX10_addNeighbours_12, dX10_addNeighbours_13, dX10_addNeighbours_16, dX10_addNeighbours_19, dX10_addNeighbours_20, dX10_addNeighbours_21, dX10_addNeighbours_22, dX10_addNeighbours_25, dX10_addNeighbours_28, dX10_addNeighbours_31, e_aload_n, e_iload_n, e_istore_n, e_iconst, e_iinc, e_ifCond, e_if_icmp, e_goto, e_getfield, e_arraylength, e_invokevirtual, e_return_, e_wSt0, e_wSt1, e_wSt2, e_isL0, e_isL1, e_isL2, e_lset, e_lclr0, e_lclr1, e_lclr2, e_lput0, e_lput1, e_lput2, e_wInc, e_wInc0, Nat.reduceLT, not_false_eq_true, Bool.or_false, Bool.false_or, Bool.or_true, Bool.true_or, Bool.and_false, Bool.false_and, Bool.and_true, Bool.true_and, e_rv, e_wIf_eq, e_wIc_ge, fX10_21, ic_0, jt_16_9, jt_28_m26, jt_8_23, e_call, e_callS0, e_callS1, e_callS2, e_callS3, e_callS4, e_pop0, e_pop1, e_tl0, e_tl1, tbX10_addNeighbours_f, tbX10_addNeighbours_p, tbX10_addNeighbours_k, tbX10_addNeighbours_c34, tbX10_addNeighbours_c38, g_85_2, n_19, cv_18_0, cv_18_1, cv_18_2, cv_18_3, cv_18_4, g_18_2, n_86, cv_85_0, cv_85_1, cv_85_2, cv_85_3, cv_85_4]
    obtain ⟨h0, h1, h2, h3, h4, h5, h6⟩ := h
    exact lpWA_18 l Q 60 S r 0 rfl ⟨h0, h1⟩ h2 ⟨h3, h4⟩ (fun j _ hj => h5 j hj) h6
  · rename_i r
    refine ⟨Nat.le_of_ble_eq_true rfl, wp_ok (tbX10_addNeighbours_ok l) Q (fun pc => pc == 2) 20 0 _ [] S ?_⟩
    show wp cX10_addNeighbours tbX10_addNeighbours 3 none Q (fun pc => pc == 2) (aGo l mX10_addNeighbours Q) 20 0 [(0, .inr (.inr 85)), (1, .inl r)] [] S
    simp only [wp_s, wpC_f, wpC_t, e_wLd, e_wLd0, e_wLd1, e_wLd2, e_get1, e_get2, e_wJ, e_wJo, f40, f41, f42, f43, Nat.reduceAdd, Nat.reduceBEq, Nat.reduceMul, eq_self, true_or, or_true, true_and, dX10_addNeighbours_0, dX10_addNeighbours_1, dX10_addNeighbours_2, dX10_addNeighbours_3, dX10_addNeighbours_4, dX10_addNeighbours_7, dX10_addNeighbours_8, dX10_addNeighbours_11, dX10_addNeighbours_12, dX10_addNeighbours_13, dX10_addNeighbours_16, dX10_addNeighbours_19, dX10_addNeighbours_20, dX10_addNeighbours_21, dX10_addNeighbours_22, dX10_addNeighbours_25, dX10_addNeighbours_28, dX10_addNeighbours_31, e_aload_n, e_iload_n, e_istore_n, e_iconst, e_iinc, e_ifCond, e_if_icmp, e_goto, e_getfield, e_arraylength, e_invokevirtual, e_return_, e_wSt0, e_wSt1, e_wSt2, e_isL0, e_isL1, e_isL2, e_lset, e_lclr0, e_lclr1, e_lclr2, e_lput0, e_lput1, e_lput2, e_wInc, e_wInc0, Nat.reduceLT, not_false_eq_true, Bool.or_false, Bool.false_or, Bool.or_true, Bool.true_or, Bool.and_false, Bool.false_and, Bool.and_true, Bool.true_and, e_rv, e_wIf_eq, e_wIc_ge, fX10_21, ic_0, jt_16_9, jt_28_m26, jt_8_23, e_call, e_callS0, e_callS1, e_callS2, e_callS3, e_callS4, e_pop0, e_pop1, e_tl0, e_tl1, tbX10_addNeighbours_f, tbX10_addNeighbours_p, tbX10_addNeighbours_k, tbX10_addNeighbours_c34, tbX10_addNeighbours_c38, g_85_2, n_19, cv_18_0, cv_18_1, cv_18_2, cv_18_3, cv_18_4, g_18_2, n_86, cv_85_0, cv_85_1, cv_85_2, cv_85_3, cv_85_4]
    obtain ⟨h0, h1, h2, h3, h4, h5, h6⟩ := h
    exact lpWA_85 l Q 120 S r 0 rfl ⟨h0, h1⟩ h2 ⟨h3, h4⟩ (fun j _ hj => h5 j hj) h6
  · exact h.elim
def spX10_meet : aSp := fun as S Q => match as with
  | [.inr (.inr 18), .inl i, .inr (.inr 85), .inl j] => (0 ≤ i → i < 60 → S.1 80 i.toNat ≤ 81) ∧ (0 ≤ j → j < 120 → S.1 207 j.toNat ≤ 81) ∧ Q (some (.inl (bi (((0 ≤ i ∧ i < 60 ∧ 0 < S.1 80 i.toNat) ∧ (0 ≤ j ∧ j < 120 ∧ 0 < S.1 207 j.toNat)) ∧ (∃ k m : Nat, (k : Int) < S.1 80 i.toNat ∧ (m : Int) < S.1 207 j.toNat ∧ S.2 (20 + i.toNat) k = S.2 (87 + j.toNat) m))))) S
  | _ => False
def tbX10_meet : aTb := (fX10, pX10, fun j => lk [(38, (some 10), 2, spX10_has)] j, kX10)
theorem tbX10_meet_f : tbX10_meet.1 = fX10 := rfl
theorem tbX10_meet_p : tbX10_meet.2.1 = pX10 := rfl
theorem tbX10_meet_k : tbX10_meet.2.2.2 = kX10 := rfl
theorem tbX10_meet_c38 : tbX10_meet.2.2.1 38 = some ((some 10), 2, spX10_has) := rfl
theorem tbX10_meet_all (l : Launch) : ∀ e ∈ ([(38, (some 10), 2, spX10_has)] : List (Nat × Option Nat × Nat × aSp)), cOK l mX10_meet e.1 e.2.1 e.2.2.1 e.2.2.2 ∨ mOK mX10_meet e.1 e.2.1 e.2.2.1 e.2.2.2 := all_cons (cOK_of (okX10_has l) meX10_has cfX10_38 (by decide) (by decide)) (all_nil)
theorem tbX10_meet_ok (l : Launch) : tOK l mX10_meet tbX10_meet := ⟨fX10_ok, pX10_ok, fun _ _ _ _ h => tbX10_meet_all l _ (lk_mem h), kX10_ok⟩
set_option maxRecDepth 20000 in
set_option maxHeartbeats 4000000 in
theorem lpMI (l : Launch) (Q : Option aV → aS → Prop) : ∀ (n : Nat) (S : aS) (i j : Int) (k m : Nat), m + n = (S.1 207 j.toNat).toNat → ((0 ≤ i ∧ i < 60) ∧ (0 ≤ j ∧ j < 120)) → (S.1 80 i.toNat ≤ 81 ∧ S.1 207 j.toNat ≤ 81) → ((k : Int) < S.1 80 i.toNat) → ((∃ k m : Nat, (k : Int) < S.1 80 i.toNat ∧ (m : Int) < S.1 207 j.toNat ∧ S.2 (20 + i.toNat) k = S.2 (87 + j.toNat) m) → Q (some (.inl 1)) S) → ((∀ m : Nat, (m : Int) < S.1 207 j.toNat → ¬ S.2 (20 + i.toNat) k = S.2 (87 + j.toNat) m) → aGo l mX10_meet Q 21 [(0, .inr (.inr 18)), (1, .inl i), (2, .inr (.inr 85)), (3, .inl j), (4, .inl ((k : Int) + 1))] [] S) → (∀ m2 : Nat, m2 < m → ¬ S.2 (20 + i.toNat) k = S.2 (87 + j.toNat) m2) → aGo l mX10_meet Q 35 [(0, .inr (.inr 18)), (1, .inl i), (2, .inr (.inr 85)), (3, .inl j), (4, .inl (k : Int)), (5, .inl (m : Int))] [] S := by
  intro n
  induction n using Nat.strongRecOn with
  | _ n ih =>
  intro S  i j  k m  h0 h1 h2 h3 h4 h5 h6
  refine wp_go (tbX10_meet_ok l) (fun pc => pc == 21 || pc == 35) 50 dX10_meet_35 ?_
  show ws1 tbX10_meet 6 (some .boolean) Q (wp cX10_meet tbX10_meet 6 (some .boolean) Q (fun pc => pc == 21 || pc == 35) (aGo l mX10_meet Q) 50) (.iload 5) 2 35 [(0, .inr (.inr 18)), (1, .inl i), (2, .inr (.inr 85)), (3, .inl j), (4, .inl (k : Int)), (5, .inl (m : Int))] [] S
  have hi : i.toNat < 60 := by omega
  have hj : j.toNat < 120 := by omega
  simp only [lr_18 hi, lr_85 hj, wp_s, wpC_f, wpC_t, e_wLd, e_wLd0, e_wLd1, e_wLd2, e_get1, e_get2, e_wJ, e_wJo, f40, f41, f42, f43, Nat.reduceAdd, Nat.reduceBEq, Nat.reduceMul, eq_self, true_or, or_true, true_and, dX10_meet_0, dX10_meet_1, dX10_meet_2, dX10_meet_5, dX10_meet_8, dX10_meet_9, dX10_meet_10, dX10_meet_13, dX10_meet_16, dX10_meet_17, dX10_meet_18, dX10_meet_19, dX10_meet_21, dX10_meet_23, dX10_meet_24, dX10_meet_27, dX10_meet_28, dX10_meet_29, dX10_meet_32, dX10_meet_33, dX10_meet_35, dX10_meet_37, dX10_meet_38, dX10_meet_41, dX10_meet_42, dX10_meet_43, dX10_meet_46, dX10_meet_47, dX10_meet_50, dX10_meet_51, dX10_meet_52, dX10_meet_54, dX10_meet_55, dX10_meet_56, dX10_meet_59, dX10_meet_60, dX10_meet_61, dX10_meet_63, dX10_meet_64, dX10_meet_65, dX10_meet_68, dX10_meet_69, dX10_meet_70, dX10_meet_73, dX10_meet_76, dX10_meet_79, dX10_meet_82, dX10_meet_83, e_aload_n, e_iload_n, e_iload, e_istore, e_iconst, e_lcmp, e_iinc, e_ifCond, e_if_icmp, e_goto, e_getfield, e_iaload, e_laload, e_aaload, e_invokevirtual, e_ireturn, e_wSt0, e_wSt1, e_wSt2, e_isL0, e_isL1, e_isL2, e_lset, e_lclr0, e_lclr1, e_lclr2, e_lput0, e_lput1, e_lput2, e_wInc, e_wInc0, Nat.reduceLT, not_false_eq_true, Bool.or_false, Bool.false_or, Bool.or_true, Bool.true_or, Bool.and_false, Bool.false_and, Bool.and_true, Bool.true_and, e_ri, e_rz, e_wCmp, e_wIf_eq, e_wIc_ge, e_wIf_ne, fX10_21, fX10_24, ic_0, ic_1, jt_13_5, jt_29_53, jt_43_33, jt_5_11, jt_65_5, jt_73_m38, jt_79_m58, e_call, e_callS0, e_callS1, e_callS2, e_callS3, e_callS4, e_pop0, e_pop1, e_tl0, e_tl1, tbX10_meet_f, tbX10_meet_p, tbX10_meet_k, tbX10_meet_c38, l_207, g_85_3, g_85_2, g_18_3, l_19, l_80, cv_18_0, cv_18_1, cv_18_2, cv_18_3, cv_18_4, g_18_2, l_86, cv_85_0, cv_85_1, cv_85_2, cv_85_3, cv_85_4, lCmp_0]
  simp (disch := omega) only [wI_id, Int.toNat_natCast]
  repeat' (with_reducible first | intro _ | refine And.intro ?_ ?_)
  all_goals first
    | omega
    | exact aGo_sub (h5 (fun m2 hm2 => h6 m2 (by omega))) (fun q hq => List.mem_append_left _ hq)
    | exact h4 ⟨k, m, h3, by omega, by assumption⟩
    | (refine ih (n - 1) (by omega) S i j k (m + 1) (by omega) h1 h2 h3 h4 h5 (fun m2 hm2 => ?_)
       by_cases hm : m2 = m
       · subst hm; assumption
       · exact h6 m2 (by omega))
    | skip
set_option maxRecDepth 20000 in
set_option maxHeartbeats 4000000 in
theorem lpMO (l : Launch) (Q : Option aV → aS → Prop) : ∀ (n : Nat) (S : aS) (i j : Int) (k : Nat), k + n = (S.1 80 i.toNat).toNat → ((0 ≤ i ∧ i < 60) ∧ (0 ≤ j ∧ j < 120)) → (S.1 80 i.toNat ≤ 81 ∧ S.1 207 j.toNat ≤ 81) → (0 < S.1 80 i.toNat ∧ 0 < S.1 207 j.toNat) → Q (some (.inl (bi (((0 ≤ i ∧ i < 60 ∧ 0 < S.1 80 i.toNat) ∧ (0 ≤ j ∧ j < 120 ∧ 0 < S.1 207 j.toNat)) ∧ (∃ k m : Nat, (k : Int) < S.1 80 i.toNat ∧ (m : Int) < S.1 207 j.toNat ∧ S.2 (20 + i.toNat) k = S.2 (87 + j.toNat) m))))) S → (∀ k2 m2 : Nat, k2 < k → (m2 : Int) < S.1 207 j.toNat → ¬ S.2 (20 + i.toNat) k2 = S.2 (87 + j.toNat) m2) → aGo l mX10_meet Q 21 [(0, .inr (.inr 18)), (1, .inl i), (2, .inr (.inr 85)), (3, .inl j), (4, .inl (k : Int))] [] S := by
  intro n
  induction n using Nat.strongRecOn with
  | _ n ih =>
  intro S  i j  k  h0 h1 h2 h3 h4 h5
  refine wp_go (tbX10_meet_ok l) (fun pc => pc == 21 || pc == 35) 50 dX10_meet_21 ?_
  show ws1 tbX10_meet 6 (some .boolean) Q (wp cX10_meet tbX10_meet 6 (some .boolean) Q (fun pc => pc == 21 || pc == 35) (aGo l mX10_meet Q) 50) (.iload 4) 2 21 [(0, .inr (.inr 18)), (1, .inl i), (2, .inr (.inr 85)), (3, .inl j), (4, .inl (k : Int))] [] S
  simp only [wp_s, wpC_f, wpC_t, e_wLd, e_wLd0, e_wLd1, e_wLd2, e_get1, e_get2, e_wJ, e_wJo, f40, f41, f42, f43, Nat.reduceAdd, Nat.reduceBEq, Nat.reduceMul, eq_self, true_or, or_true, true_and, dX10_meet_0, dX10_meet_1, dX10_meet_2, dX10_meet_5, dX10_meet_8, dX10_meet_9, dX10_meet_10, dX10_meet_13, dX10_meet_16, dX10_meet_17, dX10_meet_18, dX10_meet_19, dX10_meet_21, dX10_meet_23, dX10_meet_24, dX10_meet_27, dX10_meet_28, dX10_meet_29, dX10_meet_32, dX10_meet_33, dX10_meet_35, dX10_meet_37, dX10_meet_38, dX10_meet_41, dX10_meet_42, dX10_meet_43, dX10_meet_46, dX10_meet_47, dX10_meet_50, dX10_meet_51, dX10_meet_52, dX10_meet_54, dX10_meet_55, dX10_meet_56, dX10_meet_59, dX10_meet_60, dX10_meet_61, dX10_meet_63, dX10_meet_64, dX10_meet_65, dX10_meet_68, dX10_meet_69, dX10_meet_70, dX10_meet_73, dX10_meet_76, dX10_meet_79, dX10_meet_82, dX10_meet_83, e_aload_n, e_iload_n, e_iload, e_istore, e_iconst, e_lcmp, e_iinc, e_ifCond, e_if_icmp, e_goto, e_getfield, e_iaload, e_laload, e_aaload, e_invokevirtual, e_ireturn, e_wSt0, e_wSt1, e_wSt2, e_isL0, e_isL1, e_isL2, e_lset, e_lclr0, e_lclr1, e_lclr2, e_lput0, e_lput1, e_lput2, e_wInc, e_wInc0, Nat.reduceLT, not_false_eq_true, Bool.or_false, Bool.false_or, Bool.or_true, Bool.true_or, Bool.and_false, Bool.false_and, Bool.and_true, Bool.true_and, e_ri, e_rz, e_wCmp, e_wIf_eq, e_wIc_ge, e_wIf_ne, fX10_21, fX10_24, ic_0, ic_1, jt_13_5, jt_29_53, jt_43_33, jt_5_11, jt_65_5, jt_73_m38, jt_79_m58, e_call, e_callS0, e_callS1, e_callS2, e_callS3, e_callS4, e_pop0, e_pop1, e_tl0, e_tl1, tbX10_meet_f, tbX10_meet_p, tbX10_meet_k, tbX10_meet_c38, l_207, g_85_3, g_85_2, g_18_3, l_19, l_80, cv_18_0, cv_18_1, cv_18_2, cv_18_3, cv_18_4, g_18_2, l_86, cv_85_0, cv_85_1, cv_85_2, cv_85_3, cv_85_4]
  repeat' (with_reducible first | intro _ | refine And.intro ?_ ?_)
  all_goals first
    | omega
    | (rw [bi_f (by rintro ⟨-, k2, m2, q1, q2, q3⟩; exact h5 k2 m2 (by omega) q2 q3)] at h4; exact h4)
    | (refine lpMI l Q (S.1 207 j.toNat).toNat S i j k 0 (Nat.zero_add _) h1 h2 (by omega) (fun q => ?_) (fun q => ?_) (fun m2 hm2 => absurd hm2 (by omega))
       · rw [bi_t ⟨⟨⟨by omega, by omega, by omega⟩, ⟨by omega, by omega, by omega⟩⟩, q⟩] at h4; exact h4
       · refine ih (n - 1) (by omega) S i j (k + 1) (by omega) h1 h2 h3 h4 (fun k2 m2 hk hm => ?_)
         by_cases hk2 : k2 = k
         · subst hk2; exact q m2 hm
         · exact h5 k2 m2 (by omega) hm)
    | skip
set_option maxRecDepth 20000 in
set_option maxHeartbeats 4000000 in
theorem okX10_meet (l : Launch) : aOK l mX10_meet spX10_meet := by
  refine aOK_of rfl fun as S Q h => ?_
  unfold spX10_meet at h
  split at h
  · rename_i i j
    refine ⟨Nat.le_of_ble_eq_true rfl, wp_ok (tbX10_meet_ok l) Q (fun pc => pc == 21 || pc == 35) 50 0 _ [] S ?_⟩
    show wp cX10_meet tbX10_meet 6 (some .boolean) Q (fun pc => pc == 21 || pc == 35) (aGo l mX10_meet Q) 50 0 [(0, .inr (.inr 18)), (1, .inl i), (2, .inr (.inr 85)), (3, .inl j)] [] S
    simp only [wp_s, wpC_f, wpC_t, e_wLd, e_wLd0, e_wLd1, e_wLd2, e_get1, e_get2, e_wJ, e_wJo, f40, f41, f42, f43, Nat.reduceAdd, Nat.reduceBEq, Nat.reduceMul, eq_self, true_or, or_true, true_and, dX10_meet_0, dX10_meet_1, dX10_meet_2, dX10_meet_5, dX10_meet_8, dX10_meet_9, dX10_meet_10, dX10_meet_13, dX10_meet_16, dX10_meet_17, dX10_meet_18, dX10_meet_19, dX10_meet_21, dX10_meet_23, dX10_meet_24, dX10_meet_27, dX10_meet_28, dX10_meet_29, dX10_meet_32, dX10_meet_33, dX10_meet_35, dX10_meet_37, dX10_meet_38, dX10_meet_41, dX10_meet_42, dX10_meet_43, dX10_meet_46, dX10_meet_47, dX10_meet_50, dX10_meet_51, dX10_meet_52, dX10_meet_54, dX10_meet_55, dX10_meet_56, dX10_meet_59, dX10_meet_60, dX10_meet_61, dX10_meet_63, dX10_meet_64, dX10_meet_65, dX10_meet_68, dX10_meet_69, dX10_meet_70, dX10_meet_73, dX10_meet_76, dX10_meet_79, dX10_meet_82, dX10_meet_83, e_aload_n, e_iload_n, e_iload, e_istore, e_iconst, e_lcmp, e_iinc, e_ifCond, e_if_icmp, e_goto, e_getfield, e_iaload, e_laload, e_aaload, e_invokevirtual, e_ireturn, e_wSt0, e_wSt1, e_wSt2, e_isL0, e_isL1, e_isL2, e_lset, e_lclr0, e_lclr1, e_lclr2, e_lput0, e_lput1, e_lput2, e_wInc, e_wInc0, Nat.reduceLT, not_false_eq_true, Bool.or_false, Bool.false_or, Bool.or_true, Bool.true_or, Bool.and_false, Bool.false_and, Bool.and_true, Bool.true_and, e_ri, e_rz, e_wCmp, e_wIf_eq, e_wIc_ge, e_wIf_ne, fX10_21, fX10_24, ic_0, ic_1, jt_13_5, jt_29_53, jt_43_33, jt_5_11, jt_65_5, jt_73_m38, jt_79_m58, e_call, e_callS0, e_callS1, e_callS2, e_callS3, e_callS4, e_pop0, e_pop1, e_tl0, e_tl1, tbX10_meet_f, tbX10_meet_p, tbX10_meet_k, tbX10_meet_c38, l_207, g_85_3, g_85_2, g_18_3, l_19, l_80, cv_18_0, cv_18_1, cv_18_2, cv_18_3, cv_18_4, g_18_2, l_86, cv_85_0, cv_85_1, cv_85_2, cv_85_3, cv_85_4, spX10_has, bi_0, bi_1, ne_eq, Classical.not_not, em_r, em_l]
    obtain ⟨h0, h1, h2⟩ := h
    repeat' (with_reducible first | intro _ | refine And.intro ?_ ?_)
    all_goals first
      | (rw [bi_f (fun q => by omega)] at h2; exact h2)
      | exact lpMO l Q (S.1 80 i.toNat).toNat S i j 0 (Nat.zero_add _) (by omega) ⟨h0 (by omega) (by omega), h1 (by omega) (by omega)⟩ (by omega) h2 (fun k2 m2 hk => absurd hk (by omega))
      | skip
  · exact h.elim
