/-! PRINTER: an entry -/
theorem ptL_g {t : Int} : ∀ (n p : Nat) (S : aS), (∀ i, ¬ i = 242 → ¬ i = 243 → ¬ i = 244 → (ptL t n p S).1 i = S.1 i) ∧ (ptL t n p S).2 = S.2 ∧ (szP S → szP (ptL t n p S))
  | 0, _, _ => ⟨fun _ _ _ _ => rfl, rfl, fun h => h⟩
  | n + 1, p, S => by
    by_cases hc : S.1 220 p = t ∧ hasT (S.1 209) (S.1 221 p)
    · rw [ptL_t hc]
      have ih := ptL_g (t := t) n (p + 1) (ptS S (S.1 221 p))
      exact ⟨fun i a b c => (ih.1 i a b c).trans (pt_f a b c), ih.2.1.trans pt_2, fun h => ih.2.2 (pt_sz h)⟩
    · rw [ptL_f hc]
      exact ptL_g n (p + 1) S
theorem sn_g (S : aS) (t : Int) : (∀ i, ¬ i = 242 → ¬ i = 243 → ¬ i = 244 → (snS S t).1 i = S.1 i) ∧ (snS S t).2 = S.2 ∧ (szP S → szP (snS S t)) := by
  unfold snS
  have g := ptL_g (t := t) (S.1 219 2).toNat 0 (emS (mkS (emS S [32]) t) (wiL (S.1 214 t.toNat) (S.1 216 t.toNat) (S.1 217 t.toNat)))
  refine ⟨fun i a b c => (g.1 i a b c).trans ?_, g.2.1.trans ?_, fun h => g.2.2 (em_sz (mk_sz (em_sz h)))⟩
  · rw [em_f a b, mk_f a b c, em_f a b]
  · rw [em_2, mk_2, em_2]
theorem hdP_s {S : aS} {t : Int} (h : hdP S) : hdP (snS S t) := hdP_c (sn_g S t).1 (sn_g S t).2.1 h
noncomputable def nxS (S : aS) (t : Int) : Int := sbL (S.1 209) (S.1 210) (S.1 218) (S.1 209 t.toNat) 40 (sAt (S.1 209) (S.1 210) (S.1 218) (S.1 209 t.toNat) t 1) t
noncomputable def cpL : Nat → Int → aS → aS
  | 0, _, S => S
  | n + 1, t, S => @ite _ (hasT (S.1 209) t) (Classical.propDecidable _) (cpL n (nxS (snS S t) t) (snS S t)) S
theorem cpL_t {n : Nat} {t : Int} {S : aS} (h : hasT (S.1 209) t) : cpL (n + 1) t S = cpL n (nxS (snS S t) t) (snS S t) := if_pos h
theorem cpL_f {n : Nat} {t : Int} {S : aS} (h : ¬ hasT (S.1 209) t) : cpL n t S = S := by
  cases n with
  | zero => rfl
  | succ n => exact if_neg h
noncomputable def hpS (S : aS) (e : Int) : aS := emS S (hpL (cnt (fun j => S.1 83 j == e && S.1 84 j == -1) (S.1 81 4).toNat))
/-- an entry printed, over what was gathered -/
noncomputable def cpS (S : aS) (e : Int) : aS := hpS (cpL 40 (sAt (S.1 209) (S.1 210) (S.1 218) e (-1) 1) (emS S (wdL (hdW S e) ++ [58]))) e
def cpP (S : aS) : Prop := hdP S ∧ (0 ≤ S.1 219 2 ∧ S.1 219 2 ≤ 20) ∧ 0 ≤ S.1 81 4 ∧ S.1 81 4 ≤ 120
def spX4_compose : aSp := fun as S Q => match as with
  | [.inr (.inr 242), .inl e] => (0 ≤ S.1 81 4 ∧ S.1 81 4 ≤ 120 ∧ 0 ≤ S.1 3 7 ∧ S.1 3 7 ≤ 30) ∧ cpP (upI (gaT S) 242 7 0) ∧ 0 ≤ e ∧ e < (upI (gaT S) 242 7 0).1 14 4 ∧ Q (some (.inl ((cpS (upI (gaT S) 242 7 0) e).1 242 7))) (cpS (upI (gaT S) 242 7 0) e)
  | _ => False
def tbX4_compose : aTb := (fX4, pX4, fun j => lk [(43, (some 9), 1, spX9_gather), (48, (some 2), 2, spX2_head), (54, (some 4), 2, spX4_addWord), (58, (some 4), 2, spX4_addByte), (62, (some 4), 4, spX4_senseAt), (66, (some 6), 2, spX6_has), (72, (some 4), 2, spX4_addSense), (75, (some 4), 2, spX4_senseBehind), (79, (some 7), 3, spX7_at), (85, (some 4), 2, spX4_addHeap)] j, kX4)
theorem tbX4_compose_f : tbX4_compose.1 = fX4 := rfl
theorem tbX4_compose_p : tbX4_compose.2.1 = pX4 := rfl
theorem tbX4_compose_k : tbX4_compose.2.2.2 = kX4 := rfl
theorem tbX4_compose_c43 : tbX4_compose.2.2.1 43 = some ((some 9), 1, spX9_gather) := rfl
theorem tbX4_compose_c48 : tbX4_compose.2.2.1 48 = some ((some 2), 2, spX2_head) := rfl
theorem tbX4_compose_c54 : tbX4_compose.2.2.1 54 = some ((some 4), 2, spX4_addWord) := rfl
theorem tbX4_compose_c58 : tbX4_compose.2.2.1 58 = some ((some 4), 2, spX4_addByte) := rfl
theorem tbX4_compose_c62 : tbX4_compose.2.2.1 62 = some ((some 4), 4, spX4_senseAt) := rfl
theorem tbX4_compose_c66 : tbX4_compose.2.2.1 66 = some ((some 6), 2, spX6_has) := rfl
theorem tbX4_compose_c72 : tbX4_compose.2.2.1 72 = some ((some 4), 2, spX4_addSense) := rfl
theorem tbX4_compose_c75 : tbX4_compose.2.2.1 75 = some ((some 4), 2, spX4_senseBehind) := rfl
theorem tbX4_compose_c79 : tbX4_compose.2.2.1 79 = some ((some 7), 3, spX7_at) := rfl
theorem tbX4_compose_c85 : tbX4_compose.2.2.1 85 = some ((some 4), 2, spX4_addHeap) := rfl
theorem tbX4_compose_all (l : Launch) : ∀ e ∈ ([(43, (some 9), 1, spX9_gather), (48, (some 2), 2, spX2_head), (54, (some 4), 2, spX4_addWord), (58, (some 4), 2, spX4_addByte), (62, (some 4), 4, spX4_senseAt), (66, (some 6), 2, spX6_has), (72, (some 4), 2, spX4_addSense), (75, (some 4), 2, spX4_senseBehind), (79, (some 7), 3, spX7_at), (85, (some 4), 2, spX4_addHeap)] : List (Nat × Option Nat × Nat × aSp)), cOK l mX4_compose e.1 e.2.1 e.2.2.1 e.2.2.2 ∨ mOK mX4_compose e.1 e.2.1 e.2.2.1 e.2.2.2 := all_cons (cOK_of (okX9_gather l) meX9_gather cfX4_43 (by decide) (by decide)) (all_cons (cOK_of (okX2_head l) meX2_head cfX4_48 (by decide) (by decide)) (all_cons (cOK_of (okX4_addWord l) meX4_addWord cfX4_54 (by decide) (by decide)) (all_cons (cOK_of (okX4_addByte l) meX4_addByte cfX4_58 (by decide) (by decide)) (all_cons (cOK_of (okX4_senseAt l) meX4_senseAt cfX4_62 (by decide) (by decide)) (all_cons (cOK_of (okX6_has l) meX6_has cfX4_66 (by decide) (by decide)) (all_cons (cOK_of (okX4_addSense l) meX4_addSense cfX4_72 (by decide) (by decide)) (all_cons (cOK_of (okX4_senseBehind l) meX4_senseBehind cfX4_75 (by decide) (by decide)) (all_cons (cOK_of (okX7_at l) meX7_at cfX4_79 (by decide) (by decide)) (all_cons (cOK_of (okX4_addHeap l) meX4_addHeap cfX4_85 (by decide) (by decide)) (all_nil))))))))))
theorem tbX4_compose_ok (l : Launch) : tOK l mX4_compose tbX4_compose := ⟨fX4_ok, pX4_ok, fun _ _ _ _ h => tbX4_compose_all l _ (lk_mem h), kX4_ok⟩
set_option maxRecDepth 20000 in
set_option maxHeartbeats 4000000 in
theorem lpX4_compose (l : Launch) (Q : Option aV → aS → Prop) : ∀ (n : Nat) (S : aS) (e t r : Int), (0 ≤ r ∧ r + n = 40) → szP S → cpP S → Q (some (.inl ((hpS (cpL n t S) e).1 242 7))) (hpS (cpL n t S) e) → aGo l mX4_compose Q 40 [(0, .inr (.inr 242)), (1, .inl e), (2, .inl t), (3, .inl r)] [] S := by
  intro n
  induction n using Nat.strongRecOn with
  | _ n ih =>
  intro S  e t r  h0 h1 h2 h3
  refine wp_go (tbX4_compose_ok l) (fun pc => pc == 40) 52 dX4_compose_40 ?_
  show ws1 tbX4_compose 4 (some .int) Q (wp cX4_compose tbX4_compose 4 (some .int) Q (fun pc => pc == 40) (aGo l mX4_compose Q) 52) (.iload_n 3) 1 40 [(0, .inr (.inr 242)), (1, .inl e), (2, .inl t), (3, .inl r)] [] S
  simp only [wp_s, wpC_f, wpC_t, e_wLd, e_wLd0, e_wLd1, e_wLd2, e_get1, e_get2, e_wJ, e_wJo, f40, f41, f42, f43, Nat.reduceAdd, Nat.reduceBEq, Nat.reduceMul, eq_self, true_or, or_true, true_and, dX4_compose_0, dX4_compose_1, dX4_compose_4, dX4_compose_7, dX4_compose_8, dX4_compose_9, dX4_compose_12, dX4_compose_13, dX4_compose_14, dX4_compose_17, dX4_compose_18, dX4_compose_21, dX4_compose_24, dX4_compose_25, dX4_compose_27, dX4_compose_30, dX4_compose_31, dX4_compose_32, dX4_compose_33, dX4_compose_34, dX4_compose_37, dX4_compose_38, dX4_compose_39, dX4_compose_40, dX4_compose_41, dX4_compose_43, dX4_compose_46, dX4_compose_47, dX4_compose_50, dX4_compose_51, dX4_compose_54, dX4_compose_57, dX4_compose_58, dX4_compose_59, dX4_compose_62, dX4_compose_63, dX4_compose_64, dX4_compose_67, dX4_compose_68, dX4_compose_71, dX4_compose_74, dX4_compose_75, dX4_compose_76, dX4_compose_79, dX4_compose_80, dX4_compose_81, dX4_compose_84, dX4_compose_87, dX4_compose_88, dX4_compose_91, e_aload_n, e_iload_n, e_istore_n, e_iconst, e_bipush, e_iinc, e_ifCond, e_if_icmp, e_goto, e_getfield, e_putfield, e_invokevirtual, e_ireturn, e_wSt0, e_wSt1, e_wSt2, e_isL0, e_isL1, e_isL2, e_lset, e_lclr0, e_lclr1, e_lclr2, e_lput0, e_lput1, e_lput2, e_wInc, e_wInc0, Nat.reduceLT, not_false_eq_true, Bool.or_false, Bool.false_or, Bool.or_true, Bool.true_or, Bool.and_false, Bool.false_and, Bool.and_true, Bool.true_and, e_ri, e_rz, e_wIc_ge, e_wIf_eq, bp_40, bp_58, fX4_19, fX4_23, fX4_27, fX4_31, fX4_39, ic_0, ic_1, ic_m1, jt_43_31, jt_54_20, jt_71_m31, pX4_39, e_call, e_callS0, e_callS1, e_callS2, e_callS3, e_callS4, e_pop0, e_pop1, e_tl0, e_tl1, tbX4_compose_f, tbX4_compose_p, tbX4_compose_k, tbX4_compose_c43, tbX4_compose_c48, tbX4_compose_c54, tbX4_compose_c58, tbX4_compose_c62, tbX4_compose_c66, tbX4_compose_c72, tbX4_compose_c75, tbX4_compose_c79, tbX4_compose_c85, g_242_1, g_242_7, cv_242_0, cv_242_1, cv_242_2, cv_242_3, cv_242_4, g_242_2, cv_208_0, cv_208_1, cv_208_2, cv_208_3, cv_208_4, p_242_7, cv_211_0, cv_211_1, cv_211_2, cv_211_3, cv_211_4, cv_14_0, cv_14_1, cv_14_2, cv_14_3, cv_14_4, g_242_0, cv_81_0, cv_81_1, cv_81_2, cv_81_3, cv_81_4, g_242_3, spX6_has, spX4_addSense, spX4_senseBehind, spX7_at, spX4_addHeap, bi_0, bi_1, ne_eq, Classical.not_not, em_r, em_l]
  have hfin : ∀ V : aS, V = cpL n t S → szP V → (0 ≤ V.1 81 4 ∧ V.1 81 4 ≤ 120) → (0 ≤ V.1 81 4 ∧ V.1 81 4 ≤ 120 ∧ szP V ∧ cnt (fun j => V.1 83 j == e && V.1 84 j == -1) (V.1 81 4).toNat ≤ 100000 ∧ Q (some (.inl ((hpS V e).1 242 7))) (hpS V e)) := by
    intro V hV h5 h6
    rw [← hV] at h3
    have := cnt_b (fun j => V.1 83 j == e && V.1 84 j == -1) (V.1 81 4).toNat
    exact ⟨h6.1, h6.2, h5, by omega, h3⟩
  refine ⟨fun q => hfin S (by rw [show n = 0 from by omega]; rfl) h1 h2.2.2, fun q => ⟨fun q2 => hfin S (by rw [cpL_f (by unfold hasT; omega)]) h1 h2.2.2, fun q2 => ?_⟩⟩
  obtain ⟨m, rfl⟩ : ∃ m, n = m + 1 := ⟨n - 1, by omega⟩
  have g := sn_g S t
  simp (disch := omega) only [wI_id]
  rw [cpL_t (by unfold hasT; omega)] at h3
  refine ⟨h1, h2.1, q2.1, q2.2.1, q2.2.2, h2.2.1.1, h2.2.1.2, q2.1, q2.2.1, (hdP_s h2.1).2.2.2.1, ?_⟩
  refine ih m (by omega) _ e _ (r + 1) (by omega) (g.2.2 h1) ⟨hdP_s h2.1, ?_, ?_⟩ h3
  · rw [g.1 219 (by decide) (by decide) (by decide)]; exact h2.2.1
  · rw [g.1 81 (by decide) (by decide) (by decide)]; exact h2.2.2
set_option maxRecDepth 20000 in
set_option maxHeartbeats 4000000 in
theorem okX4_compose (l : Launch) : aOK l mX4_compose spX4_compose := by
  refine aOK_of rfl fun as S Q h => ?_
  unfold spX4_compose at h
  split at h
  · rename_i e
    refine ⟨Nat.le_of_ble_eq_true rfl, wp_ok (tbX4_compose_ok l) Q (fun pc => pc == 40) 52 0 _ [] S ?_⟩
    show wp cX4_compose tbX4_compose 4 (some .int) Q (fun pc => pc == 40) (aGo l mX4_compose Q) 52 0 [(0, .inr (.inr 242)), (1, .inl e)] [] S
    simp only [wp_s, wpC_f, wpC_t, e_wLd, e_wLd0, e_wLd1, e_wLd2, e_get1, e_get2, e_wJ, e_wJo, f40, f41, f42, f43, Nat.reduceAdd, Nat.reduceBEq, Nat.reduceMul, eq_self, true_or, or_true, true_and, dX4_compose_0, dX4_compose_1, dX4_compose_4, dX4_compose_7, dX4_compose_8, dX4_compose_9, dX4_compose_12, dX4_compose_13, dX4_compose_14, dX4_compose_17, dX4_compose_18, dX4_compose_21, dX4_compose_24, dX4_compose_25, dX4_compose_27, dX4_compose_30, dX4_compose_31, dX4_compose_32, dX4_compose_33, dX4_compose_34, dX4_compose_37, dX4_compose_38, dX4_compose_39, dX4_compose_40, dX4_compose_41, dX4_compose_43, dX4_compose_46, dX4_compose_47, dX4_compose_50, dX4_compose_51, dX4_compose_54, dX4_compose_57, dX4_compose_58, dX4_compose_59, dX4_compose_62, dX4_compose_63, dX4_compose_64, dX4_compose_67, dX4_compose_68, dX4_compose_71, dX4_compose_74, dX4_compose_75, dX4_compose_76, dX4_compose_79, dX4_compose_80, dX4_compose_81, dX4_compose_84, dX4_compose_87, dX4_compose_88, dX4_compose_91, e_aload_n, e_iload_n, e_istore_n, e_iconst, e_bipush, e_iinc, e_ifCond, e_if_icmp, e_goto, e_getfield, e_putfield, e_invokevirtual, e_ireturn, e_wSt0, e_wSt1, e_wSt2, e_isL0, e_isL1, e_isL2, e_lset, e_lclr0, e_lclr1, e_lclr2, e_lput0, e_lput1, e_lput2, e_wInc, e_wInc0, Nat.reduceLT, not_false_eq_true, Bool.or_false, Bool.false_or, Bool.or_true, Bool.true_or, Bool.and_false, Bool.false_and, Bool.and_true, Bool.true_and, e_ri, e_rz, e_wIc_ge, e_wIf_eq, bp_40, bp_58, fX4_19, fX4_23, fX4_27, fX4_31, fX4_39, ic_0, ic_1, ic_m1, jt_43_31, jt_54_20, jt_71_m31, pX4_39, e_call, e_callS0, e_callS1, e_callS2, e_callS3, e_callS4, e_pop0, e_pop1, e_tl0, e_tl1, tbX4_compose_f, tbX4_compose_p, tbX4_compose_k, tbX4_compose_c43, tbX4_compose_c48, tbX4_compose_c54, tbX4_compose_c58, tbX4_compose_c62, tbX4_compose_c66, tbX4_compose_c72, tbX4_compose_c75, tbX4_compose_c79, tbX4_compose_c85, g_242_1, g_242_7, cv_242_0, cv_242_1, cv_242_2, cv_242_3, cv_242_4, g_242_2, cv_208_0, cv_208_1, cv_208_2, cv_208_3, cv_208_4, p_242_7, cv_211_0, cv_211_1, cv_211_2, cv_211_3, cv_211_4, cv_14_0, cv_14_1, cv_14_2, cv_14_3, cv_14_4, g_242_0, cv_81_0, cv_81_1, cv_81_2, cv_81_3, cv_81_4, g_242_3, spX9_gather, spX2_head, spX4_addWord, spX4_addByte, spX4_senseAt]
    obtain ⟨h0, h1, h2, h3, h4⟩ := h
    have g2 := h1.1.2.1 e h2 h3
    have hsz : szP (upI (gaT S) 242 7 0) := by unfold szP; rw [up_hit]; omega
    refine ⟨h0.1, h0.2.1, h0.2.2.1, h0.2.2.2, ?_⟩
    refine ⟨h1.1.1, fun q => absurd ⟨h2, h3⟩ q, fun _ => ⟨g2.1, g2.2, hsz, em_sz hsz, ?_⟩⟩
    have e1 := lpX4_compose l Q 40 (emS (upI (gaT S) 242 7 0) (wdL (hdW (upI (gaT S) 242 7 0) e) ++ [58])) e (sAt ((upI (gaT S) 242 7 0).1 209) ((upI (gaT S) 242 7 0).1 210) ((upI (gaT S) 242 7 0).1 218) e (-1) 1) 0 (by omega) (em_sz hsz) ⟨hdP_e h1.1, by rw [em_f (by decide) (by decide)]; exact h1.2.1, by rw [em_f (by decide) (by decide)]; exact h1.2.2⟩ h4
    simp (disch := decide) only [em_f, em_app]
    exact e1
  · exact h.elim
