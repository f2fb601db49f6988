/-! PRINTER: pointers, senses -/
theorem mk_f {S : aS} {t : Int} {i : Nat} (h : ¬ i = 242) (h2 : ¬ i = 243) (h3 : ¬ i = 244) : (mkS S t).1 i = S.1 i := by
  unfold mkS; rw [em_f h h2, stA_f h3]
theorem mk_2 {S : aS} {t : Int} : (mkS S t).2 = S.2 := by
  unfold mkS; rw [em_2]; rfl
theorem mk_sz {S : aS} {t : Int} (h : szP S) : szP (mkS S t) := by
  unfold mkS
  refine em_sz ?_
  unfold szP at *
  simp (disch := omega) only [stA_f]
  exact h
def hdW (S : aS) (e : Int) : Int := S.2 (20 + (e * 5).toNat) 0
/-- heads are words, senses are of entries, places and years are small -/
def hdP (S : aS) : Prop := S.1 14 4 ≤ 12 ∧ (∀ e : Int, 0 ≤ e → e < S.1 14 4 → 0 < S.1 80 (e * 5).toNat ∧ wrd (hdW S e)) ∧ (∀ t : Nat, t < 40 → ¬ S.1 209 t = -1 → 0 ≤ S.1 209 t ∧ S.1 209 t < S.1 14 4) ∧ plOK S ∧
  ∀ t : Nat, t < 40 → ¬ S.1 209 t = -1 → (0 ≤ S.1 214 t ∧ S.1 214 t ≤ 100000) ∧ (¬ S.1 209 t = -1 → (0 ≤ S.1 216 t ∧ S.1 216 t ≤ 100000) ∧ (0 ≤ S.1 217 t ∧ S.1 217 t ≤ 100000))
theorem hdP_c {S V : aS} (h1 : ∀ i, ¬ i = 242 → ¬ i = 243 → ¬ i = 244 → V.1 i = S.1 i) (h2 : V.2 = S.2) (h : hdP S) : hdP V := by
  unfold hdP hdW plOK at *
  rw [h1 14 (by decide) (by decide) (by decide), h1 80 (by decide) (by decide) (by decide), h1 209 (by decide) (by decide) (by decide), h1 214 (by decide) (by decide) (by decide), h1 216 (by decide) (by decide) (by decide), h1 217 (by decide) (by decide) (by decide), h1 218 (by decide) (by decide) (by decide), h2]
  exact h
theorem hdP_e {S : aS} {l : List Int} (h : hdP S) : hdP (emS S l) := hdP_c (fun _ a b _ => em_f a b) em_2 h
theorem hdP_m {S : aS} {t : Int} (h : hdP S) : hdP (mkS S t) := hdP_c (fun _ a b c => mk_f a b c) mk_2 h
noncomputable def ptS (S : aS) (t : Int) : aS := mkS (emS S (62 :: (wdL (hdW S (S.1 209 t.toNat)) ++ [32]))) t
theorem pt_f {S : aS} {t : Int} {i : Nat} (h : ¬ i = 242) (h2 : ¬ i = 243) (h3 : ¬ i = 244) : (ptS S t).1 i = S.1 i := by
  unfold ptS; rw [mk_f h h2 h3, em_f h h2]
theorem pt_2 {S : aS} {t : Int} : (ptS S t).2 = S.2 := by unfold ptS; rw [mk_2, em_2]
theorem pt_sz {S : aS} {t : Int} (h : szP S) : szP (ptS S t) := mk_sz (em_sz h)
theorem hdP_p {S : aS} {t : Int} (h : hdP S) : hdP (ptS S t) := hdP_c (fun _ a b c => pt_f a b c) pt_2 h
def spX4_addPointer : aSp := fun as S Q => match as with
  | [.inr (.inr 242), .inl t] => szP S ∧ hdP S ∧ 0 ≤ t ∧ t < 40 ∧ ¬ S.1 209 t.toNat = -1 ∧ Q none (ptS S t)
  | _ => False
def tbX4_addPointer : aTb := (fX4, pX4, fun j => lk [(48, (some 2), 2, spX2_head), (54, (some 4), 2, spX4_addWord), (58, (some 4), 2, spX4_addByte), (97, (some 4), 2, spX4_addMark)] j, kX4)
theorem tbX4_addPointer_f : tbX4_addPointer.1 = fX4 := rfl
theorem tbX4_addPointer_p : tbX4_addPointer.2.1 = pX4 := rfl
theorem tbX4_addPointer_k : tbX4_addPointer.2.2.2 = kX4 := rfl
theorem tbX4_addPointer_c48 : tbX4_addPointer.2.2.1 48 = some ((some 2), 2, spX2_head) := rfl
theorem tbX4_addPointer_c54 : tbX4_addPointer.2.2.1 54 = some ((some 4), 2, spX4_addWord) := rfl
theorem tbX4_addPointer_c58 : tbX4_addPointer.2.2.1 58 = some ((some 4), 2, spX4_addByte) := rfl
theorem tbX4_addPointer_c97 : tbX4_addPointer.2.2.1 97 = some ((some 4), 2, spX4_addMark) := rfl
theorem tbX4_addPointer_all (l : Launch) : ∀ e ∈ ([(48, (some 2), 2, spX2_head), (54, (some 4), 2, spX4_addWord), (58, (some 4), 2, spX4_addByte), (97, (some 4), 2, spX4_addMark)] : List (Nat × Option Nat × Nat × aSp)), cOK l mX4_addPointer e.1 e.2.1 e.2.2.1 e.2.2.2 ∨ mOK mX4_addPointer e.1 e.2.1 e.2.2.1 e.2.2.2 := all_cons (cOK_of (okX2_head l) meX2_head cfX4_48 (by decide) (by decide)) (all_cons (cOK_of (okX4_addWord l) meX4_addWord cfX4_54 (by decide) (by decide)) (all_cons (cOK_of (okX4_addByte l) meX4_addByte cfX4_58 (by decide) (by decide)) (all_cons (cOK_of (okX4_addMark l) meX4_addMark cfX4_97 (by decide) (by decide)) (all_nil))))
theorem tbX4_addPointer_ok (l : Launch) : tOK l mX4_addPointer tbX4_addPointer := ⟨fX4_ok, pX4_ok, fun _ _ _ _ h => tbX4_addPointer_all l _ (lk_mem h), kX4_ok⟩
set_option maxRecDepth 20000 in
set_option maxHeartbeats 4000000 in
theorem okX4_addPointer (l : Launch) : aOK l mX4_addPointer spX4_addPointer := by
  refine aOK_of rfl fun as S Q h => ?_
  unfold spX4_addPointer at h
  split at h
  · rename_i t
    refine ⟨Nat.le_of_ble_eq_true rfl, wp_ok (tbX4_addPointer_ok l) Q (fun pc => false) 22 0 _ [] S ?_⟩
    show wp cX4_addPointer tbX4_addPointer 2 none Q (fun pc => false) (aGo l mX4_addPointer Q) 22 0 [(0, .inr (.inr 242)), (1, .inl t)] [] S
    simp only [wp_s, wpC_f, wpC_t, e_wLd, e_wLd0, e_wLd1, e_wLd2, e_get1, e_get2, e_wJ, e_wJo, f40, f41, f42, f43, Nat.reduceAdd, Nat.reduceBEq, Nat.reduceMul, eq_self, true_or, or_true, true_and, dX4_addPointer_0, dX4_addPointer_1, dX4_addPointer_3, dX4_addPointer_6, dX4_addPointer_7, dX4_addPointer_8, dX4_addPointer_11, dX4_addPointer_12, dX4_addPointer_15, dX4_addPointer_18, dX4_addPointer_19, dX4_addPointer_20, dX4_addPointer_23, dX4_addPointer_26, dX4_addPointer_27, dX4_addPointer_29, dX4_addPointer_32, dX4_addPointer_33, dX4_addPointer_34, dX4_addPointer_37, e_aload_n, e_iload_n, e_bipush, e_getfield, e_iaload, e_invokevirtual, e_return_, e_rv, bp_32, bp_62, fX4_19, fX4_27, fX4_88, e_call, e_callS0, e_callS1, e_callS2, e_callS3, e_callS4, e_pop0, e_pop1, e_tl0, e_tl1, tbX4_addPointer_f, tbX4_addPointer_p, tbX4_addPointer_k, tbX4_addPointer_c48, tbX4_addPointer_c54, tbX4_addPointer_c58, tbX4_addPointer_c97, l_209, g_242_2, g_208_0, cv_14_0, cv_14_1, cv_14_2, cv_14_3, cv_14_4, g_242_0, cv_242_0, cv_242_1, cv_242_2, cv_242_3, cv_242_4, spX4_addByte, spX2_head, spX4_addWord, spX4_addMark]
    obtain ⟨h0, h1, h2, h3, h4, h5⟩ := h
    have g1 := h1.2.2.1 t.toNat (by omega) h4
    have g2 := h1.2.1 (S.1 209 t.toNat) g1.1 g1.2
    simp (disch := decide) only [em_f, em_2]
    refine ⟨h0, h2, h3, h1.1, fun q => absurd g1 q, fun _ => ⟨g2.1, g2.2, em_sz h0, em_sz (em_sz h0), em_sz (em_sz (em_sz h0)), ?_, ?_⟩⟩
    · exact (hdP_e (hdP_e (hdP_e h1))).2.2.2.1
    · unfold ptS at h5
      rw [← em_cons, ← em_app] at h5
      exact h5
  · exact h.elim
noncomputable def ptL (t : Int) : Nat → Nat → aS → aS
  | 0, _, S => S
  | n + 1, p, S => ptL t n (p + 1) (@ite _ (S.1 220 p = t ∧ hasT (S.1 209) (S.1 221 p)) (Classical.propDecidable _) (ptS S (S.1 221 p)) S)
theorem ptL_t {t : Int} {n p : Nat} {S : aS} (h : S.1 220 p = t ∧ hasT (S.1 209) (S.1 221 p)) : ptL t (n + 1) p S = ptL t n (p + 1) (ptS S (S.1 221 p)) := by
  rw [show ptL t (n + 1) p S = ptL t n (p + 1) (@ite _ (S.1 220 p = t ∧ hasT (S.1 209) (S.1 221 p)) (Classical.propDecidable _) (ptS S (S.1 221 p)) S) from rfl, if_pos h]
theorem ptL_f {t : Int} {n p : Nat} {S : aS} (h : ¬ (S.1 220 p = t ∧ hasT (S.1 209) (S.1 221 p))) : ptL t (n + 1) p S = ptL t n (p + 1) S := by
  rw [show ptL t (n + 1) p S = ptL t n (p + 1) (@ite _ (S.1 220 p = t ∧ hasT (S.1 209) (S.1 221 p)) (Classical.propDecidable _) (ptS S (S.1 221 p)) S) from rfl, if_neg h]
/-- a sense printed, with its pointers -/
noncomputable def snS (S : aS) (t : Int) : aS := ptL t (S.1 219 2).toNat 0 (emS (mkS (emS S [32]) t) (wiL (S.1 214 t.toNat) (S.1 216 t.toNat) (S.1 217 t.toNat)))
def spX4_addSense : aSp := fun as S Q => match as with
  | [.inr (.inr 242), .inl t] => szP S ∧ hdP S ∧ 0 ≤ t ∧ t < 40 ∧ ¬ S.1 209 t.toNat = -1 ∧ 0 ≤ S.1 219 2 ∧ S.1 219 2 ≤ 20 ∧ Q none (snS S t)
  | _ => False
def tbX4_addSense : aTb := (fX4, pX4, fun j => lk [(58, (some 4), 2, spX4_addByte), (66, (some 6), 2, spX6_has), (97, (some 4), 2, spX4_addMark), (100, (some 4), 2, spX4_addWitnesses), (112, (some 4), 2, spX4_addPointer)] j, kX4)
theorem tbX4_addSense_f : tbX4_addSense.1 = fX4 := rfl
theorem tbX4_addSense_p : tbX4_addSense.2.1 = pX4 := rfl
theorem tbX4_addSense_k : tbX4_addSense.2.2.2 = kX4 := rfl
theorem tbX4_addSense_c58 : tbX4_addSense.2.2.1 58 = some ((some 4), 2, spX4_addByte) := rfl
theorem tbX4_addSense_c66 : tbX4_addSense.2.2.1 66 = some ((some 6), 2, spX6_has) := rfl
theorem tbX4_addSense_c97 : tbX4_addSense.2.2.1 97 = some ((some 4), 2, spX4_addMark) := rfl
theorem tbX4_addSense_c100 : tbX4_addSense.2.2.1 100 = some ((some 4), 2, spX4_addWitnesses) := rfl
theorem tbX4_addSense_c112 : tbX4_addSense.2.2.1 112 = some ((some 4), 2, spX4_addPointer) := rfl
theorem tbX4_addSense_all (l : Launch) : ∀ e ∈ ([(58, (some 4), 2, spX4_addByte), (66, (some 6), 2, spX6_has), (97, (some 4), 2, spX4_addMark), (100, (some 4), 2, spX4_addWitnesses), (112, (some 4), 2, spX4_addPointer)] : List (Nat × Option Nat × Nat × aSp)), cOK l mX4_addSense e.1 e.2.1 e.2.2.1 e.2.2.2 ∨ mOK mX4_addSense e.1 e.2.1 e.2.2.1 e.2.2.2 := all_cons (cOK_of (okX4_addByte l) meX4_addByte cfX4_58 (by decide) (by decide)) (all_cons (cOK_of (okX6_has l) meX6_has cfX4_66 (by decide) (by decide)) (all_cons (cOK_of (okX4_addMark l) meX4_addMark cfX4_97 (by decide) (by decide)) (all_cons (cOK_of (okX4_addWitnesses l) meX4_addWitnesses cfX4_100 (by decide) (by decide)) (all_cons (cOK_of (okX4_addPointer l) meX4_addPointer cfX4_112 (by decide) (by decide)) (all_nil)))))
theorem tbX4_addSense_ok (l : Launch) : tOK l mX4_addSense tbX4_addSense := ⟨fX4_ok, pX4_ok, fun _ _ _ _ h => tbX4_addSense_all l _ (lk_mem h), kX4_ok⟩
set_option maxRecDepth 20000 in
set_option maxHeartbeats 4000000 in
theorem lpX4_addSense (l : Launch) (Q : Option aV → aS → Prop) : ∀ (n : Nat) (S : aS) (t : Int) (p : Nat), p + n = (S.1 219 2).toNat → szP S → hdP S → S.1 219 2 ≤ 20 → Q none (ptL t n p S) → aGo l mX4_addSense Q 18 [(0, .inr (.inr 242)), (1, .inl t), (2, .inl (p : Int))] [] S := by
  intro n
  induction n using Nat.strongRecOn with
  | _ n ih =>
  intro S  t  p  h0 h1 h2 h3 h4
  refine wp_go (tbX4_addSense_ok l) (fun pc => pc == 18) 44 dX4_addSense_18 ?_
  show ws1 tbX4_addSense 3 none Q (wp cX4_addSense tbX4_addSense 3 none Q (fun pc => pc == 18) (aGo l mX4_addSense Q) 44) (.iload_n 2) 1 18 [(0, .inr (.inr 242)), (1, .inl t), (2, .inl (p : Int))] [] S
  simp only [wp_s, wpC_f, wpC_t, e_wLd, e_wLd0, e_wLd1, e_wLd2, e_get1, e_get2, e_wJ, e_wJo, f40, f41, f42, f43, Nat.reduceAdd, Nat.reduceBEq, Nat.reduceMul, eq_self, true_or, or_true, true_and, dX4_addSense_0, dX4_addSense_1, dX4_addSense_3, dX4_addSense_6, dX4_addSense_7, dX4_addSense_8, dX4_addSense_11, dX4_addSense_12, dX4_addSense_13, dX4_addSense_16, dX4_addSense_17, dX4_addSense_18, dX4_addSense_19, dX4_addSense_20, dX4_addSense_23, dX4_addSense_26, dX4_addSense_29, dX4_addSense_30, dX4_addSense_33, dX4_addSense_36, dX4_addSense_37, dX4_addSense_38, dX4_addSense_39, dX4_addSense_42, dX4_addSense_43, dX4_addSense_46, dX4_addSense_47, dX4_addSense_50, dX4_addSense_53, dX4_addSense_54, dX4_addSense_55, dX4_addSense_58, dX4_addSense_61, dX4_addSense_62, dX4_addSense_63, dX4_addSense_66, dX4_addSense_69, dX4_addSense_70, dX4_addSense_71, dX4_addSense_74, dX4_addSense_77, dX4_addSense_80, e_aload_n, e_iload_n, e_istore_n, e_iconst, e_bipush, e_iinc, e_ifCond, e_if_icmp, e_goto, e_getfield, e_iaload, e_invokevirtual, e_return_, e_wSt0, e_wSt1, e_wSt2, e_isL0, e_isL1, e_isL2, e_lset, e_lclr0, e_lclr1, e_lclr2, e_lput0, e_lput1, e_lput2, e_wInc, e_wInc0, Nat.reduceLT, not_false_eq_true, Bool.or_false, Bool.false_or, Bool.or_true, Bool.true_or, Bool.and_false, Bool.false_and, Bool.and_true, Bool.true_and, e_rv, e_wIc_ge, e_wIc_ne, e_wIf_eq, bp_32, fX4_103, fX4_106, fX4_109, fX4_27, fX4_35, ic_0, jt_26_54, jt_39_35, jt_58_16, jt_77_m59, e_call, e_callS0, e_callS1, e_callS2, e_callS3, e_callS4, e_pop0, e_pop1, e_tl0, e_tl1, tbX4_addSense_f, tbX4_addSense_p, tbX4_addSense_k, tbX4_addSense_c58, tbX4_addSense_c66, tbX4_addSense_c97, tbX4_addSense_c100, tbX4_addSense_c112, g_219_1, g_242_2, l_221, g_219_0, cv_208_0, cv_208_1, cv_208_2, cv_208_3, cv_208_4, l_220, g_242_4, g_219_2, cv_242_0, cv_242_1, cv_242_2, cv_242_3, cv_242_4, spX6_has, spX4_addPointer, bi_0, bi_1, ne_eq, Classical.not_not, em_r, em_l]
  simp (disch := omega) only [wI_id, Int.toNat_natCast]
  repeat' (with_reducible first | intro _ | refine And.intro ?_ ?_)
  all_goals first
    | omega
    | exact h1
    | exact h2
    | (rw [show n = 0 from by omega] at h4; exact h4)
    | (obtain ⟨m, rfl⟩ : ∃ m, n = m + 1 := ⟨n - 1, by omega⟩
       first
         | (rw [ptL_f (fun z => by have z2 := z.2; unfold hasT at z2; omega)] at h4
            exact ih m (by omega) S t (p + 1) (by omega) h1 h2 h3 h4)
         | (rw [ptL_t ⟨by omega, by unfold hasT; omega⟩] at h4
            have e9 : (ptS S (S.1 221 p)).1 219 = S.1 219 := pt_f (by decide) (by decide) (by decide)
            exact ih m (by omega) _ t (p + 1) (by rw [e9]; omega) (pt_sz h1) (hdP_p h2) (by rw [e9]; exact h3) h4))
    | skip
set_option maxRecDepth 20000 in
set_option maxHeartbeats 4000000 in
theorem okX4_addSense (l : Launch) : aOK l mX4_addSense spX4_addSense := by
  refine aOK_of rfl fun as S Q h => ?_
  unfold spX4_addSense at h
  split at h
  · rename_i t
    refine ⟨Nat.le_of_ble_eq_true rfl, wp_ok (tbX4_addSense_ok l) Q (fun pc => pc == 18) 44 0 _ [] S ?_⟩
    show wp cX4_addSense tbX4_addSense 3 none Q (fun pc => pc == 18) (aGo l mX4_addSense Q) 44 0 [(0, .inr (.inr 242)), (1, .inl t)] [] S
    simp only [wp_s, wpC_f, wpC_t, e_wLd, e_wLd0, e_wLd1, e_wLd2, e_get1, e_get2, e_wJ, e_wJo, f40, f41, f42, f43, Nat.reduceAdd, Nat.reduceBEq, Nat.reduceMul, eq_self, true_or, or_true, true_and, dX4_addSense_0, dX4_addSense_1, dX4_addSense_3, dX4_addSense_6, dX4_addSense_7, dX4_addSense_8, dX4_addSense_11, dX4_addSense_12, dX4_addSense_13, dX4_addSense_16, dX4_addSense_17, dX4_addSense_18, dX4_addSense_19, dX4_addSense_20, dX4_addSense_23, dX4_addSense_26, dX4_addSense_29, dX4_addSense_30, dX4_addSense_33, dX4_addSense_36, dX4_addSense_37, dX4_addSense_38, dX4_addSense_39, dX4_addSense_42, dX4_addSense_43, dX4_addSense_46, dX4_addSense_47, dX4_addSense_50, dX4_addSense_53, dX4_addSense_54, dX4_addSense_55, dX4_addSense_58, dX4_addSense_61, dX4_addSense_62, dX4_addSense_63, dX4_addSense_66, dX4_addSense_69, dX4_addSense_70, dX4_addSense_71, dX4_addSense_74, dX4_addSense_77, dX4_addSense_80, e_aload_n, e_iload_n, e_istore_n, e_iconst, e_bipush, e_iinc, e_ifCond, e_if_icmp, e_goto, e_getfield, e_iaload, e_invokevirtual, e_return_, e_wSt0, e_wSt1, e_wSt2, e_isL0, e_isL1, e_isL2, e_lset, e_lclr0, e_lclr1, e_lclr2, e_lput0, e_lput1, e_lput2, e_wInc, e_wInc0, Nat.reduceLT, not_false_eq_true, Bool.or_false, Bool.false_or, Bool.or_true, Bool.true_or, Bool.and_false, Bool.false_and, Bool.and_true, Bool.true_and, e_rv, e_wIc_ge, e_wIc_ne, e_wIf_eq, bp_32, fX4_103, fX4_106, fX4_109, fX4_27, fX4_35, ic_0, jt_26_54, jt_39_35, jt_58_16, jt_77_m59, e_call, e_callS0, e_callS1, e_callS2, e_callS3, e_callS4, e_pop0, e_pop1, e_tl0, e_tl1, tbX4_addSense_f, tbX4_addSense_p, tbX4_addSense_k, tbX4_addSense_c58, tbX4_addSense_c66, tbX4_addSense_c97, tbX4_addSense_c100, tbX4_addSense_c112, g_219_1, g_242_2, l_221, g_219_0, cv_208_0, cv_208_1, cv_208_2, cv_208_3, cv_208_4, l_220, g_242_4, g_219_2, cv_242_0, cv_242_1, cv_242_2, cv_242_3, cv_242_4, spX4_addByte, spX4_addMark, spX4_addWitnesses]
    obtain ⟨h0, h1, h2, h3, h4, h5, h6, h7⟩ := h
    have g := h1.2.2.2.2 t.toNat (by omega) h4
    have e := lpX4_addSense l Q (S.1 219 2).toNat (emS (mkS (emS S [32]) t) (wiL (S.1 214 t.toNat) (S.1 216 t.toNat) (S.1 217 t.toNat))) t 0 (by rw [em_f (by decide) (by decide), mk_f (by decide) (by decide) (by decide), em_f (by decide) (by decide)]; exact Nat.zero_add _) (em_sz (mk_sz (em_sz h0))) (hdP_e (hdP_m (hdP_e h1))) (by rw [em_f (by decide) (by decide), mk_f (by decide) (by decide) (by decide), em_f (by decide) (by decide)]; exact h6) h7
    simp (disch := decide) only [em_f, mk_f]
    exact ⟨h0, em_sz h0, (hdP_e h1).2.2.2.1, mk_sz (em_sz h0), h2, h3, g.1, (g.2 h4).1, (g.2 h4).2, e⟩
  · exact h.elim
