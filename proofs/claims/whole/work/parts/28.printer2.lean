/-! PRINTER: the next sense, marks -/
noncomputable def sAt (E P L : Nat → Int) (e u p : Int) : Int := ff (fun m => cb (hasT E (m : Int) ∧ E m = e ∧ P m = u ∧ L m = p)) 40 0
noncomputable def sbL (E P L : Nat → Int) (e : Int) : Nat → Int → Int → Int
  | 0, nx, _ => nx
  | n + 1, nx, up => @ite _ (nx = -1 ∧ hasT E up) (Classical.propDecidable _) (sbL E P L e n (sAt E P L e (P up.toNat) (L up.toNat + 1)) (P up.toNat)) nx
theorem sbL_t {E P L : Nat → Int} {e nx up : Int} {n : Nat} (h : nx = -1 ∧ hasT E up) : sbL E P L e (n + 1) nx up = sbL E P L e n (sAt E P L e (P up.toNat) (L up.toNat + 1)) (P up.toNat) := if_pos h
theorem sbL_f {E P L : Nat → Int} {e nx up : Int} {n : Nat} (h : ¬ (nx = -1 ∧ hasT E up)) : sbL E P L e n nx up = nx := by
  cases n with
  | zero => rfl
  | succ n => exact if_neg h
def plOK (S : aS) : Prop := ∀ t : Nat, t < 40 → ¬ S.1 209 t = -1 → 0 ≤ S.1 218 t ∧ S.1 218 t ≤ 99999
def spX4_senseBehind : aSp := fun as S Q => match as with
  | [.inr (.inr 242), .inl t] => 0 ≤ t ∧ t < 40 ∧ plOK S ∧ Q (some (.inl (sbL (S.1 209) (S.1 210) (S.1 218) (S.1 209 t.toNat) 40 (sAt (S.1 209) (S.1 210) (S.1 218) (S.1 209 t.toNat) t 1) t))) S
  | _ => False
def tbX4_senseBehind : aTb := (fX4, pX4, fun j => lk [(62, (some 4), 4, spX4_senseAt), (66, (some 6), 2, spX6_has)] j, kX4)
theorem tbX4_senseBehind_f : tbX4_senseBehind.1 = fX4 := rfl
theorem tbX4_senseBehind_p : tbX4_senseBehind.2.1 = pX4 := rfl
theorem tbX4_senseBehind_k : tbX4_senseBehind.2.2.2 = kX4 := rfl
theorem tbX4_senseBehind_c62 : tbX4_senseBehind.2.2.1 62 = some ((some 4), 4, spX4_senseAt) := rfl
theorem tbX4_senseBehind_c66 : tbX4_senseBehind.2.2.1 66 = some ((some 6), 2, spX6_has) := rfl
theorem tbX4_senseBehind_all (l : Launch) : ∀ e ∈ ([(62, (some 4), 4, spX4_senseAt), (66, (some 6), 2, spX6_has)] : List (Nat × Option Nat × Nat × aSp)), cOK l mX4_senseBehind e.1 e.2.1 e.2.2.1 e.2.2.2 ∨ mOK mX4_senseBehind e.1 e.2.1 e.2.2.1 e.2.2.2 := all_cons (cOK_of (okX4_senseAt l) meX4_senseAt cfX4_62 (by decide) (by decide)) (all_cons (cOK_of (okX6_has l) meX6_has cfX4_66 (by decide) (by decide)) (all_nil))
theorem tbX4_senseBehind_ok (l : Launch) : tOK l mX4_senseBehind tbX4_senseBehind := ⟨fX4_ok, pX4_ok, fun _ _ _ _ h => tbX4_senseBehind_all l _ (lk_mem h), kX4_ok⟩
set_option maxRecDepth 20000 in
set_option maxHeartbeats 4000000 in
theorem lpX4_senseBehind (l : Launch) (Q : Option aV → aS → Prop) : ∀ (n : Nat) (S : aS) (t e nx up r : Int), (0 ≤ r ∧ r + n = 40) → plOK S → Q (some (.inl (sbL (S.1 209) (S.1 210) (S.1 218) e n nx up))) S → aGo l mX4_senseBehind Q 24 [(0, .inr (.inr 242)), (1, .inl t), (2, .inl e), (3, .inl nx), (4, .inl up), (5, .inl r)] [] S := by
  intro n
  induction n using Nat.strongRecOn with
  | _ n ih =>
  intro S  t e nx up r  h0 h1 h2
  refine wp_go (tbX4_senseBehind_ok l) (fun pc => pc == 24) 55 dX4_senseBehind_24 ?_
  show ws1 tbX4_senseBehind 6 (some .int) Q (wp cX4_senseBehind tbX4_senseBehind 6 (some .int) Q (fun pc => pc == 24) (aGo l mX4_senseBehind Q) 55) (.iload 5) 2 24 [(0, .inr (.inr 242)), (1, .inl t), (2, .inl e), (3, .inl nx), (4, .inl up), (5, .inl r)] [] S
  simp only [wp_s, wpC_f, wpC_t, e_wLd, e_wLd0, e_wLd1, e_wLd2, e_get1, e_get2, e_wJ, e_wJo, f40, f41, f42, f43, Nat.reduceAdd, Nat.reduceBEq, Nat.reduceMul, eq_self, true_or, or_true, true_and, dX4_senseBehind_0, dX4_senseBehind_1, dX4_senseBehind_4, dX4_senseBehind_7, dX4_senseBehind_8, dX4_senseBehind_9, dX4_senseBehind_10, dX4_senseBehind_11, dX4_senseBehind_12, dX4_senseBehind_13, dX4_senseBehind_14, dX4_senseBehind_17, dX4_senseBehind_18, dX4_senseBehind_19, dX4_senseBehind_21, dX4_senseBehind_22, dX4_senseBehind_24, dX4_senseBehind_26, dX4_senseBehind_28, dX4_senseBehind_31, dX4_senseBehind_32, dX4_senseBehind_33, dX4_senseBehind_36, dX4_senseBehind_37, dX4_senseBehind_40, dX4_senseBehind_42, dX4_senseBehind_45, dX4_senseBehind_48, dX4_senseBehind_49, dX4_senseBehind_50, dX4_senseBehind_51, dX4_senseBehind_54, dX4_senseBehind_57, dX4_senseBehind_59, dX4_senseBehind_60, dX4_senseBehind_61, dX4_senseBehind_64, dX4_senseBehind_67, dX4_senseBehind_69, dX4_senseBehind_70, dX4_senseBehind_71, dX4_senseBehind_72, dX4_senseBehind_75, dX4_senseBehind_76, dX4_senseBehind_77, dX4_senseBehind_80, dX4_senseBehind_83, dX4_senseBehind_85, dX4_senseBehind_86, dX4_senseBehind_88, dX4_senseBehind_91, dX4_senseBehind_94, dX4_senseBehind_95, e_aload_n, e_iload_n, e_iload, e_istore_n, e_istore, e_iconst, e_bipush, e_iadd, e_iinc, e_ifCond, e_if_icmp, e_goto, e_getfield, e_iaload, e_invokevirtual, e_ireturn, e_wSt0, e_wSt1, e_wSt2, e_isL0, e_isL1, e_isL2, e_lset, e_lclr0, e_lclr1, e_lclr2, e_lput0, e_lput1, e_lput2, e_wInc, e_wInc0, Nat.reduceLT, not_false_eq_true, Bool.or_false, Bool.false_or, Bool.or_true, Bool.true_or, Bool.and_false, Bool.false_and, Bool.and_true, Bool.true_and, e_wI2, e_ri, e_rz, e_wIc_ne, e_wIf_eq, e_wIc_ge, bp_40, fX4_27, fX4_31, fX4_88, fX4_91, fX4_94, ic_0, ic_1, ic_m1, jt_28_66, jt_33_61, jt_45_49, jt_91_m67, e_call, e_callS0, e_callS1, e_callS2, e_callS3, e_callS4, e_pop0, e_pop1, e_tl0, e_tl1, tbX4_senseBehind_f, tbX4_senseBehind_p, tbX4_senseBehind_k, tbX4_senseBehind_c62, tbX4_senseBehind_c66, g_211_9, cv_242_0, cv_242_1, cv_242_2, cv_242_3, cv_242_4, g_242_3, l_210, g_242_2, cv_208_0, cv_208_1, cv_208_2, cv_208_3, cv_208_4, l_209, g_208_1, l_218, g_208_0, spX6_has, spX4_senseAt, bi_0, bi_1, ne_eq, Classical.not_not, em_r, em_l]
  repeat' (with_reducible first | intro _ | refine And.intro ?_ ?_)
  all_goals (first | (have hp := h1 up.toNat (by omega) (by omega); simp (disch := omega) only [wI_id]) | skip)
  all_goals first
    | omega
    | (rw [show n = 0 from by omega] at h2; exact h2)
    | (rw [sbL_f (by unfold hasT; omega)] at h2; exact h2)
    | (obtain ⟨m, rfl⟩ : ∃ m, n = m + 1 := ⟨n - 1, by omega⟩
       rw [sbL_t ⟨by omega, by unfold hasT; omega⟩] at h2
       exact ih m (by omega) S t e _ _ (r + 1) (by omega) h1 h2)
    | skip
set_option maxRecDepth 20000 in
set_option maxHeartbeats 4000000 in
theorem okX4_senseBehind (l : Launch) : aOK l mX4_senseBehind spX4_senseBehind := by
  refine aOK_of rfl fun as S Q h => ?_
  unfold spX4_senseBehind at h
  split at h
  · rename_i t
    refine ⟨Nat.le_of_ble_eq_true rfl, wp_ok (tbX4_senseBehind_ok l) Q (fun pc => pc == 24) 55 0 _ [] S ?_⟩
    show wp cX4_senseBehind tbX4_senseBehind 6 (some .int) Q (fun pc => pc == 24) (aGo l mX4_senseBehind Q) 55 0 [(0, .inr (.inr 242)), (1, .inl t)] [] S
    simp only [wp_s, wpC_f, wpC_t, e_wLd, e_wLd0, e_wLd1, e_wLd2, e_get1, e_get2, e_wJ, e_wJo, f40, f41, f42, f43, Nat.reduceAdd, Nat.reduceBEq, Nat.reduceMul, eq_self, true_or, or_true, true_and, dX4_senseBehind_0, dX4_senseBehind_1, dX4_senseBehind_4, dX4_senseBehind_7, dX4_senseBehind_8, dX4_senseBehind_9, dX4_senseBehind_10, dX4_senseBehind_11, dX4_senseBehind_12, dX4_senseBehind_13, dX4_senseBehind_14, dX4_senseBehind_17, dX4_senseBehind_18, dX4_senseBehind_19, dX4_senseBehind_21, dX4_senseBehind_22, dX4_senseBehind_24, dX4_senseBehind_26, dX4_senseBehind_28, dX4_senseBehind_31, dX4_senseBehind_32, dX4_senseBehind_33, dX4_senseBehind_36, dX4_senseBehind_37, dX4_senseBehind_40, dX4_senseBehind_42, dX4_senseBehind_45, dX4_senseBehind_48, dX4_senseBehind_49, dX4_senseBehind_50, dX4_senseBehind_51, dX4_senseBehind_54, dX4_senseBehind_57, dX4_senseBehind_59, dX4_senseBehind_60, dX4_senseBehind_61, dX4_senseBehind_64, dX4_senseBehind_67, dX4_senseBehind_69, dX4_senseBehind_70, dX4_senseBehind_71, dX4_senseBehind_72, dX4_senseBehind_75, dX4_senseBehind_76, dX4_senseBehind_77, dX4_senseBehind_80, dX4_senseBehind_83, dX4_senseBehind_85, dX4_senseBehind_86, dX4_senseBehind_88, dX4_senseBehind_91, dX4_senseBehind_94, dX4_senseBehind_95, e_aload_n, e_iload_n, e_iload, e_istore_n, e_istore, e_iconst, e_bipush, e_iadd, e_iinc, e_ifCond, e_if_icmp, e_goto, e_getfield, e_iaload, e_invokevirtual, e_ireturn, e_wSt0, e_wSt1, e_wSt2, e_isL0, e_isL1, e_isL2, e_lset, e_lclr0, e_lclr1, e_lclr2, e_lput0, e_lput1, e_lput2, e_wInc, e_wInc0, Nat.reduceLT, not_false_eq_true, Bool.or_false, Bool.false_or, Bool.or_true, Bool.true_or, Bool.and_false, Bool.false_and, Bool.and_true, Bool.true_and, e_wI2, e_ri, e_rz, e_wIc_ne, e_wIf_eq, e_wIc_ge, bp_40, fX4_27, fX4_31, fX4_88, fX4_91, fX4_94, ic_0, ic_1, ic_m1, jt_28_66, jt_33_61, jt_45_49, jt_91_m67, e_call, e_callS0, e_callS1, e_callS2, e_callS3, e_callS4, e_pop0, e_pop1, e_tl0, e_tl1, tbX4_senseBehind_f, tbX4_senseBehind_p, tbX4_senseBehind_k, tbX4_senseBehind_c62, tbX4_senseBehind_c66, g_211_9, cv_242_0, cv_242_1, cv_242_2, cv_242_3, cv_242_4, g_242_3, l_210, g_242_2, cv_208_0, cv_208_1, cv_208_2, cv_208_3, cv_208_4, l_209, g_208_1, l_218, g_208_0, spX4_senseAt]
    exact ⟨h.1, h.2.1, lpX4_senseBehind l Q 40 S t _ _ t 0 (by omega) h.2.2.1 h.2.2.2⟩
  · exact h.elim
noncomputable def wyA (E P L : Nat → Int) : Nat → Int → Nat → (Nat → Int) → (Nat → Int) × Nat
  | 0, _, d, g => (g, d)
  | n + 1, u, d, g => @ite _ (hasT E u) (Classical.propDecidable _) (wyA E P L n (P u.toNat) (d + 1) (fu g d (L u.toNat))) (g, d)
theorem wyA_t {E P L : Nat → Int} {n d : Nat} {u : Int} {g : Nat → Int} (h : hasT E u) : wyA E P L (n + 1) u d g = wyA E P L n (P u.toNat) (d + 1) (fu g d (L u.toNat)) := if_pos h
theorem wyA_f {E P L : Nat → Int} {n d : Nat} {u : Int} {g : Nat → Int} (h : ¬ hasT E u) : wyA E P L n u d g = (g, d) := by
  cases n with
  | zero => rfl
  | succ n => exact if_neg h
def pbW (g : Nat → Int) : Nat → List Int
  | 0 => []
  | k + 1 => dgt (g k) ++ ((if 0 < k then [46] else []) ++ pbW g k)
/-- the mark of t printed -/
noncomputable def mkS (S : aS) (t : Int) : aS := emS (stA S 244 (wyA (S.1 209) (S.1 210) (S.1 218) 40 t 0 (S.1 244)).1) (pbW (wyA (S.1 209) (S.1 210) (S.1 218) 40 t 0 (S.1 244)).1 (wyA (S.1 209) (S.1 210) (S.1 218) 40 t 0 (S.1 244)).2)
theorem stA_f {S : aS} {i k : Nat} {g : Nat → Int} (h : ¬ k = i) : (stA S i g).1 k = S.1 k := by funext j; simp [stA, h]
theorem stA_i {S : aS} {i : Nat} {g : Nat → Int} : (stA S i g).1 i = g := by funext j; simp [stA]
theorem stA_u {S : aS} {i j : Nat} {v : Int} {g : Nat → Int} : upI (stA S i g) i j v = stA S i (fu g j v) := by
  refine st_ext (fun a b => ?_) (fun _ _ => rfl)
  simp only [stA, upI, up2, fu]
  by_cases h : a = i <;> by_cases h2 : b = j <;> simp_all
def spX4_addMark : aSp := fun as S Q => match as with
  | [.inr (.inr 242), .inl t] => szP S ∧ plOK S ∧ Q none (mkS S t)
  | _ => False
def tbX4_addMark : aTb := (fX4, pX4, fun j => lk [(58, (some 4), 2, spX4_addByte), (66, (some 6), 2, spX6_has), (115, (some 4), 2, spX4_addNumber)] j, kX4)
theorem tbX4_addMark_f : tbX4_addMark.1 = fX4 := rfl
theorem tbX4_addMark_p : tbX4_addMark.2.1 = pX4 := rfl
theorem tbX4_addMark_k : tbX4_addMark.2.2.2 = kX4 := rfl
theorem tbX4_addMark_c58 : tbX4_addMark.2.2.1 58 = some ((some 4), 2, spX4_addByte) := rfl
theorem tbX4_addMark_c66 : tbX4_addMark.2.2.1 66 = some ((some 6), 2, spX6_has) := rfl
theorem tbX4_addMark_c115 : tbX4_addMark.2.2.1 115 = some ((some 4), 2, spX4_addNumber) := rfl
theorem tbX4_addMark_all (l : Launch) : ∀ e ∈ ([(58, (some 4), 2, spX4_addByte), (66, (some 6), 2, spX6_has), (115, (some 4), 2, spX4_addNumber)] : List (Nat × Option Nat × Nat × aSp)), cOK l mX4_addMark e.1 e.2.1 e.2.2.1 e.2.2.2 ∨ mOK mX4_addMark e.1 e.2.1 e.2.2.1 e.2.2.2 := all_cons (cOK_of (okX4_addByte l) meX4_addByte cfX4_58 (by decide) (by decide)) (all_cons (cOK_of (okX6_has l) meX6_has cfX4_66 (by decide) (by decide)) (all_cons (cOK_of (okX4_addNumber l) meX4_addNumber cfX4_115 (by decide) (by decide)) (all_nil)))
theorem tbX4_addMark_ok (l : Launch) : tOK l mX4_addMark tbX4_addMark := ⟨fX4_ok, pX4_ok, fun _ _ _ _ h => tbX4_addMark_all l _ (lk_mem h), kX4_ok⟩
set_option maxRecDepth 20000 in
set_option maxHeartbeats 4000000 in
theorem lpMK2 (l : Launch) (Q : Option aV → aS → Prop) : ∀ (n : Nat) (S : aS) (g : Nat → Int) (t : Int) (dd : Int), szP S → (S.1 244 = g ∧ n ≤ 40) → (∀ k : Nat, k < n → 0 ≤ g k ∧ g k ≤ 99999) → Q none (emS S (pbW g n)) → aGo l mX4_addMark Q 59 [(0, .inr (.inr 242)), (1, .inl t), (2, .inl dd), (3, .inl ((n : Int) - 1))] [] S := by
  intro n
  induction n using Nat.strongRecOn with
  | _ n ih =>
  intro S  g  t  dd  h0 h1 h2 h3
  refine wp_go (tbX4_addMark_ok l) (fun pc => pc == 59) 53 dX4_addMark_59 ?_
  show ws1 tbX4_addMark 4 none Q (wp cX4_addMark tbX4_addMark 4 none Q (fun pc => pc == 59) (aGo l mX4_addMark Q) 53) (.iload_n 3) 1 59 [(0, .inr (.inr 242)), (1, .inl t), (2, .inl dd), (3, .inl ((n : Int) - 1))] [] S
  simp only [wp_s, wpC_f, wpC_t, e_wLd, e_wLd0, e_wLd1, e_wLd2, e_get1, e_get2, e_wJ, e_wJo, f40, f41, f42, f43, Nat.reduceAdd, Nat.reduceBEq, Nat.reduceMul, eq_self, true_or, or_true, true_and, dX4_addMark_0, dX4_addMark_1, dX4_addMark_2, dX4_addMark_3, dX4_addMark_4, dX4_addMark_5, dX4_addMark_8, dX4_addMark_9, dX4_addMark_12, dX4_addMark_15, dX4_addMark_16, dX4_addMark_17, dX4_addMark_20, dX4_addMark_21, dX4_addMark_24, dX4_addMark_25, dX4_addMark_28, dX4_addMark_29, dX4_addMark_30, dX4_addMark_33, dX4_addMark_36, dX4_addMark_37, dX4_addMark_38, dX4_addMark_39, dX4_addMark_42, dX4_addMark_43, dX4_addMark_46, dX4_addMark_49, dX4_addMark_50, dX4_addMark_51, dX4_addMark_52, dX4_addMark_55, dX4_addMark_56, dX4_addMark_57, dX4_addMark_58, dX4_addMark_59, dX4_addMark_60, dX4_addMark_63, dX4_addMark_64, dX4_addMark_65, dX4_addMark_68, dX4_addMark_69, dX4_addMark_70, dX4_addMark_73, dX4_addMark_74, dX4_addMark_77, dX4_addMark_78, dX4_addMark_80, dX4_addMark_83, dX4_addMark_86, dX4_addMark_89, e_aload_n, e_iload_n, e_istore_n, e_iconst, e_bipush, e_isub, e_iinc, e_ifCond, e_if_icmp, e_goto, e_getfield, e_iaload, e_arraylength, e_iastore, e_invokevirtual, e_return_, e_wSt0, e_wSt1, e_wSt2, e_isL0, e_isL1, e_isL2, e_lset, e_lclr0, e_lclr1, e_lclr2, e_lput0, e_lput1, e_lput2, e_wInc, e_wInc0, Nat.reduceLT, not_false_eq_true, Bool.or_false, Bool.false_or, Bool.or_true, Bool.true_or, Bool.and_false, Bool.false_and, Bool.and_true, Bool.true_and, e_rv, e_wI2, e_wIf_eq, e_wIf_lt, e_wIf_le, e_wIc_ge, bp_46, fX4_15, fX4_27, fX4_31, fX4_91, fX4_94, ic_0, ic_1, jt_12_43, jt_21_34, jt_52_m48, jt_60_29, jt_74_9, jt_86_m27, e_call, e_callS0, e_callS1, e_callS2, e_callS3, e_callS4, e_pop0, e_pop1, e_tl0, e_tl1, tbX4_addMark_f, tbX4_addMark_p, tbX4_addMark_k, tbX4_addMark_c58, tbX4_addMark_c66, tbX4_addMark_c115, g_242_6, g_211_9, cv_242_0, cv_242_1, cv_242_2, cv_242_3, cv_242_4, g_242_3, l_210, s_210, n_210, g_242_2, cv_208_0, cv_208_1, cv_208_2, cv_208_3, cv_208_4, g_208_1, l_244, s_244, n_244, l_218, s_218, n_218, spX4_addByte, spX4_addNumber]
  rcases n with _ | n
  · exact ⟨fun _ => h3, fun q => absurd q (by omega)⟩
  · rw [show ((n + 1 : Nat) : Int) - 1 = (n : Int) from by omega]
    have hg := h2 n (by omega)
    refine ⟨fun q => absurd q (by omega), fun _ => ?_⟩
    rw [h1.1]
    simp (disch := omega) only [wI_id, Int.toNat_natCast]
    have h3' : Q none (emS S (dgt (g n) ++ ((if 0 < n then [46] else []) ++ pbW g n))) := h3
    have hk : ∀ l : List Int, (emS S l).1 244 = g := fun l => (em_f (by decide) (by decide)).trans h1.1
    refine ⟨by omega, by omega, h0, by omega, by omega, fun q => ?_, fun q => ⟨em_sz h0, ?_⟩⟩
    · rw [if_neg (by omega), List.nil_append, ← em_app] at h3'
      exact ih n (by omega) _ g t dd (em_sz h0) ⟨hk _, by omega⟩ (fun k hk => h2 k (by omega)) h3'
    · rw [if_pos (by omega), ← em_app, ← em_app] at h3'
      exact ih n (by omega) _ g t dd (em_sz (em_sz h0)) ⟨(em_f (by decide) (by decide)).trans (hk _), by omega⟩ (fun k hk => h2 k (by omega)) h3'
set_option maxRecDepth 20000 in
set_option maxHeartbeats 4000000 in
theorem lpMK1 (l : Launch) (Q : Option aV → aS → Prop) : ∀ (n : Nat) (S : aS) (g : Nat → Int) (t u : Int) (d : Nat), d + n = 40 → plOK S → szP S → (∀ k : Nat, k < d → 0 ≤ g k ∧ g k ≤ 99999) → Q none (emS (stA S 244 (wyA (S.1 209) (S.1 210) (S.1 218) n u d g).1) (pbW (wyA (S.1 209) (S.1 210) (S.1 218) n u d g).1 (wyA (S.1 209) (S.1 210) (S.1 218) n u d g).2)) → aGo l mX4_addMark Q 4 [(0, .inr (.inr 242)), (1, .inl t), (2, .inl (d : Int)), (3, .inl u)] [] (stA S 244 g) := by
  intro n
  induction n using Nat.strongRecOn with
  | _ n ih =>
  intro S  g  t u  d  h0 h1 h2 h3 h4
  refine wp_go (tbX4_addMark_ok l) (fun pc => pc == 4 || pc == 59) 53 dX4_addMark_4 ?_
  show ws1 tbX4_addMark 4 none Q (wp cX4_addMark tbX4_addMark 4 none Q (fun pc => pc == 4 || pc == 59) (aGo l mX4_addMark Q) 53) (.aload_n 0) 1 4 [(0, .inr (.inr 242)), (1, .inl t), (2, .inl (d : Int)), (3, .inl u)] [] (stA S 244 g)
  simp only [wp_s, wpC_f, wpC_t, e_wLd, e_wLd0, e_wLd1, e_wLd2, e_get1, e_get2, e_wJ, e_wJo, f40, f41, f42, f43, Nat.reduceAdd, Nat.reduceBEq, Nat.reduceMul, eq_self, true_or, or_true, true_and, dX4_addMark_0, dX4_addMark_1, dX4_addMark_2, dX4_addMark_3, dX4_addMark_4, dX4_addMark_5, dX4_addMark_8, dX4_addMark_9, dX4_addMark_12, dX4_addMark_15, dX4_addMark_16, dX4_addMark_17, dX4_addMark_20, dX4_addMark_21, dX4_addMark_24, dX4_addMark_25, dX4_addMark_28, dX4_addMark_29, dX4_addMark_30, dX4_addMark_33, dX4_addMark_36, dX4_addMark_37, dX4_addMark_38, dX4_addMark_39, dX4_addMark_42, dX4_addMark_43, dX4_addMark_46, dX4_addMark_49, dX4_addMark_50, dX4_addMark_51, dX4_addMark_52, dX4_addMark_55, dX4_addMark_56, dX4_addMark_57, dX4_addMark_58, dX4_addMark_59, dX4_addMark_60, dX4_addMark_63, dX4_addMark_64, dX4_addMark_65, dX4_addMark_68, dX4_addMark_69, dX4_addMark_70, dX4_addMark_73, dX4_addMark_74, dX4_addMark_77, dX4_addMark_78, dX4_addMark_80, dX4_addMark_83, dX4_addMark_86, dX4_addMark_89, e_aload_n, e_iload_n, e_istore_n, e_iconst, e_bipush, e_isub, e_iinc, e_ifCond, e_if_icmp, e_goto, e_getfield, e_iaload, e_arraylength, e_iastore, e_invokevirtual, e_return_, e_wSt0, e_wSt1, e_wSt2, e_isL0, e_isL1, e_isL2, e_lset, e_lclr0, e_lclr1, e_lclr2, e_lput0, e_lput1, e_lput2, e_wInc, e_wInc0, Nat.reduceLT, not_false_eq_true, Bool.or_false, Bool.false_or, Bool.or_true, Bool.true_or, Bool.and_false, Bool.false_and, Bool.and_true, Bool.true_and, e_rv, e_wI2, e_wIf_eq, e_wIf_lt, e_wIf_le, e_wIc_ge, bp_46, fX4_15, fX4_27, fX4_31, fX4_91, fX4_94, ic_0, ic_1, jt_12_43, jt_21_34, jt_52_m48, jt_60_29, jt_74_9, jt_86_m27, e_call, e_callS0, e_callS1, e_callS2, e_callS3, e_callS4, e_pop0, e_pop1, e_tl0, e_tl1, tbX4_addMark_f, tbX4_addMark_p, tbX4_addMark_k, tbX4_addMark_c58, tbX4_addMark_c66, tbX4_addMark_c115, g_242_6, g_211_9, cv_242_0, cv_242_1, cv_242_2, cv_242_3, cv_242_4, g_242_3, l_210, s_210, n_210, g_242_2, cv_208_0, cv_208_1, cv_208_2, cv_208_3, cv_208_4, g_208_1, l_244, s_244, n_244, l_218, s_218, n_218, spX6_has, bi_0, bi_1, ne_eq, Classical.not_not, em_r, em_l]
  simp (disch := omega) only [wI_id, Int.toNat_natCast, stA_f, stA_u]
  have hsz : szP (stA S 244 g) := by unfold szP; simp (disch := omega) only [stA_f]; exact h2
  have hend : ∀ V : Prop, (¬ hasT (S.1 209) u ∨ n = 0) → aGo l mX4_addMark Q 59 [(0, .inr (.inr 242)), (1, .inl t), (2, .inl (d : Int)), (3, .inl ((d : Int) - 1))] [] (stA S 244 g) := by
    intro _ hh
    have e : wyA (S.1 209) (S.1 210) (S.1 218) n u d g = (g, d) := by
      rcases hh with hh | hh
      · exact wyA_f hh
      · subst hh; rfl
    rw [e] at h4
    exact lpMK2 l Q d (stA S 244 g) g t d hsz ⟨stA_i, by omega⟩ h3 h4
  refine ⟨fun q => hend True (.inl (by unfold hasT; omega)), fun q => ⟨fun q2 => hend True (.inr (by omega)), fun q2 => ?_⟩⟩
  obtain ⟨m, rfl⟩ : ∃ m, n = m + 1 := ⟨n - 1, by omega⟩
  have hp := h1 u.toNat (by omega) (by omega)
  rw [wyA_t (by unfold hasT; omega)] at h4
  refine ⟨by omega, by omega, by omega, by omega, by omega, by omega, ?_⟩
  exact ih m (by omega) S _ t _ (d + 1) (by omega) h1 h2 (fun k hk => by
    unfold fu
    split
    · exact hp
    · exact h3 k (by omega)) h4
set_option maxRecDepth 20000 in
set_option maxHeartbeats 4000000 in
theorem okX4_addMark (l : Launch) : aOK l mX4_addMark spX4_addMark := by
  refine aOK_of rfl fun as S Q h => ?_
  unfold spX4_addMark at h
  split at h
  · rename_i t
    refine ⟨Nat.le_of_ble_eq_true rfl, wp_ok (tbX4_addMark_ok l) Q (fun pc => pc == 4 || pc == 59) 53 0 _ [] S ?_⟩
    show wp cX4_addMark tbX4_addMark 4 none Q (fun pc => pc == 4 || pc == 59) (aGo l mX4_addMark Q) 53 0 [(0, .inr (.inr 242)), (1, .inl t)] [] S
    simp only [wp_s, wpC_f, wpC_t, e_wLd, e_wLd0, e_wLd1, e_wLd2, e_get1, e_get2, e_wJ, e_wJo, f40, f41, f42, f43, Nat.reduceAdd, Nat.reduceBEq, Nat.reduceMul, eq_self, true_or, or_true, true_and, dX4_addMark_0, dX4_addMark_1, dX4_addMark_2, dX4_addMark_3, dX4_addMark_4, dX4_addMark_5, dX4_addMark_8, dX4_addMark_9, dX4_addMark_12, dX4_addMark_15, dX4_addMark_16, dX4_addMark_17, dX4_addMark_20, dX4_addMark_21, dX4_addMark_24, dX4_addMark_25, dX4_addMark_28, dX4_addMark_29, dX4_addMark_30, dX4_addMark_33, dX4_addMark_36, dX4_addMark_37, dX4_addMark_38, dX4_addMark_39, dX4_addMark_42, dX4_addMark_43, dX4_addMark_46, dX4_addMark_49, dX4_addMark_50, dX4_addMark_51, dX4_addMark_52, dX4_addMark_55, dX4_addMark_56, dX4_addMark_57, dX4_addMark_58, dX4_addMark_59, dX4_addMark_60, dX4_addMark_63, dX4_addMark_64, dX4_addMark_65, dX4_addMark_68, dX4_addMark_69, dX4_addMark_70, dX4_addMark_73, dX4_addMark_74, dX4_addMark_77, dX4_addMark_78, dX4_addMark_80, dX4_addMark_83, dX4_addMark_86, dX4_addMark_89, e_aload_n, e_iload_n, e_istore_n, e_iconst, e_bipush, e_isub, e_iinc, e_ifCond, e_if_icmp, e_goto, e_getfield, e_iaload, e_arraylength, e_iastore, e_invokevirtual, e_return_, e_wSt0, e_wSt1, e_wSt2, e_isL0, e_isL1, e_isL2, e_lset, e_lclr0, e_lclr1, e_lclr2, e_lput0, e_lput1, e_lput2, e_wInc, e_wInc0, Nat.reduceLT, not_false_eq_true, Bool.or_false, Bool.false_or, Bool.or_true, Bool.true_or, Bool.and_false, Bool.false_and, Bool.and_true, Bool.true_and, e_rv, e_wI2, e_wIf_eq, e_wIf_lt, e_wIf_le, e_wIc_ge, bp_46, fX4_15, fX4_27, fX4_31, fX4_91, fX4_94, ic_0, ic_1, jt_12_43, jt_21_34, jt_52_m48, jt_60_29, jt_74_9, jt_86_m27, e_call, e_callS0, e_callS1, e_callS2, e_callS3, e_callS4, e_pop0, e_pop1, e_tl0, e_tl1, tbX4_addMark_f, tbX4_addMark_p, tbX4_addMark_k, tbX4_addMark_c58, tbX4_addMark_c66, tbX4_addMark_c115, g_242_6, g_211_9, cv_242_0, cv_242_1, cv_242_2, cv_242_3, cv_242_4, g_242_3, l_210, s_210, n_210, g_242_2, cv_208_0, cv_208_1, cv_208_2, cv_208_3, cv_208_4, g_208_1, l_244, s_244, n_244, l_218, s_218, n_218]
    have e := lpMK1 l Q 40 S (S.1 244) t t 0 rfl h.2.1 h.1 (fun k hk => absurd hk (by omega)) h.2.2
    have z : stA S 244 (S.1 244) = S := stA_self
    rw [z] at e
    exact e
  · exact h.elim
