/-! SLIPHOUSE: flaws, years told -/
def flP (S : aS) (a b : Int) : Prop := ¬ a = b ∧ ((0 ≤ a ∧ a < 40 ∧ ¬ S.1 209 a.toNat = -1) ∧ 0 < S.1 212 a.toNat) ∧ ((0 ≤ b ∧ b < 40 ∧ ¬ S.1 209 b.toNat = -1) ∧ 0 < S.1 212 b.toNat) ∧ wth (S.1 209) (S.1 210) b 40 a ∧ sOld S (S.1 213 a.toNat) (S.1 213 b.toNat)
theorem d64 {i : Nat} (h : i < 2560) : wI ((i : Int).tdiv 64) = (i : Int) / 64 := by
  rw [Int.tdiv_eq_ediv_of_nonneg (by omega)]; exact wI_id (by omega) (by omega)
theorem m64 {i : Nat} (h : i < 2560) : wI ((i : Int).tmod 64) = (i : Int) % 64 := by
  rw [Int.tmod_eq_emod_of_nonneg (by omega)]; exact wI_id (by omega) (by omega)
def nth (p : Nat → Bool) (x : Int) : Nat → Nat → Int → Int
  | 0, _, _ => -1
  | n + 1, i, c => if p i = true then (if c = x then (i : Int) else nth p x n (i + 1) (c + 1)) else nth p x n (i + 1) c
def gaP (S : aS) : Prop := 0 ≤ S.1 81 4 ∧ S.1 81 4 ≤ 120 ∧ 0 ≤ S.1 3 7 ∧ S.1 3 7 ≤ 30
theorem ga3 {S : aS} : (gaT S).1 3 7 = S.1 3 7 := by
  have gs3 : ∀ (n i : Nat) (U : aS), (gS n i U).1 3 7 = U.1 3 7 := by
    intro n
    induction n with
    | zero => intro i U; rfl
    | succ n ih => intro i U; show (gS n (i + 1) _).1 3 7 = _; rw [ih, asl_f (by decide) (by decide) (by decide) (by decide)]
  have z3 : (gZ S).1 3 7 = S.1 3 7 := by unfold gZ; simp [stA]
  unfold gaT gP gF
  simp (disch := decide) only [stA_f]
  rw [gs3, z3]
def spX11_flaws : aSp := fun as S Q => match as with
  | [.inr (.inr 0)] => gaP S ∧ Q (some (.inl (cnt (fun j => cb (flP (gaT S) ((j : Int) / 64) ((j : Int) % 64))) 2560))) (gaT S)
  | _ => False
def tbX11_flaws : aTb := (fX11, pX11, fun j => lk [(241, (some 9), 1, spX9_gather), (264, (some 9), 3, spX9_isFlaw)] j, kX11)
theorem tbX11_flaws_f : tbX11_flaws.1 = fX11 := rfl
theorem tbX11_flaws_p : tbX11_flaws.2.1 = pX11 := rfl
theorem tbX11_flaws_k : tbX11_flaws.2.2.2 = kX11 := rfl
theorem tbX11_flaws_c241 : tbX11_flaws.2.2.1 241 = some ((some 9), 1, spX9_gather) := rfl
theorem tbX11_flaws_c264 : tbX11_flaws.2.2.1 264 = some ((some 9), 3, spX9_isFlaw) := rfl
theorem tbX11_flaws_all (l : Launch) : ∀ e ∈ ([(241, (some 9), 1, spX9_gather), (264, (some 9), 3, spX9_isFlaw)] : List (Nat × Option Nat × Nat × aSp)), cOK l mX11_flaws e.1 e.2.1 e.2.2.1 e.2.2.2 ∨ mOK mX11_flaws e.1 e.2.1 e.2.2.1 e.2.2.2 := all_cons (cOK_of (okX9_gather l) meX9_gather cfX11_241 (by decide) (by decide)) (all_cons (cOK_of (okX9_isFlaw l) meX9_isFlaw cfX11_264 (by decide) (by decide)) (all_nil))
theorem tbX11_flaws_ok (l : Launch) : tOK l mX11_flaws tbX11_flaws := ⟨fX11_ok, pX11_ok, fun _ _ _ _ h => tbX11_flaws_all l _ (lk_mem h), kX11_ok⟩
set_option maxRecDepth 20000 in
set_option maxHeartbeats 4000000 in
theorem lpX11_flaws (l : Launch) (Q : Option aV → aS → Prop) : ∀ (n : Nat) (S : aS) (i : Nat), i + n = 2560 → Q (some (.inl (cnt (fun j => cb (flP S ((j : Int) / 64) ((j : Int) % 64))) 2560))) S → (0 ≤ S.1 3 7 ∧ S.1 3 7 ≤ 30) → aGo l mX11_flaws Q 11 [(0, .inr (.inr 0)), (1, .inl (cnt (fun j => cb (flP S ((j : Int) / 64) ((j : Int) % 64))) i)), (2, .inl (i : Int))] [] S := by
  intro n
  induction n using Nat.strongRecOn with
  | _ n ih =>
  intro S  i  h0 h1 h2
  refine wp_go (tbX11_flaws_ok l) (fun pc => pc == 11) 27 dX11_flaws_11 ?_
  show ws1 tbX11_flaws 3 (some .int) Q (wp cX11_flaws tbX11_flaws 3 (some .int) Q (fun pc => pc == 11) (aGo l mX11_flaws Q) 27) (.iload_n 2) 1 11 [(0, .inr (.inr 0)), (1, .inl (cnt (fun j => cb (flP S ((j : Int) / 64) ((j : Int) % 64))) i)), (2, .inl (i : Int))] [] S
  simp only [wp_s, wpC_f, wpC_t, e_wLd, e_wLd0, e_wLd1, e_wLd2, e_get1, e_get2, e_wJ, e_wJo, f40, f41, f42, f43, Nat.reduceAdd, Nat.reduceBEq, Nat.reduceMul, eq_self, true_or, or_true, true_and, dX11_flaws_0, dX11_flaws_1, dX11_flaws_4, dX11_flaws_7, dX11_flaws_8, dX11_flaws_9, dX11_flaws_10, dX11_flaws_11, dX11_flaws_12, dX11_flaws_15, dX11_flaws_18, dX11_flaws_19, dX11_flaws_22, dX11_flaws_23, dX11_flaws_25, dX11_flaws_26, dX11_flaws_27, dX11_flaws_29, dX11_flaws_30, dX11_flaws_33, dX11_flaws_36, dX11_flaws_39, dX11_flaws_42, dX11_flaws_45, dX11_flaws_46, e_aload_n, e_iload_n, e_istore_n, e_iconst, e_bipush, e_sipush, e_idiv, e_irem, e_iinc, e_ifCond, e_if_icmp, e_goto, e_getfield, e_invokevirtual, e_ireturn, e_wSt0, e_wSt1, e_wSt2, e_isL0, e_isL1, e_isL2, e_lset, e_lclr0, e_lclr1, e_lclr2, e_lput0, e_lput1, e_lput2, e_wInc, e_wInc0, Nat.reduceLT, not_false_eq_true, Bool.or_false, Bool.false_or, Bool.or_true, Bool.true_or, Bool.and_false, Bool.false_and, Bool.and_true, Bool.true_and, e_wD2, e_ri, e_rz, e_wIf_eq, e_wIc_ge, bp_64, fX11_58, ic_0, jt_15_30, jt_33_6, jt_42_m31, sp_2560, e_call, e_callS0, e_callS1, e_callS2, e_callS3, e_callS4, e_pop0, e_pop1, e_tl0, e_tl1, tbX11_flaws_f, tbX11_flaws_p, tbX11_flaws_k, tbX11_flaws_c241, tbX11_flaws_c264, g_0_6, cv_211_0, cv_211_1, cv_211_2, cv_211_3, cv_211_4, spX9_isFlaw, bi_0, bi_1, ne_eq, Classical.not_not, em_r, em_l]
  have cbb := cnt_b (fun j => cb (flP S ((j : Int) / 64) ((j : Int) % 64))) i
  by_cases hi : i < 2560
  · rw [d64 hi, m64 hi]
    refine ⟨fun q => absurd q (by omega), fun _ => ⟨by decide, by decide, h2.1, h2.2, fun q => ?_, fun q => ?_⟩⟩
    · have e := ih (n - 1) (by omega) S (i + 1) (by omega) h1 h2
      rw [cnt_f (cb_f (show ¬ flP S ((i : Int) / 64) ((i : Int) % 64) from q))] at e
      simp (disch := omega) only [wI_id]
      exact e
    · have e := ih (n - 1) (by omega) S (i + 1) (by omega) h1 h2
      rw [cnt_t (cb_t (show flP S ((i : Int) / 64) ((i : Int) % 64) from q))] at e
      simp (disch := omega) only [wI_id]
      exact e
  · refine ⟨fun _ => ?_, fun q => absurd (by omega) q⟩
    rw [show i = 2560 from by omega]; exact h1
set_option maxRecDepth 20000 in
set_option maxHeartbeats 4000000 in
theorem okX11_flaws (l : Launch) : aOK l mX11_flaws spX11_flaws := by
  refine aOK_of rfl fun as S Q h => ?_
  unfold spX11_flaws at h
  split at h
  · refine ⟨Nat.le_of_ble_eq_true rfl, wp_ok (tbX11_flaws_ok l) Q (fun pc => pc == 11) 27 0 _ [] S ?_⟩
    show wp cX11_flaws tbX11_flaws 3 (some .int) Q (fun pc => pc == 11) (aGo l mX11_flaws Q) 27 0 [(0, .inr (.inr 0))] [] S
    simp only [wp_s, wpC_f, wpC_t, e_wLd, e_wLd0, e_wLd1, e_wLd2, e_get1, e_get2, e_wJ, e_wJo, f40, f41, f42, f43, Nat.reduceAdd, Nat.reduceBEq, Nat.reduceMul, eq_self, true_or, or_true, true_and, dX11_flaws_0, dX11_flaws_1, dX11_flaws_4, dX11_flaws_7, dX11_flaws_8, dX11_flaws_9, dX11_flaws_10, dX11_flaws_11, dX11_flaws_12, dX11_flaws_15, dX11_flaws_18, dX11_flaws_19, dX11_flaws_22, dX11_flaws_23, dX11_flaws_25, dX11_flaws_26, dX11_flaws_27, dX11_flaws_29, dX11_flaws_30, dX11_flaws_33, dX11_flaws_36, dX11_flaws_39, dX11_flaws_42, dX11_flaws_45, dX11_flaws_46, e_aload_n, e_iload_n, e_istore_n, e_iconst, e_bipush, e_sipush, e_idiv, e_irem, e_iinc, e_ifCond, e_if_icmp, e_goto, e_getfield, e_invokevirtual, e_ireturn, e_wSt0, e_wSt1, e_wSt2, e_isL0, e_isL1, e_isL2, e_lset, e_lclr0, e_lclr1, e_lclr2, e_lput0, e_lput1, e_lput2, e_wInc, e_wInc0, Nat.reduceLT, not_false_eq_true, Bool.or_false, Bool.false_or, Bool.or_true, Bool.true_or, Bool.and_false, Bool.false_and, Bool.and_true, Bool.true_and, e_wD2, e_ri, e_rz, e_wIf_eq, e_wIc_ge, bp_64, fX11_58, ic_0, jt_15_30, jt_33_6, jt_42_m31, sp_2560, e_call, e_callS0, e_callS1, e_callS2, e_callS3, e_callS4, e_pop0, e_pop1, e_tl0, e_tl1, tbX11_flaws_f, tbX11_flaws_p, tbX11_flaws_k, tbX11_flaws_c241, tbX11_flaws_c264, g_0_6, cv_211_0, cv_211_1, cv_211_2, cv_211_3, cv_211_4, spX9_gather]
    obtain ⟨⟨h0, h1, h2, h3⟩, h⟩ := h
    exact ⟨h0, h1, h2, h3, lpX11_flaws l Q 2560 _ 0 rfl h (by rw [ga3]; exact ⟨h2, h3⟩)⟩
  · exact h.elim
