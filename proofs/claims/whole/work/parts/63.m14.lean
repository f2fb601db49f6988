/-! THE REFERENCE: fitting, sort -/
noncomputable def ftc (S : aS) (s : Nat) : Int := cnt (fun e => cb (ftM S s e)) (S.1 245 13).toNat
theorem ftc_K {S : aS} {g : Nat → Int} : ftc (stA S 259 g) = ftc S := rfl
def dbM (S : aS) (s : Nat) : Prop := S.1 256 s = -1 ∧ 1 < ftc S s
theorem db_K {S : aS} {g : Nat → Int} : dbM (stA S 259 g) = dbM S := rfl
def spX12_fitting : aSp := fun as S Q => match as with
  | [.inr (.inr 245), .inl s] => kwP S ∧ (0 ≤ s ∧ s < S.1 245 12) ∧ ∀ g, knX S g → Q (some (.inl (ftc S s.toNat))) (stA S 259 g)
  | _ => False
def tbX12_fitting : aTb := (fX12, pX12, fun j => lk [(173, (some 12), 3, spX12_isFitting)] j, kX12)
theorem tbX12_fitting_f : tbX12_fitting.1 = fX12 := rfl
theorem tbX12_fitting_p : tbX12_fitting.2.1 = pX12 := rfl
theorem tbX12_fitting_k : tbX12_fitting.2.2.2 = kX12 := rfl
theorem tbX12_fitting_c173 : tbX12_fitting.2.2.1 173 = some ((some 12), 3, spX12_isFitting) := rfl
theorem tbX12_fitting_all (l : Launch) : ∀ e ∈ ([(173, (some 12), 3, spX12_isFitting)] : List (Nat × Option Nat × Nat × aSp)), cOK l mX12_fitting e.1 e.2.1 e.2.2.1 e.2.2.2 ∨ mOK mX12_fitting e.1 e.2.1 e.2.2.1 e.2.2.2 := all_cons (cOK_of (okX12_isFitting l) meX12_isFitting cfX12_173 (by decide) (by decide)) (all_nil)
theorem tbX12_fitting_ok (l : Launch) : tOK l mX12_fitting tbX12_fitting := ⟨fX12_ok, pX12_ok, fun _ _ _ _ h => tbX12_fitting_all l _ (lk_mem h), kX12_ok⟩
set_option maxRecDepth 20000 in
set_option maxHeartbeats 4000000 in
theorem lpFi (l : Launch) (Q : Option aV → aS → Prop) : ∀ (n : Nat) (S : aS) (s : Int) (i : Nat), i + n = (S.1 245 13).toNat → kwP S → (0 ≤ s ∧ s < S.1 245 12) → (∀ g, knX S g → Q (some (.inl (ftc S s.toNat))) (stA S 259 g)) → aGo l mX12_fitting Q 4 [(0, .inr (.inr 245)), (1, .inl s), (2, .inl (cnt (fun e => cb (ftM S s.toNat e)) i)), (3, .inl (i : Int))] [] S := by
  intro n
  induction n using Nat.strongRecOn with
  | _ n ih =>
  intro S  s  i  h0 h1 h2 h3
  refine wp_go (tbX12_fitting_ok l) (fun pc => pc == 4) 25 dX12_fitting_4 ?_
  show ws1 tbX12_fitting 4 (some .int) Q (wp cX12_fitting tbX12_fitting 4 (some .int) Q (fun pc => pc == 4) (aGo l mX12_fitting Q) 25) (.iload_n 3) 1 4 [(0, .inr (.inr 245)), (1, .inl s), (2, .inl (cnt (fun e => cb (ftM S s.toNat e)) i)), (3, .inl (i : Int))] [] S
  simp only [wp_s, wpC_f, wpC_t, e_wLd, e_wLd0, e_wLd1, e_wLd2, e_get1, e_get2, e_wJ, e_wJo, f40, f41, f42, f43, Nat.reduceAdd, Nat.reduceBEq, Nat.reduceMul, eq_self, true_or, or_true, true_and, dX12_fitting_0, dX12_fitting_1, dX12_fitting_2, dX12_fitting_3, dX12_fitting_4, dX12_fitting_5, dX12_fitting_6, dX12_fitting_9, dX12_fitting_12, dX12_fitting_13, dX12_fitting_14, dX12_fitting_15, dX12_fitting_16, dX12_fitting_19, dX12_fitting_22, dX12_fitting_23, dX12_fitting_26, dX12_fitting_27, dX12_fitting_28, dX12_fitting_29, dX12_fitting_32, dX12_fitting_35, dX12_fitting_36, e_aload_n, e_iload_n, e_istore_n, e_iconst, e_iadd, e_iinc, e_ifCond, e_if_icmp, e_goto, e_getfield, e_invokevirtual, e_ireturn, e_wSt0, e_wSt1, e_wSt2, e_isL0, e_isL1, e_isL2, e_lset, e_lclr0, e_lclr1, e_lclr2, e_lput0, e_lput1, e_lput2, e_wInc, e_wInc0, Nat.reduceLT, not_false_eq_true, Bool.or_false, Bool.false_or, Bool.or_true, Bool.true_or, Bool.and_false, Bool.false_and, Bool.and_true, Bool.true_and, e_wI2, e_ri, e_rz, e_wIf_eq, e_wIc_ge, fX12_145, ic_0, ic_1, jt_19_7, jt_23_4, jt_32_m28, jt_9_26, e_call, e_callS0, e_callS1, e_callS2, e_callS3, e_callS4, e_pop0, e_pop1, e_tl0, e_tl1, tbX12_fitting_f, tbX12_fitting_p, tbX12_fitting_k, tbX12_fitting_c173, g_245_13, cv_245_0, cv_245_1, cv_245_2, cv_245_3, cv_245_4, spX12_isFitting, bi_0, bi_1, ne_eq, Classical.not_not, em_r, em_l]
  have hb := cnt_b (fun e => cb (ftM S s.toNat e)) i
  have b13 := h1.2.2.1
  simp (disch := omega) only [wI_id, Int.toNat_natCast, Int.add_zero]
  refine ⟨fun q => ?_, fun q => ⟨h1, h2, ⟨by omega, by omega⟩, fun g hg => ⟨fun q1 => ?_, fun q1 => ?_⟩⟩⟩
  · have z := h3 (S.1 259) kn_0
    rw [st_KS] at z
    obtain rfl : i = (S.1 245 13).toNat := by omega
    exact z
  · have e := ih (n - 1) (by omega) (stA S 259 g) s (i + 1) (by rw [st_K (by decide)]; omega) (kw_K h1 hg) h2 (fun g' hg' => by rw [st_KK]; exact h3 g' (kn_tr hg hg'))
    rw [ft_K, cnt_f (cb_f q1)] at e
    exact e
  · have e := ih (n - 1) (by omega) (stA S 259 g) s (i + 1) (by rw [st_K (by decide)]; omega) (kw_K h1 hg) h2 (fun g' hg' => by rw [st_KK]; exact h3 g' (kn_tr hg hg'))
    rw [ft_K, cnt_t (cb_t q1)] at e
    exact e
set_option maxRecDepth 20000 in
set_option maxHeartbeats 4000000 in
theorem okX12_fitting (l : Launch) : aOK l mX12_fitting spX12_fitting := by
  refine aOK_of rfl fun as S Q h => ?_
  unfold spX12_fitting at h
  split at h
  · rename_i s
    refine ⟨Nat.le_of_ble_eq_true rfl, wp_ok (tbX12_fitting_ok l) Q (fun pc => pc == 4) 25 0 _ [] S ?_⟩
    show wp cX12_fitting tbX12_fitting 4 (some .int) Q (fun pc => pc == 4) (aGo l mX12_fitting Q) 25 0 [(0, .inr (.inr 245)), (1, .inl s)] [] S
    simp only [wp_s, wpC_f, wpC_t, e_wLd, e_wLd0, e_wLd1, e_wLd2, e_get1, e_get2, e_wJ, e_wJo, f40, f41, f42, f43, Nat.reduceAdd, Nat.reduceBEq, Nat.reduceMul, eq_self, true_or, or_true, true_and, dX12_fitting_0, dX12_fitting_1, dX12_fitting_2, dX12_fitting_3, dX12_fitting_4, dX12_fitting_5, dX12_fitting_6, dX12_fitting_9, dX12_fitting_12, dX12_fitting_13, dX12_fitting_14, dX12_fitting_15, dX12_fitting_16, dX12_fitting_19, dX12_fitting_22, dX12_fitting_23, dX12_fitting_26, dX12_fitting_27, dX12_fitting_28, dX12_fitting_29, dX12_fitting_32, dX12_fitting_35, dX12_fitting_36, e_aload_n, e_iload_n, e_istore_n, e_iconst, e_iadd, e_iinc, e_ifCond, e_if_icmp, e_goto, e_getfield, e_invokevirtual, e_ireturn, e_wSt0, e_wSt1, e_wSt2, e_isL0, e_isL1, e_isL2, e_lset, e_lclr0, e_lclr1, e_lclr2, e_lput0, e_lput1, e_lput2, e_wInc, e_wInc0, Nat.reduceLT, not_false_eq_true, Bool.or_false, Bool.false_or, Bool.or_true, Bool.true_or, Bool.and_false, Bool.false_and, Bool.and_true, Bool.true_and, e_wI2, e_ri, e_rz, e_wIf_eq, e_wIc_ge, fX12_145, ic_0, ic_1, jt_19_7, jt_23_4, jt_32_m28, jt_9_26, e_call, e_callS0, e_callS1, e_callS2, e_callS3, e_callS4, e_pop0, e_pop1, e_tl0, e_tl1, tbX12_fitting_f, tbX12_fitting_p, tbX12_fitting_k, tbX12_fitting_c173, g_245_13, cv_245_0, cv_245_1, cv_245_2, cv_245_3, cv_245_4]
    exact lpFi l Q _ S s 0 (Nat.zero_add _) h.1 h.2.1 h.2.2
  · exact h.elim
def spX12_isDoubted : aSp := fun as S Q => match as with
  | [.inr (.inr 245), .inl s] => kwP S ∧ (0 ≤ s ∧ s < S.1 245 12) ∧ ∀ g, knX S g → Q (some (.inl (bi (dbM S s.toNat)))) (stA S 259 g)
  | _ => False
def tbX12_isDoubted : aTb := (fX12, pX12, fun j => lk [(176, (some 12), 2, spX12_fitting)] j, kX12)
theorem tbX12_isDoubted_f : tbX12_isDoubted.1 = fX12 := rfl
theorem tbX12_isDoubted_p : tbX12_isDoubted.2.1 = pX12 := rfl
theorem tbX12_isDoubted_k : tbX12_isDoubted.2.2.2 = kX12 := rfl
theorem tbX12_isDoubted_c176 : tbX12_isDoubted.2.2.1 176 = some ((some 12), 2, spX12_fitting) := rfl
theorem tbX12_isDoubted_all (l : Launch) : ∀ e ∈ ([(176, (some 12), 2, spX12_fitting)] : List (Nat × Option Nat × Nat × aSp)), cOK l mX12_isDoubted e.1 e.2.1 e.2.2.1 e.2.2.2 ∨ mOK mX12_isDoubted e.1 e.2.1 e.2.2.1 e.2.2.2 := all_cons (cOK_of (okX12_fitting l) meX12_fitting cfX12_176 (by decide) (by decide)) (all_nil)
theorem tbX12_isDoubted_ok (l : Launch) : tOK l mX12_isDoubted tbX12_isDoubted := ⟨fX12_ok, pX12_ok, fun _ _ _ _ h => tbX12_isDoubted_all l _ (lk_mem h), kX12_ok⟩
set_option maxRecDepth 20000 in
set_option maxHeartbeats 4000000 in
theorem okX12_isDoubted (l : Launch) : aOK l mX12_isDoubted spX12_isDoubted := by
  refine aOK_of rfl fun as S Q h => ?_
  unfold spX12_isDoubted at h
  split at h
  · rename_i s
    refine ⟨Nat.le_of_ble_eq_true rfl, wp_ok (tbX12_isDoubted_ok l) Q (fun pc => false) 17 0 _ [] S ?_⟩
    show wp cX12_isDoubted tbX12_isDoubted 2 (some .boolean) Q (fun pc => false) (aGo l mX12_isDoubted Q) 17 0 [(0, .inr (.inr 245)), (1, .inl s)] [] S
    simp only [wp_s, wpC_f, wpC_t, e_wLd, e_wLd0, e_wLd1, e_wLd2, e_get1, e_get2, e_wJ, e_wJo, f40, f41, f42, f43, Nat.reduceAdd, Nat.reduceBEq, Nat.reduceMul, eq_self, true_or, or_true, true_and, dX12_isDoubted_0, dX12_isDoubted_1, dX12_isDoubted_4, dX12_isDoubted_5, dX12_isDoubted_6, dX12_isDoubted_7, dX12_isDoubted_10, dX12_isDoubted_11, dX12_isDoubted_12, dX12_isDoubted_15, dX12_isDoubted_16, dX12_isDoubted_19, dX12_isDoubted_20, dX12_isDoubted_23, dX12_isDoubted_24, e_aload_n, e_iload_n, e_iconst, e_if_icmp, e_goto, e_getfield, e_iaload, e_invokevirtual, e_ireturn, e_ri, e_rz, e_wIc_ne, e_wIc_le, fX12_42, ic_0, ic_1, ic_m1, jt_16_7, jt_20_4, jt_7_16, e_call, e_callS0, e_callS1, e_callS2, e_callS3, e_callS4, e_pop0, e_pop1, e_tl0, e_tl1, tbX12_isDoubted_f, tbX12_isDoubted_p, tbX12_isDoubted_k, tbX12_isDoubted_c176, g_245_16, l_256, cv_245_0, cv_245_1, cv_245_2, cv_245_3, cv_245_4, spX12_fitting, bi_0, bi_1, ne_eq, Classical.not_not, em_r, em_l]
    obtain ⟨h0, h1, h2⟩ := h
    have b12 := h0.2.1
    have z0 := h2 (S.1 259) kn_0
    rw [st_KS] at z0
    refine ⟨by omega, by omega, fun q => ?_, fun q => ?_⟩
    all_goals first
      | (refine ⟨h0, h1, fun g hg => ⟨fun q1 => ?_, fun q1 => ?_⟩⟩
         all_goals
           (have z := h2 g hg
            first
              | (rw [bi_t ⟨q, by omega⟩] at z; exact z)
              | (rw [bi_f (fun y => by have y2 := y.2; omega)] at z; exact z)))
      | (rw [bi_f (fun y => q y.1)] at z0; exact z0)
      | skip
  · exact h.elim
def spX12_fits : aSp := fun as S Q => match as with
  | [.inr (.inr 245), .inl s, .inl e] => kwP S ∧ (¬ ((0 ≤ s ∧ s < S.1 245 12) ∧ (0 ≤ e ∧ e < S.1 245 13)) → Q (some (.inl (-1))) S) ∧ ((0 ≤ s ∧ s < S.1 245 12) ∧ (0 ≤ e ∧ e < S.1 245 13) → ∀ g, knX S g → Q (some (.inl (bi (ftM S s.toNat e.toNat)))) (stA S 259 g))
  | _ => False
def tbX12_fits : aTb := (fX12, pX12, fun j => lk [(152, (some 12), 2, spX12_isEntry), (173, (some 12), 3, spX12_isFitting), (183, (some 12), 2, spX12_isSlip)] j, kX12)
theorem tbX12_fits_f : tbX12_fits.1 = fX12 := rfl
theorem tbX12_fits_p : tbX12_fits.2.1 = pX12 := rfl
theorem tbX12_fits_k : tbX12_fits.2.2.2 = kX12 := rfl
theorem tbX12_fits_c152 : tbX12_fits.2.2.1 152 = some ((some 12), 2, spX12_isEntry) := rfl
theorem tbX12_fits_c173 : tbX12_fits.2.2.1 173 = some ((some 12), 3, spX12_isFitting) := rfl
theorem tbX12_fits_c183 : tbX12_fits.2.2.1 183 = some ((some 12), 2, spX12_isSlip) := rfl
theorem tbX12_fits_all (l : Launch) : ∀ e ∈ ([(152, (some 12), 2, spX12_isEntry), (173, (some 12), 3, spX12_isFitting), (183, (some 12), 2, spX12_isSlip)] : List (Nat × Option Nat × Nat × aSp)), cOK l mX12_fits e.1 e.2.1 e.2.2.1 e.2.2.2 ∨ mOK mX12_fits e.1 e.2.1 e.2.2.1 e.2.2.2 := all_cons (cOK_of (okX12_isEntry l) meX12_isEntry cfX12_152 (by decide) (by decide)) (all_cons (cOK_of (okX12_isFitting l) meX12_isFitting cfX12_173 (by decide) (by decide)) (all_cons (cOK_of (okX12_isSlip l) meX12_isSlip cfX12_183 (by decide) (by decide)) (all_nil)))
theorem tbX12_fits_ok (l : Launch) : tOK l mX12_fits tbX12_fits := ⟨fX12_ok, pX12_ok, fun _ _ _ _ h => tbX12_fits_all l _ (lk_mem h), kX12_ok⟩
set_option maxRecDepth 20000 in
set_option maxHeartbeats 4000000 in
theorem okX12_fits (l : Launch) : aOK l mX12_fits spX12_fits := by
  refine aOK_of rfl fun as S Q h => ?_
  unfold spX12_fits at h
  split at h
  · rename_i s e
    refine ⟨Nat.le_of_ble_eq_true rfl, wp_ok (tbX12_fits_ok l) Q (fun pc => false) 21 0 _ [] S ?_⟩
    show wp cX12_fits tbX12_fits 3 (some .int) Q (fun pc => false) (aGo l mX12_fits Q) 21 0 [(0, .inr (.inr 245)), (1, .inl s), (2, .inl e)] [] S
    simp only [wp_s, wpC_f, wpC_t, e_wLd, e_wLd0, e_wLd1, e_wLd2, e_get1, e_get2, e_wJ, e_wJo, f40, f41, f42, f43, Nat.reduceAdd, Nat.reduceBEq, Nat.reduceMul, eq_self, true_or, or_true, true_and, dX12_fits_0, dX12_fits_1, dX12_fits_2, dX12_fits_5, dX12_fits_8, dX12_fits_9, dX12_fits_10, dX12_fits_13, dX12_fits_16, dX12_fits_17, dX12_fits_18, dX12_fits_19, dX12_fits_20, dX12_fits_21, dX12_fits_24, dX12_fits_27, dX12_fits_28, dX12_fits_31, dX12_fits_32, e_aload_n, e_iload_n, e_iconst, e_ifCond, e_goto, e_invokevirtual, e_ireturn, e_ri, e_rz, e_wIf_ne, e_wIf_eq, ic_0, ic_1, ic_m1, jt_13_5, jt_24_7, jt_28_4, jt_5_11, e_call, e_callS0, e_callS1, e_callS2, e_callS3, e_callS4, e_pop0, e_pop1, e_tl0, e_tl1, tbX12_fits_f, tbX12_fits_p, tbX12_fits_k, tbX12_fits_c152, tbX12_fits_c173, tbX12_fits_c183, cv_245_0, cv_245_1, cv_245_2, cv_245_3, cv_245_4, spX12_isSlip, spX12_isEntry, spX12_isFitting, bi_0, bi_1, ne_eq, Classical.not_not, em_r, em_l]
    obtain ⟨h0, hA, hB⟩ := h
    replace hA := hid hA
    replace hB := hid hB
    repeat' (with_reducible first | intro _ | refine And.intro ?_ ?_)
    all_goals first
      | omega
      | exact h0
      | exact hA (fun z => absurd z.1 (by assumption))
      | exact hA (fun z => absurd z.2 (by assumption))
      | (have z := hB ⟨by assumption, by assumption⟩ _ (by assumption); rw [bi_t (by assumption)] at z; exact z)
      | (have z := hB ⟨by assumption, by assumption⟩ _ (by assumption); rw [bi_f (by assumption)] at z; exact z)
      | skip
  · exact h.elim
def cf (p : Nat → Bool) : Nat → Nat → Int
  | 0, _ => 0
  | n + 1, i => (if p i = true then 1 else 0) + cf p n (i + 1)
theorem cf_c {p q : Nat → Bool} : ∀ {n i : Nat}, (∀ j, i ≤ j → j < i + n → p j = q j) → cf p n i = cf q n i
  | 0, _, _ => rfl
  | n + 1, i, h => by
    unfold cf
    rw [h i (by omega) (by omega), cf_c (fun j h1 h2 => h j (by omega) (by omega))]
theorem ff_first {p : Nat → Bool} {t : Nat} (ht : p t = true) : ∀ {n i : Nat}, i ≤ t → t < i + n → (∀ j, i ≤ j → j < t → p j = false) → ff p n i = (t : Int)
  | 0, _, h1, h2, _ => absurd h2 (by omega)
  | n + 1, i, h1, h2, h3 => by
    unfold ff
    by_cases q : i = t
    · subst q; rw [if_pos ht]
    · rw [if_neg (by rw [h3 i (by omega) (by omega)]; decide)]
      exact ff_first ht (by omega) (by omega) (fun j j1 j2 => h3 j (by omega) j2)
theorem cnt_ex {p : Nat → Bool} : ∀ {n : Nat}, 0 < cnt p n → ∃ j, j < n ∧ p j = true
  | 0, h => absurd h (by simp [cnt])
  | n + 1, h => by
    by_cases q : p n = true
    · exact ⟨n, by omega, q⟩
    · rw [cnt_f (by simpa using q)] at h
      obtain ⟨j, j1, j2⟩ := cnt_ex h
      exact ⟨j, by omega, j2⟩
noncomputable def ff0 (S : aS) (s : Nat) : Int := ff (fun e => cb (ftM S s e)) (S.1 245 13).toNat 0
def soP (S : aS) (s : Nat) : Prop := S.1 256 s = -1 ∧ ftc S s = 1
noncomputable def soE (S : aS) (i : Nat) : aS := stA (stA S 256 (fun j => @ite _ (i ≤ j ∧ (j : Int) < S.1 245 12 ∧ soP S j) (Classical.propDecidable _) (ff0 S j) (S.1 256 j))) 257 (fun j => @ite _ (i ≤ j ∧ (j : Int) < S.1 245 12 ∧ soP S j) (Classical.propDecidable _) (-1) (S.1 257 j))
theorem st_comm {S : aS} {a b : Nat} {f g : Nat → Int} (h : ¬ a = b) : stA (stA S a f) b g = stA (stA S b g) a f := by
  refine st_ext (fun x y => ?_) (fun x y => rfl)
  simp only [stA]
  by_cases h1 : x = a
  · subst h1; simp [h]
  · simp [h1]
theorem soE_end {S : aS} {i : Nat} (h : S.1 245 12 ≤ i) : soE S i = S := by
  unfold soE
  refine st_ext (fun x y => ?_) (fun x y => rfl)
  simp only [stA]
  by_cases h1 : x = 257
  · subst h1
    rw [if_pos rfl, if_neg (by omega)]
  · rw [if_neg h1]
    by_cases h2 : x = 256
    · subst h2
      rw [if_pos rfl, if_neg (by omega)]
    · rw [if_neg h2]
theorem soE_no {S : aS} {i : Nat} (h : ¬ soP S i) : soE S (i + 1) = soE S i := by
  have e : ∀ j : Nat, (i + 1 ≤ j ∧ (j : Int) < S.1 245 12 ∧ soP S j) ↔ (i ≤ j ∧ (j : Int) < S.1 245 12 ∧ soP S j) := fun j => ⟨fun z => ⟨by omega, z.2⟩, fun z => ⟨by
    by_cases q : j = i
    · subst q; exact absurd z.2.2 h
    · omega, z.2⟩⟩
  unfold soE
  refine st_ext (fun x y => ?_) (fun x y => rfl)
  simp only [stA]
  by_cases z : i ≤ y ∧ (y : Int) < S.1 245 12 ∧ soP S y
  · rw [if_pos z, if_pos z, if_pos ((e y).mpr z), if_pos ((e y).mpr z)]
  · rw [if_neg z, if_neg z, if_neg (fun w => z ((e y).mp w)), if_neg (fun w => z ((e y).mp w))]
theorem soE_K {S : aS} {i : Nat} {g : Nat → Int} : soE (stA S 259 g) i = stA (soE S i) 259 g := by
  show stA (stA (stA S 259 g) 256 _) 257 _ = stA (stA (stA S 256 _) 257 _) 259 g
  rw [st_comm (a := 259) (b := 256) (by decide), st_comm (a := 259) (b := 257) (by decide)]
  rfl
def soU (S : aS) (i : Nat) (t : Int) : aS := upI (upI S 256 i t) 257 i (-1)
theorem soP_U {S : aS} {i j : Nat} {t : Int} (hj : ¬ j = i) : soP (soU S i t) j ↔ soP S j := by
  have a1 : (soU S i t).1 256 j = S.1 256 j := by unfold soU; rw [up_obj (by decide), up_cell hj]
  have a2 : ftc (soU S i t) j = ftc S j := rfl
  unfold soP
  rw [a1, a2]
theorem soE_yes {S : aS} {i : Nat} (hi : (i : Int) < S.1 245 12) (h : soP S i) : soE (soU S i (ff0 S i)) (i + 1) = soE S i := by
  have e1 : ∀ j, ¬ j = i → (soP (soU S i (ff0 S i)) j ↔ soP S j) := fun j hj => soP_U hj
  have e2 : ∀ j, ff0 (soU S i (ff0 S i)) j = ff0 S j := fun j => rfl
  have e3 : (soU S i (ff0 S i)).1 245 12 = S.1 245 12 := rfl
  unfold soE
  refine st_ext (fun x y => ?_) (fun x y => rfl)
  simp only [stA]
  by_cases h1 : x = 257
  · subst h1
    rw [if_pos rfl, if_pos rfl]
    by_cases q : y = i
    · subst q
      rw [if_neg (by omega), if_pos ⟨Nat.le_refl _, hi, h⟩]
      exact up_hit
    · have a1 : (soU S i (ff0 S i)).1 257 y = S.1 257 y := by unfold soU; rw [up_cell q, up_obj (by decide)]
      rw [e3, a1]
      by_cases z : i ≤ y ∧ (y : Int) < S.1 245 12 ∧ soP S y
      · rw [if_pos z, if_pos ⟨by omega, z.2.1, (e1 y q).mpr z.2.2⟩]
      · rw [if_neg z, if_neg (fun w => z ⟨by omega, w.2.1, (e1 y q).mp w.2.2⟩)]
  · rw [if_neg h1, if_neg h1]
    by_cases h2 : x = 256
    · subst h2
      rw [if_pos rfl, if_pos rfl]
      by_cases q : y = i
      · subst q
        rw [if_neg (by omega), if_pos ⟨Nat.le_refl _, hi, h⟩]
        unfold soU
        rw [up_obj (by decide), up_hit]
      · have a1 : (soU S i (ff0 S i)).1 256 y = S.1 256 y := by unfold soU; rw [up_obj (by decide), up_cell q]
        rw [e3, a1, e2]
        by_cases z : i ≤ y ∧ (y : Int) < S.1 245 12 ∧ soP S y
        · rw [if_pos z, if_pos ⟨by omega, z.2.1, (e1 y q).mpr z.2.2⟩]
        · rw [if_neg z, if_neg (fun w => z ⟨by omega, w.2.1, (e1 y q).mp w.2.2⟩)]
    · rw [if_neg h2, if_neg h2]
      unfold soU
      rw [up_obj (by omega), up_obj (by omega)]
noncomputable def soB (S : aS) (j : Nat) : Bool := cb (soP S j)
theorem cb_c {p q : Prop} (h : p ↔ q) : cb p = cb q := by rw [propext h]
theorem soB_K {S : aS} {g : Nat → Int} : soB (stA S 259 g) = soB S := rfl
theorem kn_U {S : aS} {i : Nat} {t : Int} : knX (soU S i t) = knX S := rfl
theorem kw_U {S : aS} {i : Nat} {t : Int} (h : kwP S) : kwP (soU S i t) := h
def spX12_sort : aSp := fun as S Q => match as with
  | [.inr (.inr 245)] => kwP S ∧ ∀ g, knX S g → Q (some (.inl (cf (soB S) (S.1 245 12).toNat 0))) (stA (soE S 0) 259 g)
  | _ => False
def tbX12_sort : aTb := (fX12, pX12, fun j => lk [(173, (some 12), 3, spX12_isFitting), (176, (some 12), 2, spX12_fitting)] j, kX12)
theorem tbX12_sort_f : tbX12_sort.1 = fX12 := rfl
theorem tbX12_sort_p : tbX12_sort.2.1 = pX12 := rfl
theorem tbX12_sort_k : tbX12_sort.2.2.2 = kX12 := rfl
theorem tbX12_sort_c173 : tbX12_sort.2.2.1 173 = some ((some 12), 3, spX12_isFitting) := rfl
theorem tbX12_sort_c176 : tbX12_sort.2.2.1 176 = some ((some 12), 2, spX12_fitting) := rfl
theorem tbX12_sort_all (l : Launch) : ∀ e ∈ ([(173, (some 12), 3, spX12_isFitting), (176, (some 12), 2, spX12_fitting)] : List (Nat × Option Nat × Nat × aSp)), cOK l mX12_sort e.1 e.2.1 e.2.2.1 e.2.2.2 ∨ mOK mX12_sort e.1 e.2.1 e.2.2.1 e.2.2.2 := all_cons (cOK_of (okX12_isFitting l) meX12_isFitting cfX12_173 (by decide) (by decide)) (all_cons (cOK_of (okX12_fitting l) meX12_fitting cfX12_176 (by decide) (by decide)) (all_nil))
theorem tbX12_sort_ok (l : Launch) : tOK l mX12_sort tbX12_sort := ⟨fX12_ok, pX12_ok, fun _ _ _ _ h => tbX12_sort_all l _ (lk_mem h), kX12_ok⟩
set_option maxRecDepth 20000 in
set_option maxHeartbeats 4000000 in
theorem lpS1 (l : Launch) (Q : Option aV → aS → Prop) : ∀ (n : Nat) (S : aS) (c : Int) (s t : Nat), (t : Int) + n = S.1 245 13 → kwP S → (s : Int) < S.1 245 12 → soP S s → (∀ e : Nat, e < t → ¬ ftM S s e) → (∀ g, knX S g → aGo l mX12_sort Q 52 [(0, .inr (.inr 245)), (1, .inl c), (2, .inl (s : Int)), (3, .inl (ff0 S s))] [] (stA S 259 g)) → aGo l mX12_sort Q 36 [(0, .inr (.inr 245)), (1, .inl c), (2, .inl (s : Int)), (3, .inl (t : Int))] [] S := by
  intro n
  induction n using Nat.strongRecOn with
  | _ n ih =>
  intro S  c  s t  h0 h1 h2 h3 h4 h5
  refine wp_go (tbX12_sort_ok l) (fun pc => pc == 36 || pc == 52) 52 dX12_sort_36 ?_
  show ws1 tbX12_sort 4 (some .int) Q (wp cX12_sort tbX12_sort 4 (some .int) Q (fun pc => pc == 36 || pc == 52) (aGo l mX12_sort Q) 52) (.aload_n 0) 1 36 [(0, .inr (.inr 245)), (1, .inl c), (2, .inl (s : Int)), (3, .inl (t : Int))] [] S
  simp only [wp_s, wpC_f, wpC_t, e_wLd, e_wLd0, e_wLd1, e_wLd2, e_get1, e_get2, e_wJ, e_wJo, f40, f41, f42, f43, Nat.reduceAdd, Nat.reduceBEq, Nat.reduceMul, eq_self, true_or, or_true, true_and, dX12_sort_0, dX12_sort_1, dX12_sort_2, dX12_sort_3, dX12_sort_4, dX12_sort_5, dX12_sort_6, dX12_sort_9, dX12_sort_12, dX12_sort_13, dX12_sort_16, dX12_sort_17, dX12_sort_18, dX12_sort_19, dX12_sort_22, dX12_sort_23, dX12_sort_24, dX12_sort_27, dX12_sort_28, dX12_sort_31, dX12_sort_34, dX12_sort_35, dX12_sort_36, dX12_sort_37, dX12_sort_38, dX12_sort_39, dX12_sort_42, dX12_sort_45, dX12_sort_46, dX12_sort_47, dX12_sort_48, dX12_sort_49, dX12_sort_52, dX12_sort_53, dX12_sort_56, dX12_sort_57, dX12_sort_58, dX12_sort_59, dX12_sort_60, dX12_sort_63, dX12_sort_64, dX12_sort_65, dX12_sort_66, dX12_sort_67, dX12_sort_68, dX12_sort_69, dX12_sort_70, dX12_sort_73, dX12_sort_76, dX12_sort_77, e_aload_n, e_iload_n, e_istore_n, e_iconst, e_iadd, e_iinc, e_ifCond, e_if_icmp, e_goto, e_getfield, e_iaload, e_iastore, e_invokevirtual, e_ireturn, e_wSt0, e_wSt1, e_wSt2, e_isL0, e_isL1, e_isL2, e_lset, e_lclr0, e_lclr1, e_lclr2, e_lput0, e_lput1, e_lput2, e_wInc, e_wInc0, Nat.reduceLT, not_false_eq_true, Bool.or_false, Bool.false_or, Bool.or_true, Bool.true_or, Bool.and_false, Bool.false_and, Bool.and_true, Bool.true_and, e_wI2, e_ri, e_rz, e_wIc_eq, e_wIf_ne, e_wIc_ne, e_wIc_ge, fX12_132, fX12_42, fX12_45, ic_0, ic_1, ic_m1, jt_19_51, jt_28_6, jt_31_39, jt_42_10, jt_49_m13, jt_73_m69, jt_9_67, e_call, e_callS0, e_callS1, e_callS2, e_callS3, e_callS4, e_pop0, e_pop1, e_tl0, e_tl1, tbX12_sort_f, tbX12_sort_p, tbX12_sort_k, tbX12_sort_c173, tbX12_sort_c176, g_245_17, cv_245_0, cv_245_1, cv_245_2, cv_245_3, cv_245_4, g_245_16, l_257, s_257, g_245_12, l_256, s_256, spX12_fitting, spX12_isFitting, bi_0, bi_1, ne_eq, Classical.not_not, em_r, em_l]
  have b13 := h1.2.2.1
  have hc := h3.2
  obtain ⟨e0, e1, e2⟩ := cnt_ex (show 0 < cnt (fun e => cb (ftM S s e)) (S.1 245 13).toNat by unfold ftc at hc; omega)
  have ht : (t : Int) < S.1 245 13 := by
    by_cases q : (t : Int) < S.1 245 13
    · exact q
    · have z := h4 e0 (by omega)
      simp only [cb_f z] at e2
      exact absurd e2 (by decide)
  have ei : wI ((t : Int) + 1) = (t : Int) + 1 := wI_id (by omega) (by omega)
  simp only [Int.toNat_natCast, ei]
  refine ⟨h1, ⟨by omega, h2⟩, ⟨by omega, ht⟩, fun g hg => ?_⟩
  have ye : ftM S s t → aGo l mX12_sort Q 52 [(0, .inr (.inr 245)), (1, .inl c), (2, .inl (s : Int)), (3, .inl (t : Int))] [] (stA S 259 g) := fun z => by
    have e : ff0 S s = (t : Int) := ff_first (p := fun e => cb (ftM S s e)) (cb_t z) (Nat.zero_le _) (by omega) (fun j _ j2 => cb_f (h4 j j2))
    have y := h5 g hg
    rw [e] at y
    exact y
  have no : ¬ ftM S s t → aGo l mX12_sort Q 36 [(0, .inr (.inr 245)), (1, .inl c), (2, .inl (s : Int)), (3, .inl ((t : Int) + 1))] [] (stA S 259 g) := fun z => ih (n - 1) (by omega) (stA S 259 g) c s (t + 1) (by rw [st_K (by decide)]; omega) (kw_K h1 hg) h2 h3 (fun j hj => by
    rw [ft_K]
    by_cases q : j = t
    · subst q; exact z
    · exact h4 j (by omega)) (fun g' hg' => by rw [st_KK]; exact h5 g' (kn_tr hg hg'))
  first
    | exact ⟨fun q => no q, fun q => ye q⟩
    | exact ⟨fun q => ye q, fun q => no q⟩
set_option maxRecDepth 20000 in
set_option maxHeartbeats 4000000 in
theorem lpS3 (l : Launch) (Q : Option aV → aS → Prop) (S : aS) (c t : Int) (s : Nat) (h0 : s < 120) (h1 : 0 ≤ c ∧ c ≤ 120) (h2 : aGo l mX12_sort Q 4 [(0, .inr (.inr 245)), (1, .inl (c + 1)), (2, .inl ((s : Int) + 1))] [] (soU S s t)) : aGo l mX12_sort Q 52 [(0, .inr (.inr 245)), (1, .inl c), (2, .inl (s : Int)), (3, .inl t)] [] S := by
  refine wp_go (tbX12_sort_ok l) (fun pc => pc == 4) 52 dX12_sort_52 ?_
  show ws1 tbX12_sort 4 (some .int) Q (wp cX12_sort tbX12_sort 4 (some .int) Q (fun pc => pc == 4) (aGo l mX12_sort Q) 52) (.aload_n 0) 1 52 [(0, .inr (.inr 245)), (1, .inl c), (2, .inl (s : Int)), (3, .inl t)] [] S
  simp only [wp_s, wpC_f, wpC_t, e_wLd, e_wLd0, e_wLd1, e_wLd2, e_get1, e_get2, e_wJ, e_wJo, f40, f41, f42, f43, Nat.reduceAdd, Nat.reduceBEq, Nat.reduceMul, eq_self, true_or, or_true, true_and, dX12_sort_0, dX12_sort_1, dX12_sort_2, dX12_sort_3, dX12_sort_4, dX12_sort_5, dX12_sort_6, dX12_sort_9, dX12_sort_12, dX12_sort_13, dX12_sort_16, dX12_sort_17, dX12_sort_18, dX12_sort_19, dX12_sort_22, dX12_sort_23, dX12_sort_24, dX12_sort_27, dX12_sort_28, dX12_sort_31, dX12_sort_34, dX12_sort_35, dX12_sort_36, dX12_sort_37, dX12_sort_38, dX12_sort_39, dX12_sort_42, dX12_sort_45, dX12_sort_46, dX12_sort_47, dX12_sort_48, dX12_sort_49, dX12_sort_52, dX12_sort_53, dX12_sort_56, dX12_sort_57, dX12_sort_58, dX12_sort_59, dX12_sort_60, dX12_sort_63, dX12_sort_64, dX12_sort_65, dX12_sort_66, dX12_sort_67, dX12_sort_68, dX12_sort_69, dX12_sort_70, dX12_sort_73, dX12_sort_76, dX12_sort_77, e_aload_n, e_iload_n, e_istore_n, e_iconst, e_iadd, e_iinc, e_ifCond, e_if_icmp, e_goto, e_getfield, e_iaload, e_iastore, e_invokevirtual, e_ireturn, e_wSt0, e_wSt1, e_wSt2, e_isL0, e_isL1, e_isL2, e_lset, e_lclr0, e_lclr1, e_lclr2, e_lput0, e_lput1, e_lput2, e_wInc, e_wInc0, Nat.reduceLT, not_false_eq_true, Bool.or_false, Bool.false_or, Bool.or_true, Bool.true_or, Bool.and_false, Bool.false_and, Bool.and_true, Bool.true_and, e_wI2, e_ri, e_rz, e_wIc_eq, e_wIf_ne, e_wIc_ne, e_wIc_ge, fX12_132, fX12_42, fX12_45, ic_0, ic_1, ic_m1, jt_19_51, jt_28_6, jt_31_39, jt_42_10, jt_49_m13, jt_73_m69, jt_9_67, e_call, e_callS0, e_callS1, e_callS2, e_callS3, e_callS4, e_pop0, e_pop1, e_tl0, e_tl1, tbX12_sort_f, tbX12_sort_p, tbX12_sort_k, tbX12_sort_c173, tbX12_sort_c176, g_245_17, cv_245_0, cv_245_1, cv_245_2, cv_245_3, cv_245_4, g_245_16, l_257, s_257, g_245_12, l_256, s_256]
  simp (disch := omega) only [wI_id, Int.toNat_natCast]
  exact ⟨by omega, by omega, by omega, by omega, aGo_sub h2 (fun q hq => List.mem_append_left ([(3, Sum.inl t)] : aL) hq)⟩
set_option maxRecDepth 20000 in
set_option maxHeartbeats 4000000 in
theorem lpS2 (l : Launch) (Q : Option aV → aS → Prop) : ∀ (n : Nat) (S : aS) (c : Int) (s : Nat), s + n = (S.1 245 12).toNat → kwP S → 0 ≤ c ∧ c ≤ s → (∀ g, knX S g → Q (some (.inl (c + cf (soB S) n s))) (stA (soE S s) 259 g)) → aGo l mX12_sort Q 4 [(0, .inr (.inr 245)), (1, .inl c), (2, .inl (s : Int))] [] S := by
  intro n
  induction n using Nat.strongRecOn with
  | _ n ih =>
  intro S  c  s  h0 h1 h2 h3
  refine wp_go (tbX12_sort_ok l) (fun pc => pc == 4 || pc == 36) 52 dX12_sort_4 ?_
  show ws1 tbX12_sort 4 (some .int) Q (wp cX12_sort tbX12_sort 4 (some .int) Q (fun pc => pc == 4 || pc == 36) (aGo l mX12_sort Q) 52) (.iload_n 2) 1 4 [(0, .inr (.inr 245)), (1, .inl c), (2, .inl (s : Int))] [] S
  simp only [wp_s, wpC_f, wpC_t, e_wLd, e_wLd0, e_wLd1, e_wLd2, e_get1, e_get2, e_wJ, e_wJo, f40, f41, f42, f43, Nat.reduceAdd, Nat.reduceBEq, Nat.reduceMul, eq_self, true_or, or_true, true_and, dX12_sort_0, dX12_sort_1, dX12_sort_2, dX12_sort_3, dX12_sort_4, dX12_sort_5, dX12_sort_6, dX12_sort_9, dX12_sort_12, dX12_sort_13, dX12_sort_16, dX12_sort_17, dX12_sort_18, dX12_sort_19, dX12_sort_22, dX12_sort_23, dX12_sort_24, dX12_sort_27, dX12_sort_28, dX12_sort_31, dX12_sort_34, dX12_sort_35, dX12_sort_36, dX12_sort_37, dX12_sort_38, dX12_sort_39, dX12_sort_42, dX12_sort_45, dX12_sort_46, dX12_sort_47, dX12_sort_48, dX12_sort_49, dX12_sort_52, dX12_sort_53, dX12_sort_56, dX12_sort_57, dX12_sort_58, dX12_sort_59, dX12_sort_60, dX12_sort_63, dX12_sort_64, dX12_sort_65, dX12_sort_66, dX12_sort_67, dX12_sort_68, dX12_sort_69, dX12_sort_70, dX12_sort_73, dX12_sort_76, dX12_sort_77, e_aload_n, e_iload_n, e_istore_n, e_iconst, e_iadd, e_iinc, e_ifCond, e_if_icmp, e_goto, e_getfield, e_iaload, e_iastore, e_invokevirtual, e_ireturn, e_wSt0, e_wSt1, e_wSt2, e_isL0, e_isL1, e_isL2, e_lset, e_lclr0, e_lclr1, e_lclr2, e_lput0, e_lput1, e_lput2, e_wInc, e_wInc0, Nat.reduceLT, not_false_eq_true, Bool.or_false, Bool.false_or, Bool.or_true, Bool.true_or, Bool.and_false, Bool.false_and, Bool.and_true, Bool.true_and, e_wI2, e_ri, e_rz, e_wIc_eq, e_wIf_ne, e_wIc_ne, e_wIc_ge, fX12_132, fX12_42, fX12_45, ic_0, ic_1, ic_m1, jt_19_51, jt_28_6, jt_31_39, jt_42_10, jt_49_m13, jt_73_m69, jt_9_67, e_call, e_callS0, e_callS1, e_callS2, e_callS3, e_callS4, e_pop0, e_pop1, e_tl0, e_tl1, tbX12_sort_f, tbX12_sort_p, tbX12_sort_k, tbX12_sort_c173, tbX12_sort_c176, g_245_17, cv_245_0, cv_245_1, cv_245_2, cv_245_3, cv_245_4, g_245_16, l_257, s_257, g_245_12, l_256, s_256, spX12_fitting, spX12_isFitting, bi_0, bi_1, ne_eq, Classical.not_not, em_r, em_l]
  have b12 := h1.2.1
  have b13 := h1.2.2.1
  simp (disch := omega) only [wI_id, Int.toNat_natCast]
  rcases n with _ | n
  · refine ⟨fun _ => ?_, fun q => absurd q (by omega)⟩
    have z := h3 (S.1 259) kn_0
    rw [soE_end (by omega), st_KS] at z
    unfold cf at z
    rw [Int.add_zero] at z
    exact z
  · have no : ¬ soP S s → ∀ g, knX S g → aGo l mX12_sort Q 4 [(0, .inr (.inr 245)), (1, .inl c), (2, .inl ((s : Int) + 1))] [] (stA S 259 g) := fun z g hg => ih n (by omega) (stA S 259 g) c (s + 1) (by rw [st_K (by decide)]; omega) (kw_K h1 hg) (by omega) (fun g' hg' => by
        have y := h3 g' (kn_tr hg hg')
        unfold cf at y
        rw [if_neg (by unfold soB; rw [cb_f z]; decide), Int.zero_add] at y
        rw [soB_K, soE_K, st_KK, soE_no z]
        exact y)
    refine ⟨fun q => absurd q (by omega), fun q => ⟨by omega, by omega, fun q1 => ?_, fun q1 => ⟨h1, ⟨by omega, by omega⟩, fun g hg => ⟨fun q2 => ?_, fun q2 => no (fun w => q2 w.2) g hg⟩⟩⟩⟩
    · have z := no (fun w => q1 w.1) (S.1 259) kn_0
      rw [st_KS] at z
      exact z
    · have hy : soP S s := ⟨q1, q2⟩
      refine lpS1 l Q (S.1 245 13).toNat (stA S 259 g) c s 0 (by rw [st_K (by decide)]; omega) (kw_K h1 hg) (by rw [st_K (by decide)]; omega) hy (fun e he => absurd he (by omega)) (fun g2 hg2 => ?_)
      rw [st_KK]
      have hg3 := kn_tr hg hg2
      have hyX : soP (stA S 259 g2) s := hy
      refine lpS3 l Q _ c _ s (by omega) (by omega) ?_
      refine ih n (by omega) (soU (stA S 259 g2) s (ff0 (stA S 259 g2) s)) (c + 1) (s + 1) (by show s + 1 + n = (S.1 245 12).toNat; omega) (kw_U (kw_K h1 hg3)) (by omega) (fun g' hg' => ?_)
      rw [soE_yes (by show (s : Int) < S.1 245 12; omega) hyX, soE_K, st_KK]
      rw [kn_U] at hg'
      have y := h3 g' (kn_tr hg3 hg')
      unfold cf at y
      rw [if_pos (by unfold soB; exact cb_t hy), ← Int.add_assoc] at y
      have ecf : cf (soB (soU (stA S 259 g2) s (ff0 (stA S 259 g2) s))) n (s + 1) = cf (soB S) n (s + 1) := cf_c (fun j j1 j2 => cb_c (soP_U (S := stA S 259 g2) (i := s) (j := j) (by omega)))
      rw [ecf]
      exact y
set_option maxRecDepth 20000 in
set_option maxHeartbeats 4000000 in
theorem okX12_sort (l : Launch) : aOK l mX12_sort spX12_sort := by
  refine aOK_of rfl fun as S Q h => ?_
  unfold spX12_sort at h
  split at h
  · refine ⟨Nat.le_of_ble_eq_true rfl, wp_ok (tbX12_sort_ok l) Q (fun pc => pc == 4) 52 0 _ [] S ?_⟩
    show wp cX12_sort tbX12_sort 4 (some .int) Q (fun pc => pc == 4) (aGo l mX12_sort Q) 52 0 [(0, .inr (.inr 245))] [] S
    simp only [wp_s, wpC_f, wpC_t, e_wLd, e_wLd0, e_wLd1, e_wLd2, e_get1, e_get2, e_wJ, e_wJo, f40, f41, f42, f43, Nat.reduceAdd, Nat.reduceBEq, Nat.reduceMul, eq_self, true_or, or_true, true_and, dX12_sort_0, dX12_sort_1, dX12_sort_2, dX12_sort_3, dX12_sort_4, dX12_sort_5, dX12_sort_6, dX12_sort_9, dX12_sort_12, dX12_sort_13, dX12_sort_16, dX12_sort_17, dX12_sort_18, dX12_sort_19, dX12_sort_22, dX12_sort_23, dX12_sort_24, dX12_sort_27, dX12_sort_28, dX12_sort_31, dX12_sort_34, dX12_sort_35, dX12_sort_36, dX12_sort_37, dX12_sort_38, dX12_sort_39, dX12_sort_42, dX12_sort_45, dX12_sort_46, dX12_sort_47, dX12_sort_48, dX12_sort_49, dX12_sort_52, dX12_sort_53, dX12_sort_56, dX12_sort_57, dX12_sort_58, dX12_sort_59, dX12_sort_60, dX12_sort_63, dX12_sort_64, dX12_sort_65, dX12_sort_66, dX12_sort_67, dX12_sort_68, dX12_sort_69, dX12_sort_70, dX12_sort_73, dX12_sort_76, dX12_sort_77, e_aload_n, e_iload_n, e_istore_n, e_iconst, e_iadd, e_iinc, e_ifCond, e_if_icmp, e_goto, e_getfield, e_iaload, e_iastore, e_invokevirtual, e_ireturn, e_wSt0, e_wSt1, e_wSt2, e_isL0, e_isL1, e_isL2, e_lset, e_lclr0, e_lclr1, e_lclr2, e_lput0, e_lput1, e_lput2, e_wInc, e_wInc0, Nat.reduceLT, not_false_eq_true, Bool.or_false, Bool.false_or, Bool.or_true, Bool.true_or, Bool.and_false, Bool.false_and, Bool.and_true, Bool.true_and, e_wI2, e_ri, e_rz, e_wIc_eq, e_wIf_ne, e_wIc_ne, e_wIc_ge, fX12_132, fX12_42, fX12_45, ic_0, ic_1, ic_m1, jt_19_51, jt_28_6, jt_31_39, jt_42_10, jt_49_m13, jt_73_m69, jt_9_67, e_call, e_callS0, e_callS1, e_callS2, e_callS3, e_callS4, e_pop0, e_pop1, e_tl0, e_tl1, tbX12_sort_f, tbX12_sort_p, tbX12_sort_k, tbX12_sort_c173, tbX12_sort_c176, g_245_17, cv_245_0, cv_245_1, cv_245_2, cv_245_3, cv_245_4, g_245_16, l_257, s_257, g_245_12, l_256, s_256]
    refine lpS2 l Q (S.1 245 12).toNat S 0 0 (Nat.zero_add _) h.1 (by omega) (fun g hg => ?_)
    rw [Int.zero_add]
    exact h.2 g hg
  · exact h.elim
