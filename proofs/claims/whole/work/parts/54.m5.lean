/-! THE REFERENCE: slip, entry, form, rule, span, edition, as, differ -/
theorem tk_f {S : aS} {c : Int} {k : Nat} (h : ¬ k = 2) : (tkS S c).1 245 k = S.1 245 k := by
  unfold tkS
  rw [up_cell h]
  rfl
theorem tk_a {S : aS} {c : Int} {a b : Nat} (h : ¬ a = 247) (h2 : ¬ a = 245) : (tkS S c).1 a b = S.1 a b := by
  unfold tkS
  rw [up_obj h2]
  exact if_neg h
theorem tk_2 {S : aS} {c : Int} : (tkS S c).2 = S.2 := rfl
def tkW (S : aS) (c n a : Int) : Int := wd8 ((tkS S c).1 247) n.toNat a.toNat 0
theorem ly_f {S : aS} {e v a b : Int} {k : Nat} : (lyM S e v a b).1 245 k = S.1 245 k := by
  unfold lyM
  rw [up_obj (by decide), up_obj (by decide), up_obj (by decide), upL_1]
theorem ly_e {S : aS} {e v a b : Int} : (lyM S e v a b).1 260 e.toNat = S.1 260 e.toNat + 1 := up_hit
def slM (S : aS) (b v : Int) : aS := upI (upI (upI (upL (upI S 255 (S.1 245 12).toNat b) 258 (S.1 245 12).toNat v) 256 (S.1 245 12).toNat (-1)) 257 (S.1 245 12).toNat (-1)) 245 12 (S.1 245 12 + 1)
def enM (S : aS) (v a b : Int) : aS := upI (lyM (upI S 260 (S.1 245 13).toNat 0) (S.1 245 13) v a b) 245 13 (S.1 245 13 + 1)
def spX12_slip : aSp := fun as S Q => match as with
  | [.inr (.inr 245), .inl b, .inl n] => (0 ≤ S.1 245 12 ∧ S.1 245 12 ≤ 120) ∧ (¬ ((0 ≤ b ∧ b < S.1 245 3) ∧ ¬ S.1 245 12 = 120 ∧ (1 ≤ n ∧ n ≤ 8 ∧ n ≤ S.1 245 2)) → Q (some (.inl (-1))) S) ∧ ((0 ≤ b ∧ b < S.1 245 3) ∧ ¬ S.1 245 12 = 120 ∧ (1 ≤ n ∧ n ≤ 8 ∧ n ≤ S.1 245 2) → ((tkW S n n 0) = 0 → Q (some (.inl (-1))) (tkS S n)) ∧ (¬ (tkW S n n 0) = 0 → Q (some (.inl (S.1 245 12))) (slM (tkS S n) b (tkW S n n 0))))
  | _ => False
def tbX12_slip : aTb := (fX12, pX12, fun j => lk [(125, (some 12), 2, spX12_isBook), (135, (some 12), 2, spX12_isWordSize), (138, (some 12), 2, spX12_takes), (141, (some 12), 3, spX12_word)] j, kX12)
theorem tbX12_slip_f : tbX12_slip.1 = fX12 := rfl
theorem tbX12_slip_p : tbX12_slip.2.1 = pX12 := rfl
theorem tbX12_slip_k : tbX12_slip.2.2.2 = kX12 := rfl
theorem tbX12_slip_c125 : tbX12_slip.2.2.1 125 = some ((some 12), 2, spX12_isBook) := rfl
theorem tbX12_slip_c135 : tbX12_slip.2.2.1 135 = some ((some 12), 2, spX12_isWordSize) := rfl
theorem tbX12_slip_c138 : tbX12_slip.2.2.1 138 = some ((some 12), 2, spX12_takes) := rfl
theorem tbX12_slip_c141 : tbX12_slip.2.2.1 141 = some ((some 12), 3, spX12_word) := rfl
theorem tbX12_slip_all (l : Launch) : ∀ e ∈ ([(125, (some 12), 2, spX12_isBook), (135, (some 12), 2, spX12_isWordSize), (138, (some 12), 2, spX12_takes), (141, (some 12), 3, spX12_word)] : List (Nat × Option Nat × Nat × aSp)), cOK l mX12_slip e.1 e.2.1 e.2.2.1 e.2.2.2 ∨ mOK mX12_slip e.1 e.2.1 e.2.2.1 e.2.2.2 := all_cons (cOK_of (okX12_isBook l) meX12_isBook cfX12_125 (by decide) (by decide)) (all_cons (cOK_of (okX12_isWordSize l) meX12_isWordSize cfX12_135 (by decide) (by decide)) (all_cons (cOK_of (okX12_takes l) meX12_takes cfX12_138 (by decide) (by decide)) (all_cons (cOK_of (okX12_word l) meX12_word cfX12_141 (by decide) (by decide)) (all_nil))))
theorem tbX12_slip_ok (l : Launch) : tOK l mX12_slip tbX12_slip := ⟨fX12_ok, pX12_ok, fun _ _ _ _ h => tbX12_slip_all l _ (lk_mem h), kX12_ok⟩
set_option maxRecDepth 20000 in
set_option maxHeartbeats 4000000 in
theorem okX12_slip (l : Launch) : aOK l mX12_slip spX12_slip := by
  refine aOK_of rfl fun as S Q h => ?_
  unfold spX12_slip at h
  split at h
  · rename_i b n
    refine ⟨Nat.le_of_ble_eq_true rfl, wp_ok (tbX12_slip_ok l) Q (fun pc => false) 65 0 _ [] S ?_⟩
    show wp cX12_slip tbX12_slip 5 (some .int) Q (fun pc => false) (aGo l mX12_slip Q) 65 0 [(0, .inr (.inr 245)), (1, .inl b), (2, .inl n)] [] S
    simp only [wp_s, wpC_f, wpC_t, e_wLd, e_wLd0, e_wLd1, e_wLd2, e_get1, e_get2, e_wJ, e_wJo, f40, f41, f42, f43, Nat.reduceAdd, Nat.reduceBEq, Nat.reduceMul, eq_self, true_or, or_true, true_and, dX12_slip_0, dX12_slip_1, dX12_slip_2, dX12_slip_5, dX12_slip_8, dX12_slip_9, dX12_slip_12, dX12_slip_14, dX12_slip_17, dX12_slip_18, dX12_slip_19, dX12_slip_22, dX12_slip_25, dX12_slip_26, dX12_slip_27, dX12_slip_28, dX12_slip_29, dX12_slip_32, dX12_slip_33, dX12_slip_34, dX12_slip_35, dX12_slip_38, dX12_slip_39, dX12_slip_40, dX12_slip_41, dX12_slip_42, dX12_slip_45, dX12_slip_46, dX12_slip_47, dX12_slip_48, dX12_slip_51, dX12_slip_52, dX12_slip_55, dX12_slip_56, dX12_slip_57, dX12_slip_58, dX12_slip_61, dX12_slip_62, dX12_slip_65, dX12_slip_66, dX12_slip_67, dX12_slip_68, dX12_slip_71, dX12_slip_72, dX12_slip_75, dX12_slip_76, dX12_slip_77, dX12_slip_78, dX12_slip_81, dX12_slip_82, dX12_slip_85, dX12_slip_86, dX12_slip_87, dX12_slip_88, dX12_slip_89, dX12_slip_92, dX12_slip_93, dX12_slip_94, dX12_slip_97, dX12_slip_98, dX12_slip_101, dX12_slip_102, dX12_slip_103, e_aload_n, e_iload_n, e_lload_n, e_lstore_n, e_iconst, e_bipush, e_lconst, e_iadd, e_isub, e_lcmp, e_ifCond, e_if_icmp, e_getfield, e_putfield, e_iastore, e_lastore, e_invokevirtual, e_ireturn, e_wSt0, e_wSt1, e_wSt2, e_isL0, e_isL1, e_isL2, e_lset, e_lclr0, e_lclr1, e_lclr2, e_lput0, e_lput1, e_lput2, e_wInc, e_wInc0, Nat.reduceLT, not_false_eq_true, Bool.or_false, Bool.false_or, Bool.or_true, Bool.true_or, Bool.and_false, Bool.false_and, Bool.and_true, Bool.true_and, e_ri, e_rz, lc0, lc1, e_wI2, e_wCmp, e_wIf_ne, e_wIf_eq, e_wIc_eq, bp_120, fX12_132, fX12_39, fX12_42, fX12_45, fX12_48, ic_0, ic_1, ic_m1, jt_14_11, jt_22_5, jt_42_5, jt_5_20, pX12_132, e_call, e_callS0, e_callS1, e_callS2, e_callS3, e_callS4, e_pop0, e_pop1, e_tl0, e_tl1, tbX12_slip_f, tbX12_slip_p, tbX12_slip_k, tbX12_slip_c125, tbX12_slip_c135, tbX12_slip_c138, tbX12_slip_c141, g_245_15, s_256, g_245_18, s_255, g_245_17, cv_245_0, cv_245_1, cv_245_2, cv_245_3, cv_245_4, s_258, p_245_12, s_257, g_245_16, g_245_12, spX12_isBook, spX12_isWordSize, spX12_takes, spX12_word, spX12_areYears, spX12_isEntry, spX12_lays, lCmp_z, bi_0, bi_1, ne_eq, Classical.not_not, em_r, em_l]
    obtain ⟨h0, hA, hB⟩ := h
    have eW : wd8 ((tkS S n).1 247) n.toNat 0 0 = tkW S n n 0 := rfl
    have hW : True → True := id
    simp only [Int.toNat_zero, eW]
    clear eW
    generalize tkW S n n 0 = W at *
    replace hA := hid hA
    replace hB := hid hB
    replace hW := hid hW
    repeat' (with_reducible first | intro _ | refine And.intro ?_ ?_)
    all_goals (try simp (disch := first | omega | decide) only [wI_id, up_hit, up_obj, upL_hit, upL_obj, up_2, upL_1, Int.toNat_natCast, tk_2, Int.toNat_zero, Int.add_sub_cancel, tk_f, tk_a] at *)
    all_goals first
      | omega
      | exact hA (fun z => by omega)
      | exact hA (fun z => absurd z.1 (by assumption))
      | exact hA (fun z => absurd z.2.1 (by assumption))
      | exact hA (fun z => absurd z.2.2 (by assumption))
      | exact hA (fun z => absurd (by assumption) z.2.1)
      | exact (hB (by omega)).1 (by assumption)
      | exact (hB (by omega)).2 (by assumption)
      | exact (hB ⟨by omega, by omega, by omega⟩).1 (by assumption)
      | exact (hB ⟨by omega, by omega, by omega⟩).2 (by assumption)
      | skip
  · exact h.elim
def spX12_entry : aSp := fun as S Q => match as with
  | [.inr (.inr 245), .inl n, .inl a, .inl b] => (0 ≤ S.1 245 13 ∧ S.1 245 13 ≤ 12) ∧ (¬ ((1 ≤ a ∧ b ≤ 2000 ∧ a ≤ b) ∧ ¬ S.1 245 13 = 12 ∧ (1 ≤ n ∧ n ≤ 8 ∧ n ≤ S.1 245 2)) → Q (some (.inl (-1))) S) ∧ ((1 ≤ a ∧ b ≤ 2000 ∧ a ≤ b) ∧ ¬ S.1 245 13 = 12 ∧ (1 ≤ n ∧ n ≤ 8 ∧ n ≤ S.1 245 2) → ((tkW S n n 0) = 0 → Q (some (.inl (-1))) (tkS S n)) ∧ (¬ (tkW S n n 0) = 0 → Q (some (.inl (S.1 245 13))) (enM (tkS S n) (tkW S n n 0) a b)))
  | _ => False
def tbX12_entry : aTb := (fX12, pX12, fun j => lk [(114, none, 2, spX12_areYears), (135, (some 12), 2, spX12_isWordSize), (138, (some 12), 2, spX12_takes), (141, (some 12), 3, spX12_word), (148, (some 12), 5, spX12_lays)] j, kX12)
theorem tbX12_entry_f : tbX12_entry.1 = fX12 := rfl
theorem tbX12_entry_p : tbX12_entry.2.1 = pX12 := rfl
theorem tbX12_entry_k : tbX12_entry.2.2.2 = kX12 := rfl
theorem tbX12_entry_c114 : tbX12_entry.2.2.1 114 = some (none, 2, spX12_areYears) := rfl
theorem tbX12_entry_c135 : tbX12_entry.2.2.1 135 = some ((some 12), 2, spX12_isWordSize) := rfl
theorem tbX12_entry_c138 : tbX12_entry.2.2.1 138 = some ((some 12), 2, spX12_takes) := rfl
theorem tbX12_entry_c141 : tbX12_entry.2.2.1 141 = some ((some 12), 3, spX12_word) := rfl
theorem tbX12_entry_c148 : tbX12_entry.2.2.1 148 = some ((some 12), 5, spX12_lays) := rfl
theorem tbX12_entry_all (l : Launch) : ∀ e ∈ ([(114, none, 2, spX12_areYears), (135, (some 12), 2, spX12_isWordSize), (138, (some 12), 2, spX12_takes), (141, (some 12), 3, spX12_word), (148, (some 12), 5, spX12_lays)] : List (Nat × Option Nat × Nat × aSp)), cOK l mX12_entry e.1 e.2.1 e.2.2.1 e.2.2.2 ∨ mOK mX12_entry e.1 e.2.1 e.2.2.1 e.2.2.2 := all_cons (cOK_of (okX12_areYears l) meX12_areYears cfX12_114 (by decide) (by decide)) (all_cons (cOK_of (okX12_isWordSize l) meX12_isWordSize cfX12_135 (by decide) (by decide)) (all_cons (cOK_of (okX12_takes l) meX12_takes cfX12_138 (by decide) (by decide)) (all_cons (cOK_of (okX12_word l) meX12_word cfX12_141 (by decide) (by decide)) (all_cons (cOK_of (okX12_lays l) meX12_lays cfX12_148 (by decide) (by decide)) (all_nil)))))
theorem tbX12_entry_ok (l : Launch) : tOK l mX12_entry tbX12_entry := ⟨fX12_ok, pX12_ok, fun _ _ _ _ h => tbX12_entry_all l _ (lk_mem h), kX12_ok⟩
set_option maxRecDepth 20000 in
set_option maxHeartbeats 4000000 in
theorem okX12_entry (l : Launch) : aOK l mX12_entry spX12_entry := by
  refine aOK_of rfl fun as S Q h => ?_
  unfold spX12_entry at h
  split at h
  · rename_i n a b
    refine ⟨Nat.le_of_ble_eq_true rfl, wp_ok (tbX12_entry_ok l) Q (fun pc => false) 54 0 _ [] S ?_⟩
    show wp cX12_entry tbX12_entry 6 (some .int) Q (fun pc => false) (aGo l mX12_entry Q) 54 0 [(0, .inr (.inr 245)), (1, .inl n), (2, .inl a), (3, .inl b)] [] S
    simp only [wp_s, wpC_f, wpC_t, e_wLd, e_wLd0, e_wLd1, e_wLd2, e_get1, e_get2, e_wJ, e_wJo, f40, f41, f42, f43, Nat.reduceAdd, Nat.reduceBEq, Nat.reduceMul, eq_self, true_or, or_true, true_and, dX12_entry_0, dX12_entry_1, dX12_entry_2, dX12_entry_5, dX12_entry_8, dX12_entry_9, dX12_entry_12, dX12_entry_14, dX12_entry_17, dX12_entry_18, dX12_entry_19, dX12_entry_22, dX12_entry_25, dX12_entry_26, dX12_entry_27, dX12_entry_28, dX12_entry_29, dX12_entry_32, dX12_entry_33, dX12_entry_34, dX12_entry_35, dX12_entry_38, dX12_entry_40, dX12_entry_42, dX12_entry_43, dX12_entry_44, dX12_entry_47, dX12_entry_48, dX12_entry_49, dX12_entry_50, dX12_entry_53, dX12_entry_54, dX12_entry_57, dX12_entry_58, dX12_entry_59, dX12_entry_60, dX12_entry_61, dX12_entry_64, dX12_entry_66, dX12_entry_67, dX12_entry_68, dX12_entry_71, dX12_entry_72, dX12_entry_73, dX12_entry_76, dX12_entry_77, dX12_entry_78, dX12_entry_81, dX12_entry_82, dX12_entry_85, dX12_entry_86, dX12_entry_87, e_aload_n, e_iload_n, e_lload, e_lstore, e_iconst, e_bipush, e_lconst, e_iadd, e_isub, e_lcmp, e_ifCond, e_if_icmp, e_getfield, e_putfield, e_iastore, e_invokevirtual, e_invokestatic, e_ireturn, e_wSt0, e_wSt1, e_wSt2, e_isL0, e_isL1, e_isL2, e_lset, e_lclr0, e_lclr1, e_lclr2, e_lput0, e_lput1, e_lput2, e_wInc, e_wInc0, Nat.reduceLT, not_false_eq_true, Bool.or_false, Bool.false_or, Bool.or_true, Bool.true_or, Bool.and_false, Bool.false_and, Bool.and_true, Bool.true_and, e_ri, e_rz, lc0, lc1, e_wI2, e_wCmp, e_wIf_ne, e_wIf_eq, e_wIc_eq, bp_12, fX12_145, fX12_55, ic_0, ic_1, ic_m1, jt_14_11, jt_22_5, jt_44_5, jt_5_20, pX12_145, e_call, e_callS0, e_callS1, e_callS2, e_callS3, e_callS4, e_pop0, e_pop1, e_tl0, e_tl1, tbX12_entry_f, tbX12_entry_p, tbX12_entry_k, tbX12_entry_c114, tbX12_entry_c135, tbX12_entry_c138, tbX12_entry_c141, tbX12_entry_c148, p_245_13, cv_245_0, cv_245_1, cv_245_2, cv_245_3, cv_245_4, g_245_20, g_245_13, s_260, spX12_isBook, spX12_isWordSize, spX12_takes, spX12_word, spX12_areYears, spX12_isEntry, spX12_lays, lCmp_z, bi_0, bi_1, ne_eq, Classical.not_not, em_r, em_l]
    obtain ⟨h0, hA, hB⟩ := h
    have e13 : (tkS S n).1 245 13 = S.1 245 13 := tk_f (by decide)
    unfold enM at hB
    simp only [e13] at hB
    have eW : wd8 ((tkS S n).1 247) n.toNat 0 0 = tkW S n n 0 := rfl
    have hW : True → True := id
    simp only [Int.toNat_zero, eW]
    clear eW
    generalize tkW S n n 0 = W at *
    replace hA := hid hA
    replace hB := hid hB
    simp (disch := first | omega | decide) only [e13, up_obj, up_hit, ly_f, wI_id, Int.add_sub_cancel]
    
    replace hW := hid hW
    repeat' (with_reducible first | intro _ | refine And.intro ?_ ?_)
    all_goals (try simp (disch := first | omega | decide) only [wI_id, up_hit, up_obj, upL_hit, upL_obj, up_2, upL_1, Int.toNat_natCast, tk_2, Int.toNat_zero, Int.add_sub_cancel, tk_f, tk_a] at *)
    all_goals first
      | omega
      | exact hA (fun z => by omega)
      | exact hA (fun z => absurd z.1 (by assumption))
      | exact hA (fun z => absurd z.2.1 (by assumption))
      | exact hA (fun z => absurd z.2.2 (by assumption))
      | exact hA (fun z => absurd (by assumption) z.2.1)
      | exact (hB (by omega)).1 (by assumption)
      | exact (hB (by omega)).2 (by assumption)
      | exact (hB ⟨by omega, by omega, by omega⟩).1 (by assumption)
      | exact (hB ⟨by omega, by omega, by omega⟩).2 (by assumption)
      | skip
  · exact h.elim
def spX12_form : aSp := fun as S Q => match as with
  | [.inr (.inr 245), .inl e, .inl n, .inl a, .inl b] => (0 ≤ S.1 245 13 ∧ S.1 245 13 ≤ 12) ∧ (∀ j : Nat, j < 12 → 0 ≤ S.1 260 j ∧ S.1 260 j ≤ 5) ∧ (¬ ((0 ≤ e ∧ e < S.1 245 13) ∧ (1 ≤ a ∧ b ≤ 2000 ∧ a ≤ b) ∧ ¬ S.1 260 e.toNat = 5 ∧ (1 ≤ n ∧ n ≤ 8 ∧ n ≤ S.1 245 2)) → Q (some (.inl (-1))) S) ∧ ((0 ≤ e ∧ e < S.1 245 13) ∧ (1 ≤ a ∧ b ≤ 2000 ∧ a ≤ b) ∧ ¬ S.1 260 e.toNat = 5 ∧ (1 ≤ n ∧ n ≤ 8 ∧ n ≤ S.1 245 2) → ((tkW S n n 0) = 0 → Q (some (.inl (-1))) (tkS S n)) ∧ (¬ (tkW S n n 0) = 0 → Q (some (.inl (S.1 260 e.toNat + 1))) (lyM (tkS S n) e (tkW S n n 0) a b)))
  | _ => False
def tbX12_form : aTb := (fX12, pX12, fun j => lk [(114, none, 2, spX12_areYears), (135, (some 12), 2, spX12_isWordSize), (138, (some 12), 2, spX12_takes), (141, (some 12), 3, spX12_word), (148, (some 12), 5, spX12_lays), (152, (some 12), 2, spX12_isEntry)] j, kX12)
theorem tbX12_form_f : tbX12_form.1 = fX12 := rfl
theorem tbX12_form_p : tbX12_form.2.1 = pX12 := rfl
theorem tbX12_form_k : tbX12_form.2.2.2 = kX12 := rfl
theorem tbX12_form_c114 : tbX12_form.2.2.1 114 = some (none, 2, spX12_areYears) := rfl
theorem tbX12_form_c135 : tbX12_form.2.2.1 135 = some ((some 12), 2, spX12_isWordSize) := rfl
theorem tbX12_form_c138 : tbX12_form.2.2.1 138 = some ((some 12), 2, spX12_takes) := rfl
theorem tbX12_form_c141 : tbX12_form.2.2.1 141 = some ((some 12), 3, spX12_word) := rfl
theorem tbX12_form_c148 : tbX12_form.2.2.1 148 = some ((some 12), 5, spX12_lays) := rfl
theorem tbX12_form_c152 : tbX12_form.2.2.1 152 = some ((some 12), 2, spX12_isEntry) := rfl
theorem tbX12_form_all (l : Launch) : ∀ e ∈ ([(114, none, 2, spX12_areYears), (135, (some 12), 2, spX12_isWordSize), (138, (some 12), 2, spX12_takes), (141, (some 12), 3, spX12_word), (148, (some 12), 5, spX12_lays), (152, (some 12), 2, spX12_isEntry)] : List (Nat × Option Nat × Nat × aSp)), cOK l mX12_form e.1 e.2.1 e.2.2.1 e.2.2.2 ∨ mOK mX12_form e.1 e.2.1 e.2.2.1 e.2.2.2 := all_cons (cOK_of (okX12_areYears l) meX12_areYears cfX12_114 (by decide) (by decide)) (all_cons (cOK_of (okX12_isWordSize l) meX12_isWordSize cfX12_135 (by decide) (by decide)) (all_cons (cOK_of (okX12_takes l) meX12_takes cfX12_138 (by decide) (by decide)) (all_cons (cOK_of (okX12_word l) meX12_word cfX12_141 (by decide) (by decide)) (all_cons (cOK_of (okX12_lays l) meX12_lays cfX12_148 (by decide) (by decide)) (all_cons (cOK_of (okX12_isEntry l) meX12_isEntry cfX12_152 (by decide) (by decide)) (all_nil))))))
theorem tbX12_form_ok (l : Launch) : tOK l mX12_form tbX12_form := ⟨fX12_ok, pX12_ok, fun _ _ _ _ h => tbX12_form_all l _ (lk_mem h), kX12_ok⟩
set_option maxRecDepth 20000 in
set_option maxHeartbeats 4000000 in
theorem okX12_form (l : Launch) : aOK l mX12_form spX12_form := by
  refine aOK_of rfl fun as S Q h => ?_
  unfold spX12_form at h
  split at h
  · rename_i e n a b
    refine ⟨Nat.le_of_ble_eq_true rfl, wp_ok (tbX12_form_ok l) Q (fun pc => false) 47 0 _ [] S ?_⟩
    show wp cX12_form tbX12_form 7 (some .int) Q (fun pc => false) (aGo l mX12_form Q) 47 0 [(0, .inr (.inr 245)), (1, .inl e), (2, .inl n), (3, .inl a), (4, .inl b)] [] S
    simp only [wp_s, wpC_f, wpC_t, e_wLd, e_wLd0, e_wLd1, e_wLd2, e_get1, e_get2, e_wJ, e_wJo, f40, f41, f42, f43, Nat.reduceAdd, Nat.reduceBEq, Nat.reduceMul, eq_self, true_or, or_true, true_and, dX12_form_0, dX12_form_1, dX12_form_2, dX12_form_5, dX12_form_8, dX12_form_9, dX12_form_11, dX12_form_14, dX12_form_17, dX12_form_18, dX12_form_21, dX12_form_22, dX12_form_23, dX12_form_24, dX12_form_27, dX12_form_28, dX12_form_29, dX12_form_32, dX12_form_35, dX12_form_36, dX12_form_37, dX12_form_38, dX12_form_39, dX12_form_42, dX12_form_43, dX12_form_44, dX12_form_45, dX12_form_48, dX12_form_50, dX12_form_52, dX12_form_53, dX12_form_54, dX12_form_57, dX12_form_58, dX12_form_59, dX12_form_60, dX12_form_61, dX12_form_63, dX12_form_64, dX12_form_66, dX12_form_69, dX12_form_70, dX12_form_73, dX12_form_74, dX12_form_75, e_aload_n, e_iload_n, e_iload, e_lload, e_lstore, e_iconst, e_lconst, e_lcmp, e_ifCond, e_if_icmp, e_getfield, e_iaload, e_invokevirtual, e_invokestatic, e_ireturn, e_wSt0, e_wSt1, e_wSt2, e_isL0, e_isL1, e_isL2, e_lset, e_lclr0, e_lclr1, e_lclr2, e_lput0, e_lput1, e_lput2, e_wInc, e_wInc0, Nat.reduceLT, not_false_eq_true, Bool.or_false, Bool.false_or, Bool.or_true, Bool.true_or, Bool.and_false, Bool.false_and, Bool.and_true, Bool.true_and, e_ri, e_rz, lc0, lc1, e_wCmp, e_wIf_ne, e_wIf_eq, e_wIc_eq, fX12_55, ic_0, ic_5, ic_m1, jt_14_21, jt_24_11, jt_32_5, jt_54_5, jt_5_30, e_call, e_callS0, e_callS1, e_callS2, e_callS3, e_callS4, e_pop0, e_pop1, e_tl0, e_tl1, tbX12_form_f, tbX12_form_p, tbX12_form_k, tbX12_form_c114, tbX12_form_c135, tbX12_form_c138, tbX12_form_c141, tbX12_form_c148, tbX12_form_c152, cv_245_0, cv_245_1, cv_245_2, cv_245_3, cv_245_4, l_260, g_245_20, spX12_isBook, spX12_isWordSize, spX12_takes, spX12_word, spX12_areYears, spX12_isEntry, spX12_lays, lCmp_z, bi_0, bi_1, ne_eq, Classical.not_not, em_r, em_l]
    obtain ⟨h0, h1, hA, hB⟩ := h
    have e60 : (tkS S n).1 260 e.toNat = S.1 260 e.toNat := tk_a (by decide) (by decide)
    have eW : wd8 ((tkS S n).1 247) n.toNat 0 0 = tkW S n n 0 := rfl
    have hW : True → True := id
    simp only [Int.toNat_zero, eW]
    clear eW
    generalize tkW S n n 0 = W at *
    replace hA := hid hA
    replace hB := hid hB
    simp only [e60, ly_e]
    by_cases he : 0 ≤ e ∧ e < S.1 245 13
    · have h1' := h1 e.toNat (by omega)
      replace hW := hid hW
      repeat' (with_reducible first | intro _ | refine And.intro ?_ ?_)
      all_goals (try simp (disch := first | omega | decide) only [wI_id, up_hit, up_obj, upL_hit, upL_obj, up_2, upL_1, Int.toNat_natCast, tk_2, Int.toNat_zero, Int.add_sub_cancel, tk_f, tk_a] at *)
      all_goals first
        | omega
        | exact hA (fun z => by omega)
        | exact hA (fun z => absurd z.1 (by assumption))
        | exact hA (fun z => absurd z.2.1 (by assumption))
        | exact hA (fun z => absurd z.2.2 (by assumption))
        | exact hA (fun z => absurd (by assumption) z.2.1)
        | exact (hB (by omega)).1 (by assumption)
        | exact (hB (by omega)).2 (by assumption)
        | exact (hB ⟨by omega, by omega, by omega⟩).1 (by assumption)
        | exact (hB ⟨by omega, by omega, by omega⟩).2 (by assumption)
        | skip
    · exact ⟨fun _ => hA (fun z => he z.1), fun q => absurd q he⟩
  · exact h.elim
