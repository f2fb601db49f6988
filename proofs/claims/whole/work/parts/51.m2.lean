/-! THE REFERENCE: senses, pointers -/
theorem narZ_1 : narZ 1 = 1 := by decide
theorem narZ_0 : narZ 0 = 0 := by decide
def spX12_makes : aSp := fun as S Q => match as with
  | [.inr (.inr 245), .inl e, .inl u] => (ff (fun j => S.1 266 j == 0) 40 0 = -1 → Q (some (.inl (-1))) S) ∧ ∀ r : Nat, r < 40 → ff (fun j => S.1 266 j == 0) 40 0 = r → Q (some (.inl (r : Int))) (upI (upI (upI S 266 r 1) 267 r e) 268 r u)
  | _ => False
def tbX12_makes : aTb := (fX12, pX12, fun j => lk [] j, kX12)
theorem tbX12_makes_f : tbX12_makes.1 = fX12 := rfl
theorem tbX12_makes_p : tbX12_makes.2.1 = pX12 := rfl
theorem tbX12_makes_k : tbX12_makes.2.2.2 = kX12 := rfl
theorem tbX12_makes_all (l : Launch) : ∀ e ∈ ([] : List (Nat × Option Nat × Nat × aSp)), cOK l mX12_makes e.1 e.2.1 e.2.2.1 e.2.2.2 ∨ mOK mX12_makes e.1 e.2.1 e.2.2.1 e.2.2.2 := all_nil
theorem tbX12_makes_ok (l : Launch) : tOK l mX12_makes tbX12_makes := ⟨fX12_ok, pX12_ok, fun _ _ _ _ h => tbX12_makes_all l _ (lk_mem h), kX12_ok⟩
set_option maxRecDepth 20000 in
set_option maxHeartbeats 4000000 in
theorem lpX12_makes (l : Launch) (Q : Option aV → aS → Prop) : ∀ (n : Nat) (S : aS) (e u : Int) (i : Nat), i + n = 40 → (ff (fun j => S.1 266 j == 0) n i = -1 → Q (some (.inl (-1))) S) → (∀ r : Nat, r < 40 → ff (fun j => S.1 266 j == 0) n i = r → Q (some (.inl (r : Int))) (upI (upI (upI S 266 r 1) 267 r e) 268 r u)) → aGo l mX12_makes Q 2 [(0, .inr (.inr 245)), (1, .inl e), (2, .inl u), (3, .inl (i : Int))] [] S := by
  intro n
  induction n using Nat.strongRecOn with
  | _ n ih =>
  intro S  e u  i  h0 h1 h2
  refine wp_go (tbX12_makes_ok l) (fun pc => pc == 2) 39 dX12_makes_2 ?_
  show ws1 tbX12_makes 4 (some .int) Q (wp cX12_makes tbX12_makes 4 (some .int) Q (fun pc => pc == 2) (aGo l mX12_makes Q) 39) (.iload_n 3) 1 2 [(0, .inr (.inr 245)), (1, .inl e), (2, .inl u), (3, .inl (i : Int))] [] S
  simp only [wp_s, wpC_f, wpC_t, e_wLd, e_wLd0, e_wLd1, e_wLd2, e_get1, e_get2, e_wJ, e_wJo, f40, f41, f42, f43, Nat.reduceAdd, Nat.reduceBEq, Nat.reduceMul, eq_self, true_or, or_true, true_and, dX12_makes_0, dX12_makes_1, dX12_makes_2, dX12_makes_3, dX12_makes_5, dX12_makes_8, dX12_makes_9, dX12_makes_12, dX12_makes_13, dX12_makes_14, dX12_makes_17, dX12_makes_18, dX12_makes_19, dX12_makes_20, dX12_makes_21, dX12_makes_24, dX12_makes_25, dX12_makes_27, dX12_makes_30, dX12_makes_31, dX12_makes_32, dX12_makes_33, dX12_makes_36, dX12_makes_37, dX12_makes_38, dX12_makes_39, dX12_makes_40, dX12_makes_43, dX12_makes_44, dX12_makes_45, dX12_makes_46, dX12_makes_47, dX12_makes_50, dX12_makes_51, dX12_makes_52, dX12_makes_53, dX12_makes_54, e_aload_n, e_iload_n, e_istore_n, e_iconst, e_bipush, e_iadd, e_ifCond, e_if_icmp, e_goto, e_getfield, e_baload, e_iastore, e_bastore, e_ireturn, e_wSt0, e_wSt1, e_wSt2, e_isL0, e_isL1, e_isL2, e_lset, e_lclr0, e_lclr1, e_lclr2, e_lput0, e_lput1, e_lput2, e_wInc, e_wInc0, Nat.reduceLT, not_false_eq_true, Bool.or_false, Bool.false_or, Bool.or_true, Bool.true_or, Bool.and_false, Bool.false_and, Bool.and_true, Bool.true_and, e_ri, e_rz, e_wI2, e_wIc_ne, e_wIc_ge, e_wIf_eq, bp_40, fX12_73, fX12_76, fX12_79, ic_0, ic_1, ic_m1, jt_14_10, jt_21_m19, jt_27_5, jt_5_19, tbX12_makes_f, tbX12_makes_p, tbX12_makes_k, l_268, s_268, g_245_28, g_245_27, l_267, s_267, g_245_26, l_266, s_266]
  repeat' (with_reducible first | intro _ | refine And.intro ?_ ?_)
  all_goals (try simp (disch := omega) only [wI_id, Int.toNat_natCast, narZ_1] at *)
  all_goals first
    | omega
    | (rw [show n = 0 from by omega] at h1; exact h1 rfl)
    | (obtain ⟨m, rfl⟩ : ∃ m, n = m + 1 := ⟨n - 1, by omega⟩
       refine ih m (by omega) S e u (i + 1) (by omega) (fun q => h1 ?_) (fun r hr q => h2 r hr ?_) <;> (unfold ff; rw [if_neg (by simp; omega)]; exact q))
    | (obtain ⟨m, rfl⟩ : ∃ m, n = m + 1 := ⟨n - 1, by omega⟩
       exact h2 i (by omega) (by unfold ff; rw [if_pos (by simp; omega)]))
    | skip
set_option maxRecDepth 20000 in
set_option maxHeartbeats 4000000 in
theorem okX12_makes (l : Launch) : aOK l mX12_makes spX12_makes := by
  refine aOK_of rfl fun as S Q h => ?_
  unfold spX12_makes at h
  split at h
  · rename_i e u
    refine ⟨Nat.le_of_ble_eq_true rfl, wp_ok (tbX12_makes_ok l) Q (fun pc => pc == 2) 39 0 _ [] S ?_⟩
    show wp cX12_makes tbX12_makes 4 (some .int) Q (fun pc => pc == 2) (aGo l mX12_makes Q) 39 0 [(0, .inr (.inr 245)), (1, .inl e), (2, .inl u)] [] S
    simp only [wp_s, wpC_f, wpC_t, e_wLd, e_wLd0, e_wLd1, e_wLd2, e_get1, e_get2, e_wJ, e_wJo, f40, f41, f42, f43, Nat.reduceAdd, Nat.reduceBEq, Nat.reduceMul, eq_self, true_or, or_true, true_and, dX12_makes_0, dX12_makes_1, dX12_makes_2, dX12_makes_3, dX12_makes_5, dX12_makes_8, dX12_makes_9, dX12_makes_12, dX12_makes_13, dX12_makes_14, dX12_makes_17, dX12_makes_18, dX12_makes_19, dX12_makes_20, dX12_makes_21, dX12_makes_24, dX12_makes_25, dX12_makes_27, dX12_makes_30, dX12_makes_31, dX12_makes_32, dX12_makes_33, dX12_makes_36, dX12_makes_37, dX12_makes_38, dX12_makes_39, dX12_makes_40, dX12_makes_43, dX12_makes_44, dX12_makes_45, dX12_makes_46, dX12_makes_47, dX12_makes_50, dX12_makes_51, dX12_makes_52, dX12_makes_53, dX12_makes_54, e_aload_n, e_iload_n, e_istore_n, e_iconst, e_bipush, e_iadd, e_ifCond, e_if_icmp, e_goto, e_getfield, e_baload, e_iastore, e_bastore, e_ireturn, e_wSt0, e_wSt1, e_wSt2, e_isL0, e_isL1, e_isL2, e_lset, e_lclr0, e_lclr1, e_lclr2, e_lput0, e_lput1, e_lput2, e_wInc, e_wInc0, Nat.reduceLT, not_false_eq_true, Bool.or_false, Bool.false_or, Bool.or_true, Bool.true_or, Bool.and_false, Bool.false_and, Bool.and_true, Bool.true_and, e_ri, e_rz, e_wI2, e_wIc_ne, e_wIc_ge, e_wIf_eq, bp_40, fX12_73, fX12_76, fX12_79, ic_0, ic_1, ic_m1, jt_14_10, jt_21_m19, jt_27_5, jt_5_19, tbX12_makes_f, tbX12_makes_p, tbX12_makes_k, l_268, s_268, g_245_28, g_245_27, l_267, s_267, g_245_26, l_266, s_266]
    exact lpX12_makes l Q 40 S e u 0 rfl h.1 h.2
  · exact h.elim
def spX12_sense : aSp := fun as S Q => match as with
  | [.inr (.inr 245), .inl e, .inl u] => (¬ ((0 ≤ e ∧ e < S.1 245 13) ∧ (u = -1 ∨ ((0 ≤ u ∧ u < 40 ∧ ¬ S.1 266 u.toNat = 0) ∧ S.1 267 u.toNat = e))) → Q (some (.inl (-1))) S) ∧ ((0 ≤ e ∧ e < S.1 245 13) ∧ (u = -1 ∨ ((0 ≤ u ∧ u < 40 ∧ ¬ S.1 266 u.toNat = 0) ∧ S.1 267 u.toNat = e)) → (ff (fun j => S.1 266 j == 0) 40 0 = -1 → Q (some (.inl (-1))) S) ∧ ∀ r : Nat, r < 40 → ff (fun j => S.1 266 j == 0) 40 0 = r → Q (some (.inl (r : Int))) (upI (upI (upI S 266 r 1) 267 r e) 268 r u))
  | _ => False
def tbX12_sense : aTb := (fX12, pX12, fun j => lk [(152, (some 12), 2, spX12_isEntry), (186, (some 12), 2, spX12_isSense), (189, (some 12), 3, spX12_makes)] j, kX12)
theorem tbX12_sense_f : tbX12_sense.1 = fX12 := rfl
theorem tbX12_sense_p : tbX12_sense.2.1 = pX12 := rfl
theorem tbX12_sense_k : tbX12_sense.2.2.2 = kX12 := rfl
theorem tbX12_sense_c152 : tbX12_sense.2.2.1 152 = some ((some 12), 2, spX12_isEntry) := rfl
theorem tbX12_sense_c186 : tbX12_sense.2.2.1 186 = some ((some 12), 2, spX12_isSense) := rfl
theorem tbX12_sense_c189 : tbX12_sense.2.2.1 189 = some ((some 12), 3, spX12_makes) := rfl
theorem tbX12_sense_all (l : Launch) : ∀ e ∈ ([(152, (some 12), 2, spX12_isEntry), (186, (some 12), 2, spX12_isSense), (189, (some 12), 3, spX12_makes)] : List (Nat × Option Nat × Nat × aSp)), cOK l mX12_sense e.1 e.2.1 e.2.2.1 e.2.2.2 ∨ mOK mX12_sense e.1 e.2.1 e.2.2.1 e.2.2.2 := all_cons (cOK_of (okX12_isEntry l) meX12_isEntry cfX12_152 (by decide) (by decide)) (all_cons (cOK_of (okX12_isSense l) meX12_isSense cfX12_186 (by decide) (by decide)) (all_cons (cOK_of (okX12_makes l) meX12_makes cfX12_189 (by decide) (by decide)) (all_nil)))
theorem tbX12_sense_ok (l : Launch) : tOK l mX12_sense tbX12_sense := ⟨fX12_ok, pX12_ok, fun _ _ _ _ h => tbX12_sense_all l _ (lk_mem h), kX12_ok⟩
set_option maxRecDepth 20000 in
set_option maxHeartbeats 4000000 in
theorem okX12_sense (l : Launch) : aOK l mX12_sense spX12_sense := by
  refine aOK_of rfl fun as S Q h => ?_
  unfold spX12_sense at h
  split at h
  · rename_i e u
    refine ⟨Nat.le_of_ble_eq_true rfl, wp_ok (tbX12_sense_ok l) Q (fun pc => false) 26 0 _ [] S ?_⟩
    show wp cX12_sense tbX12_sense 3 (some .int) Q (fun pc => false) (aGo l mX12_sense Q) 26 0 [(0, .inr (.inr 245)), (1, .inl e), (2, .inl u)] [] S
    simp only [wp_s, wpC_f, wpC_t, e_wLd, e_wLd0, e_wLd1, e_wLd2, e_get1, e_get2, e_wJ, e_wJo, f40, f41, f42, f43, Nat.reduceAdd, Nat.reduceBEq, Nat.reduceMul, eq_self, true_or, or_true, true_and, dX12_sense_0, dX12_sense_1, dX12_sense_2, dX12_sense_5, dX12_sense_8, dX12_sense_9, dX12_sense_10, dX12_sense_13, dX12_sense_14, dX12_sense_15, dX12_sense_18, dX12_sense_21, dX12_sense_22, dX12_sense_25, dX12_sense_26, dX12_sense_27, dX12_sense_28, dX12_sense_31, dX12_sense_32, dX12_sense_33, dX12_sense_34, dX12_sense_35, dX12_sense_36, dX12_sense_39, e_aload_n, e_iload_n, e_iconst, e_ifCond, e_if_icmp, e_getfield, e_iaload, e_invokevirtual, e_ireturn, e_ri, e_rz, e_wIc_eq, e_wIf_eq, fX12_76, ic_m1, jt_10_23, jt_18_13, jt_28_5, jt_5_26, e_call, e_callS0, e_callS1, e_callS2, e_callS3, e_callS4, e_pop0, e_pop1, e_tl0, e_tl1, tbX12_sense_f, tbX12_sense_p, tbX12_sense_k, tbX12_sense_c152, tbX12_sense_c186, tbX12_sense_c189, l_267, cv_245_0, cv_245_1, cv_245_2, cv_245_3, cv_245_4, g_245_27, spX12_isEntry, spX12_isSense, spX12_makes, bi_0, bi_1, ne_eq, Classical.not_not, em_r, em_l]
    obtain ⟨hA, hB⟩ := h
    repeat' (with_reducible first | intro _ | refine And.intro ?_ ?_)
    all_goals first
      | omega
      | exact hA (fun z => absurd z.1 (by assumption))
      | exact hA (fun z => by omega)
      | exact (hB ⟨by omega, by omega⟩).1 (by assumption)
      | exact (hB ⟨by omega, by omega⟩).2 _ (by assumption) (by assumption)
      | skip
  · exact h.elim
def spX12_part : aSp := fun as S Q => match as with
  | [.inr (.inr 245), .inl a] => (¬ (0 ≤ a ∧ a < 40 ∧ ¬ S.1 266 a.toNat = 0) → Q (some (.inl (-1))) S) ∧ ((0 ≤ a ∧ a < 40 ∧ ¬ S.1 266 a.toNat = 0) → (ff (fun j => S.1 266 j == 0) 40 0 = -1 → Q (some (.inl (-1))) S) ∧ ∀ r : Nat, r < 40 → ff (fun j => S.1 266 j == 0) 40 0 = r → Q (some (.inl (r : Int))) (upI (upI (upI S 266 r 1) 267 r (S.1 267 a.toNat)) 268 r (S.1 268 a.toNat)))
  | _ => False
def tbX12_part : aTb := (fX12, pX12, fun j => lk [(186, (some 12), 2, spX12_isSense), (189, (some 12), 3, spX12_makes)] j, kX12)
theorem tbX12_part_f : tbX12_part.1 = fX12 := rfl
theorem tbX12_part_p : tbX12_part.2.1 = pX12 := rfl
theorem tbX12_part_k : tbX12_part.2.2.2 = kX12 := rfl
theorem tbX12_part_c186 : tbX12_part.2.2.1 186 = some ((some 12), 2, spX12_isSense) := rfl
theorem tbX12_part_c189 : tbX12_part.2.2.1 189 = some ((some 12), 3, spX12_makes) := rfl
theorem tbX12_part_all (l : Launch) : ∀ e ∈ ([(186, (some 12), 2, spX12_isSense), (189, (some 12), 3, spX12_makes)] : List (Nat × Option Nat × Nat × aSp)), cOK l mX12_part e.1 e.2.1 e.2.2.1 e.2.2.2 ∨ mOK mX12_part e.1 e.2.1 e.2.2.1 e.2.2.2 := all_cons (cOK_of (okX12_isSense l) meX12_isSense cfX12_186 (by decide) (by decide)) (all_cons (cOK_of (okX12_makes l) meX12_makes cfX12_189 (by decide) (by decide)) (all_nil))
theorem tbX12_part_ok (l : Launch) : tOK l mX12_part tbX12_part := ⟨fX12_ok, pX12_ok, fun _ _ _ _ h => tbX12_part_all l _ (lk_mem h), kX12_ok⟩
set_option maxRecDepth 20000 in
set_option maxHeartbeats 4000000 in
theorem okX12_part (l : Launch) : aOK l mX12_part spX12_part := by
  refine aOK_of rfl fun as S Q h => ?_
  unfold spX12_part at h
  split at h
  · rename_i a
    refine ⟨Nat.le_of_ble_eq_true rfl, wp_ok (tbX12_part_ok l) Q (fun pc => false) 19 0 _ [] S ?_⟩
    show wp cX12_part tbX12_part 2 (some .int) Q (fun pc => false) (aGo l mX12_part Q) 19 0 [(0, .inr (.inr 245)), (1, .inl a)] [] S
    simp only [wp_s, wpC_f, wpC_t, e_wLd, e_wLd0, e_wLd1, e_wLd2, e_get1, e_get2, e_wJ, e_wJo, f40, f41, f42, f43, Nat.reduceAdd, Nat.reduceBEq, Nat.reduceMul, eq_self, true_or, or_true, true_and, dX12_part_0, dX12_part_1, dX12_part_2, dX12_part_5, dX12_part_8, dX12_part_9, dX12_part_10, dX12_part_13, dX12_part_14, dX12_part_15, dX12_part_16, dX12_part_19, dX12_part_20, dX12_part_21, dX12_part_24, dX12_part_27, dX12_part_28, e_aload_n, e_iload_n, e_iconst, e_ifCond, e_goto, e_getfield, e_iaload, e_invokevirtual, e_ireturn, e_ri, e_rz, e_wIf_eq, fX12_76, fX12_79, ic_m1, jt_24_4, jt_5_22, e_call, e_callS0, e_callS1, e_callS2, e_callS3, e_callS4, e_pop0, e_pop1, e_tl0, e_tl1, tbX12_part_f, tbX12_part_p, tbX12_part_k, tbX12_part_c186, tbX12_part_c189, l_268, g_245_28, g_245_27, l_267, cv_245_0, cv_245_1, cv_245_2, cv_245_3, cv_245_4, spX12_isSense, spX12_makes, bi_0, bi_1, ne_eq, Classical.not_not, em_r, em_l]
    obtain ⟨hA, hB⟩ := h
    repeat' (with_reducible first | intro _ | refine And.intro ?_ ?_)
    all_goals first
      | omega
      | exact hA (by assumption)
      | exact (hB (by assumption)).1 (by assumption)
      | exact (hB (by assumption)).2 _ (by assumption) (by assumption)
      | skip
  · exact h.elim
def spX12_put : aSp := fun as S Q => match as with
  | [.inr (.inr 245), .inl s, .inl e, .inl t] => S.1 245 12 ≤ 120 ∧ (¬ ((0 ≤ s ∧ s < S.1 245 12) ∧ (e = -1 ∨ (0 ≤ e ∧ e < S.1 245 13)) ∧ (t = -1 ∨ ((0 ≤ t ∧ t < 40 ∧ ¬ S.1 266 t.toNat = 0) ∧ S.1 267 t.toNat = e)) ∧ ¬ (S.1 256 s.toNat = e ∧ S.1 257 s.toNat = t)) → Q (some (.inl 0)) S) ∧ ((0 ≤ s ∧ s < S.1 245 12) ∧ (e = -1 ∨ (0 ≤ e ∧ e < S.1 245 13)) ∧ (t = -1 ∨ ((0 ≤ t ∧ t < 40 ∧ ¬ S.1 266 t.toNat = 0) ∧ S.1 267 t.toNat = e)) ∧ ¬ (S.1 256 s.toNat = e ∧ S.1 257 s.toNat = t) → Q (some (.inl 1)) (upI (upI S 256 s.toNat e) 257 s.toNat t))
  | _ => False
def tbX12_put : aTb := (fX12, pX12, fun j => lk [(152, (some 12), 2, spX12_isEntry), (183, (some 12), 2, spX12_isSlip), (186, (some 12), 2, spX12_isSense)] j, kX12)
theorem tbX12_put_f : tbX12_put.1 = fX12 := rfl
theorem tbX12_put_p : tbX12_put.2.1 = pX12 := rfl
theorem tbX12_put_k : tbX12_put.2.2.2 = kX12 := rfl
theorem tbX12_put_c152 : tbX12_put.2.2.1 152 = some ((some 12), 2, spX12_isEntry) := rfl
theorem tbX12_put_c183 : tbX12_put.2.2.1 183 = some ((some 12), 2, spX12_isSlip) := rfl
theorem tbX12_put_c186 : tbX12_put.2.2.1 186 = some ((some 12), 2, spX12_isSense) := rfl
theorem tbX12_put_all (l : Launch) : ∀ e ∈ ([(152, (some 12), 2, spX12_isEntry), (183, (some 12), 2, spX12_isSlip), (186, (some 12), 2, spX12_isSense)] : List (Nat × Option Nat × Nat × aSp)), cOK l mX12_put e.1 e.2.1 e.2.2.1 e.2.2.2 ∨ mOK mX12_put e.1 e.2.1 e.2.2.1 e.2.2.2 := all_cons (cOK_of (okX12_isEntry l) meX12_isEntry cfX12_152 (by decide) (by decide)) (all_cons (cOK_of (okX12_isSlip l) meX12_isSlip cfX12_183 (by decide) (by decide)) (all_cons (cOK_of (okX12_isSense l) meX12_isSense cfX12_186 (by decide) (by decide)) (all_nil)))
theorem tbX12_put_ok (l : Launch) : tOK l mX12_put tbX12_put := ⟨fX12_ok, pX12_ok, fun _ _ _ _ h => tbX12_put_all l _ (lk_mem h), kX12_ok⟩
set_option maxRecDepth 20000 in
set_option maxHeartbeats 4000000 in
theorem okX12_put (l : Launch) : aOK l mX12_put spX12_put := by
  refine aOK_of rfl fun as S Q h => ?_
  unfold spX12_put at h
  split at h
  · rename_i s e t
    refine ⟨Nat.le_of_ble_eq_true rfl, wp_ok (tbX12_put_ok l) Q (fun pc => false) 54 0 _ [] S ?_⟩
    show wp cX12_put tbX12_put 4 (some .boolean) Q (fun pc => false) (aGo l mX12_put Q) 54 0 [(0, .inr (.inr 245)), (1, .inl s), (2, .inl e), (3, .inl t)] [] S
    simp only [wp_s, wpC_f, wpC_t, e_wLd, e_wLd0, e_wLd1, e_wLd2, e_get1, e_get2, e_wJ, e_wJo, f40, f41, f42, f43, Nat.reduceAdd, Nat.reduceBEq, Nat.reduceMul, eq_self, true_or, or_true, true_and, dX12_put_0, dX12_put_1, dX12_put_2, dX12_put_5, dX12_put_8, dX12_put_9, dX12_put_10, dX12_put_13, dX12_put_14, dX12_put_15, dX12_put_18, dX12_put_21, dX12_put_22, dX12_put_23, dX12_put_26, dX12_put_27, dX12_put_28, dX12_put_31, dX12_put_34, dX12_put_35, dX12_put_38, dX12_put_39, dX12_put_40, dX12_put_41, dX12_put_44, dX12_put_45, dX12_put_46, dX12_put_47, dX12_put_50, dX12_put_51, dX12_put_52, dX12_put_53, dX12_put_56, dX12_put_57, dX12_put_60, dX12_put_61, dX12_put_62, dX12_put_63, dX12_put_66, dX12_put_67, dX12_put_68, dX12_put_69, dX12_put_72, dX12_put_73, dX12_put_74, dX12_put_75, dX12_put_76, dX12_put_79, dX12_put_80, dX12_put_81, dX12_put_82, dX12_put_83, e_aload_n, e_iload_n, e_iconst, e_ifCond, e_if_icmp, e_getfield, e_iaload, e_iastore, e_invokevirtual, e_ireturn, e_ri, e_rz, e_wIc_ne, e_wIc_eq, e_wIf_eq, fX12_42, fX12_45, fX12_76, ic_0, ic_1, ic_m1, jt_10_11, jt_18_26, jt_23_23, jt_31_13, jt_41_5, jt_53_15, jt_5_39, jt_63_5, e_call, e_callS0, e_callS1, e_callS2, e_callS3, e_callS4, e_pop0, e_pop1, e_tl0, e_tl1, tbX12_put_f, tbX12_put_p, tbX12_put_k, tbX12_put_c152, tbX12_put_c183, tbX12_put_c186, g_245_16, g_245_27, l_267, s_267, g_245_17, l_257, s_257, cv_245_0, cv_245_1, cv_245_2, cv_245_3, cv_245_4, l_256, s_256, spX12_isEntry, spX12_isSense, spX12_isSlip, bi_0, bi_1, ne_eq, Classical.not_not, em_r, em_l]
    obtain ⟨h0, hA, hB⟩ := h
    repeat' (with_reducible first | intro _ | refine And.intro ?_ ?_)
    all_goals first
      | omega
      | exact hA (fun z => by omega)
      | exact hB (by omega)
      | skip
  · exact h.elim
theorem chn_sense {P : Nat → Int} {n : Nat} {x : Int} (h : chn P n x) (hx : ¬ x = -1) : 0 ≤ x ∧ x < 40 := by
  cases n with
  | zero => exact absurd h hx
  | succ n => exact (h.resolve_left hx).elim fun a b => ⟨a, b.1⟩
def spX12_move : aSp := fun as S Q => match as with
  | [.inr (.inr 245), .inl a, .inl b] => ((0 ≤ b ∧ b < 40 ∧ ¬ S.1 266 b.toNat = 0) → chn (S.1 268) 40 b) ∧ (¬ ((0 ≤ a ∧ a < 40 ∧ ¬ S.1 266 a.toNat = 0) ∧ (b = -1 ∨ ((0 ≤ b ∧ b < 40 ∧ ¬ S.1 266 b.toNat = 0) ∧ S.1 267 b.toNat = S.1 267 a.toNat ∧ ¬ wtM (S.1 268) a 40 b)) ∧ ¬ S.1 268 a.toNat = b) → Q (some (.inl 0)) S) ∧ ((0 ≤ a ∧ a < 40 ∧ ¬ S.1 266 a.toNat = 0) ∧ (b = -1 ∨ ((0 ≤ b ∧ b < 40 ∧ ¬ S.1 266 b.toNat = 0) ∧ S.1 267 b.toNat = S.1 267 a.toNat ∧ ¬ wtM (S.1 268) a 40 b)) ∧ ¬ S.1 268 a.toNat = b → Q (some (.inl 1)) (upI S 268 a.toNat b))
  | _ => False
def tbX12_move : aTb := (fX12, pX12, fun j => lk [(186, (some 12), 2, spX12_isSense), (193, (some 12), 3, spX12_isWithin)] j, kX12)
theorem tbX12_move_f : tbX12_move.1 = fX12 := rfl
theorem tbX12_move_p : tbX12_move.2.1 = pX12 := rfl
theorem tbX12_move_k : tbX12_move.2.2.2 = kX12 := rfl
theorem tbX12_move_c186 : tbX12_move.2.2.1 186 = some ((some 12), 2, spX12_isSense) := rfl
theorem tbX12_move_c193 : tbX12_move.2.2.1 193 = some ((some 12), 3, spX12_isWithin) := rfl
theorem tbX12_move_all (l : Launch) : ∀ e ∈ ([(186, (some 12), 2, spX12_isSense), (193, (some 12), 3, spX12_isWithin)] : List (Nat × Option Nat × Nat × aSp)), cOK l mX12_move e.1 e.2.1 e.2.2.1 e.2.2.2 ∨ mOK mX12_move e.1 e.2.1 e.2.2.1 e.2.2.2 := all_cons (cOK_of (okX12_isSense l) meX12_isSense cfX12_186 (by decide) (by decide)) (all_cons (cOK_of (okX12_isWithin l) meX12_isWithin cfX12_193 (by decide) (by decide)) (all_nil))
theorem tbX12_move_ok (l : Launch) : tOK l mX12_move tbX12_move := ⟨fX12_ok, pX12_ok, fun _ _ _ _ h => tbX12_move_all l _ (lk_mem h), kX12_ok⟩
set_option maxRecDepth 20000 in
set_option maxHeartbeats 4000000 in
theorem okX12_move (l : Launch) : aOK l mX12_move spX12_move := by
  refine aOK_of rfl fun as S Q h => ?_
  unfold spX12_move at h
  split at h
  · rename_i a b
    refine ⟨Nat.le_of_ble_eq_true rfl, wp_ok (tbX12_move_ok l) Q (fun pc => false) 42 0 _ [] S ?_⟩
    show wp cX12_move tbX12_move 3 (some .boolean) Q (fun pc => false) (aGo l mX12_move Q) 42 0 [(0, .inr (.inr 245)), (1, .inl a), (2, .inl b)] [] S
    simp only [wp_s, wpC_f, wpC_t, e_wLd, e_wLd0, e_wLd1, e_wLd2, e_get1, e_get2, e_wJ, e_wJo, f40, f41, f42, f43, Nat.reduceAdd, Nat.reduceBEq, Nat.reduceMul, eq_self, true_or, or_true, true_and, dX12_move_0, dX12_move_1, dX12_move_2, dX12_move_5, dX12_move_8, dX12_move_9, dX12_move_10, dX12_move_13, dX12_move_14, dX12_move_15, dX12_move_18, dX12_move_21, dX12_move_22, dX12_move_25, dX12_move_26, dX12_move_27, dX12_move_28, dX12_move_31, dX12_move_32, dX12_move_33, dX12_move_36, dX12_move_37, dX12_move_38, dX12_move_39, dX12_move_42, dX12_move_45, dX12_move_46, dX12_move_49, dX12_move_50, dX12_move_51, dX12_move_52, dX12_move_55, dX12_move_56, dX12_move_57, dX12_move_58, dX12_move_61, dX12_move_62, dX12_move_63, dX12_move_64, dX12_move_65, e_aload_n, e_iload_n, e_iconst, e_ifCond, e_if_icmp, e_getfield, e_iaload, e_iastore, e_invokevirtual, e_ireturn, e_ri, e_rz, e_wIc_ne, e_wIc_eq, e_wIf_ne, e_wIf_eq, fX12_76, fX12_79, ic_0, ic_1, ic_m1, jt_10_35, jt_18_37, jt_33_22, jt_42_13, jt_52_5, jt_5_50, e_call, e_callS0, e_callS1, e_callS2, e_callS3, e_callS4, e_pop0, e_pop1, e_tl0, e_tl1, tbX12_move_f, tbX12_move_p, tbX12_move_k, tbX12_move_c186, tbX12_move_c193, l_268, s_268, g_245_28, g_245_27, l_267, s_267, cv_245_0, cv_245_1, cv_245_2, cv_245_3, cv_245_4, spX12_isWithin, spX12_isSense, bi_0, bi_1, ne_eq, Classical.not_not, em_r, em_l]
    obtain ⟨h0, hA, hB⟩ := h
    repeat' (with_reducible first | intro _ | refine And.intro ?_ ?_)
    all_goals first
      | omega
      | exact h0 (by assumption)
      | exact hA (fun z => absurd z.1 (by assumption))
      | exact hA (fun z => absurd (by assumption) z.2.2)
      | exact hA (fun z => z.2.1.elim (by omega) (fun y => absurd y.1 (by assumption)))
      | exact hA (fun z => z.2.1.elim (by omega) (fun y => absurd y.2.1 (by assumption)))
      | exact hA (fun z => z.2.1.elim (by omega) (fun y => absurd (by assumption) y.2.2))
      | exact hB ⟨by assumption, Or.inl (by assumption), by assumption⟩
      | exact hB ⟨by assumption, Or.inr ⟨by assumption, by assumption, by assumption⟩, by assumption⟩
      | skip
  · exact h.elim
/-- pointer b is gone, those behind it come one down -/
def rmM (S : aS) (b : Int) : aS := upI (stA (stA S 269 (fun j => if b ≤ (j : Int) ∧ (j : Int) < S.1 245 29 - 1 then S.1 269 (j + 1) else S.1 269 j)) 270 (fun j => if b ≤ (j : Int) ∧ (j : Int) < S.1 245 29 - 1 then S.1 270 (j + 1) else S.1 270 j)) 245 29 (S.1 245 29 - 1)
def spX12_removes : aSp := fun as S Q => match as with
  | [.inr (.inr 245), .inl b] => S.1 245 29 ≤ 20 ∧ 0 ≤ b ∧ b < S.1 245 29 ∧ Q none (rmM S b)
  | _ => False
def tbX12_removes : aTb := (fX12, pX12, fun j => lk [] j, kX12)
theorem tbX12_removes_f : tbX12_removes.1 = fX12 := rfl
theorem tbX12_removes_p : tbX12_removes.2.1 = pX12 := rfl
theorem tbX12_removes_k : tbX12_removes.2.2.2 = kX12 := rfl
theorem tbX12_removes_all (l : Launch) : ∀ e ∈ ([] : List (Nat × Option Nat × Nat × aSp)), cOK l mX12_removes e.1 e.2.1 e.2.2.1 e.2.2.2 ∨ mOK mX12_removes e.1 e.2.1 e.2.2.1 e.2.2.2 := all_nil
theorem tbX12_removes_ok (l : Launch) : tOK l mX12_removes tbX12_removes := ⟨fX12_ok, pX12_ok, fun _ _ _ _ h => tbX12_removes_all l _ (lk_mem h), kX12_ok⟩
set_option maxRecDepth 20000 in
set_option maxHeartbeats 4000000 in
theorem lpX12_removes (l : Launch) (Q : Option aV → aS → Prop) : ∀ (n : Nat) (S : aS) (b : Int) (i : Nat), i + n = max i (S.1 245 29).toNat → Q (none) (stA (stA S 269 (fun j => if i ≤ (j : Int) ∧ (j : Int) < S.1 245 29 then S.1 269 (j + 1) else S.1 269 j)) 270 (fun j => if i ≤ (j : Int) ∧ (j : Int) < S.1 245 29 then S.1 270 (j + 1) else S.1 270 j)) → S.1 245 29 < 20 → aGo l mX12_removes Q 12 [(0, .inr (.inr 245)), (1, .inl b), (2, .inl (i : Int))] [] S := by
  intro n
  induction n using Nat.strongRecOn with
  | _ n ih =>
  intro S  b  i  h0 h1 h2
  refine wp_go (tbX12_removes_ok l) (fun pc => pc == 12) 37 dX12_removes_12 ?_
  show ws1 tbX12_removes 3 none Q (wp cX12_removes tbX12_removes 3 none Q (fun pc => pc == 12) (aGo l mX12_removes Q) 37) (.iload_n 2) 1 12 [(0, .inr (.inr 245)), (1, .inl b), (2, .inl (i : Int))] [] S
  simp only [wp_s, wpC_f, wpC_t, e_wLd, e_wLd0, e_wLd1, e_wLd2, e_get1, e_get2, e_wJ, e_wJo, f40, f41, f42, f43, Nat.reduceAdd, Nat.reduceBEq, Nat.reduceMul, eq_self, true_or, or_true, true_and, dX12_removes_0, dX12_removes_1, dX12_removes_2, dX12_removes_5, dX12_removes_6, dX12_removes_7, dX12_removes_10, dX12_removes_11, dX12_removes_12, dX12_removes_13, dX12_removes_14, dX12_removes_17, dX12_removes_20, dX12_removes_21, dX12_removes_24, dX12_removes_25, dX12_removes_26, dX12_removes_29, dX12_removes_30, dX12_removes_31, dX12_removes_32, dX12_removes_33, dX12_removes_34, dX12_removes_35, dX12_removes_38, dX12_removes_39, dX12_removes_40, dX12_removes_43, dX12_removes_44, dX12_removes_45, dX12_removes_46, dX12_removes_47, dX12_removes_48, dX12_removes_51, dX12_removes_54, e_aload_n, e_iload_n, e_istore_n, e_iconst, e_iadd, e_isub, e_iinc, e_if_icmp, e_goto, e_getfield, e_putfield, e_iaload, e_iastore, e_return_, e_wSt0, e_wSt1, e_wSt2, e_isL0, e_isL1, e_isL2, e_lset, e_lclr0, e_lclr1, e_lclr2, e_lput0, e_lput1, e_lput2, e_wInc, e_wInc0, Nat.reduceLT, not_false_eq_true, Bool.or_false, Bool.false_or, Bool.or_true, Bool.true_or, Bool.and_false, Bool.false_and, Bool.and_true, Bool.true_and, e_wI2, e_rv, e_wIc_ge, fX12_196, fX12_82, fX12_85, ic_1, jt_17_37, jt_51_m39, pX12_196, tbX12_removes_f, tbX12_removes_p, tbX12_removes_k, g_245_31, l_270, s_270, p_245_29, g_245_30, g_245_29, l_269, s_269]
  repeat' (with_reducible first | intro _ | refine And.intro ?_ ?_)
  all_goals (try simp (disch := omega) only [wI_id, Int.toNat_natCast] at *)
  all_goals first
    | omega
    | (refine Eq.mp (congrArg (Q (none)) ?_) h1; (refine st_ext (fun x y => ?_) (fun x y => ?_) <;> (try simp only [stA, upI, upL, up2]) <;> (repeat' split) <;> first | rfl | omega | (simp_all; done) | (simp_all; omega) | (have hq : y = i := (by omega); subst hq; first | rfl | omega | (simp_all; done) | (simp_all; omega)) | (congr 2 <;> omega) | (congr 3 <;> omega)); done)
    | (refine ih (n - 1) (by omega) _ b (i + 1) ?_ ?_ ?_ <;> first | omega | (simp only [up_hit, up_obj, upL_hit, upL_obj, up_2, upL_1, Int.toNat_natCast, stA, upI, upL, up2]; first | omega | (simp; omega)) | (refine Eq.mp (congrArg (Q (none)) ?_) h1; (refine st_ext (fun x y => ?_) (fun x y => ?_) <;> (try simp only [stA, upI, upL, up2]) <;> (repeat' split) <;> first | rfl | omega | (simp_all; done) | (simp_all; omega) | (have hq : y = i := (by omega); subst hq; first | rfl | omega | (simp_all; done) | (simp_all; omega)) | (congr 2 <;> omega) | (congr 3 <;> omega)); done))
    | skip
set_option maxRecDepth 20000 in
set_option maxHeartbeats 4000000 in
theorem okX12_removes (l : Launch) : aOK l mX12_removes spX12_removes := by
  refine aOK_of rfl fun as S Q h => ?_
  unfold spX12_removes at h
  split at h
  · rename_i b
    refine ⟨Nat.le_of_ble_eq_true rfl, wp_ok (tbX12_removes_ok l) Q (fun pc => pc == 12) 37 0 _ [] S ?_⟩
    show wp cX12_removes tbX12_removes 3 none Q (fun pc => pc == 12) (aGo l mX12_removes Q) 37 0 [(0, .inr (.inr 245)), (1, .inl b)] [] S
    simp only [wp_s, wpC_f, wpC_t, e_wLd, e_wLd0, e_wLd1, e_wLd2, e_get1, e_get2, e_wJ, e_wJo, f40, f41, f42, f43, Nat.reduceAdd, Nat.reduceBEq, Nat.reduceMul, eq_self, true_or, or_true, true_and, dX12_removes_0, dX12_removes_1, dX12_removes_2, dX12_removes_5, dX12_removes_6, dX12_removes_7, dX12_removes_10, dX12_removes_11, dX12_removes_12, dX12_removes_13, dX12_removes_14, dX12_removes_17, dX12_removes_20, dX12_removes_21, dX12_removes_24, dX12_removes_25, dX12_removes_26, dX12_removes_29, dX12_removes_30, dX12_removes_31, dX12_removes_32, dX12_removes_33, dX12_removes_34, dX12_removes_35, dX12_removes_38, dX12_removes_39, dX12_removes_40, dX12_removes_43, dX12_removes_44, dX12_removes_45, dX12_removes_46, dX12_removes_47, dX12_removes_48, dX12_removes_51, dX12_removes_54, e_aload_n, e_iload_n, e_istore_n, e_iconst, e_iadd, e_isub, e_iinc, e_if_icmp, e_goto, e_getfield, e_putfield, e_iaload, e_iastore, e_return_, e_wSt0, e_wSt1, e_wSt2, e_isL0, e_isL1, e_isL2, e_lset, e_lclr0, e_lclr1, e_lclr2, e_lput0, e_lput1, e_lput2, e_wInc, e_wInc0, Nat.reduceLT, not_false_eq_true, Bool.or_false, Bool.false_or, Bool.or_true, Bool.true_or, Bool.and_false, Bool.false_and, Bool.and_true, Bool.true_and, e_wI2, e_rv, e_wIc_ge, fX12_196, fX12_82, fX12_85, ic_1, jt_17_37, jt_51_m39, pX12_196, tbX12_removes_f, tbX12_removes_p, tbX12_removes_k, g_245_31, l_270, s_270, p_245_29, g_245_30, g_245_29, l_269, s_269]
    obtain ⟨h0, h1, h2, h3⟩ := h
    repeat' (with_reducible first | intro _ | refine And.intro ?_ ?_)
    all_goals (try simp (disch := omega) only [wI_id, up_hit, up_obj, upL_hit, upL_obj, up_2, upL_1, Int.toNat_natCast])
    all_goals first
      | omega
      | (obtain ⟨i, rfl⟩ : ∃ i : Nat, b = i := ⟨b.toNat, by omega⟩
         refine lpX12_removes l Q (max i ((upI S 245 29 (S.1 245 29 - 1)).1 245 29).toNat - i) _ i i (by omega) (Eq.mp (congrArg (Q none) ?_) h3) (by rw [up_hit]; omega)
         unfold rmM
         refine st_ext (fun x y => ?_) (fun x y => ?_)
         · simp only [stA, upI, up2]
           by_cases hx : x = 245 <;> by_cases hx2 : x = 269 <;> by_cases hx3 : x = 270 <;> simp_all <;> omega
         · rfl)
      | skip
  · exact h.elim
noncomputable def gg0 (a : Int) (k : Nat) (S : aS) : aS := @ite _ (S.1 270 k = a) (Classical.propDecidable _) (upI S 270 k (-1)) S
noncomputable def gg1 (a : Int) (k : Nat) (S : aS) : aS := @ite _ (S.1 269 k = a) (Classical.propDecidable _) (rmM (gg0 a k S) k) (gg0 a k S)
noncomputable def ggP (a : Int) : Nat → aS → aS
  | 0, S => S
  | k + 1, S => ggP a k (gg1 a k S)
theorem rmM_sz {S : aS} {b : Int} : (rmM S b).1 245 29 = S.1 245 29 - 1 := up_hit
def spX12_goes : aSp := fun as S Q => match as with
  | [.inr (.inr 245), .inl a] => (0 ≤ a ∧ a < 40) ∧ 0 ≤ S.1 245 29 ∧ S.1 245 29 ≤ 20 ∧ Q none (ggP a (S.1 245 29).toNat (upI S 266 a.toNat 0))
  | _ => False
def tbX12_goes : aTb := (fX12, pX12, fun j => lk [(199, (some 12), 2, spX12_removes)] j, kX12)
theorem tbX12_goes_f : tbX12_goes.1 = fX12 := rfl
theorem tbX12_goes_p : tbX12_goes.2.1 = pX12 := rfl
theorem tbX12_goes_k : tbX12_goes.2.2.2 = kX12 := rfl
theorem tbX12_goes_c199 : tbX12_goes.2.2.1 199 = some ((some 12), 2, spX12_removes) := rfl
theorem tbX12_goes_all (l : Launch) : ∀ e ∈ ([(199, (some 12), 2, spX12_removes)] : List (Nat × Option Nat × Nat × aSp)), cOK l mX12_goes e.1 e.2.1 e.2.2.1 e.2.2.2 ∨ mOK mX12_goes e.1 e.2.1 e.2.2.1 e.2.2.2 := all_cons (cOK_of (okX12_removes l) meX12_removes cfX12_199 (by decide) (by decide)) (all_nil)
theorem tbX12_goes_ok (l : Launch) : tOK l mX12_goes tbX12_goes := ⟨fX12_ok, pX12_ok, fun _ _ _ _ h => tbX12_goes_all l _ (lk_mem h), kX12_ok⟩
set_option maxRecDepth 20000 in
set_option maxHeartbeats 4000000 in
theorem lpX12_goes (l : Launch) (Q : Option aV → aS → Prop) : ∀ (n : Nat) (S : aS) (a : Int), (n : Int) ≤ S.1 245 29 → S.1 245 29 ≤ 20 → Q none (ggP a n S) → aGo l mX12_goes Q 14 [(0, .inr (.inr 245)), (1, .inl a), (2, .inl ((n : Int) - 1))] [] S := by
  intro n
  induction n using Nat.strongRecOn with
  | _ n ih =>
  intro S  a  h0 h1 h2
  refine wp_go (tbX12_goes_ok l) (fun pc => pc == 14) 37 dX12_goes_14 ?_
  show ws1 tbX12_goes 3 none Q (wp cX12_goes tbX12_goes 3 none Q (fun pc => pc == 14) (aGo l mX12_goes Q) 37) (.iload_n 2) 1 14 [(0, .inr (.inr 245)), (1, .inl a), (2, .inl ((n : Int) - 1))] [] S
  simp only [wp_s, wpC_f, wpC_t, e_wLd, e_wLd0, e_wLd1, e_wLd2, e_get1, e_get2, e_wJ, e_wJo, f40, f41, f42, f43, Nat.reduceAdd, Nat.reduceBEq, Nat.reduceMul, eq_self, true_or, or_true, true_and, dX12_goes_0, dX12_goes_1, dX12_goes_4, dX12_goes_5, dX12_goes_6, dX12_goes_7, dX12_goes_8, dX12_goes_11, dX12_goes_12, dX12_goes_13, dX12_goes_14, dX12_goes_15, dX12_goes_18, dX12_goes_19, dX12_goes_22, dX12_goes_23, dX12_goes_24, dX12_goes_25, dX12_goes_28, dX12_goes_29, dX12_goes_32, dX12_goes_33, dX12_goes_34, dX12_goes_35, dX12_goes_36, dX12_goes_39, dX12_goes_40, dX12_goes_41, dX12_goes_42, dX12_goes_45, dX12_goes_46, dX12_goes_47, dX12_goes_50, dX12_goes_53, dX12_goes_56, e_aload_n, e_iload_n, e_istore_n, e_iconst, e_isub, e_iinc, e_ifCond, e_if_icmp, e_goto, e_getfield, e_iaload, e_iastore, e_bastore, e_invokevirtual, e_return_, e_wSt0, e_wSt1, e_wSt2, e_isL0, e_isL1, e_isL2, e_lset, e_lclr0, e_lclr1, e_lclr2, e_lput0, e_lput1, e_lput2, e_wInc, e_wInc0, Nat.reduceLT, not_false_eq_true, Bool.or_false, Bool.false_or, Bool.or_true, Bool.true_or, Bool.and_false, Bool.false_and, Bool.and_true, Bool.true_and, e_rv, e_wI2, e_wIf_lt, e_wIc_ne, fX12_196, fX12_73, fX12_82, fX12_85, ic_0, ic_1, ic_m1, jt_15_41, jt_25_10, jt_42_8, jt_53_m39, e_call, e_callS0, e_callS1, e_callS2, e_callS3, e_callS4, e_pop0, e_pop1, e_tl0, e_tl1, tbX12_goes_f, tbX12_goes_p, tbX12_goes_k, tbX12_goes_c199, g_245_31, l_270, s_270, l_266, s_266, g_245_30, g_245_26, cv_245_0, cv_245_1, cv_245_2, cv_245_3, cv_245_4, g_245_29, l_269, s_269, spX12_removes]
  rcases n with _ | n
  · exact ⟨fun _ => h2, fun q => absurd q (by omega)⟩
  · rw [show ((n + 1 : Nat) : Int) - 1 = (n : Int) from by omega]
    simp (disch := omega) only [wI_id, Int.toNat_natCast]
    have h2' : Q none (ggP a n (gg1 a n S)) := h2
    unfold gg1 gg0 at h2'
    have e29 : (upI S 270 n (-1)).1 245 29 = S.1 245 29 := up_obj (by decide)
    refine ⟨fun q => absurd q (by omega), fun _ => ⟨by omega, by omega, fun q => ⟨by omega, by omega, fun q2 => ?_, fun q2 => ⟨h1, by omega, by omega, ?_⟩⟩, fun q => ⟨by omega, by omega, by omega, by omega, fun q2 => ?_, fun q2 => ⟨by rw [e29]; exact h1, by omega, by rw [e29]; omega, ?_⟩⟩⟩⟩
    · rw [if_neg q, if_neg q2] at h2'
      exact ih n (by omega) S a (by omega) h1 h2'
    · rw [if_neg q, if_pos q2] at h2'
      exact ih n (by omega) _ a (by rw [rmM_sz]; omega) (by rw [rmM_sz]; omega) h2'
    · rw [if_pos q] at h2'
      have q2' : ¬ S.1 269 n = a := by rw [up_obj (by decide)] at q2; exact q2
      rw [if_neg q2'] at h2'
      exact ih n (by omega) _ a (by rw [e29]; omega) (by rw [e29]; exact h1) h2'
    · rw [if_pos q] at h2'
      have q2' : S.1 269 n = a := by rw [up_obj (by decide)] at q2; exact q2
      rw [if_pos q2'] at h2'
      exact ih n (by omega) _ a (by rw [rmM_sz, e29]; omega) (by rw [rmM_sz, e29]; omega) h2'
set_option maxRecDepth 20000 in
set_option maxHeartbeats 4000000 in
theorem okX12_goes (l : Launch) : aOK l mX12_goes spX12_goes := by
  refine aOK_of rfl fun as S Q h => ?_
  unfold spX12_goes at h
  split at h
  · rename_i a
    refine ⟨Nat.le_of_ble_eq_true rfl, wp_ok (tbX12_goes_ok l) Q (fun pc => pc == 14) 37 0 _ [] S ?_⟩
    show wp cX12_goes tbX12_goes 3 none Q (fun pc => pc == 14) (aGo l mX12_goes Q) 37 0 [(0, .inr (.inr 245)), (1, .inl a)] [] S
    simp only [wp_s, wpC_f, wpC_t, e_wLd, e_wLd0, e_wLd1, e_wLd2, e_get1, e_get2, e_wJ, e_wJo, f40, f41, f42, f43, Nat.reduceAdd, Nat.reduceBEq, Nat.reduceMul, eq_self, true_or, or_true, true_and, dX12_goes_0, dX12_goes_1, dX12_goes_4, dX12_goes_5, dX12_goes_6, dX12_goes_7, dX12_goes_8, dX12_goes_11, dX12_goes_12, dX12_goes_13, dX12_goes_14, dX12_goes_15, dX12_goes_18, dX12_goes_19, dX12_goes_22, dX12_goes_23, dX12_goes_24, dX12_goes_25, dX12_goes_28, dX12_goes_29, dX12_goes_32, dX12_goes_33, dX12_goes_34, dX12_goes_35, dX12_goes_36, dX12_goes_39, dX12_goes_40, dX12_goes_41, dX12_goes_42, dX12_goes_45, dX12_goes_46, dX12_goes_47, dX12_goes_50, dX12_goes_53, dX12_goes_56, e_aload_n, e_iload_n, e_istore_n, e_iconst, e_isub, e_iinc, e_ifCond, e_if_icmp, e_goto, e_getfield, e_iaload, e_iastore, e_bastore, e_invokevirtual, e_return_, e_wSt0, e_wSt1, e_wSt2, e_isL0, e_isL1, e_isL2, e_lset, e_lclr0, e_lclr1, e_lclr2, e_lput0, e_lput1, e_lput2, e_wInc, e_wInc0, Nat.reduceLT, not_false_eq_true, Bool.or_false, Bool.false_or, Bool.or_true, Bool.true_or, Bool.and_false, Bool.false_and, Bool.and_true, Bool.true_and, e_rv, e_wI2, e_wIf_lt, e_wIc_ne, fX12_196, fX12_73, fX12_82, fX12_85, ic_0, ic_1, ic_m1, jt_15_41, jt_25_10, jt_42_8, jt_53_m39, e_call, e_callS0, e_callS1, e_callS2, e_callS3, e_callS4, e_pop0, e_pop1, e_tl0, e_tl1, tbX12_goes_f, tbX12_goes_p, tbX12_goes_k, tbX12_goes_c199, g_245_31, l_270, s_270, l_266, s_266, g_245_30, g_245_26, cv_245_0, cv_245_1, cv_245_2, cv_245_3, cv_245_4, g_245_29, l_269, s_269]
    obtain ⟨hab, h0, h1, h2⟩ := h
    have e29 : (upI S 266 a.toNat 0).1 245 29 = S.1 245 29 := up_obj (by decide)
    have e := lpX12_goes l Q (S.1 245 29).toNat (upI S 266 a.toNat 0) a (by rw [e29]; omega) (by rw [e29]; exact h1) h2
    rw [show (((S.1 245 29).toNat : Nat) : Int) - 1 = S.1 245 29 - 1 from by omega] at e
    simp only [narZ_0, e29]
    simp (disch := omega) only [wI_id]
    exact ⟨hab.1, hab.2, e⟩
  · exact h.elim
