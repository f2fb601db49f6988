/-! THE REFERENCE: reads -/
def spX12_isBook : aSp := fun as S Q => match as with
  | [.inr (.inr 245), .inl b] => Q (some (.inl (bi (0 ≤ b ∧ b < S.1 245 3)))) S
  | _ => False
def tbX12_isBook : aTb := (fX12, pX12, fun j => lk [] j, kX12)
theorem tbX12_isBook_f : tbX12_isBook.1 = fX12 := rfl
theorem tbX12_isBook_p : tbX12_isBook.2.1 = pX12 := rfl
theorem tbX12_isBook_k : tbX12_isBook.2.2.2 = kX12 := rfl
theorem tbX12_isBook_all (l : Launch) : ∀ e ∈ ([] : List (Nat × Option Nat × Nat × aSp)), cOK l mX12_isBook e.1 e.2.1 e.2.2.1 e.2.2.2 ∨ mOK mX12_isBook e.1 e.2.1 e.2.2.1 e.2.2.2 := all_nil
theorem tbX12_isBook_ok (l : Launch) : tOK l mX12_isBook tbX12_isBook := ⟨fX12_ok, pX12_ok, fun _ _ _ _ h => tbX12_isBook_all l _ (lk_mem h), kX12_ok⟩
set_option maxRecDepth 20000 in
set_option maxHeartbeats 4000000 in
theorem okX12_isBook (l : Launch) : aOK l mX12_isBook spX12_isBook := by
  refine aOK_of rfl fun as S Q h => ?_
  unfold spX12_isBook at h
  split at h
  · rename_i b
    refine ⟨Nat.le_of_ble_eq_true rfl, wp_ok (tbX12_isBook_ok l) Q (fun pc => false) 12 0 _ [] S ?_⟩
    show wp cX12_isBook tbX12_isBook 2 (some .boolean) Q (fun pc => false) (aGo l mX12_isBook Q) 12 0 [(0, .inr (.inr 245)), (1, .inl b)] [] S
    simp only [wp_s, wpC_f, wpC_t, e_wLd, e_wLd0, e_wLd1, e_wLd2, e_get1, e_get2, e_wJ, e_wJo, f40, f41, f42, f43, Nat.reduceAdd, Nat.reduceBEq, Nat.reduceMul, eq_self, true_or, or_true, true_and, dX12_isBook_0, dX12_isBook_1, dX12_isBook_4, dX12_isBook_5, dX12_isBook_6, dX12_isBook_9, dX12_isBook_12, dX12_isBook_13, dX12_isBook_16, dX12_isBook_17, e_aload_n, e_iload_n, e_iconst, e_ifCond, e_if_icmp, e_goto, e_getfield, e_ireturn, e_ri, e_rz, e_wIc_ge, e_wIf_lt, fX12_111, ic_0, ic_1, jt_13_4, jt_1_15, jt_9_7, tbX12_isBook_f, tbX12_isBook_p, tbX12_isBook_k, g_245_3]
    repeat' (with_reducible first | intro _ | refine And.intro ?_ ?_)
    all_goals first | exact h | (rw [bi_t (by omega)] at h; exact h) | (rw [bi_f (by omega)] at h; exact h) | omega
  · exact h.elim
def spX12_isSlip : aSp := fun as S Q => match as with
  | [.inr (.inr 245), .inl b] => Q (some (.inl (bi (0 ≤ b ∧ b < S.1 245 12)))) S
  | _ => False
def tbX12_isSlip : aTb := (fX12, pX12, fun j => lk [] j, kX12)
theorem tbX12_isSlip_f : tbX12_isSlip.1 = fX12 := rfl
theorem tbX12_isSlip_p : tbX12_isSlip.2.1 = pX12 := rfl
theorem tbX12_isSlip_k : tbX12_isSlip.2.2.2 = kX12 := rfl
theorem tbX12_isSlip_all (l : Launch) : ∀ e ∈ ([] : List (Nat × Option Nat × Nat × aSp)), cOK l mX12_isSlip e.1 e.2.1 e.2.2.1 e.2.2.2 ∨ mOK mX12_isSlip e.1 e.2.1 e.2.2.1 e.2.2.2 := all_nil
theorem tbX12_isSlip_ok (l : Launch) : tOK l mX12_isSlip tbX12_isSlip := ⟨fX12_ok, pX12_ok, fun _ _ _ _ h => tbX12_isSlip_all l _ (lk_mem h), kX12_ok⟩
set_option maxRecDepth 20000 in
set_option maxHeartbeats 4000000 in
theorem okX12_isSlip (l : Launch) : aOK l mX12_isSlip spX12_isSlip := by
  refine aOK_of rfl fun as S Q h => ?_
  unfold spX12_isSlip at h
  split at h
  · rename_i b
    refine ⟨Nat.le_of_ble_eq_true rfl, wp_ok (tbX12_isSlip_ok l) Q (fun pc => false) 12 0 _ [] S ?_⟩
    show wp cX12_isSlip tbX12_isSlip 2 (some .boolean) Q (fun pc => false) (aGo l mX12_isSlip Q) 12 0 [(0, .inr (.inr 245)), (1, .inl b)] [] S
    simp only [wp_s, wpC_f, wpC_t, e_wLd, e_wLd0, e_wLd1, e_wLd2, e_get1, e_get2, e_wJ, e_wJo, f40, f41, f42, f43, Nat.reduceAdd, Nat.reduceBEq, Nat.reduceMul, eq_self, true_or, or_true, true_and, dX12_isSlip_0, dX12_isSlip_1, dX12_isSlip_4, dX12_isSlip_5, dX12_isSlip_6, dX12_isSlip_9, dX12_isSlip_12, dX12_isSlip_13, dX12_isSlip_16, dX12_isSlip_17, e_aload_n, e_iload_n, e_iconst, e_ifCond, e_if_icmp, e_goto, e_getfield, e_ireturn, e_ri, e_rz, e_wIc_ge, e_wIf_lt, fX12_132, ic_0, ic_1, jt_13_4, jt_1_15, jt_9_7, tbX12_isSlip_f, tbX12_isSlip_p, tbX12_isSlip_k, g_245_12]
    repeat' (with_reducible first | intro _ | refine And.intro ?_ ?_)
    all_goals first | exact h | (rw [bi_t (by omega)] at h; exact h) | (rw [bi_f (by omega)] at h; exact h) | omega
  · exact h.elim
def spX12_isEntry : aSp := fun as S Q => match as with
  | [.inr (.inr 245), .inl b] => Q (some (.inl (bi (0 ≤ b ∧ b < S.1 245 13)))) S
  | _ => False
def tbX12_isEntry : aTb := (fX12, pX12, fun j => lk [] j, kX12)
theorem tbX12_isEntry_f : tbX12_isEntry.1 = fX12 := rfl
theorem tbX12_isEntry_p : tbX12_isEntry.2.1 = pX12 := rfl
theorem tbX12_isEntry_k : tbX12_isEntry.2.2.2 = kX12 := rfl
theorem tbX12_isEntry_all (l : Launch) : ∀ e ∈ ([] : List (Nat × Option Nat × Nat × aSp)), cOK l mX12_isEntry e.1 e.2.1 e.2.2.1 e.2.2.2 ∨ mOK mX12_isEntry e.1 e.2.1 e.2.2.1 e.2.2.2 := all_nil
theorem tbX12_isEntry_ok (l : Launch) : tOK l mX12_isEntry tbX12_isEntry := ⟨fX12_ok, pX12_ok, fun _ _ _ _ h => tbX12_isEntry_all l _ (lk_mem h), kX12_ok⟩
set_option maxRecDepth 20000 in
set_option maxHeartbeats 4000000 in
theorem okX12_isEntry (l : Launch) : aOK l mX12_isEntry spX12_isEntry := by
  refine aOK_of rfl fun as S Q h => ?_
  unfold spX12_isEntry at h
  split at h
  · rename_i b
    refine ⟨Nat.le_of_ble_eq_true rfl, wp_ok (tbX12_isEntry_ok l) Q (fun pc => false) 12 0 _ [] S ?_⟩
    show wp cX12_isEntry tbX12_isEntry 2 (some .boolean) Q (fun pc => false) (aGo l mX12_isEntry Q) 12 0 [(0, .inr (.inr 245)), (1, .inl b)] [] S
    simp only [wp_s, wpC_f, wpC_t, e_wLd, e_wLd0, e_wLd1, e_wLd2, e_get1, e_get2, e_wJ, e_wJo, f40, f41, f42, f43, Nat.reduceAdd, Nat.reduceBEq, Nat.reduceMul, eq_self, true_or, or_true, true_and, dX12_isEntry_0, dX12_isEntry_1, dX12_isEntry_4, dX12_isEntry_5, dX12_isEntry_6, dX12_isEntry_9, dX12_isEntry_12, dX12_isEntry_13, dX12_isEntry_16, dX12_isEntry_17, e_aload_n, e_iload_n, e_iconst, e_ifCond, e_if_icmp, e_goto, e_getfield, e_ireturn, e_ri, e_rz, e_wIc_ge, e_wIf_lt, fX12_145, ic_0, ic_1, jt_13_4, jt_1_15, jt_9_7, tbX12_isEntry_f, tbX12_isEntry_p, tbX12_isEntry_k, g_245_13]
    repeat' (with_reducible first | intro _ | refine And.intro ?_ ?_)
    all_goals first | exact h | (rw [bi_t (by omega)] at h; exact h) | (rw [bi_f (by omega)] at h; exact h) | omega
  · exact h.elim
def spX12_isEdition : aSp := fun as S Q => match as with
  | [.inr (.inr 245), .inl b] => Q (some (.inl (bi (0 ≤ b ∧ b < S.1 245 37)))) S
  | _ => False
def tbX12_isEdition : aTb := (fX12, pX12, fun j => lk [] j, kX12)
theorem tbX12_isEdition_f : tbX12_isEdition.1 = fX12 := rfl
theorem tbX12_isEdition_p : tbX12_isEdition.2.1 = pX12 := rfl
theorem tbX12_isEdition_k : tbX12_isEdition.2.2.2 = kX12 := rfl
theorem tbX12_isEdition_all (l : Launch) : ∀ e ∈ ([] : List (Nat × Option Nat × Nat × aSp)), cOK l mX12_isEdition e.1 e.2.1 e.2.2.1 e.2.2.2 ∨ mOK mX12_isEdition e.1 e.2.1 e.2.2.1 e.2.2.2 := all_nil
theorem tbX12_isEdition_ok (l : Launch) : tOK l mX12_isEdition tbX12_isEdition := ⟨fX12_ok, pX12_ok, fun _ _ _ _ h => tbX12_isEdition_all l _ (lk_mem h), kX12_ok⟩
set_option maxRecDepth 20000 in
set_option maxHeartbeats 4000000 in
theorem okX12_isEdition (l : Launch) : aOK l mX12_isEdition spX12_isEdition := by
  refine aOK_of rfl fun as S Q h => ?_
  unfold spX12_isEdition at h
  split at h
  · rename_i b
    refine ⟨Nat.le_of_ble_eq_true rfl, wp_ok (tbX12_isEdition_ok l) Q (fun pc => false) 12 0 _ [] S ?_⟩
    show wp cX12_isEdition tbX12_isEdition 2 (some .boolean) Q (fun pc => false) (aGo l mX12_isEdition Q) 12 0 [(0, .inr (.inr 245)), (1, .inl b)] [] S
    simp only [wp_s, wpC_f, wpC_t, e_wLd, e_wLd0, e_wLd1, e_wLd2, e_get1, e_get2, e_wJ, e_wJo, f40, f41, f42, f43, Nat.reduceAdd, Nat.reduceBEq, Nat.reduceMul, eq_self, true_or, or_true, true_and, dX12_isEdition_0, dX12_isEdition_1, dX12_isEdition_4, dX12_isEdition_5, dX12_isEdition_6, dX12_isEdition_9, dX12_isEdition_12, dX12_isEdition_13, dX12_isEdition_16, dX12_isEdition_17, e_aload_n, e_iload_n, e_iconst, e_ifCond, e_if_icmp, e_goto, e_getfield, e_ireturn, e_ri, e_rz, e_wIc_ge, e_wIf_lt, fX12_266, ic_0, ic_1, jt_13_4, jt_1_15, jt_9_7, tbX12_isEdition_f, tbX12_isEdition_p, tbX12_isEdition_k, g_245_37]
    repeat' (with_reducible first | intro _ | refine And.intro ?_ ?_)
    all_goals first | exact h | (rw [bi_t (by omega)] at h; exact h) | (rw [bi_f (by omega)] at h; exact h) | omega
  · exact h.elim
def spX12_isSense : aSp := fun as S Q => match as with
  | [.inr (.inr 245), .inl b] => Q (some (.inl (bi (0 ≤ b ∧ b < 40 ∧ ¬ S.1 266 b.toNat = 0)))) S
  | _ => False
def tbX12_isSense : aTb := (fX12, pX12, fun j => lk [] j, kX12)
theorem tbX12_isSense_f : tbX12_isSense.1 = fX12 := rfl
theorem tbX12_isSense_p : tbX12_isSense.2.1 = pX12 := rfl
theorem tbX12_isSense_k : tbX12_isSense.2.2.2 = kX12 := rfl
theorem tbX12_isSense_all (l : Launch) : ∀ e ∈ ([] : List (Nat × Option Nat × Nat × aSp)), cOK l mX12_isSense e.1 e.2.1 e.2.2.1 e.2.2.2 ∨ mOK mX12_isSense e.1 e.2.1 e.2.2.1 e.2.2.2 := all_nil
theorem tbX12_isSense_ok (l : Launch) : tOK l mX12_isSense tbX12_isSense := ⟨fX12_ok, pX12_ok, fun _ _ _ _ h => tbX12_isSense_all l _ (lk_mem h), kX12_ok⟩
set_option maxRecDepth 20000 in
set_option maxHeartbeats 4000000 in
theorem okX12_isSense (l : Launch) : aOK l mX12_isSense spX12_isSense := by
  refine aOK_of rfl fun as S Q h => ?_
  unfold spX12_isSense at h
  split at h
  · rename_i b
    refine ⟨Nat.le_of_ble_eq_true rfl, wp_ok (tbX12_isSense_ok l) Q (fun pc => false) 16 0 _ [] S ?_⟩
    show wp cX12_isSense tbX12_isSense 2 (some .boolean) Q (fun pc => false) (aGo l mX12_isSense Q) 16 0 [(0, .inr (.inr 245)), (1, .inl b)] [] S
    simp only [wp_s, wpC_f, wpC_t, e_wLd, e_wLd0, e_wLd1, e_wLd2, e_get1, e_get2, e_wJ, e_wJo, f40, f41, f42, f43, Nat.reduceAdd, Nat.reduceBEq, Nat.reduceMul, eq_self, true_or, or_true, true_and, dX12_isSense_0, dX12_isSense_1, dX12_isSense_4, dX12_isSense_5, dX12_isSense_7, dX12_isSense_10, dX12_isSense_11, dX12_isSense_14, dX12_isSense_15, dX12_isSense_16, dX12_isSense_19, dX12_isSense_20, dX12_isSense_23, dX12_isSense_24, e_aload_n, e_iload_n, e_iconst, e_bipush, e_ifCond, e_if_icmp, e_goto, e_getfield, e_baload, e_ireturn, e_ri, e_rz, e_wIc_ge, e_wIf_eq, e_wIf_lt, bp_40, fX12_73, ic_0, ic_1, jt_16_7, jt_1_22, jt_20_4, jt_7_16, tbX12_isSense_f, tbX12_isSense_p, tbX12_isSense_k, l_266, g_245_26]
    repeat' (with_reducible first | intro _ | refine And.intro ?_ ?_)
    all_goals first | exact h | (rw [bi_t (by omega)] at h; exact h) | (rw [bi_f (by omega)] at h; exact h) | omega
  · exact h.elim
def spX12_isWordSize : aSp := fun as S Q => match as with
  | [.inr (.inr 245), .inl b] => Q (some (.inl (bi (1 ≤ b ∧ b ≤ 8 ∧ b ≤ S.1 245 2)))) S
  | _ => False
def tbX12_isWordSize : aTb := (fX12, pX12, fun j => lk [] j, kX12)
theorem tbX12_isWordSize_f : tbX12_isWordSize.1 = fX12 := rfl
theorem tbX12_isWordSize_p : tbX12_isWordSize.2.1 = pX12 := rfl
theorem tbX12_isWordSize_k : tbX12_isWordSize.2.2.2 = kX12 := rfl
theorem tbX12_isWordSize_all (l : Launch) : ∀ e ∈ ([] : List (Nat × Option Nat × Nat × aSp)), cOK l mX12_isWordSize e.1 e.2.1 e.2.2.1 e.2.2.2 ∨ mOK mX12_isWordSize e.1 e.2.1 e.2.2.1 e.2.2.2 := all_nil
theorem tbX12_isWordSize_ok (l : Launch) : tOK l mX12_isWordSize tbX12_isWordSize := ⟨fX12_ok, pX12_ok, fun _ _ _ _ h => tbX12_isWordSize_all l _ (lk_mem h), kX12_ok⟩
set_option maxRecDepth 20000 in
set_option maxHeartbeats 4000000 in
theorem okX12_isWordSize (l : Launch) : aOK l mX12_isWordSize spX12_isWordSize := by
  refine aOK_of rfl fun as S Q h => ?_
  unfold spX12_isWordSize at h
  split at h
  · rename_i b
    refine ⟨Nat.le_of_ble_eq_true rfl, wp_ok (tbX12_isWordSize_ok l) Q (fun pc => false) 16 0 _ [] S ?_⟩
    show wp cX12_isWordSize tbX12_isWordSize 2 (some .boolean) Q (fun pc => false) (aGo l mX12_isWordSize Q) 16 0 [(0, .inr (.inr 245)), (1, .inl b)] [] S
    simp only [wp_s, wpC_f, wpC_t, e_wLd, e_wLd0, e_wLd1, e_wLd2, e_get1, e_get2, e_wJ, e_wJo, f40, f41, f42, f43, Nat.reduceAdd, Nat.reduceBEq, Nat.reduceMul, eq_self, true_or, or_true, true_and, dX12_isWordSize_0, dX12_isWordSize_1, dX12_isWordSize_2, dX12_isWordSize_5, dX12_isWordSize_6, dX12_isWordSize_8, dX12_isWordSize_11, dX12_isWordSize_12, dX12_isWordSize_13, dX12_isWordSize_16, dX12_isWordSize_19, dX12_isWordSize_20, dX12_isWordSize_23, dX12_isWordSize_24, e_aload_n, e_iload_n, e_iconst, e_bipush, e_if_icmp, e_goto, e_getfield, e_ireturn, e_ri, e_rz, e_wIc_gt, e_wIc_lt, bp_8, fX12_103, ic_0, ic_1, jt_16_7, jt_20_4, jt_2_21, jt_8_15, tbX12_isWordSize_f, tbX12_isWordSize_p, tbX12_isWordSize_k, g_245_2]
    repeat' (with_reducible first | intro _ | refine And.intro ?_ ?_)
    all_goals first | exact h | (rw [bi_t (by omega)] at h; exact h) | (rw [bi_f (by omega)] at h; exact h) | omega
  · exact h.elim
def spX12_areYears : aSp := fun as S Q => match as with
  | [.inl a, .inl b] => Q (some (.inl (bi (1 ≤ a ∧ b ≤ 2000 ∧ a ≤ b)))) S
  | _ => False
def tbX12_areYears : aTb := (fX12, pX12, fun j => lk [] j, kX12)
theorem tbX12_areYears_f : tbX12_areYears.1 = fX12 := rfl
theorem tbX12_areYears_p : tbX12_areYears.2.1 = pX12 := rfl
theorem tbX12_areYears_k : tbX12_areYears.2.2.2 = kX12 := rfl
theorem tbX12_areYears_all (l : Launch) : ∀ e ∈ ([] : List (Nat × Option Nat × Nat × aSp)), cOK l mX12_areYears e.1 e.2.1 e.2.2.1 e.2.2.2 ∨ mOK mX12_areYears e.1 e.2.1 e.2.2.1 e.2.2.2 := all_nil
theorem tbX12_areYears_ok (l : Launch) : tOK l mX12_areYears tbX12_areYears := ⟨fX12_ok, pX12_ok, fun _ _ _ _ h => tbX12_areYears_all l _ (lk_mem h), kX12_ok⟩
set_option maxRecDepth 20000 in
set_option maxHeartbeats 4000000 in
theorem okX12_areYears (l : Launch) : aOK l mX12_areYears spX12_areYears := by
  refine aOK_of rfl fun as S Q h => ?_
  unfold spX12_areYears at h
  split at h
  · rename_i a b
    refine ⟨Nat.le_of_ble_eq_true rfl, wp_ok (tbX12_areYears_ok l) Q (fun pc => false) 15 0 _ [] S ?_⟩
    show wp cX12_areYears tbX12_areYears 2 (some .boolean) Q (fun pc => false) (aGo l mX12_areYears Q) 15 0 [(0, .inl a), (1, .inl b)] [] S
    simp only [wp_s, wpC_f, wpC_t, e_wLd, e_wLd0, e_wLd1, e_wLd2, e_get1, e_get2, e_wJ, e_wJo, f40, f41, f42, f43, Nat.reduceAdd, Nat.reduceBEq, Nat.reduceMul, eq_self, true_or, or_true, true_and, dX12_areYears_0, dX12_areYears_1, dX12_areYears_2, dX12_areYears_5, dX12_areYears_6, dX12_areYears_9, dX12_areYears_12, dX12_areYears_13, dX12_areYears_14, dX12_areYears_17, dX12_areYears_18, dX12_areYears_21, dX12_areYears_22, e_iload_n, e_iconst, e_sipush, e_if_icmp, e_goto, e_ireturn, e_ri, e_rz, e_wIc_gt, e_wIc_lt, ic_0, ic_1, jt_14_7, jt_18_4, jt_2_19, jt_9_12, sp_2000, tbX12_areYears_f, tbX12_areYears_p, tbX12_areYears_k]
    repeat' (with_reducible first | intro _ | refine And.intro ?_ ?_)
    all_goals first | exact h | (rw [bi_t (by omega)] at h; exact h) | (rw [bi_f (by omega)] at h; exact h) | omega
  · exact h.elim
def spX12_own : aSp := fun as S Q => match as with
  | [.inr (.inr 245), .inl a] => 0 ≤ S.1 245 12 ∧ S.1 245 12 ≤ 120 ∧ Q (some (.inl (cnt (fun j => S.1 257 j == a) (S.1 245 12).toNat))) S
  | _ => False
def tbX12_own : aTb := (fX12, pX12, fun j => lk [] j, kX12)
theorem tbX12_own_f : tbX12_own.1 = fX12 := rfl
theorem tbX12_own_p : tbX12_own.2.1 = pX12 := rfl
theorem tbX12_own_k : tbX12_own.2.2.2 = kX12 := rfl
theorem tbX12_own_all (l : Launch) : ∀ e ∈ ([] : List (Nat × Option Nat × Nat × aSp)), cOK l mX12_own e.1 e.2.1 e.2.2.1 e.2.2.2 ∨ mOK mX12_own e.1 e.2.1 e.2.2.1 e.2.2.2 := all_nil
theorem tbX12_own_ok (l : Launch) : tOK l mX12_own tbX12_own := ⟨fX12_ok, pX12_ok, fun _ _ _ _ h => tbX12_own_all l _ (lk_mem h), kX12_ok⟩
set_option maxRecDepth 20000 in
set_option maxHeartbeats 4000000 in
theorem lpX12_own (l : Launch) (Q : Option aV → aS → Prop) : ∀ (n : Nat) (S : aS) (a : Int) (i : Nat), i + n = (S.1 245 12).toNat → Q (some (.inl (cnt (fun j => S.1 257 j == a) ((S.1 245 12).toNat)))) S → S.1 245 12 ≤ 120 → aGo l mX12_own Q 4 [(0, .inr (.inr 245)), (1, .inl a), (2, .inl (cnt (fun j => S.1 257 j == a) i)), (3, .inl (i : Int))] [] S := by
  intro n
  induction n using Nat.strongRecOn with
  | _ n ih =>
  intro S  a  i  h0 h1 h2
  refine wp_go (tbX12_own_ok l) (fun pc => pc == 4) 26 dX12_own_4 ?_
  show ws1 tbX12_own 4 (some .int) Q (wp cX12_own tbX12_own 4 (some .int) Q (fun pc => pc == 4) (aGo l mX12_own Q) 26) (.iload_n 3) 1 4 [(0, .inr (.inr 245)), (1, .inl a), (2, .inl (cnt (fun j => S.1 257 j == a) i)), (3, .inl (i : Int))] [] S
  simp only [wp_s, wpC_f, wpC_t, e_wLd, e_wLd0, e_wLd1, e_wLd2, e_get1, e_get2, e_wJ, e_wJo, f40, f41, f42, f43, Nat.reduceAdd, Nat.reduceBEq, Nat.reduceMul, eq_self, true_or, or_true, true_and, dX12_own_0, dX12_own_1, dX12_own_2, dX12_own_3, dX12_own_4, dX12_own_5, dX12_own_6, dX12_own_9, dX12_own_12, dX12_own_13, dX12_own_14, dX12_own_17, dX12_own_18, dX12_own_19, dX12_own_20, dX12_own_23, dX12_own_24, dX12_own_27, dX12_own_28, dX12_own_29, dX12_own_30, dX12_own_33, dX12_own_36, dX12_own_37, e_aload_n, e_iload_n, e_istore_n, e_iconst, e_iadd, e_iinc, e_if_icmp, e_goto, e_getfield, e_iaload, e_ireturn, e_wSt0, e_wSt1, e_wSt2, e_isL0, e_isL1, e_isL2, e_lset, e_lclr0, e_lclr1, e_lclr2, e_lput0, e_lput1, e_lput2, e_wInc, e_wInc0, Nat.reduceLT, not_false_eq_true, Bool.or_false, Bool.false_or, Bool.or_true, Bool.true_or, Bool.and_false, Bool.false_and, Bool.and_true, Bool.true_and, e_wI2, e_ri, e_rz, e_wIc_ge, e_wIc_ne, fX12_132, fX12_45, ic_0, ic_1, jt_20_7, jt_24_4, jt_33_m29, jt_9_27, tbX12_own_f, tbX12_own_p, tbX12_own_k, g_245_17, g_245_12, l_257]
  have cb := cnt_b (fun j => S.1 257 j == a) i
  repeat' (with_reducible first | intro _ | refine And.intro ?_ ?_)
  all_goals (try simp (disch := omega) only [wI_id, Int.toNat_natCast, Int.add_zero] at *)
  all_goals first
    | omega
    | (rw [show (S.1 245 12).toNat = i from by omega] at h1; exact h1)
    | (have e := ih (n - 1) (by omega) S a (i + 1) (by omega) h1 h2; rw [cnt_f (by first | (simp_all; done) | (simp; omega))] at e; exact e)
    | (have e := ih (n - 1) (by omega) S a (i + 1) (by omega) h1 h2; rw [cnt_t (by first | (simp_all; done) | (simp; omega))] at e; exact e)
    | skip
set_option maxRecDepth 20000 in
set_option maxHeartbeats 4000000 in
theorem okX12_own (l : Launch) : aOK l mX12_own spX12_own := by
  refine aOK_of rfl fun as S Q h => ?_
  unfold spX12_own at h
  split at h
  · rename_i a
    refine ⟨Nat.le_of_ble_eq_true rfl, wp_ok (tbX12_own_ok l) Q (fun pc => pc == 4) 26 0 _ [] S ?_⟩
    show wp cX12_own tbX12_own 4 (some .int) Q (fun pc => pc == 4) (aGo l mX12_own Q) 26 0 [(0, .inr (.inr 245)), (1, .inl a)] [] S
    simp only [wp_s, wpC_f, wpC_t, e_wLd, e_wLd0, e_wLd1, e_wLd2, e_get1, e_get2, e_wJ, e_wJo, f40, f41, f42, f43, Nat.reduceAdd, Nat.reduceBEq, Nat.reduceMul, eq_self, true_or, or_true, true_and, dX12_own_0, dX12_own_1, dX12_own_2, dX12_own_3, dX12_own_4, dX12_own_5, dX12_own_6, dX12_own_9, dX12_own_12, dX12_own_13, dX12_own_14, dX12_own_17, dX12_own_18, dX12_own_19, dX12_own_20, dX12_own_23, dX12_own_24, dX12_own_27, dX12_own_28, dX12_own_29, dX12_own_30, dX12_own_33, dX12_own_36, dX12_own_37, e_aload_n, e_iload_n, e_istore_n, e_iconst, e_iadd, e_iinc, e_if_icmp, e_goto, e_getfield, e_iaload, e_ireturn, e_wSt0, e_wSt1, e_wSt2, e_isL0, e_isL1, e_isL2, e_lset, e_lclr0, e_lclr1, e_lclr2, e_lput0, e_lput1, e_lput2, e_wInc, e_wInc0, Nat.reduceLT, not_false_eq_true, Bool.or_false, Bool.false_or, Bool.or_true, Bool.true_or, Bool.and_false, Bool.false_and, Bool.and_true, Bool.true_and, e_wI2, e_ri, e_rz, e_wIc_ge, e_wIc_ne, fX12_132, fX12_45, ic_0, ic_1, jt_20_7, jt_24_4, jt_33_m29, jt_9_27, tbX12_own_f, tbX12_own_p, tbX12_own_k, g_245_17, g_245_12, l_257]
    exact lpX12_own l Q _ S a 0 (Nat.zero_add _) h.2.2 h.2.1
  · exact h.elim
def spX12_below : aSp := fun as S Q => match as with
  | [.inr (.inr 245), .inl a] => Q (some (.inl (cnt (fun j => S.1 266 j != 0 && S.1 268 j == a) 40))) S
  | _ => False
def tbX12_below : aTb := (fX12, pX12, fun j => lk [] j, kX12)
theorem tbX12_below_f : tbX12_below.1 = fX12 := rfl
theorem tbX12_below_p : tbX12_below.2.1 = pX12 := rfl
theorem tbX12_below_k : tbX12_below.2.2.2 = kX12 := rfl
theorem tbX12_below_all (l : Launch) : ∀ e ∈ ([] : List (Nat × Option Nat × Nat × aSp)), cOK l mX12_below e.1 e.2.1 e.2.2.1 e.2.2.2 ∨ mOK mX12_below e.1 e.2.1 e.2.2.1 e.2.2.2 := all_nil
theorem tbX12_below_ok (l : Launch) : tOK l mX12_below tbX12_below := ⟨fX12_ok, pX12_ok, fun _ _ _ _ h => tbX12_below_all l _ (lk_mem h), kX12_ok⟩
set_option maxRecDepth 20000 in
set_option maxHeartbeats 4000000 in
theorem lpX12_below (l : Launch) (Q : Option aV → aS → Prop) : ∀ (n : Nat) (S : aS) (a : Int) (i : Nat), i + n = 40 → Q (some (.inl (cnt (fun j => S.1 266 j != 0 && S.1 268 j == a) (40)))) S → True → aGo l mX12_below Q 4 [(0, .inr (.inr 245)), (1, .inl a), (2, .inl (cnt (fun j => S.1 266 j != 0 && S.1 268 j == a) i)), (3, .inl (i : Int))] [] S := by
  intro n
  induction n using Nat.strongRecOn with
  | _ n ih =>
  intro S  a  i  h0 h1 h2
  refine wp_go (tbX12_below_ok l) (fun pc => pc == 4) 30 dX12_below_4 ?_
  show ws1 tbX12_below 4 (some .int) Q (wp cX12_below tbX12_below 4 (some .int) Q (fun pc => pc == 4) (aGo l mX12_below Q) 30) (.iload_n 3) 1 4 [(0, .inr (.inr 245)), (1, .inl a), (2, .inl (cnt (fun j => S.1 266 j != 0 && S.1 268 j == a) i)), (3, .inl (i : Int))] [] S
  simp only [wp_s, wpC_f, wpC_t, e_wLd, e_wLd0, e_wLd1, e_wLd2, e_get1, e_get2, e_wJ, e_wJo, f40, f41, f42, f43, Nat.reduceAdd, Nat.reduceBEq, Nat.reduceMul, eq_self, true_or, or_true, true_and, dX12_below_0, dX12_below_1, dX12_below_2, dX12_below_3, dX12_below_4, dX12_below_5, dX12_below_7, dX12_below_10, dX12_below_11, dX12_below_12, dX12_below_15, dX12_below_16, dX12_below_17, dX12_below_20, dX12_below_21, dX12_below_24, dX12_below_25, dX12_below_26, dX12_below_27, dX12_below_30, dX12_below_31, dX12_below_34, dX12_below_35, dX12_below_36, dX12_below_37, dX12_below_40, dX12_below_43, dX12_below_44, e_aload_n, e_iload_n, e_istore_n, e_iconst, e_bipush, e_iadd, e_iinc, e_ifCond, e_if_icmp, e_goto, e_getfield, e_iaload, e_baload, e_ireturn, e_wSt0, e_wSt1, e_wSt2, e_isL0, e_isL1, e_isL2, e_lset, e_lclr0, e_lclr1, e_lclr2, e_lput0, e_lput1, e_lput2, e_wInc, e_wInc0, Nat.reduceLT, not_false_eq_true, Bool.or_false, Bool.false_or, Bool.or_true, Bool.true_or, Bool.and_false, Bool.false_and, Bool.and_true, Bool.true_and, e_wI2, e_ri, e_rz, e_wIc_ge, e_wIf_eq, e_wIc_ne, bp_40, fX12_73, fX12_79, ic_0, ic_1, jt_17_17, jt_27_7, jt_31_4, jt_40_m36, jt_7_36, tbX12_below_f, tbX12_below_p, tbX12_below_k, g_245_28, l_266, g_245_26, l_268]
  have cb := cnt_b (fun j => S.1 266 j != 0 && S.1 268 j == a) i
  repeat' (with_reducible first | intro _ | refine And.intro ?_ ?_)
  all_goals (try simp (disch := omega) only [wI_id, Int.toNat_natCast, Int.add_zero] at *)
  all_goals first
    | omega
    | (rw [show 40 = i from by omega] at h1; exact h1)
    | (have e := ih (n - 1) (by omega) S a (i + 1) (by omega) h1 h2; rw [cnt_f (by first | (simp_all; done) | (simp; omega))] at e; exact e)
    | (have e := ih (n - 1) (by omega) S a (i + 1) (by omega) h1 h2; rw [cnt_t (by first | (simp_all; done) | (simp; omega))] at e; exact e)
    | skip
set_option maxRecDepth 20000 in
set_option maxHeartbeats 4000000 in
theorem okX12_below (l : Launch) : aOK l mX12_below spX12_below := by
  refine aOK_of rfl fun as S Q h => ?_
  unfold spX12_below at h
  split at h
  · rename_i a
    refine ⟨Nat.le_of_ble_eq_true rfl, wp_ok (tbX12_below_ok l) Q (fun pc => pc == 4) 30 0 _ [] S ?_⟩
    show wp cX12_below tbX12_below 4 (some .int) Q (fun pc => pc == 4) (aGo l mX12_below Q) 30 0 [(0, .inr (.inr 245)), (1, .inl a)] [] S
    simp only [wp_s, wpC_f, wpC_t, e_wLd, e_wLd0, e_wLd1, e_wLd2, e_get1, e_get2, e_wJ, e_wJo, f40, f41, f42, f43, Nat.reduceAdd, Nat.reduceBEq, Nat.reduceMul, eq_self, true_or, or_true, true_and, dX12_below_0, dX12_below_1, dX12_below_2, dX12_below_3, dX12_below_4, dX12_below_5, dX12_below_7, dX12_below_10, dX12_below_11, dX12_below_12, dX12_below_15, dX12_below_16, dX12_below_17, dX12_below_20, dX12_below_21, dX12_below_24, dX12_below_25, dX12_below_26, dX12_below_27, dX12_below_30, dX12_below_31, dX12_below_34, dX12_below_35, dX12_below_36, dX12_below_37, dX12_below_40, dX12_below_43, dX12_below_44, e_aload_n, e_iload_n, e_istore_n, e_iconst, e_bipush, e_iadd, e_iinc, e_ifCond, e_if_icmp, e_goto, e_getfield, e_iaload, e_baload, e_ireturn, e_wSt0, e_wSt1, e_wSt2, e_isL0, e_isL1, e_isL2, e_lset, e_lclr0, e_lclr1, e_lclr2, e_lput0, e_lput1, e_lput2, e_wInc, e_wInc0, Nat.reduceLT, not_false_eq_true, Bool.or_false, Bool.false_or, Bool.or_true, Bool.true_or, Bool.and_false, Bool.false_and, Bool.and_true, Bool.true_and, e_wI2, e_ri, e_rz, e_wIc_ge, e_wIf_eq, e_wIc_ne, bp_40, fX12_73, fX12_79, ic_0, ic_1, jt_17_17, jt_27_7, jt_31_4, jt_40_m36, jt_7_36, tbX12_below_f, tbX12_below_p, tbX12_below_k, g_245_28, l_266, g_245_26, l_268]
    exact lpX12_below l Q _ S a 0 (Nat.zero_add _) h trivial
  · exact h.elim
def spX12_heap : aSp := fun as S Q => match as with
  | [.inr (.inr 245), .inl a] => 0 ≤ S.1 245 12 ∧ S.1 245 12 ≤ 120 ∧ Q (some (.inl (cnt (fun j => S.1 256 j == a && S.1 257 j == -1) (S.1 245 12).toNat))) S
  | _ => False
def tbX12_heap : aTb := (fX12, pX12, fun j => lk [] j, kX12)
theorem tbX12_heap_f : tbX12_heap.1 = fX12 := rfl
theorem tbX12_heap_p : tbX12_heap.2.1 = pX12 := rfl
theorem tbX12_heap_k : tbX12_heap.2.2.2 = kX12 := rfl
theorem tbX12_heap_all (l : Launch) : ∀ e ∈ ([] : List (Nat × Option Nat × Nat × aSp)), cOK l mX12_heap e.1 e.2.1 e.2.2.1 e.2.2.2 ∨ mOK mX12_heap e.1 e.2.1 e.2.2.1 e.2.2.2 := all_nil
theorem tbX12_heap_ok (l : Launch) : tOK l mX12_heap tbX12_heap := ⟨fX12_ok, pX12_ok, fun _ _ _ _ h => tbX12_heap_all l _ (lk_mem h), kX12_ok⟩
set_option maxRecDepth 20000 in
set_option maxHeartbeats 4000000 in
theorem lpX12_heap (l : Launch) (Q : Option aV → aS → Prop) : ∀ (n : Nat) (S : aS) (a : Int) (i : Nat), i + n = (S.1 245 12).toNat → Q (some (.inl (cnt (fun j => S.1 256 j == a && S.1 257 j == -1) ((S.1 245 12).toNat)))) S → S.1 245 12 ≤ 120 → aGo l mX12_heap Q 4 [(0, .inr (.inr 245)), (1, .inl a), (2, .inl (cnt (fun j => S.1 256 j == a && S.1 257 j == -1) i)), (3, .inl (i : Int))] [] S := by
  intro n
  induction n using Nat.strongRecOn with
  | _ n ih =>
  intro S  a  i  h0 h1 h2
  refine wp_go (tbX12_heap_ok l) (fun pc => pc == 4) 32 dX12_heap_4 ?_
  show ws1 tbX12_heap 4 (some .int) Q (wp cX12_heap tbX12_heap 4 (some .int) Q (fun pc => pc == 4) (aGo l mX12_heap Q) 32) (.iload_n 3) 1 4 [(0, .inr (.inr 245)), (1, .inl a), (2, .inl (cnt (fun j => S.1 256 j == a && S.1 257 j == -1) i)), (3, .inl (i : Int))] [] S
  simp only [wp_s, wpC_f, wpC_t, e_wLd, e_wLd0, e_wLd1, e_wLd2, e_get1, e_get2, e_wJ, e_wJo, f40, f41, f42, f43, Nat.reduceAdd, Nat.reduceBEq, Nat.reduceMul, eq_self, true_or, or_true, true_and, dX12_heap_0, dX12_heap_1, dX12_heap_2, dX12_heap_3, dX12_heap_4, dX12_heap_5, dX12_heap_6, dX12_heap_9, dX12_heap_12, dX12_heap_13, dX12_heap_14, dX12_heap_17, dX12_heap_18, dX12_heap_19, dX12_heap_20, dX12_heap_23, dX12_heap_24, dX12_heap_27, dX12_heap_28, dX12_heap_29, dX12_heap_30, dX12_heap_33, dX12_heap_34, dX12_heap_37, dX12_heap_38, dX12_heap_39, dX12_heap_40, dX12_heap_43, dX12_heap_46, dX12_heap_47, e_aload_n, e_iload_n, e_istore_n, e_iconst, e_iadd, e_iinc, e_if_icmp, e_goto, e_getfield, e_iaload, e_ireturn, e_wSt0, e_wSt1, e_wSt2, e_isL0, e_isL1, e_isL2, e_lset, e_lclr0, e_lclr1, e_lclr2, e_lput0, e_lput1, e_lput2, e_wInc, e_wInc0, Nat.reduceLT, not_false_eq_true, Bool.or_false, Bool.false_or, Bool.or_true, Bool.true_or, Bool.and_false, Bool.false_and, Bool.and_true, Bool.true_and, e_wI2, e_ri, e_rz, e_wIc_ge, e_wIc_ne, fX12_132, fX12_42, fX12_45, ic_0, ic_1, ic_m1, jt_20_17, jt_30_7, jt_34_4, jt_43_m39, jt_9_37, tbX12_heap_f, tbX12_heap_p, tbX12_heap_k, g_245_12, l_257, l_256, g_245_17, g_245_16]
  have cb := cnt_b (fun j => S.1 256 j == a && S.1 257 j == -1) i
  repeat' (with_reducible first | intro _ | refine And.intro ?_ ?_)
  all_goals (try simp (disch := omega) only [wI_id, Int.toNat_natCast, Int.add_zero] at *)
  all_goals first
    | omega
    | (rw [show (S.1 245 12).toNat = i from by omega] at h1; exact h1)
    | (have e := ih (n - 1) (by omega) S a (i + 1) (by omega) h1 h2; rw [cnt_f (by first | (simp_all; done) | (simp; omega))] at e; exact e)
    | (have e := ih (n - 1) (by omega) S a (i + 1) (by omega) h1 h2; rw [cnt_t (by first | (simp_all; done) | (simp; omega))] at e; exact e)
    | skip
set_option maxRecDepth 20000 in
set_option maxHeartbeats 4000000 in
theorem okX12_heap (l : Launch) : aOK l mX12_heap spX12_heap := by
  refine aOK_of rfl fun as S Q h => ?_
  unfold spX12_heap at h
  split at h
  · rename_i a
    refine ⟨Nat.le_of_ble_eq_true rfl, wp_ok (tbX12_heap_ok l) Q (fun pc => pc == 4) 32 0 _ [] S ?_⟩
    show wp cX12_heap tbX12_heap 4 (some .int) Q (fun pc => pc == 4) (aGo l mX12_heap Q) 32 0 [(0, .inr (.inr 245)), (1, .inl a)] [] S
    simp only [wp_s, wpC_f, wpC_t, e_wLd, e_wLd0, e_wLd1, e_wLd2, e_get1, e_get2, e_wJ, e_wJo, f40, f41, f42, f43, Nat.reduceAdd, Nat.reduceBEq, Nat.reduceMul, eq_self, true_or, or_true, true_and, dX12_heap_0, dX12_heap_1, dX12_heap_2, dX12_heap_3, dX12_heap_4, dX12_heap_5, dX12_heap_6, dX12_heap_9, dX12_heap_12, dX12_heap_13, dX12_heap_14, dX12_heap_17, dX12_heap_18, dX12_heap_19, dX12_heap_20, dX12_heap_23, dX12_heap_24, dX12_heap_27, dX12_heap_28, dX12_heap_29, dX12_heap_30, dX12_heap_33, dX12_heap_34, dX12_heap_37, dX12_heap_38, dX12_heap_39, dX12_heap_40, dX12_heap_43, dX12_heap_46, dX12_heap_47, e_aload_n, e_iload_n, e_istore_n, e_iconst, e_iadd, e_iinc, e_if_icmp, e_goto, e_getfield, e_iaload, e_ireturn, e_wSt0, e_wSt1, e_wSt2, e_isL0, e_isL1, e_isL2, e_lset, e_lclr0, e_lclr1, e_lclr2, e_lput0, e_lput1, e_lput2, e_wInc, e_wInc0, Nat.reduceLT, not_false_eq_true, Bool.or_false, Bool.false_or, Bool.or_true, Bool.true_or, Bool.and_false, Bool.false_and, Bool.and_true, Bool.true_and, e_wI2, e_ri, e_rz, e_wIc_ge, e_wIc_ne, fX12_132, fX12_42, fX12_45, ic_0, ic_1, ic_m1, jt_20_17, jt_30_7, jt_34_4, jt_43_m39, jt_9_37, tbX12_heap_f, tbX12_heap_p, tbX12_heap_k, g_245_12, l_257, l_256, g_245_17, g_245_16]
    exact lpX12_heap l Q _ S a 0 (Nat.zero_add _) h.2.2 h.2.1
  · exact h.elim
def spX12_loosePointers : aSp := fun as S Q => match as with
  | [.inr (.inr 245)] => 0 ≤ S.1 245 29 ∧ S.1 245 29 ≤ 20 ∧ Q (some (.inl (cnt (fun j => S.1 270 j == -1) (S.1 245 29).toNat))) S
  | _ => False
def tbX12_loosePointers : aTb := (fX12, pX12, fun j => lk [] j, kX12)
theorem tbX12_loosePointers_f : tbX12_loosePointers.1 = fX12 := rfl
theorem tbX12_loosePointers_p : tbX12_loosePointers.2.1 = pX12 := rfl
theorem tbX12_loosePointers_k : tbX12_loosePointers.2.2.2 = kX12 := rfl
theorem tbX12_loosePointers_all (l : Launch) : ∀ e ∈ ([] : List (Nat × Option Nat × Nat × aSp)), cOK l mX12_loosePointers e.1 e.2.1 e.2.2.1 e.2.2.2 ∨ mOK mX12_loosePointers e.1 e.2.1 e.2.2.1 e.2.2.2 := all_nil
theorem tbX12_loosePointers_ok (l : Launch) : tOK l mX12_loosePointers tbX12_loosePointers := ⟨fX12_ok, pX12_ok, fun _ _ _ _ h => tbX12_loosePointers_all l _ (lk_mem h), kX12_ok⟩
set_option maxRecDepth 20000 in
set_option maxHeartbeats 4000000 in
theorem lpX12_loosePointers (l : Launch) (Q : Option aV → aS → Prop) : ∀ (n : Nat) (S : aS) (i : Nat), i + n = (S.1 245 29).toNat → Q (some (.inl (cnt (fun j => S.1 270 j == -1) ((S.1 245 29).toNat)))) S → S.1 245 29 ≤ 20 → aGo l mX12_loosePointers Q 4 [(0, .inr (.inr 245)), (1, .inl (cnt (fun j => S.1 270 j == -1) i)), (2, .inl (i : Int))] [] S := by
  intro n
  induction n using Nat.strongRecOn with
  | _ n ih =>
  intro S  i  h0 h1 h2
  refine wp_go (tbX12_loosePointers_ok l) (fun pc => pc == 4) 26 dX12_loosePointers_4 ?_
  show ws1 tbX12_loosePointers 3 (some .int) Q (wp cX12_loosePointers tbX12_loosePointers 3 (some .int) Q (fun pc => pc == 4) (aGo l mX12_loosePointers Q) 26) (.iload_n 2) 1 4 [(0, .inr (.inr 245)), (1, .inl (cnt (fun j => S.1 270 j == -1) i)), (2, .inl (i : Int))] [] S
  simp only [wp_s, wpC_f, wpC_t, e_wLd, e_wLd0, e_wLd1, e_wLd2, e_get1, e_get2, e_wJ, e_wJo, f40, f41, f42, f43, Nat.reduceAdd, Nat.reduceBEq, Nat.reduceMul, eq_self, true_or, or_true, true_and, dX12_loosePointers_0, dX12_loosePointers_1, dX12_loosePointers_2, dX12_loosePointers_3, dX12_loosePointers_4, dX12_loosePointers_5, dX12_loosePointers_6, dX12_loosePointers_9, dX12_loosePointers_12, dX12_loosePointers_13, dX12_loosePointers_14, dX12_loosePointers_17, dX12_loosePointers_18, dX12_loosePointers_19, dX12_loosePointers_20, dX12_loosePointers_23, dX12_loosePointers_24, dX12_loosePointers_27, dX12_loosePointers_28, dX12_loosePointers_29, dX12_loosePointers_30, dX12_loosePointers_33, dX12_loosePointers_36, dX12_loosePointers_37, e_aload_n, e_iload_n, e_istore_n, e_iconst, e_iadd, e_iinc, e_if_icmp, e_goto, e_getfield, e_iaload, e_ireturn, e_wSt0, e_wSt1, e_wSt2, e_isL0, e_isL1, e_isL2, e_lset, e_lclr0, e_lclr1, e_lclr2, e_lput0, e_lput1, e_lput2, e_wInc, e_wInc0, Nat.reduceLT, not_false_eq_true, Bool.or_false, Bool.false_or, Bool.or_true, Bool.true_or, Bool.and_false, Bool.false_and, Bool.and_true, Bool.true_and, e_wI2, e_ri, e_rz, e_wIc_ge, e_wIc_ne, fX12_196, fX12_85, ic_0, ic_1, ic_m1, jt_20_7, jt_24_4, jt_33_m29, jt_9_27, tbX12_loosePointers_f, tbX12_loosePointers_p, tbX12_loosePointers_k, l_270, g_245_29, g_245_31]
  have cb := cnt_b (fun j => S.1 270 j == -1) i
  repeat' (with_reducible first | intro _ | refine And.intro ?_ ?_)
  all_goals (try simp (disch := omega) only [wI_id, Int.toNat_natCast, Int.add_zero] at *)
  all_goals first
    | omega
    | (rw [show (S.1 245 29).toNat = i from by omega] at h1; exact h1)
    | (have e := ih (n - 1) (by omega) S (i + 1) (by omega) h1 h2; rw [cnt_f (by first | (simp_all; done) | (simp; omega))] at e; exact e)
    | (have e := ih (n - 1) (by omega) S (i + 1) (by omega) h1 h2; rw [cnt_t (by first | (simp_all; done) | (simp; omega))] at e; exact e)
    | skip
set_option maxRecDepth 20000 in
set_option maxHeartbeats 4000000 in
theorem okX12_loosePointers (l : Launch) : aOK l mX12_loosePointers spX12_loosePointers := by
  refine aOK_of rfl fun as S Q h => ?_
  unfold spX12_loosePointers at h
  split at h
  · refine ⟨Nat.le_of_ble_eq_true rfl, wp_ok (tbX12_loosePointers_ok l) Q (fun pc => pc == 4) 26 0 _ [] S ?_⟩
    show wp cX12_loosePointers tbX12_loosePointers 3 (some .int) Q (fun pc => pc == 4) (aGo l mX12_loosePointers Q) 26 0 [(0, .inr (.inr 245))] [] S
    simp only [wp_s, wpC_f, wpC_t, e_wLd, e_wLd0, e_wLd1, e_wLd2, e_get1, e_get2, e_wJ, e_wJo, f40, f41, f42, f43, Nat.reduceAdd, Nat.reduceBEq, Nat.reduceMul, eq_self, true_or, or_true, true_and, dX12_loosePointers_0, dX12_loosePointers_1, dX12_loosePointers_2, dX12_loosePointers_3, dX12_loosePointers_4, dX12_loosePointers_5, dX12_loosePointers_6, dX12_loosePointers_9, dX12_loosePointers_12, dX12_loosePointers_13, dX12_loosePointers_14, dX12_loosePointers_17, dX12_loosePointers_18, dX12_loosePointers_19, dX12_loosePointers_20, dX12_loosePointers_23, dX12_loosePointers_24, dX12_loosePointers_27, dX12_loosePointers_28, dX12_loosePointers_29, dX12_loosePointers_30, dX12_loosePointers_33, dX12_loosePointers_36, dX12_loosePointers_37, e_aload_n, e_iload_n, e_istore_n, e_iconst, e_iadd, e_iinc, e_if_icmp, e_goto, e_getfield, e_iaload, e_ireturn, e_wSt0, e_wSt1, e_wSt2, e_isL0, e_isL1, e_isL2, e_lset, e_lclr0, e_lclr1, e_lclr2, e_lput0, e_lput1, e_lput2, e_wInc, e_wInc0, Nat.reduceLT, not_false_eq_true, Bool.or_false, Bool.false_or, Bool.or_true, Bool.true_or, Bool.and_false, Bool.false_and, Bool.and_true, Bool.true_and, e_wI2, e_ri, e_rz, e_wIc_ge, e_wIc_ne, fX12_196, fX12_85, ic_0, ic_1, ic_m1, jt_20_7, jt_24_4, jt_33_m29, jt_9_27, tbX12_loosePointers_f, tbX12_loosePointers_p, tbX12_loosePointers_k, l_270, g_245_29, g_245_31]
    exact lpX12_loosePointers l Q _ S 0 (Nat.zero_add _) h.2.2 h.2.1
  · exact h.elim
def spX12_octet : aSp := fun as S Q => match as with
  | [.inr (.inr 245), .inl i] => S.1 245 42 ≤ 20000 ∧ (0 ≤ i ∧ i < S.1 245 42 → Q (some (.inl (S.1 274 i.toNat))) S) ∧ (¬ (0 ≤ i ∧ i < S.1 245 42) → Q (some (.inl (-1))) S)
  | _ => False
def tbX12_octet : aTb := (fX12, pX12, fun j => lk [] j, kX12)
theorem tbX12_octet_f : tbX12_octet.1 = fX12 := rfl
theorem tbX12_octet_p : tbX12_octet.2.1 = pX12 := rfl
theorem tbX12_octet_k : tbX12_octet.2.2.2 = kX12 := rfl
theorem tbX12_octet_all (l : Launch) : ∀ e ∈ ([] : List (Nat × Option Nat × Nat × aSp)), cOK l mX12_octet e.1 e.2.1 e.2.2.1 e.2.2.2 ∨ mOK mX12_octet e.1 e.2.1 e.2.2.1 e.2.2.2 := all_nil
theorem tbX12_octet_ok (l : Launch) : tOK l mX12_octet tbX12_octet := ⟨fX12_ok, pX12_ok, fun _ _ _ _ h => tbX12_octet_all l _ (lk_mem h), kX12_ok⟩
set_option maxRecDepth 20000 in
set_option maxHeartbeats 4000000 in
theorem okX12_octet (l : Launch) : aOK l mX12_octet spX12_octet := by
  refine aOK_of rfl fun as S Q h => ?_
  unfold spX12_octet at h
  split at h
  · rename_i i
    refine ⟨Nat.le_of_ble_eq_true rfl, wp_ok (tbX12_octet_ok l) Q (fun pc => false) 15 0 _ [] S ?_⟩
    show wp cX12_octet tbX12_octet 2 (some .int) Q (fun pc => false) (aGo l mX12_octet Q) 15 0 [(0, .inr (.inr 245)), (1, .inl i)] [] S
    simp only [wp_s, wpC_f, wpC_t, e_wLd, e_wLd0, e_wLd1, e_wLd2, e_get1, e_get2, e_wJ, e_wJo, f40, f41, f42, f43, Nat.reduceAdd, Nat.reduceBEq, Nat.reduceMul, eq_self, true_or, or_true, true_and, dX12_octet_0, dX12_octet_1, dX12_octet_4, dX12_octet_5, dX12_octet_6, dX12_octet_9, dX12_octet_12, dX12_octet_13, dX12_octet_16, dX12_octet_17, dX12_octet_18, dX12_octet_21, dX12_octet_22, e_aload_n, e_iload_n, e_iconst, e_ifCond, e_if_icmp, e_goto, e_getfield, e_baload, e_ireturn, e_ri, e_rz, e_wIc_ge, e_wIf_lt, fX12_272, fX12_97, ic_m1, jt_18_4, jt_1_20, jt_9_12, tbX12_octet_f, tbX12_octet_p, tbX12_octet_k, g_245_41, g_245_42, l_274]
    obtain ⟨hs, h1, h2⟩ := h
    repeat' (with_reducible first | intro _ | refine And.intro ?_ ?_)
    all_goals first | omega | exact h1 (by omega) | exact h2 (by omega)
  · exact h.elim
def spX12_puts : aSp := fun as S Q => match as with
  | [.inr (.inr 245), .inl b] => 0 ≤ S.1 245 42 ∧ S.1 245 42 < 20000 ∧ Q none (upI (upI S 274 (S.1 245 42).toNat (narB (narB b))) 245 42 (S.1 245 42 + 1))
  | _ => False
def tbX12_puts : aTb := (fX12, pX12, fun j => lk [] j, kX12)
theorem tbX12_puts_f : tbX12_puts.1 = fX12 := rfl
theorem tbX12_puts_p : tbX12_puts.2.1 = pX12 := rfl
theorem tbX12_puts_k : tbX12_puts.2.2.2 = kX12 := rfl
theorem tbX12_puts_all (l : Launch) : ∀ e ∈ ([] : List (Nat × Option Nat × Nat × aSp)), cOK l mX12_puts e.1 e.2.1 e.2.2.1 e.2.2.2 ∨ mOK mX12_puts e.1 e.2.1 e.2.2.1 e.2.2.2 := all_nil
theorem tbX12_puts_ok (l : Launch) : tOK l mX12_puts tbX12_puts := ⟨fX12_ok, pX12_ok, fun _ _ _ _ h => tbX12_puts_all l _ (lk_mem h), kX12_ok⟩
set_option maxRecDepth 20000 in
set_option maxHeartbeats 4000000 in
theorem okX12_puts (l : Launch) : aOK l mX12_puts spX12_puts := by
  refine aOK_of rfl fun as S Q h => ?_
  unfold spX12_puts at h
  split at h
  · rename_i b
    refine ⟨Nat.le_of_ble_eq_true rfl, wp_ok (tbX12_puts_ok l) Q (fun pc => false) 16 0 _ [] S ?_⟩
    show wp cX12_puts tbX12_puts 2 none Q (fun pc => false) (aGo l mX12_puts Q) 16 0 [(0, .inr (.inr 245)), (1, .inl b)] [] S
    simp only [wp_s, wpC_f, wpC_t, e_wLd, e_wLd0, e_wLd1, e_wLd2, e_get1, e_get2, e_wJ, e_wJo, f40, f41, f42, f43, Nat.reduceAdd, Nat.reduceBEq, Nat.reduceMul, eq_self, true_or, or_true, true_and, dX12_puts_0, dX12_puts_1, dX12_puts_4, dX12_puts_5, dX12_puts_8, dX12_puts_9, dX12_puts_10, dX12_puts_11, dX12_puts_12, dX12_puts_13, dX12_puts_16, dX12_puts_17, dX12_puts_18, dX12_puts_21, e_aload_n, e_iload_n, e_iconst, e_iadd, e_i2b, e_getfield, e_putfield, e_bastore, e_return_, e_wI2B, e_wI2, e_rv, fX12_272, fX12_97, ic_1, pX12_272, tbX12_puts_f, tbX12_puts_p, tbX12_puts_k, p_245_42, g_245_41, g_245_42, s_274]
    obtain ⟨h0, h1, h2⟩ := h
    repeat' (with_reducible first | intro _ | refine And.intro ?_ ?_)
    all_goals (try simp (disch := omega) only [wI_id, up_hit, up_obj, upL_hit, upL_obj, up_2, upL_1, Int.toNat_natCast])
    all_goals first | omega | exact h2
  · exact h.elim
/-- the chain over x ends within n steps -/
def chn (P : Nat → Int) : Nat → Int → Prop
  | 0, x => x = -1
  | n + 1, x => x = -1 ∨ (0 ≤ x ∧ x < 40 ∧ chn P n (P x.toNat))
def dpM (P : Nat → Int) : Nat → Int → Int
  | 0, _ => 0
  | n + 1, x => if x = -1 then 0 else 1 + dpM P n (P x.toNat)
theorem dpM_no {P : Nat → Int} : ∀ {n : Nat}, dpM P n (-1) = 0
  | 0 => rfl
  | _ + 1 => if_pos rfl
theorem dpM_b {P : Nat → Int} : ∀ (n : Nat) (x : Int), 0 ≤ dpM P n x ∧ dpM P n x ≤ n
  | 0, _ => by simp [dpM]
  | n + 1, x => by
    have := dpM_b (P := P) n (P x.toNat)
    unfold dpM
    by_cases q : x = -1
    · rw [if_pos q]; omega
    · rw [if_neg q]; push_cast; omega
def wtM (P : Nat → Int) (a : Int) : Nat → Int → Prop
  | 0, _ => False
  | n + 1, x => ¬ x = -1 ∧ (x = a ∨ wtM P a n (P x.toNat))
def spX12_depth : aSp := fun as S Q => match as with
  | [.inr (.inr 245), .inl a] => chn (S.1 268) 40 a ∧ Q (some (.inl (dpM (S.1 268) 40 a))) S
  | _ => False
def tbX12_depth : aTb := (fX12, pX12, fun j => lk [] j, kX12)
theorem tbX12_depth_f : tbX12_depth.1 = fX12 := rfl
theorem tbX12_depth_p : tbX12_depth.2.1 = pX12 := rfl
theorem tbX12_depth_k : tbX12_depth.2.2.2 = kX12 := rfl
theorem tbX12_depth_all (l : Launch) : ∀ e ∈ ([] : List (Nat × Option Nat × Nat × aSp)), cOK l mX12_depth e.1 e.2.1 e.2.2.1 e.2.2.2 ∨ mOK mX12_depth e.1 e.2.1 e.2.2.1 e.2.2.2 := all_nil
theorem tbX12_depth_ok (l : Launch) : tOK l mX12_depth tbX12_depth := ⟨fX12_ok, pX12_ok, fun _ _ _ _ h => tbX12_depth_all l _ (lk_mem h), kX12_ok⟩
set_option maxRecDepth 20000 in
set_option maxHeartbeats 4000000 in
theorem lpX12_depth (l : Launch) (Q : Option aV → aS → Prop) : ∀ (n : Nat) (S : aS) (a x c : Int), n ≤ 40 ∧ 0 ≤ c ∧ c ≤ 40 - n → chn (S.1 268) n x → Q (some (.inl (c + dpM (S.1 268) n x))) S → aGo l mX12_depth Q 4 [(0, .inr (.inr 245)), (1, .inl a), (2, .inl c), (3, .inl x)] [] S := by
  intro n
  induction n using Nat.strongRecOn with
  | _ n ih =>
  intro S  a x c  h0 h1 h2
  refine wp_go (tbX12_depth_ok l) (fun pc => pc == 4) 21 dX12_depth_4 ?_
  show ws1 tbX12_depth 4 (some .int) Q (wp cX12_depth tbX12_depth 4 (some .int) Q (fun pc => pc == 4) (aGo l mX12_depth Q) 21) (.iload_n 3) 1 4 [(0, .inr (.inr 245)), (1, .inl a), (2, .inl c), (3, .inl x)] [] S
  simp only [wp_s, wpC_f, wpC_t, e_wLd, e_wLd0, e_wLd1, e_wLd2, e_get1, e_get2, e_wJ, e_wJo, f40, f41, f42, f43, Nat.reduceAdd, Nat.reduceBEq, Nat.reduceMul, eq_self, true_or, or_true, true_and, dX12_depth_0, dX12_depth_1, dX12_depth_2, dX12_depth_3, dX12_depth_4, dX12_depth_5, dX12_depth_6, dX12_depth_9, dX12_depth_10, dX12_depth_11, dX12_depth_12, dX12_depth_13, dX12_depth_14, dX12_depth_17, dX12_depth_18, dX12_depth_19, dX12_depth_20, dX12_depth_23, dX12_depth_24, e_aload_n, e_iload_n, e_istore_n, e_iconst, e_iadd, e_if_icmp, e_goto, e_getfield, e_iaload, e_ireturn, e_wSt0, e_wSt1, e_wSt2, e_isL0, e_isL1, e_isL2, e_lset, e_lclr0, e_lclr1, e_lclr2, e_lput0, e_lput1, e_lput2, e_wInc, e_wInc0, Nat.reduceLT, not_false_eq_true, Bool.or_false, Bool.false_or, Bool.or_true, Bool.true_or, Bool.and_false, Bool.false_and, Bool.and_true, Bool.true_and, e_wI2, e_ri, e_rz, e_wIc_eq, fX12_79, ic_0, ic_1, ic_m1, jt_20_m16, jt_6_17, tbX12_depth_f, tbX12_depth_p, tbX12_depth_k, g_245_28, l_268]
  simp (disch := omega) only [wI_id]
  rcases n with _ | n
  · have h1' : x = -1 := h1
    refine ⟨fun _ => ?_, fun q => absurd h1' q⟩
    have h2' : Q (some (.inl (c + 0))) S := h2
    rw [Int.add_zero] at h2'
    exact h2'
  · refine ⟨fun q => ?_, fun q => ?_⟩
    · rw [q, dpM_no, Int.add_zero] at h2; exact h2
    · rcases h1 with h1 | ⟨h3, h4, h5⟩
      · exact absurd h1 q
      · have e : dpM (S.1 268) (n + 1) x = 1 + dpM (S.1 268) n (S.1 268 x.toNat) := if_neg q
        rw [e, ← Int.add_assoc] at h2
        exact ⟨h3, h4, ih n (by omega) S a _ (c + 1) (by omega) h5 h2⟩
set_option maxRecDepth 20000 in
set_option maxHeartbeats 4000000 in
theorem okX12_depth (l : Launch) : aOK l mX12_depth spX12_depth := by
  refine aOK_of rfl fun as S Q h => ?_
  unfold spX12_depth at h
  split at h
  · rename_i a
    refine ⟨Nat.le_of_ble_eq_true rfl, wp_ok (tbX12_depth_ok l) Q (fun pc => pc == 4) 21 0 _ [] S ?_⟩
    show wp cX12_depth tbX12_depth 4 (some .int) Q (fun pc => pc == 4) (aGo l mX12_depth Q) 21 0 [(0, .inr (.inr 245)), (1, .inl a)] [] S
    simp only [wp_s, wpC_f, wpC_t, e_wLd, e_wLd0, e_wLd1, e_wLd2, e_get1, e_get2, e_wJ, e_wJo, f40, f41, f42, f43, Nat.reduceAdd, Nat.reduceBEq, Nat.reduceMul, eq_self, true_or, or_true, true_and, dX12_depth_0, dX12_depth_1, dX12_depth_2, dX12_depth_3, dX12_depth_4, dX12_depth_5, dX12_depth_6, dX12_depth_9, dX12_depth_10, dX12_depth_11, dX12_depth_12, dX12_depth_13, dX12_depth_14, dX12_depth_17, dX12_depth_18, dX12_depth_19, dX12_depth_20, dX12_depth_23, dX12_depth_24, e_aload_n, e_iload_n, e_istore_n, e_iconst, e_iadd, e_if_icmp, e_goto, e_getfield, e_iaload, e_ireturn, e_wSt0, e_wSt1, e_wSt2, e_isL0, e_isL1, e_isL2, e_lset, e_lclr0, e_lclr1, e_lclr2, e_lput0, e_lput1, e_lput2, e_wInc, e_wInc0, Nat.reduceLT, not_false_eq_true, Bool.or_false, Bool.false_or, Bool.or_true, Bool.true_or, Bool.and_false, Bool.false_and, Bool.and_true, Bool.true_and, e_wI2, e_ri, e_rz, e_wIc_eq, fX12_79, ic_0, ic_1, ic_m1, jt_20_m16, jt_6_17, tbX12_depth_f, tbX12_depth_p, tbX12_depth_k, g_245_28, l_268]
    exact lpX12_depth l Q 40 S a a 0 (by omega) h.1 (by rw [Int.zero_add]; exact h.2)
  · exact h.elim
def spX12_isWithin : aSp := fun as S Q => match as with
  | [.inr (.inr 245), .inl x, .inl a] => ¬ a = -1 ∧ chn (S.1 268) 40 x ∧ Q (some (.inl (bi (wtM (S.1 268) a 40 x)))) S
  | _ => False
def tbX12_isWithin : aTb := (fX12, pX12, fun j => lk [] j, kX12)
theorem tbX12_isWithin_f : tbX12_isWithin.1 = fX12 := rfl
theorem tbX12_isWithin_p : tbX12_isWithin.2.1 = pX12 := rfl
theorem tbX12_isWithin_k : tbX12_isWithin.2.2.2 = kX12 := rfl
theorem tbX12_isWithin_all (l : Launch) : ∀ e ∈ ([] : List (Nat × Option Nat × Nat × aSp)), cOK l mX12_isWithin e.1 e.2.1 e.2.2.1 e.2.2.2 ∨ mOK mX12_isWithin e.1 e.2.1 e.2.2.1 e.2.2.2 := all_nil
theorem tbX12_isWithin_ok (l : Launch) : tOK l mX12_isWithin tbX12_isWithin := ⟨fX12_ok, pX12_ok, fun _ _ _ _ h => tbX12_isWithin_all l _ (lk_mem h), kX12_ok⟩
set_option maxRecDepth 20000 in
set_option maxHeartbeats 4000000 in
theorem lpX12_isWithin (l : Launch) (Q : Option aV → aS → Prop) : ∀ (n : Nat) (S : aS) (y a x : Int), n ≤ 40 → chn (S.1 268) n x → ¬ a = -1 → Q (some (.inl (bi (wtM (S.1 268) a n x)))) S → aGo l mX12_isWithin Q 2 [(0, .inr (.inr 245)), (1, .inl y), (2, .inl a), (3, .inl x)] [] S := by
  intro n
  induction n using Nat.strongRecOn with
  | _ n ih =>
  intro S  y a x  h0 h1 h2 h3
  refine wp_go (tbX12_isWithin_ok l) (fun pc => pc == 2) 23 dX12_isWithin_2 ?_
  show ws1 tbX12_isWithin 4 (some .boolean) Q (wp cX12_isWithin tbX12_isWithin 4 (some .boolean) Q (fun pc => pc == 2) (aGo l mX12_isWithin Q) 23) (.iload_n 3) 1 2 [(0, .inr (.inr 245)), (1, .inl y), (2, .inl a), (3, .inl x)] [] S
  simp only [wp_s, wpC_f, wpC_t, e_wLd, e_wLd0, e_wLd1, e_wLd2, e_get1, e_get2, e_wJ, e_wJo, f40, f41, f42, f43, Nat.reduceAdd, Nat.reduceBEq, Nat.reduceMul, eq_self, true_or, or_true, true_and, dX12_isWithin_0, dX12_isWithin_1, dX12_isWithin_2, dX12_isWithin_3, dX12_isWithin_4, dX12_isWithin_7, dX12_isWithin_8, dX12_isWithin_9, dX12_isWithin_12, dX12_isWithin_13, dX12_isWithin_16, dX12_isWithin_17, dX12_isWithin_18, dX12_isWithin_19, dX12_isWithin_22, dX12_isWithin_23, dX12_isWithin_24, dX12_isWithin_27, dX12_isWithin_28, dX12_isWithin_31, dX12_isWithin_32, e_aload_n, e_iload_n, e_istore_n, e_iconst, e_if_icmp, e_goto, e_getfield, e_iaload, e_ireturn, e_wSt0, e_wSt1, e_wSt2, e_isL0, e_isL1, e_isL2, e_lset, e_lclr0, e_lclr1, e_lclr2, e_lput0, e_lput1, e_lput2, e_wInc, e_wInc0, Nat.reduceLT, not_false_eq_true, Bool.or_false, Bool.false_or, Bool.or_true, Bool.true_or, Bool.and_false, Bool.false_and, Bool.and_true, Bool.true_and, e_ri, e_rz, e_wIc_eq, e_wIc_ne, fX12_79, ic_0, ic_1, ic_m1, jt_19_m17, jt_24_7, jt_28_4, jt_4_18, jt_9_13, tbX12_isWithin_f, tbX12_isWithin_p, tbX12_isWithin_k, g_245_28, l_268]
  have nx : x = -1 → ¬ wtM (S.1 268) a n x := fun q => by
    cases n with
    | zero => exact fun z => z
    | succ n => exact fun z => z.1 q
  refine ⟨fun q => ⟨fun _ => ?_, fun q2 => absurd (q.symm.trans q2).symm h2⟩, fun q => ⟨fun q2 => ⟨fun q3 => absurd q2 q3, fun _ => ?_⟩, fun q2 => ?_⟩⟩
  · rw [bi_f (nx q)] at h3; exact h3
  · rcases n with _ | n
    · exact absurd h1 q
    · rw [bi_t (show wtM (S.1 268) a (n + 1) x from ⟨q, Or.inl q2⟩)] at h3; exact h3
  · rcases n with _ | n
    · exact absurd h1 q
    · rcases h1 with h1 | ⟨h4, h5, h6⟩
      · exact absurd h1 q
      · refine ⟨h4, h5, ih n (by omega) S y a _ (by omega) h6 h2 ?_⟩
        have e : wtM (S.1 268) a (n + 1) x ↔ wtM (S.1 268) a n (S.1 268 x.toNat) := ⟨fun z => z.2.resolve_left q2, fun z => ⟨q, Or.inr z⟩⟩
        rw [bi_c e] at h3; exact h3
set_option maxRecDepth 20000 in
set_option maxHeartbeats 4000000 in
theorem okX12_isWithin (l : Launch) : aOK l mX12_isWithin spX12_isWithin := by
  refine aOK_of rfl fun as S Q h => ?_
  unfold spX12_isWithin at h
  split at h
  · rename_i x a
    refine ⟨Nat.le_of_ble_eq_true rfl, wp_ok (tbX12_isWithin_ok l) Q (fun pc => pc == 2) 23 0 _ [] S ?_⟩
    show wp cX12_isWithin tbX12_isWithin 4 (some .boolean) Q (fun pc => pc == 2) (aGo l mX12_isWithin Q) 23 0 [(0, .inr (.inr 245)), (1, .inl x), (2, .inl a)] [] S
    simp only [wp_s, wpC_f, wpC_t, e_wLd, e_wLd0, e_wLd1, e_wLd2, e_get1, e_get2, e_wJ, e_wJo, f40, f41, f42, f43, Nat.reduceAdd, Nat.reduceBEq, Nat.reduceMul, eq_self, true_or, or_true, true_and, dX12_isWithin_0, dX12_isWithin_1, dX12_isWithin_2, dX12_isWithin_3, dX12_isWithin_4, dX12_isWithin_7, dX12_isWithin_8, dX12_isWithin_9, dX12_isWithin_12, dX12_isWithin_13, dX12_isWithin_16, dX12_isWithin_17, dX12_isWithin_18, dX12_isWithin_19, dX12_isWithin_22, dX12_isWithin_23, dX12_isWithin_24, dX12_isWithin_27, dX12_isWithin_28, dX12_isWithin_31, dX12_isWithin_32, e_aload_n, e_iload_n, e_istore_n, e_iconst, e_if_icmp, e_goto, e_getfield, e_iaload, e_ireturn, e_wSt0, e_wSt1, e_wSt2, e_isL0, e_isL1, e_isL2, e_lset, e_lclr0, e_lclr1, e_lclr2, e_lput0, e_lput1, e_lput2, e_wInc, e_wInc0, Nat.reduceLT, not_false_eq_true, Bool.or_false, Bool.false_or, Bool.or_true, Bool.true_or, Bool.and_false, Bool.false_and, Bool.and_true, Bool.true_and, e_ri, e_rz, e_wIc_eq, e_wIc_ne, fX12_79, ic_0, ic_1, ic_m1, jt_19_m17, jt_24_7, jt_28_4, jt_4_18, jt_9_13, tbX12_isWithin_f, tbX12_isWithin_p, tbX12_isWithin_k, g_245_28, l_268]
    exact lpX12_isWithin l Q 40 S x a x (by omega) h.2.1 h.1 h.2.2
  · exact h.elim
