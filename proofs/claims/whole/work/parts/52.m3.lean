/-! THE REFERENCE: drop, point, lead, join, edition, as, differ -/
def spX12_drop : aSp := fun as S Q => match as with
  | [.inr (.inr 245), .inl a] => (0 ≤ S.1 245 12 ∧ S.1 245 12 ≤ 120) ∧ (0 ≤ S.1 245 29 ∧ S.1 245 29 ≤ 20) ∧ (¬ ((0 ≤ a ∧ a < 40 ∧ ¬ S.1 266 a.toNat = 0) ∧ cnt (fun j => S.1 257 j == a) (S.1 245 12).toNat ≤ 0 ∧ cnt (fun j => S.1 266 j != 0 && S.1 268 j == a) 40 ≤ 0) → Q (some (.inl 0)) S) ∧ ((0 ≤ a ∧ a < 40 ∧ ¬ S.1 266 a.toNat = 0) ∧ cnt (fun j => S.1 257 j == a) (S.1 245 12).toNat ≤ 0 ∧ cnt (fun j => S.1 266 j != 0 && S.1 268 j == a) 40 ≤ 0 → Q (some (.inl 1)) (ggP a (S.1 245 29).toNat (upI S 266 a.toNat 0)))
  | _ => False
def tbX12_drop : aTb := (fX12, pX12, fun j => lk [(186, (some 12), 2, spX12_isSense), (202, (some 12), 2, spX12_goes), (205, (some 12), 2, spX12_own), (208, (some 12), 2, spX12_below)] j, kX12)
theorem tbX12_drop_f : tbX12_drop.1 = fX12 := rfl
theorem tbX12_drop_p : tbX12_drop.2.1 = pX12 := rfl
theorem tbX12_drop_k : tbX12_drop.2.2.2 = kX12 := rfl
theorem tbX12_drop_c186 : tbX12_drop.2.2.1 186 = some ((some 12), 2, spX12_isSense) := rfl
theorem tbX12_drop_c202 : tbX12_drop.2.2.1 202 = some ((some 12), 2, spX12_goes) := rfl
theorem tbX12_drop_c205 : tbX12_drop.2.2.1 205 = some ((some 12), 2, spX12_own) := rfl
theorem tbX12_drop_c208 : tbX12_drop.2.2.1 208 = some ((some 12), 2, spX12_below) := rfl
theorem tbX12_drop_all (l : Launch) : ∀ e ∈ ([(186, (some 12), 2, spX12_isSense), (202, (some 12), 2, spX12_goes), (205, (some 12), 2, spX12_own), (208, (some 12), 2, spX12_below)] : List (Nat × Option Nat × Nat × aSp)), cOK l mX12_drop e.1 e.2.1 e.2.2.1 e.2.2.2 ∨ mOK mX12_drop e.1 e.2.1 e.2.2.1 e.2.2.2 := all_cons (cOK_of (okX12_isSense l) meX12_isSense cfX12_186 (by decide) (by decide)) (all_cons (cOK_of (okX12_goes l) meX12_goes cfX12_202 (by decide) (by decide)) (all_cons (cOK_of (okX12_own l) meX12_own cfX12_205 (by decide) (by decide)) (all_cons (cOK_of (okX12_below l) meX12_below cfX12_208 (by decide) (by decide)) (all_nil))))
theorem tbX12_drop_ok (l : Launch) : tOK l mX12_drop tbX12_drop := ⟨fX12_ok, pX12_ok, fun _ _ _ _ h => tbX12_drop_all l _ (lk_mem h), kX12_ok⟩
set_option maxRecDepth 20000 in
set_option maxHeartbeats 4000000 in
theorem okX12_drop (l : Launch) : aOK l mX12_drop spX12_drop := by
  refine aOK_of rfl fun as S Q h => ?_
  unfold spX12_drop at h
  split at h
  · rename_i a
    refine ⟨Nat.le_of_ble_eq_true rfl, wp_ok (tbX12_drop_ok l) Q (fun pc => false) 21 0 _ [] S ?_⟩
    show wp cX12_drop tbX12_drop 2 (some .boolean) Q (fun pc => false) (aGo l mX12_drop Q) 21 0 [(0, .inr (.inr 245)), (1, .inl a)] [] S
    simp only [wp_s, wpC_f, wpC_t, e_wLd, e_wLd0, e_wLd1, e_wLd2, e_get1, e_get2, e_wJ, e_wJo, f40, f41, f42, f43, Nat.reduceAdd, Nat.reduceBEq, Nat.reduceMul, eq_self, true_or, or_true, true_and, dX12_drop_0, dX12_drop_1, dX12_drop_2, dX12_drop_5, dX12_drop_8, dX12_drop_9, dX12_drop_10, dX12_drop_13, dX12_drop_16, dX12_drop_17, dX12_drop_18, dX12_drop_21, dX12_drop_24, dX12_drop_25, dX12_drop_26, dX12_drop_27, dX12_drop_28, dX12_drop_31, dX12_drop_32, e_aload_n, e_iload_n, e_iconst, e_ifCond, e_invokevirtual, e_ireturn, e_ri, e_rz, e_wIf_le, e_wIf_eq, e_wIf_gt, ic_0, ic_1, jt_13_11, jt_21_5, jt_5_19, e_call, e_callS0, e_callS1, e_callS2, e_callS3, e_callS4, e_pop0, e_pop1, e_tl0, e_tl1, tbX12_drop_f, tbX12_drop_p, tbX12_drop_k, tbX12_drop_c186, tbX12_drop_c202, tbX12_drop_c205, tbX12_drop_c208, cv_245_0, cv_245_1, cv_245_2, cv_245_3, cv_245_4, spX12_isSense, spX12_own, spX12_below, spX12_goes, bi_0, bi_1, ne_eq, Classical.not_not, em_r, em_l]
    obtain ⟨h0, h1, hA, hB⟩ := h
    generalize cnt (fun j => S.1 266 j != 0 && S.1 268 j == a) 40 = C at *
    replace hA := hid hA
    replace hB := hid hB
    repeat' (with_reducible first | intro _ | refine And.intro ?_ ?_)
    all_goals first
      | omega
      | exact hA (fun z => absurd z.1 (by assumption))
      | exact hA (fun z => absurd z.2.1 (by omega))
      | exact hA (fun z => absurd z.2.2 (by omega))
      | exact hB ⟨by assumption, by omega, by omega⟩
      | skip
  · exact h.elim
def spX12_point : aSp := fun as S Q => match as with
  | [.inr (.inr 245), .inl a, .inl b] => (0 ≤ S.1 245 29 ∧ S.1 245 29 ≤ 20) ∧ (¬ ((0 ≤ a ∧ a < 40 ∧ ¬ S.1 266 a.toNat = 0) ∧ (0 ≤ b ∧ b < 40 ∧ ¬ S.1 266 b.toNat = 0) ∧ ¬ a = b ∧ ¬ S.1 245 29 = 20) → Q (some (.inl (-1))) S) ∧ ((0 ≤ a ∧ a < 40 ∧ ¬ S.1 266 a.toNat = 0) ∧ (0 ≤ b ∧ b < 40 ∧ ¬ S.1 266 b.toNat = 0) ∧ ¬ a = b ∧ ¬ S.1 245 29 = 20 → Q (some (.inl (S.1 245 29))) (upI (upI (upI S 269 (S.1 245 29).toNat a) 270 (S.1 245 29).toNat b) 245 29 (S.1 245 29 + 1)))
  | _ => False
def tbX12_point : aTb := (fX12, pX12, fun j => lk [(186, (some 12), 2, spX12_isSense)] j, kX12)
theorem tbX12_point_f : tbX12_point.1 = fX12 := rfl
theorem tbX12_point_p : tbX12_point.2.1 = pX12 := rfl
theorem tbX12_point_k : tbX12_point.2.2.2 = kX12 := rfl
theorem tbX12_point_c186 : tbX12_point.2.2.1 186 = some ((some 12), 2, spX12_isSense) := rfl
theorem tbX12_point_all (l : Launch) : ∀ e ∈ ([(186, (some 12), 2, spX12_isSense)] : List (Nat × Option Nat × Nat × aSp)), cOK l mX12_point e.1 e.2.1 e.2.2.1 e.2.2.2 ∨ mOK mX12_point e.1 e.2.1 e.2.2.1 e.2.2.2 := all_cons (cOK_of (okX12_isSense l) meX12_isSense cfX12_186 (by decide) (by decide)) (all_nil)
theorem tbX12_point_ok (l : Launch) : tOK l mX12_point tbX12_point := ⟨fX12_ok, pX12_ok, fun _ _ _ _ h => tbX12_point_all l _ (lk_mem h), kX12_ok⟩
set_option maxRecDepth 20000 in
set_option maxHeartbeats 4000000 in
theorem okX12_point (l : Launch) : aOK l mX12_point spX12_point := by
  refine aOK_of rfl fun as S Q h => ?_
  unfold spX12_point at h
  split at h
  · rename_i a b
    refine ⟨Nat.le_of_ble_eq_true rfl, wp_ok (tbX12_point_ok l) Q (fun pc => false) 42 0 _ [] S ?_⟩
    show wp cX12_point tbX12_point 3 (some .int) Q (fun pc => false) (aGo l mX12_point Q) 42 0 [(0, .inr (.inr 245)), (1, .inl a), (2, .inl b)] [] S
    simp only [wp_s, wpC_f, wpC_t, e_wLd, e_wLd0, e_wLd1, e_wLd2, e_get1, e_get2, e_wJ, e_wJo, f40, f41, f42, f43, Nat.reduceAdd, Nat.reduceBEq, Nat.reduceMul, eq_self, true_or, or_true, true_and, dX12_point_0, dX12_point_1, dX12_point_2, dX12_point_5, dX12_point_8, dX12_point_9, dX12_point_10, dX12_point_13, dX12_point_16, dX12_point_17, dX12_point_18, dX12_point_21, dX12_point_22, dX12_point_25, dX12_point_27, dX12_point_30, dX12_point_31, dX12_point_32, dX12_point_33, dX12_point_36, dX12_point_37, dX12_point_40, dX12_point_41, dX12_point_42, dX12_point_43, dX12_point_46, dX12_point_47, dX12_point_50, dX12_point_51, dX12_point_52, dX12_point_53, dX12_point_54, dX12_point_57, dX12_point_58, dX12_point_59, dX12_point_62, dX12_point_63, dX12_point_66, dX12_point_67, dX12_point_68, e_aload_n, e_iload_n, e_iconst, e_bipush, e_iadd, e_isub, e_ifCond, e_if_icmp, e_getfield, e_putfield, e_iastore, e_invokevirtual, e_ireturn, e_wI2, e_ri, e_rz, e_wIc_ne, e_wIc_eq, e_wIf_eq, bp_20, fX12_196, fX12_82, fX12_85, ic_1, ic_m1, jt_13_17, jt_18_12, jt_27_5, jt_5_25, pX12_196, e_call, e_callS0, e_callS1, e_callS2, e_callS3, e_callS4, e_pop0, e_pop1, e_tl0, e_tl1, tbX12_point_f, tbX12_point_p, tbX12_point_k, tbX12_point_c186, g_245_29, cv_245_0, cv_245_1, cv_245_2, cv_245_3, cv_245_4, s_270, p_245_29, g_245_31, s_269, g_245_30, spX12_isSense, bi_0, bi_1, ne_eq, Classical.not_not, em_r, em_l]
    obtain ⟨h0, hA, hB⟩ := h
    replace hA := hid hA
    replace hB := hid hB
    repeat' (with_reducible first | intro _ | refine And.intro ?_ ?_)
    all_goals (try simp (disch := first | omega | decide) only [wI_id, up_hit, up_obj, upL_hit, upL_obj, up_2, upL_1, Int.toNat_natCast, Int.add_sub_cancel])
    all_goals first
      | omega
      | exact hA (fun z => absurd z.1 (by assumption))
      | exact hA (fun z => absurd z.2.1 (by assumption))
      | exact hA (fun z => absurd (by assumption) z.2.2.1)
      | exact hA (fun z => absurd (by assumption) z.2.2.2)
      | exact hB ⟨by assumption, by assumption, by assumption, by assumption⟩
      | skip
  · exact h.elim
def spX12_lead : aSp := fun as S Q => match as with
  | [.inr (.inr 245), .inl p, .inl b] => (0 ≤ S.1 245 29 ∧ S.1 245 29 ≤ 20) ∧ (¬ (0 ≤ p ∧ p < S.1 245 29 ∧ S.1 270 p.toNat = -1) → Q (some (.inl 0)) S) ∧ ((0 ≤ p ∧ p < S.1 245 29 ∧ S.1 270 p.toNat = -1) → b = -1 → Q (some (.inl 1)) (rmM S p)) ∧ ((0 ≤ p ∧ p < S.1 245 29 ∧ S.1 270 p.toNat = -1) → ¬ b = -1 → (¬ ((0 ≤ b ∧ b < 40 ∧ ¬ S.1 266 b.toNat = 0) ∧ ¬ b = S.1 269 p.toNat) → Q (some (.inl 0)) S) ∧ (((0 ≤ b ∧ b < 40 ∧ ¬ S.1 266 b.toNat = 0) ∧ ¬ b = S.1 269 p.toNat) → Q (some (.inl 1)) (upI S 270 p.toNat b)))
  | _ => False
def tbX12_lead : aTb := (fX12, pX12, fun j => lk [(186, (some 12), 2, spX12_isSense), (199, (some 12), 2, spX12_removes)] j, kX12)
theorem tbX12_lead_f : tbX12_lead.1 = fX12 := rfl
theorem tbX12_lead_p : tbX12_lead.2.1 = pX12 := rfl
theorem tbX12_lead_k : tbX12_lead.2.2.2 = kX12 := rfl
theorem tbX12_lead_c186 : tbX12_lead.2.2.1 186 = some ((some 12), 2, spX12_isSense) := rfl
theorem tbX12_lead_c199 : tbX12_lead.2.2.1 199 = some ((some 12), 2, spX12_removes) := rfl
theorem tbX12_lead_all (l : Launch) : ∀ e ∈ ([(186, (some 12), 2, spX12_isSense), (199, (some 12), 2, spX12_removes)] : List (Nat × Option Nat × Nat × aSp)), cOK l mX12_lead e.1 e.2.1 e.2.2.1 e.2.2.2 ∨ mOK mX12_lead e.1 e.2.1 e.2.2.1 e.2.2.2 := all_cons (cOK_of (okX12_isSense l) meX12_isSense cfX12_186 (by decide) (by decide)) (all_cons (cOK_of (okX12_removes l) meX12_removes cfX12_199 (by decide) (by decide)) (all_nil))
theorem tbX12_lead_ok (l : Launch) : tOK l mX12_lead tbX12_lead := ⟨fX12_ok, pX12_ok, fun _ _ _ _ h => tbX12_lead_all l _ (lk_mem h), kX12_ok⟩
set_option maxRecDepth 20000 in
set_option maxHeartbeats 4000000 in
theorem okX12_lead (l : Launch) : aOK l mX12_lead spX12_lead := by
  refine aOK_of rfl fun as S Q h => ?_
  unfold spX12_lead at h
  split at h
  · rename_i p b
    refine ⟨Nat.le_of_ble_eq_true rfl, wp_ok (tbX12_lead_ok l) Q (fun pc => false) 43 0 _ [] S ?_⟩
    show wp cX12_lead tbX12_lead 3 (some .boolean) Q (fun pc => false) (aGo l mX12_lead Q) 43 0 [(0, .inr (.inr 245)), (1, .inl p), (2, .inl b)] [] S
    simp only [wp_s, wpC_f, wpC_t, e_wLd, e_wLd0, e_wLd1, e_wLd2, e_get1, e_get2, e_wJ, e_wJo, f40, f41, f42, f43, Nat.reduceAdd, Nat.reduceBEq, Nat.reduceMul, eq_self, true_or, or_true, true_and, dX12_lead_0, dX12_lead_1, dX12_lead_4, dX12_lead_5, dX12_lead_6, dX12_lead_9, dX12_lead_12, dX12_lead_13, dX12_lead_16, dX12_lead_17, dX12_lead_18, dX12_lead_19, dX12_lead_22, dX12_lead_23, dX12_lead_24, dX12_lead_27, dX12_lead_28, dX12_lead_29, dX12_lead_32, dX12_lead_35, dX12_lead_36, dX12_lead_37, dX12_lead_40, dX12_lead_41, dX12_lead_42, dX12_lead_45, dX12_lead_46, dX12_lead_47, dX12_lead_48, dX12_lead_49, dX12_lead_52, dX12_lead_53, dX12_lead_54, dX12_lead_57, dX12_lead_60, dX12_lead_61, dX12_lead_64, dX12_lead_65, dX12_lead_66, dX12_lead_67, dX12_lead_68, e_aload_n, e_iload_n, e_iconst, e_ifCond, e_if_icmp, e_goto, e_getfield, e_iaload, e_iastore, e_invokevirtual, e_ireturn, e_ri, e_rz, e_wIc_ne, e_wIc_eq, e_wIf_eq, e_wIf_lt, e_wIc_ge, fX12_196, fX12_82, fX12_85, ic_0, ic_1, ic_m1, jt_19_26, jt_1_44, jt_24_23, jt_32_13, jt_42_5, jt_49_11, jt_57_10, jt_9_36, e_call, e_callS0, e_callS1, e_callS2, e_callS3, e_callS4, e_pop0, e_pop1, e_tl0, e_tl1, tbX12_lead_f, tbX12_lead_p, tbX12_lead_k, tbX12_lead_c186, tbX12_lead_c199, g_245_29, l_270, s_270, cv_245_0, cv_245_1, cv_245_2, cv_245_3, cv_245_4, g_245_31, l_269, s_269, g_245_30, spX12_isSense, spX12_removes, bi_0, bi_1, ne_eq, Classical.not_not, em_r, em_l]
    obtain ⟨h0, hA, hB, hC⟩ := h
    replace hA := hid hA
    replace hB := hid hB
    replace hC := hid hC
    repeat' (with_reducible first | intro _ | refine And.intro ?_ ?_)
    all_goals first
      | omega
      | exact hA (fun z => by omega)
      | exact hB ⟨by omega, by omega, by assumption⟩ (by assumption)
      | exact (hC ⟨by omega, by omega, by assumption⟩ (by assumption)).1 (fun z => absurd z.1 (by assumption))
      | exact (hC ⟨by omega, by omega, by assumption⟩ (by assumption)).1 (fun z => absurd (by assumption) z.2)
      | exact (hC ⟨by omega, by omega, by assumption⟩ (by assumption)).2 ⟨by assumption, by assumption⟩
      | contradiction
      | skip
  · exact h.elim
section JM
def jmA (S : aS) (a b : Int) (i : Nat) : aS := stA S 257 (fun j => if i ≤ j ∧ (j : Int) < S.1 245 12 ∧ S.1 257 j = a then b else S.1 257 j)
def jmB (S : aS) (a b : Int) (i : Nat) : aS := stA S 268 (fun j => if i ≤ j ∧ j < 40 ∧ ¬ S.1 266 j = 0 ∧ S.1 268 j = a then b else S.1 268 j)
def jmS (S : aS) (a b : Int) : aS := jmB (jmA S a b 0) a b 0
variable {S : aS} {a b : Int} {i : Nat}
theorem jmA_end (h : S.1 245 12 ≤ i) : jmA S a b i = S := by
  unfold jmA
  (refine st_ext (fun x y => ?_) (fun x y => ?_) <;> (try simp only [stA, upI, upL, up2]) <;> (repeat' split) <;> first | rfl | omega | (simp_all; done) | (simp_all; omega) | (have hq : y = i := (by omega); subst hq; first | rfl | omega | (simp_all; done) | (simp_all; omega)) | (congr 2 <;> omega) | (congr 3 <;> omega))
theorem jmA_no (h : ¬ S.1 257 i = a) : jmA S a b (i + 1) = jmA S a b i := by
  unfold jmA
  (refine st_ext (fun x y => ?_) (fun x y => ?_) <;> (try simp only [stA, upI, upL, up2]) <;> (repeat' split) <;> first | rfl | omega | (simp_all; done) | (simp_all; omega) | (have hq : y = i := (by omega); subst hq; first | rfl | omega | (simp_all; done) | (simp_all; omega)) | (congr 2 <;> omega) | (congr 3 <;> omega))
theorem jmA_yes (h : i < S.1 245 12) (h1 : S.1 257 i = a) : jmA (upI S 257 i b) a b (i + 1) = jmA S a b i := by
  unfold jmA
  (refine st_ext (fun x y => ?_) (fun x y => ?_) <;> (try simp only [stA, upI, upL, up2]) <;> (repeat' split) <;> first | rfl | omega | (simp_all; done) | (simp_all; omega) | (have hq : y = i := (by omega); subst hq; first | rfl | omega | (simp_all; done) | (simp_all; omega)) | (congr 2 <;> omega) | (congr 3 <;> omega))
theorem jmB_end (h : 40 ≤ i) : jmB S a b i = S := by
  unfold jmB
  (refine st_ext (fun x y => ?_) (fun x y => ?_) <;> (try simp only [stA, upI, upL, up2]) <;> (repeat' split) <;> first | rfl | omega | (simp_all; done) | (simp_all; omega) | (have hq : y = i := (by omega); subst hq; first | rfl | omega | (simp_all; done) | (simp_all; omega)) | (congr 2 <;> omega) | (congr 3 <;> omega))
theorem jmB_no (h : ¬ (¬ S.1 266 i = 0 ∧ S.1 268 i = a)) : jmB S a b (i + 1) = jmB S a b i := by
  unfold jmB
  (refine st_ext (fun x y => ?_) (fun x y => ?_) <;> (try simp only [stA, upI, upL, up2]) <;> (repeat' split) <;> first | rfl | omega | (simp_all; done) | (simp_all; omega) | (have hq : y = i := (by omega); subst hq; first | rfl | omega | (simp_all; done) | (simp_all; omega)) | (congr 2 <;> omega) | (congr 3 <;> omega))
theorem jmB_yes (h : i < 40) (h1 : ¬ S.1 266 i = 0) (h2 : S.1 268 i = a) : jmB (upI S 268 i b) a b (i + 1) = jmB S a b i := by
  unfold jmB
  (refine st_ext (fun x y => ?_) (fun x y => ?_) <;> (try simp only [stA, upI, upL, up2]) <;> (repeat' split) <;> first | rfl | omega | (simp_all; done) | (simp_all; omega) | (have hq : y = i := (by omega); subst hq; first | rfl | omega | (simp_all; done) | (simp_all; omega)) | (congr 2 <;> omega) | (congr 3 <;> omega))
end JM
def spX12_join : aSp := fun as S Q => match as with
  | [.inr (.inr 245), .inl a, .inl b] => ((0 ≤ b ∧ b < 40 ∧ ¬ S.1 266 b.toNat = 0) → chn (S.1 268) 40 b) ∧ (0 ≤ S.1 245 12 ∧ S.1 245 12 ≤ 120) ∧ (0 ≤ S.1 245 29 ∧ S.1 245 29 ≤ 20) ∧ (¬ ((0 ≤ a ∧ a < 40 ∧ ¬ S.1 266 a.toNat = 0) ∧ (0 ≤ b ∧ b < 40 ∧ ¬ S.1 266 b.toNat = 0) ∧ ¬ a = b ∧ S.1 267 a.toNat = S.1 267 b.toNat ∧ ¬ wtM (S.1 268) a 40 b) → Q (some (.inl 0)) S) ∧ ((0 ≤ a ∧ a < 40 ∧ ¬ S.1 266 a.toNat = 0) ∧ (0 ≤ b ∧ b < 40 ∧ ¬ S.1 266 b.toNat = 0) ∧ ¬ a = b ∧ S.1 267 a.toNat = S.1 267 b.toNat ∧ ¬ wtM (S.1 268) a 40 b → Q (some (.inl 1)) (ggP a (S.1 245 29).toNat (upI (jmS S a b) 266 a.toNat 0)))
  | _ => False
def tbX12_join : aTb := (fX12, pX12, fun j => lk [(186, (some 12), 2, spX12_isSense), (193, (some 12), 3, spX12_isWithin), (202, (some 12), 2, spX12_goes)] j, kX12)
theorem tbX12_join_f : tbX12_join.1 = fX12 := rfl
theorem tbX12_join_p : tbX12_join.2.1 = pX12 := rfl
theorem tbX12_join_k : tbX12_join.2.2.2 = kX12 := rfl
theorem tbX12_join_c186 : tbX12_join.2.2.1 186 = some ((some 12), 2, spX12_isSense) := rfl
theorem tbX12_join_c193 : tbX12_join.2.2.1 193 = some ((some 12), 3, spX12_isWithin) := rfl
theorem tbX12_join_c202 : tbX12_join.2.2.1 202 = some ((some 12), 2, spX12_goes) := rfl
theorem tbX12_join_all (l : Launch) : ∀ e ∈ ([(186, (some 12), 2, spX12_isSense), (193, (some 12), 3, spX12_isWithin), (202, (some 12), 2, spX12_goes)] : List (Nat × Option Nat × Nat × aSp)), cOK l mX12_join e.1 e.2.1 e.2.2.1 e.2.2.2 ∨ mOK mX12_join e.1 e.2.1 e.2.2.1 e.2.2.2 := all_cons (cOK_of (okX12_isSense l) meX12_isSense cfX12_186 (by decide) (by decide)) (all_cons (cOK_of (okX12_isWithin l) meX12_isWithin cfX12_193 (by decide) (by decide)) (all_cons (cOK_of (okX12_goes l) meX12_goes cfX12_202 (by decide) (by decide)) (all_nil)))
theorem tbX12_join_ok (l : Launch) : tOK l mX12_join tbX12_join := ⟨fX12_ok, pX12_ok, fun _ _ _ _ h => tbX12_join_all l _ (lk_mem h), kX12_ok⟩
set_option maxRecDepth 20000 in
set_option maxHeartbeats 4000000 in
theorem lpX12_joinB (l : Launch) (Q : Option aV → aS → Prop) : ∀ (n : Nat) (S : aS) (a b : Int) (i : Nat), i + n = 40 → (0 ≤ a ∧ a < 40) → (0 ≤ S.1 245 29 ∧ S.1 245 29 ≤ 20) → Q (some (.inl 1)) (ggP a (S.1 245 29).toNat (upI (jmB S a b i) 266 a.toNat 0)) → aGo l mX12_join Q 82 [(0, .inr (.inr 245)), (1, .inl a), (2, .inl b), (3, .inl (i : Int))] [] S := by
  intro n
  induction n using Nat.strongRecOn with
  | _ n ih =>
  intro S  a b  i  h0 h1 h2 h3
  refine wp_go (tbX12_join_ok l) (fun pc => pc == 82) 76 dX12_join_82 ?_
  show ws1 tbX12_join 4 (some .boolean) Q (wp cX12_join tbX12_join 4 (some .boolean) Q (fun pc => pc == 82) (aGo l mX12_join Q) 76) (.iload_n 3) 1 82 [(0, .inr (.inr 245)), (1, .inl a), (2, .inl b), (3, .inl (i : Int))] [] S
  simp only [wp_s, wpC_f, wpC_t, e_wLd, e_wLd0, e_wLd1, e_wLd2, e_get1, e_get2, e_wJ, e_wJo, f40, f41, f42, f43, Nat.reduceAdd, Nat.reduceBEq, Nat.reduceMul, eq_self, true_or, or_true, true_and, dX12_join_0, dX12_join_1, dX12_join_2, dX12_join_5, dX12_join_8, dX12_join_9, dX12_join_10, dX12_join_13, dX12_join_16, dX12_join_17, dX12_join_18, dX12_join_21, dX12_join_22, dX12_join_25, dX12_join_26, dX12_join_27, dX12_join_28, dX12_join_31, dX12_join_32, dX12_join_33, dX12_join_36, dX12_join_37, dX12_join_38, dX12_join_39, dX12_join_42, dX12_join_45, dX12_join_46, dX12_join_47, dX12_join_48, dX12_join_49, dX12_join_50, dX12_join_51, dX12_join_54, dX12_join_57, dX12_join_58, dX12_join_61, dX12_join_62, dX12_join_63, dX12_join_64, dX12_join_67, dX12_join_68, dX12_join_71, dX12_join_72, dX12_join_73, dX12_join_74, dX12_join_77, dX12_join_80, dX12_join_81, dX12_join_82, dX12_join_83, dX12_join_85, dX12_join_88, dX12_join_89, dX12_join_92, dX12_join_93, dX12_join_94, dX12_join_97, dX12_join_98, dX12_join_101, dX12_join_102, dX12_join_103, dX12_join_104, dX12_join_107, dX12_join_108, dX12_join_111, dX12_join_112, dX12_join_113, dX12_join_114, dX12_join_117, dX12_join_120, dX12_join_121, dX12_join_122, dX12_join_125, dX12_join_126, e_aload_n, e_iload_n, e_istore_n, e_iconst, e_bipush, e_iinc, e_ifCond, e_if_icmp, e_goto, e_getfield, e_iaload, e_baload, e_iastore, e_invokevirtual, e_ireturn, e_wSt0, e_wSt1, e_wSt2, e_isL0, e_isL1, e_isL2, e_lset, e_lclr0, e_lclr1, e_lclr2, e_lput0, e_lput1, e_lput2, e_wInc, e_wInc0, Nat.reduceLT, not_false_eq_true, Bool.or_false, Bool.false_or, Bool.or_true, Bool.true_or, Bool.and_false, Bool.false_and, Bool.and_true, Bool.true_and, e_ri, e_rz, e_wIc_ne, e_wIc_eq, e_wIf_eq, e_wIc_ge, bp_40, fX12_132, fX12_45, fX12_73, fX12_76, fX12_79, ic_0, ic_1, jt_104_10, jt_117_m35, jt_13_32, jt_18_27, jt_33_12, jt_42_5, jt_54_26, jt_5_40, jt_64_10, jt_77_m28, jt_85_35, jt_94_20, e_call, e_callS0, e_callS1, e_callS2, e_callS3, e_callS4, e_pop0, e_pop1, e_tl0, e_tl1, tbX12_join_f, tbX12_join_p, tbX12_join_k, tbX12_join_c186, tbX12_join_c193, tbX12_join_c202, g_245_17, l_268, s_268, g_245_26, l_267, s_267, cv_245_0, cv_245_1, cv_245_2, cv_245_3, cv_245_4, l_257, s_257, g_245_12, g_245_28, l_266, s_266, g_245_27, spX12_isWithin, spX12_isSense, spX12_goes, bi_0, bi_1, ne_eq, Classical.not_not, em_r, em_l]
  simp (disch := omega) only [wI_id, Int.toNat_natCast]
  refine ⟨fun q => ⟨h1, h2.1, h2.2, ?_⟩, fun q => ⟨by omega, by omega, fun q1 => ?_, fun q1 => ⟨by omega, by omega, fun q2 => ?_, fun q2 => ⟨by omega, by omega, ?_⟩⟩⟩⟩
  · rw [jmB_end (by omega)] at h3; exact h3
  · exact ih (n - 1) (by omega) S a b (i + 1) (by omega) h1 h2 (by rw [jmB_no (fun z => z.1 q1)]; exact h3)
  · exact ih (n - 1) (by omega) S a b (i + 1) (by omega) h1 h2 (by rw [jmB_no (fun z => q2 z.2)]; exact h3)
  · have e29 : (upI S 268 i b).1 245 29 = S.1 245 29 := up_obj (by decide)
    exact ih (n - 1) (by omega) _ a b (i + 1) (by omega) h1 (by rw [e29]; exact h2) (by rw [e29, jmB_yes (by omega) q1 q2]; exact h3)
set_option maxRecDepth 20000 in
set_option maxHeartbeats 4000000 in
theorem lpX12_joinA (l : Launch) (Q : Option aV → aS → Prop) : ∀ (n : Nat) (S : aS) (a b : Int) (i : Nat), i + n = (S.1 245 12).toNat → (0 ≤ a ∧ a < 40) → (0 ≤ S.1 245 29 ∧ S.1 245 29 ≤ 20) → S.1 245 12 ≤ 120 → Q (some (.inl 1)) (ggP a (S.1 245 29).toNat (upI (jmB (jmA S a b i) a b 0) 266 a.toNat 0)) → aGo l mX12_join Q 49 [(0, .inr (.inr 245)), (1, .inl a), (2, .inl b), (3, .inl (i : Int))] [] S := by
  intro n
  induction n using Nat.strongRecOn with
  | _ n ih =>
  intro S  a b  i  h0 h1 h2 h3 h4
  refine wp_go (tbX12_join_ok l) (fun pc => pc == 49 || pc == 82) 76 dX12_join_49 ?_
  show ws1 tbX12_join 4 (some .boolean) Q (wp cX12_join tbX12_join 4 (some .boolean) Q (fun pc => pc == 49 || pc == 82) (aGo l mX12_join Q) 76) (.iload_n 3) 1 49 [(0, .inr (.inr 245)), (1, .inl a), (2, .inl b), (3, .inl (i : Int))] [] S
  simp only [wp_s, wpC_f, wpC_t, e_wLd, e_wLd0, e_wLd1, e_wLd2, e_get1, e_get2, e_wJ, e_wJo, f40, f41, f42, f43, Nat.reduceAdd, Nat.reduceBEq, Nat.reduceMul, eq_self, true_or, or_true, true_and, dX12_join_0, dX12_join_1, dX12_join_2, dX12_join_5, dX12_join_8, dX12_join_9, dX12_join_10, dX12_join_13, dX12_join_16, dX12_join_17, dX12_join_18, dX12_join_21, dX12_join_22, dX12_join_25, dX12_join_26, dX12_join_27, dX12_join_28, dX12_join_31, dX12_join_32, dX12_join_33, dX12_join_36, dX12_join_37, dX12_join_38, dX12_join_39, dX12_join_42, dX12_join_45, dX12_join_46, dX12_join_47, dX12_join_48, dX12_join_49, dX12_join_50, dX12_join_51, dX12_join_54, dX12_join_57, dX12_join_58, dX12_join_61, dX12_join_62, dX12_join_63, dX12_join_64, dX12_join_67, dX12_join_68, dX12_join_71, dX12_join_72, dX12_join_73, dX12_join_74, dX12_join_77, dX12_join_80, dX12_join_81, dX12_join_82, dX12_join_83, dX12_join_85, dX12_join_88, dX12_join_89, dX12_join_92, dX12_join_93, dX12_join_94, dX12_join_97, dX12_join_98, dX12_join_101, dX12_join_102, dX12_join_103, dX12_join_104, dX12_join_107, dX12_join_108, dX12_join_111, dX12_join_112, dX12_join_113, dX12_join_114, dX12_join_117, dX12_join_120, dX12_join_121, dX12_join_122, dX12_join_125, dX12_join_126, e_aload_n, e_iload_n, e_istore_n, e_iconst, e_bipush, e_iinc, e_ifCond, e_if_icmp, e_goto, e_getfield, e_iaload, e_baload, e_iastore, e_invokevirtual, e_ireturn, e_wSt0, e_wSt1, e_wSt2, e_isL0, e_isL1, e_isL2, e_lset, e_lclr0, e_lclr1, e_lclr2, e_lput0, e_lput1, e_lput2, e_wInc, e_wInc0, Nat.reduceLT, not_false_eq_true, Bool.or_false, Bool.false_or, Bool.or_true, Bool.true_or, Bool.and_false, Bool.false_and, Bool.and_true, Bool.true_and, e_ri, e_rz, e_wIc_ne, e_wIc_eq, e_wIf_eq, e_wIc_ge, bp_40, fX12_132, fX12_45, fX12_73, fX12_76, fX12_79, ic_0, ic_1, jt_104_10, jt_117_m35, jt_13_32, jt_18_27, jt_33_12, jt_42_5, jt_54_26, jt_5_40, jt_64_10, jt_77_m28, jt_85_35, jt_94_20, e_call, e_callS0, e_callS1, e_callS2, e_callS3, e_callS4, e_pop0, e_pop1, e_tl0, e_tl1, tbX12_join_f, tbX12_join_p, tbX12_join_k, tbX12_join_c186, tbX12_join_c193, tbX12_join_c202, g_245_17, l_268, s_268, g_245_26, l_267, s_267, cv_245_0, cv_245_1, cv_245_2, cv_245_3, cv_245_4, l_257, s_257, g_245_12, g_245_28, l_266, s_266, g_245_27, spX12_isWithin, spX12_isSense, spX12_goes, bi_0, bi_1, ne_eq, Classical.not_not, em_r, em_l]
  simp (disch := omega) only [wI_id, Int.toNat_natCast]
  refine ⟨fun q => ?_, fun q => ⟨by omega, by omega, fun q1 => ?_, fun q1 => ⟨by omega, by omega, ?_⟩⟩⟩
  · rw [jmA_end (by omega)] at h4
    exact lpX12_joinB l Q 40 S a b 0 rfl h1 h2 h4
  · exact ih (n - 1) (by omega) S a b (i + 1) (by omega) h1 h2 h3 (by rw [jmA_no q1]; exact h4)
  · have e29 : (upI S 257 i b).1 245 29 = S.1 245 29 := up_obj (by decide)
    have e12 : (upI S 257 i b).1 245 12 = S.1 245 12 := up_obj (by decide)
    exact ih (n - 1) (by omega) _ a b (i + 1) (by rw [e12]; omega) h1 (by rw [e29]; exact h2) (by rw [e12]; exact h3) (by rw [e29, jmA_yes (by omega) q1]; exact h4)
set_option maxRecDepth 20000 in
set_option maxHeartbeats 4000000 in
theorem okX12_join (l : Launch) : aOK l mX12_join spX12_join := by
  refine aOK_of rfl fun as S Q h => ?_
  unfold spX12_join at h
  split at h
  · rename_i a b
    refine ⟨Nat.le_of_ble_eq_true rfl, wp_ok (tbX12_join_ok l) Q (fun pc => pc == 49) 76 0 _ [] S ?_⟩
    show wp cX12_join tbX12_join 4 (some .boolean) Q (fun pc => pc == 49) (aGo l mX12_join Q) 76 0 [(0, .inr (.inr 245)), (1, .inl a), (2, .inl b)] [] S
    simp only [wp_s, wpC_f, wpC_t, e_wLd, e_wLd0, e_wLd1, e_wLd2, e_get1, e_get2, e_wJ, e_wJo, f40, f41, f42, f43, Nat.reduceAdd, Nat.reduceBEq, Nat.reduceMul, eq_self, true_or, or_true, true_and, dX12_join_0, dX12_join_1, dX12_join_2, dX12_join_5, dX12_join_8, dX12_join_9, dX12_join_10, dX12_join_13, dX12_join_16, dX12_join_17, dX12_join_18, dX12_join_21, dX12_join_22, dX12_join_25, dX12_join_26, dX12_join_27, dX12_join_28, dX12_join_31, dX12_join_32, dX12_join_33, dX12_join_36, dX12_join_37, dX12_join_38, dX12_join_39, dX12_join_42, dX12_join_45, dX12_join_46, dX12_join_47, dX12_join_48, dX12_join_49, dX12_join_50, dX12_join_51, dX12_join_54, dX12_join_57, dX12_join_58, dX12_join_61, dX12_join_62, dX12_join_63, dX12_join_64, dX12_join_67, dX12_join_68, dX12_join_71, dX12_join_72, dX12_join_73, dX12_join_74, dX12_join_77, dX12_join_80, dX12_join_81, dX12_join_82, dX12_join_83, dX12_join_85, dX12_join_88, dX12_join_89, dX12_join_92, dX12_join_93, dX12_join_94, dX12_join_97, dX12_join_98, dX12_join_101, dX12_join_102, dX12_join_103, dX12_join_104, dX12_join_107, dX12_join_108, dX12_join_111, dX12_join_112, dX12_join_113, dX12_join_114, dX12_join_117, dX12_join_120, dX12_join_121, dX12_join_122, dX12_join_125, dX12_join_126, e_aload_n, e_iload_n, e_istore_n, e_iconst, e_bipush, e_iinc, e_ifCond, e_if_icmp, e_goto, e_getfield, e_iaload, e_baload, e_iastore, e_invokevirtual, e_ireturn, e_wSt0, e_wSt1, e_wSt2, e_isL0, e_isL1, e_isL2, e_lset, e_lclr0, e_lclr1, e_lclr2, e_lput0, e_lput1, e_lput2, e_wInc, e_wInc0, Nat.reduceLT, not_false_eq_true, Bool.or_false, Bool.false_or, Bool.or_true, Bool.true_or, Bool.and_false, Bool.false_and, Bool.and_true, Bool.true_and, e_ri, e_rz, e_wIc_ne, e_wIc_eq, e_wIf_eq, e_wIc_ge, bp_40, fX12_132, fX12_45, fX12_73, fX12_76, fX12_79, ic_0, ic_1, jt_104_10, jt_117_m35, jt_13_32, jt_18_27, jt_33_12, jt_42_5, jt_54_26, jt_5_40, jt_64_10, jt_77_m28, jt_85_35, jt_94_20, e_call, e_callS0, e_callS1, e_callS2, e_callS3, e_callS4, e_pop0, e_pop1, e_tl0, e_tl1, tbX12_join_f, tbX12_join_p, tbX12_join_k, tbX12_join_c186, tbX12_join_c193, tbX12_join_c202, g_245_17, l_268, s_268, g_245_26, l_267, s_267, cv_245_0, cv_245_1, cv_245_2, cv_245_3, cv_245_4, l_257, s_257, g_245_12, g_245_28, l_266, s_266, g_245_27, spX12_isWithin, spX12_isSense, spX12_goes, bi_0, bi_1, ne_eq, Classical.not_not, em_r, em_l]
    obtain ⟨h0, h1, h2, hA, hB⟩ := h
    replace h0 := hid h0
    replace hA := hid hA
    replace hB := hid hB
    repeat' (with_reducible first | intro _ | refine And.intro ?_ ?_)
    all_goals first
      | omega
      | exact h0 (by assumption)
      | exact hA (fun z => absurd z.1 (by assumption))
      | exact hA (fun z => absurd z.2.1 (by assumption))
      | exact hA (fun z => absurd (by assumption) z.2.2.1)
      | exact hA (fun z => absurd z.2.2.2.1 (by assumption))
      | exact hA (fun z => absurd (by assumption) z.2.2.2.2)
      | exact lpX12_joinA l Q (S.1 245 12).toNat S a b 0 (Nat.zero_add _) (by omega) h2 h1.2 (hB ⟨by assumption, by assumption, by assumption, by assumption, by assumption⟩)
      | skip
  · exact h.elim
