/-! THE REFERENCE: print -/
noncomputable def nbM (S : aS) (e : Int) : Nat → Int → Int → Int
  | 0, nx, _ => nx
  | n + 1, nx, x => @ite _ (nx = -1 ∧ ¬ x = -1) (Classical.propDecidable _) (nbM S e n (atM S e (S.1 268 x.toNat) (paM S x + 1)) (S.1 268 x.toNat)) nx
theorem nbM_no {S : aS} {e nx x : Int} (h : ¬ (nx = -1 ∧ ¬ x = -1)) : ∀ {n : Nat}, nbM S e n nx x = nx
  | 0 => rfl
  | _ + 1 => if_neg h
theorem nbM_yes {S : aS} {e nx x : Int} {n : Nat} (h : nx = -1 ∧ ¬ x = -1) : nbM S e (n + 1) nx x = nbM S e n (atM S e (S.1 268 x.toNat) (paM S x + 1)) (S.1 268 x.toNat) := if_pos h
noncomputable def nxM (S : aS) (e a : Int) : Int := nbM S e 40 (atM S e a 1) a
noncomputable def clL (S : aS) (e : Int) : Nat → Int → List Int
  | 0, _ => []
  | n + 1, a => if a = -1 then [] else prL S a ++ clL S e n (nxM S e a)
theorem clL_no {S : aS} {e : Int} : ∀ {n : Nat}, clL S e n (-1) = []
  | 0 => rfl
  | _ + 1 => if_pos rfl
theorem clL_yes {S : aS} {e a : Int} {n : Nat} (h : ¬ a = -1) : clL S e (n + 1) a = prL S a ++ clL S e n (nxM S e a) := if_neg h
def enT (S : aS) (e : Int) : Nat → Int → Prop
  | 0, a => a = -1
  | n + 1, a => a = -1 ∨ enT S e n (nxM S e a)
def vsM (S : aS) (a : Int) : Prop := 0 ≤ a ∧ a < 40 ∧ ¬ S.1 266 a.toNat = 0
theorem ff_val {p : Nat → Bool} : ∀ {n i : Nat}, ff p n i = -1 ∨ ∃ j : Nat, i ≤ j ∧ j < i + n ∧ p j = true ∧ ff p n i = (j : Int)
  | 0, _ => Or.inl rfl
  | n + 1, i => by
    unfold ff
    by_cases q : p i = true
    · rw [if_pos q]; exact Or.inr ⟨i, Nat.le_refl _, by omega, q, rfl⟩
    · rw [if_neg q]
      rcases ff_val (p := p) (n := n) (i := i + 1) with h | ⟨j, a, b, c, d⟩
      · exact Or.inl h
      · exact Or.inr ⟨j, by omega, by omega, c, d⟩
theorem cb_e {p : Prop} (h : cb p = true) : p := by
  by_cases q : p
  · exact q
  · rw [cb_f q] at h; exact absurd h (by decide)
theorem atM_v {S : aS} {e u p : Int} : atM S e u p = -1 ∨ (vsM S (atM S e u p) ∧ S.1 267 (atM S e u p).toNat = e ∧ S.1 268 (atM S e u p).toNat = u ∧ paM S (atM S e u p) = p) := by
  rcases ff_val (p := fun m => cb ((¬ S.1 266 m = 0 ∧ S.1 267 m = e ∧ S.1 268 m = u) ∧ paM S m = p)) (n := 40) (i := 0) with h | ⟨j, a, b, c, d⟩
  · exact Or.inl h
  · have d' : atM S e u p = (j : Int) := d
    have c' := cb_e c
    rw [d']
    exact Or.inr ⟨⟨by omega, by omega, c'.1.1⟩, c'.1.2.1, c'.1.2.2, c'.2⟩
theorem nbM_v {S : aS} {e : Int} : ∀ {n : Nat} {nx x : Int}, (nx = -1 ∨ vsM S nx) → (nbM S e n nx x = -1 ∨ vsM S (nbM S e n nx x))
  | 0, _, _, h => h
  | n + 1, nx, x, h => by
    by_cases q : nx = -1 ∧ ¬ x = -1
    · rw [nbM_yes q]
      exact nbM_v (atM_v.imp id fun z => z.1)
    · rw [nbM_no q]; exact h
theorem nxM_v {S : aS} {e a : Int} : nxM S e a = -1 ∨ vsM S (nxM S e a) := nbM_v (atM_v.imp id fun z => z.1)
noncomputable def hpM (S : aS) (e : Int) : Int := cnt (fun j => S.1 256 j == e && S.1 257 j == -1) (S.1 245 12).toNat
noncomputable def pnL (S : aS) (e : Int) : List Int := wd8L (S.2 263 (5 * e).toNat) ++ (58 :: (clL S e 40 (atM S e (-1) 1) ++ hpL (hpM S e)))
theorem ptE_P {S : aS} {l : List Int} {v u : Nat → Int} {a : Int} {p : Nat} : ptE (prM S l v u) a p = ptE S a p := by
  unfold ptE
  rw [mkM_P]
  rfl
theorem ptM_P {S : aS} {l : List Int} {v u : Nat → Int} {a : Int} : ∀ {n p : Nat}, ptM (prM S l v u) a n p = ptM S a n p
  | 0, _ => rfl
  | n + 1, p => by unfold ptM; rw [ptE_P, ptM_P]
theorem prL_P {S : aS} {l : List Int} {v u : Nat → Int} : prL (prM S l v u) = prL S := by
  funext a
  unfold prL
  rw [mkM_P, ptM_P]
  rfl
theorem hpM_P {S : aS} {l : List Int} {v u : Nat → Int} : hpM (prM S l v u) = hpM S := rfl
def wz (S : aS) : aS := upI S 245 42 0
def spX12_print : aSp := fun as S Q => match as with
  | [.inr (.inr 245), .inl e] => (¬ (0 ≤ e ∧ e < S.1 245 13) → Q (some (.inl (-1))) S) ∧ ((0 ≤ e ∧ e < S.1 245 13) → e < 12 ∧ pqP (wz S) ∧ wrd8 (S.2 263 (5 * e).toNat) ∧ enT (wz S) e 40 (atM (wz S) e (-1) 1) ∧ (pnL (wz S) e).length ≤ 20000 ∧ ∀ v u, Q (some (.inl ((pnL (wz S) e).length : Int))) (prM (wz S) (pnL (wz S) e) v u))
  | _ => False
def tbX12_print : aTb := (fX12, pX12, fun j => lk [(152, (some 12), 2, spX12_isEntry), (240, (some 12), 2, spX12_place), (275, (some 12), 2, spX12_puts), (278, (some 12), 2, spX12_number), (284, (some 12), 2, spX12_letters), (288, (some 12), 4, spX12_at), (292, (some 12), 2, spX12_prints), (295, (some 12), 2, spX12_heap)] j, kX12)
theorem tbX12_print_f : tbX12_print.1 = fX12 := rfl
theorem tbX12_print_p : tbX12_print.2.1 = pX12 := rfl
theorem tbX12_print_k : tbX12_print.2.2.2 = kX12 := rfl
theorem tbX12_print_c152 : tbX12_print.2.2.1 152 = some ((some 12), 2, spX12_isEntry) := rfl
theorem tbX12_print_c240 : tbX12_print.2.2.1 240 = some ((some 12), 2, spX12_place) := rfl
theorem tbX12_print_c275 : tbX12_print.2.2.1 275 = some ((some 12), 2, spX12_puts) := rfl
theorem tbX12_print_c278 : tbX12_print.2.2.1 278 = some ((some 12), 2, spX12_number) := rfl
theorem tbX12_print_c284 : tbX12_print.2.2.1 284 = some ((some 12), 2, spX12_letters) := rfl
theorem tbX12_print_c288 : tbX12_print.2.2.1 288 = some ((some 12), 4, spX12_at) := rfl
theorem tbX12_print_c292 : tbX12_print.2.2.1 292 = some ((some 12), 2, spX12_prints) := rfl
theorem tbX12_print_c295 : tbX12_print.2.2.1 295 = some ((some 12), 2, spX12_heap) := rfl
theorem tbX12_print_all (l : Launch) : ∀ e ∈ ([(152, (some 12), 2, spX12_isEntry), (240, (some 12), 2, spX12_place), (275, (some 12), 2, spX12_puts), (278, (some 12), 2, spX12_number), (284, (some 12), 2, spX12_letters), (288, (some 12), 4, spX12_at), (292, (some 12), 2, spX12_prints), (295, (some 12), 2, spX12_heap)] : List (Nat × Option Nat × Nat × aSp)), cOK l mX12_print e.1 e.2.1 e.2.2.1 e.2.2.2 ∨ mOK mX12_print e.1 e.2.1 e.2.2.1 e.2.2.2 := all_cons (cOK_of (okX12_isEntry l) meX12_isEntry cfX12_152 (by decide) (by decide)) (all_cons (cOK_of (okX12_place l) meX12_place cfX12_240 (by decide) (by decide)) (all_cons (cOK_of (okX12_puts l) meX12_puts cfX12_275 (by decide) (by decide)) (all_cons (cOK_of (okX12_number l) meX12_number cfX12_278 (by decide) (by decide)) (all_cons (cOK_of (okX12_letters l) meX12_letters cfX12_284 (by decide) (by decide)) (all_cons (cOK_of (okX12_at l) meX12_at cfX12_288 (by decide) (by decide)) (all_cons (cOK_of (okX12_prints l) meX12_prints cfX12_292 (by decide) (by decide)) (all_cons (cOK_of (okX12_heap l) meX12_heap cfX12_295 (by decide) (by decide)) (all_nil))))))))
theorem tbX12_print_ok (l : Launch) : tOK l mX12_print tbX12_print := ⟨fX12_ok, pX12_ok, fun _ _ _ _ h => tbX12_print_all l _ (lk_mem h), kX12_ok⟩
set_option maxRecDepth 20000 in
set_option maxHeartbeats 4000000 in
theorem lpQ2 (l : Launch) (Q : Option aV → aS → Prop) : ∀ (n : Nat) (S : aS) (e a nx x : Int) (L : List Int) (v u : Nat → Int), n ≤ 40 → pqP S → chn (S.1 268) n x → (∀ v u, aGo l mX12_print Q 41 [(0, .inr (.inr 245)), (1, .inl e), (2, .inl (nbM S e n nx x))] [] (prM S L v u)) → aGo l mX12_print Q 62 [(0, .inr (.inr 245)), (1, .inl e), (2, .inl a), (3, .inl nx), (4, .inl x)] [] (prM S L v u) := by
  intro n
  induction n using Nat.strongRecOn with
  | _ n ih =>
  intro S  e a nx x  L  v u  h0 h1 h2 h3
  refine wp_go (tbX12_print_ok l) (fun pc => pc == 41 || pc == 62) 88 dX12_print_62 ?_
  show ws1 tbX12_print 5 (some .int) Q (wp cX12_print tbX12_print 5 (some .int) Q (fun pc => pc == 41 || pc == 62) (aGo l mX12_print Q) 88) (.iload_n 3) 1 62 [(0, .inr (.inr 245)), (1, .inl e), (2, .inl a), (3, .inl nx), (4, .inl x)] [] (prM S L v u)
  simp only [wp_s, wpC_f, wpC_t, e_wLd, e_wLd0, e_wLd1, e_wLd2, e_get1, e_get2, e_wJ, e_wJo, f40, f41, f42, f43, Nat.reduceAdd, Nat.reduceBEq, Nat.reduceMul, eq_self, true_or, or_true, true_and, dX12_print_0, dX12_print_1, dX12_print_2, dX12_print_5, dX12_print_8, dX12_print_9, dX12_print_10, dX12_print_11, dX12_print_12, dX12_print_15, dX12_print_16, dX12_print_17, dX12_print_20, dX12_print_21, dX12_print_22, dX12_print_23, dX12_print_24, dX12_print_27, dX12_print_28, dX12_print_30, dX12_print_33, dX12_print_34, dX12_print_35, dX12_print_36, dX12_print_37, dX12_print_40, dX12_print_41, dX12_print_42, dX12_print_43, dX12_print_46, dX12_print_47, dX12_print_48, dX12_print_51, dX12_print_52, dX12_print_53, dX12_print_54, dX12_print_55, dX12_print_58, dX12_print_59, dX12_print_60, dX12_print_62, dX12_print_63, dX12_print_64, dX12_print_67, dX12_print_69, dX12_print_70, dX12_print_73, dX12_print_74, dX12_print_75, dX12_print_76, dX12_print_79, dX12_print_81, dX12_print_82, dX12_print_83, dX12_print_85, dX12_print_88, dX12_print_89, dX12_print_90, dX12_print_93, dX12_print_94, dX12_print_95, dX12_print_98, dX12_print_100, dX12_print_101, dX12_print_103, dX12_print_106, dX12_print_107, dX12_print_108, dX12_print_111, dX12_print_112, dX12_print_113, dX12_print_116, dX12_print_119, dX12_print_120, dX12_print_122, dX12_print_125, dX12_print_126, dX12_print_128, dX12_print_131, dX12_print_132, dX12_print_133, dX12_print_134, dX12_print_137, dX12_print_140, dX12_print_141, dX12_print_144, e_aload_n, e_iload_n, e_iload, e_istore_n, e_istore, e_iconst, e_bipush, e_iadd, e_imul, e_ifCond, e_if_icmp, e_goto, e_getfield, e_putfield, e_iaload, e_laload, e_invokevirtual, e_ireturn, e_wSt0, e_wSt1, e_wSt2, e_isL0, e_isL1, e_isL2, e_lset, e_lclr0, e_lclr1, e_lclr2, e_lput0, e_lput1, e_lput2, e_wInc, e_wInc0, Nat.reduceLT, not_false_eq_true, Bool.or_false, Bool.false_or, Bool.or_true, Bool.true_or, Bool.and_false, Bool.false_and, Bool.and_true, Bool.true_and, e_ri, e_rz, e_wI2, e_wIf_le, e_wIc_eq, e_wIf_ne, e_wIc_ne, bp_32, bp_43, bp_58, fX12_272, fX12_64, fX12_79, ic_0, ic_1, ic_5, ic_m1, jt_103_m41, jt_108_m67, jt_116_24, jt_43_68, jt_5_5, jt_64_42, jt_70_36, pX12_272, e_call, e_callS0, e_callS1, e_callS2, e_callS3, e_callS4, e_pop0, e_pop1, e_tl0, e_tl1, tbX12_print_f, tbX12_print_p, tbX12_print_k, tbX12_print_c152, tbX12_print_c240, tbX12_print_c275, tbX12_print_c278, tbX12_print_c284, tbX12_print_c288, tbX12_print_c292, tbX12_print_c295, l_263, cv_245_0, cv_245_1, cv_245_2, cv_245_3, cv_245_4, g_245_28, l_268, g_245_23, p_245_42, g_245_42, spX12_at, spX12_prints, spX12_place, spX12_heap, spX12_number, spX12_letters, spX12_isEntry, spPu_e, bi_0, bi_1, ne_eq, Classical.not_not, em_r, em_l]
  have h1' := h1
  obtain ⟨g1, g2, g3, g4, g5, g6⟩ := h1'
  simp (disch := decide) only [pr_sv, pr_u, pr_v, pr_c g6, pr_w, pr_2, pr_up, wok_P, paM_P, wcM_P, wmF_P, wmL_P, wvP_P, mkM_P, atM_P, prL_P, pqP_P g6, pr_a, pr_f, pr_vv, List.append_assoc]
  have fin : (¬ (nx = -1 ∧ ¬ x = -1)) → aGo l mX12_print Q 41 [(0, .inr (.inr 245)), (1, .inl e), (2, .inl nx), (3, .inl nx), (4, .inl x)] [] (prM S L v u) := fun q => by
    have z := h3 v u
    rw [nbM_no q] at z
    exact aGo_sub z (fun q hq => List.mem_append_left ([(3, Sum.inl _), (4, Sum.inl _)] : aL) hq)
  refine ⟨fun q => fin (fun z => q z.1), fun q => ⟨fun q2 => fin (fun z => z.2 q2), fun q2 => ?_⟩⟩
  rcases n with _ | n
  · exact absurd h2 q2
  · obtain ⟨c1, c2, c3⟩ := h2.resolve_left q2
    have hp := paM_b (S := S) (a := x)
    have ep : wI (paM S x + 1) = paM S x + 1 := wI_id (by omega) (by omega)
    rw [ep]
    rw [nbM_yes ⟨q, q2⟩] at h3
    exact ⟨c1, c2, g1, ⟨c1, c2⟩, fun _ => ⟨g1, fun v => ⟨c1, c2, ih n (by omega) S e a _ _ L v u (by omega) h1 c3 h3⟩⟩⟩
set_option maxRecDepth 20000 in
set_option maxHeartbeats 4000000 in
theorem lpQ1 (l : Launch) (Q : Option aV → aS → Prop) : ∀ (n : Nat) (S : aS) (e a : Int) (L : List Int) (v u : Nat → Int), n ≤ 40 → pqP S → enT S e n a → (a = -1 ∨ vsM S a) → S.1 245 42 + ((L.length + (clL S e n a).length : Nat) : Int) ≤ 20000 → (∀ v u, aGo l mX12_print Q 111 [(0, .inr (.inr 245)), (1, .inl e), (2, .inl (-1))] [] (prM S (L ++ clL S e n a) v u)) → aGo l mX12_print Q 41 [(0, .inr (.inr 245)), (1, .inl e), (2, .inl a)] [] (prM S L v u) := by
  intro n
  induction n using Nat.strongRecOn with
  | _ n ih =>
  intro S  e a  L  v u  h0 h1 h2 h3 h4 h5
  refine wp_go (tbX12_print_ok l) (fun pc => pc == 41 || pc == 62 || pc == 111) 88 dX12_print_41 ?_
  show ws1 tbX12_print 5 (some .int) Q (wp cX12_print tbX12_print 5 (some .int) Q (fun pc => pc == 41 || pc == 62 || pc == 111) (aGo l mX12_print Q) 88) (.iload_n 2) 1 41 [(0, .inr (.inr 245)), (1, .inl e), (2, .inl a)] [] (prM S L v u)
  simp only [wp_s, wpC_f, wpC_t, e_wLd, e_wLd0, e_wLd1, e_wLd2, e_get1, e_get2, e_wJ, e_wJo, f40, f41, f42, f43, Nat.reduceAdd, Nat.reduceBEq, Nat.reduceMul, eq_self, true_or, or_true, true_and, dX12_print_0, dX12_print_1, dX12_print_2, dX12_print_5, dX12_print_8, dX12_print_9, dX12_print_10, dX12_print_11, dX12_print_12, dX12_print_15, dX12_print_16, dX12_print_17, dX12_print_20, dX12_print_21, dX12_print_22, dX12_print_23, dX12_print_24, dX12_print_27, dX12_print_28, dX12_print_30, dX12_print_33, dX12_print_34, dX12_print_35, dX12_print_36, dX12_print_37, dX12_print_40, dX12_print_41, dX12_print_42, dX12_print_43, dX12_print_46, dX12_print_47, dX12_print_48, dX12_print_51, dX12_print_52, dX12_print_53, dX12_print_54, dX12_print_55, dX12_print_58, dX12_print_59, dX12_print_60, dX12_print_62, dX12_print_63, dX12_print_64, dX12_print_67, dX12_print_69, dX12_print_70, dX12_print_73, dX12_print_74, dX12_print_75, dX12_print_76, dX12_print_79, dX12_print_81, dX12_print_82, dX12_print_83, dX12_print_85, dX12_print_88, dX12_print_89, dX12_print_90, dX12_print_93, dX12_print_94, dX12_print_95, dX12_print_98, dX12_print_100, dX12_print_101, dX12_print_103, dX12_print_106, dX12_print_107, dX12_print_108, dX12_print_111, dX12_print_112, dX12_print_113, dX12_print_116, dX12_print_119, dX12_print_120, dX12_print_122, dX12_print_125, dX12_print_126, dX12_print_128, dX12_print_131, dX12_print_132, dX12_print_133, dX12_print_134, dX12_print_137, dX12_print_140, dX12_print_141, dX12_print_144, e_aload_n, e_iload_n, e_iload, e_istore_n, e_istore, e_iconst, e_bipush, e_iadd, e_imul, e_ifCond, e_if_icmp, e_goto, e_getfield, e_putfield, e_iaload, e_laload, e_invokevirtual, e_ireturn, e_wSt0, e_wSt1, e_wSt2, e_isL0, e_isL1, e_isL2, e_lset, e_lclr0, e_lclr1, e_lclr2, e_lput0, e_lput1, e_lput2, e_wInc, e_wInc0, Nat.reduceLT, not_false_eq_true, Bool.or_false, Bool.false_or, Bool.or_true, Bool.true_or, Bool.and_false, Bool.false_and, Bool.and_true, Bool.true_and, e_ri, e_rz, e_wI2, e_wIf_le, e_wIc_eq, e_wIf_ne, e_wIc_ne, bp_32, bp_43, bp_58, fX12_272, fX12_64, fX12_79, ic_0, ic_1, ic_5, ic_m1, jt_103_m41, jt_108_m67, jt_116_24, jt_43_68, jt_5_5, jt_64_42, jt_70_36, pX12_272, e_call, e_callS0, e_callS1, e_callS2, e_callS3, e_callS4, e_pop0, e_pop1, e_tl0, e_tl1, tbX12_print_f, tbX12_print_p, tbX12_print_k, tbX12_print_c152, tbX12_print_c240, tbX12_print_c275, tbX12_print_c278, tbX12_print_c284, tbX12_print_c288, tbX12_print_c292, tbX12_print_c295, l_263, cv_245_0, cv_245_1, cv_245_2, cv_245_3, cv_245_4, g_245_28, l_268, g_245_23, p_245_42, g_245_42, spX12_at, spX12_prints, spX12_place, spX12_heap, spX12_number, spX12_letters, spX12_isEntry, spPu_e, bi_0, bi_1, ne_eq, Classical.not_not, em_r, em_l]
  have h1' := h1
  obtain ⟨g1, g2, g3, g4, g5, g6⟩ := h1'
  simp (disch := decide) only [pr_sv, pr_u, pr_v, pr_c g6, pr_w, pr_2, pr_up, wok_P, paM_P, wcM_P, wmF_P, wmL_P, wvP_P, mkM_P, atM_P, prL_P, pqP_P g6, pr_a, pr_f, pr_vv, List.append_assoc]
  refine ⟨fun q => ?_, fun q => ?_⟩
  · subst q
    have z := h5 v u
    rw [clL_no, List.append_nil] at z
    exact z
  · have hv := h3.resolve_left q
    rcases n with _ | n
    · exact absurd h2 q
    · have h2' := h2.resolve_left q
      rw [clL_yes q] at h4 h5
      rw [List.length_append] at h4
      have en : nxM S e a = nbM S e 40 (atM S e a 1) a := rfl
      rw [en] at h4 h5 h2'
      have hch := g2 a.toNat (by have := hv.1; have := hv.2.1; omega) hv.2.2
      rw [show ((a.toNat : Nat) : Int) = a from by have := hv.1; omega] at hch
      refine ⟨h1, hv, by omega, fun v u => ⟨g1, fun v => ?_⟩⟩
      refine lpQ2 l Q 40 S e a _ a _ v u (Nat.le_refl _) h1 hch (fun v u => ?_)
      exact ih n (by omega) S e _ _ v u (by omega) h1 h2' (en ▸ nxM_v) (by rw [List.length_append]; omega) (fun v u => by rw [List.append_assoc]; exact h5 v u)
set_option maxRecDepth 20000 in
set_option maxHeartbeats 4000000 in
theorem lpQ3 (l : Launch) (Q : Option aV → aS → Prop) (S : aS) (e : Int) (L : List Int) (v u : Nat → Int) (h0 : pqP S) (h1 : S.1 245 42 + ((L.length + (hpL (hpM S e)).length : Nat) : Int) ≤ 20000) (h2 : (∀ v u, Q (some (.inl (S.1 245 42 + ((L ++ hpL (hpM S e)).length : Int)))) (prM S (L ++ hpL (hpM S e)) v u))) : aGo l mX12_print Q 111 [(0, .inr (.inr 245)), (1, .inl e), (2, .inl (-1))] [] (prM S L v u) := by
  refine wp_go (tbX12_print_ok l) (fun pc => false) 88 dX12_print_111 ?_
  show ws1 tbX12_print 5 (some .int) Q (wp cX12_print tbX12_print 5 (some .int) Q (fun pc => false) (aGo l mX12_print Q) 88) (.aload_n 0) 1 111 [(0, .inr (.inr 245)), (1, .inl e), (2, .inl (-1))] [] (prM S L v u)
  simp only [wp_s, wpC_f, wpC_t, e_wLd, e_wLd0, e_wLd1, e_wLd2, e_get1, e_get2, e_wJ, e_wJo, f40, f41, f42, f43, Nat.reduceAdd, Nat.reduceBEq, Nat.reduceMul, eq_self, true_or, or_true, true_and, dX12_print_0, dX12_print_1, dX12_print_2, dX12_print_5, dX12_print_8, dX12_print_9, dX12_print_10, dX12_print_11, dX12_print_12, dX12_print_15, dX12_print_16, dX12_print_17, dX12_print_20, dX12_print_21, dX12_print_22, dX12_print_23, dX12_print_24, dX12_print_27, dX12_print_28, dX12_print_30, dX12_print_33, dX12_print_34, dX12_print_35, dX12_print_36, dX12_print_37, dX12_print_40, dX12_print_41, dX12_print_42, dX12_print_43, dX12_print_46, dX12_print_47, dX12_print_48, dX12_print_51, dX12_print_52, dX12_print_53, dX12_print_54, dX12_print_55, dX12_print_58, dX12_print_59, dX12_print_60, dX12_print_62, dX12_print_63, dX12_print_64, dX12_print_67, dX12_print_69, dX12_print_70, dX12_print_73, dX12_print_74, dX12_print_75, dX12_print_76, dX12_print_79, dX12_print_81, dX12_print_82, dX12_print_83, dX12_print_85, dX12_print_88, dX12_print_89, dX12_print_90, dX12_print_93, dX12_print_94, dX12_print_95, dX12_print_98, dX12_print_100, dX12_print_101, dX12_print_103, dX12_print_106, dX12_print_107, dX12_print_108, dX12_print_111, dX12_print_112, dX12_print_113, dX12_print_116, dX12_print_119, dX12_print_120, dX12_print_122, dX12_print_125, dX12_print_126, dX12_print_128, dX12_print_131, dX12_print_132, dX12_print_133, dX12_print_134, dX12_print_137, dX12_print_140, dX12_print_141, dX12_print_144, e_aload_n, e_iload_n, e_iload, e_istore_n, e_istore, e_iconst, e_bipush, e_iadd, e_imul, e_ifCond, e_if_icmp, e_goto, e_getfield, e_putfield, e_iaload, e_laload, e_invokevirtual, e_ireturn, e_wSt0, e_wSt1, e_wSt2, e_isL0, e_isL1, e_isL2, e_lset, e_lclr0, e_lclr1, e_lclr2, e_lput0, e_lput1, e_lput2, e_wInc, e_wInc0, Nat.reduceLT, not_false_eq_true, Bool.or_false, Bool.false_or, Bool.or_true, Bool.true_or, Bool.and_false, Bool.false_and, Bool.and_true, Bool.true_and, e_ri, e_rz, e_wI2, e_wIf_le, e_wIc_eq, e_wIf_ne, e_wIc_ne, bp_32, bp_43, bp_58, fX12_272, fX12_64, fX12_79, ic_0, ic_1, ic_5, ic_m1, jt_103_m41, jt_108_m67, jt_116_24, jt_43_68, jt_5_5, jt_64_42, jt_70_36, pX12_272, e_call, e_callS0, e_callS1, e_callS2, e_callS3, e_callS4, e_pop0, e_pop1, e_tl0, e_tl1, tbX12_print_f, tbX12_print_p, tbX12_print_k, tbX12_print_c152, tbX12_print_c240, tbX12_print_c275, tbX12_print_c278, tbX12_print_c284, tbX12_print_c288, tbX12_print_c292, tbX12_print_c295, l_263, cv_245_0, cv_245_1, cv_245_2, cv_245_3, cv_245_4, g_245_28, l_268, g_245_23, p_245_42, g_245_42, spX12_at, spX12_prints, spX12_place, spX12_heap, spX12_number, spX12_letters, spX12_isEntry, spPu_e, bi_0, bi_1, ne_eq, Classical.not_not, em_r, em_l]
  have h0' := h0
  obtain ⟨g1, g2, g3, g4, g5, g6⟩ := h0'
  have g12 := g1.1
  have eh : cnt (fun j => S.1 256 j == e && S.1 257 j == -1) (S.1 245 12).toNat = hpM S e := rfl
  have hb : 0 ≤ hpM S e ∧ hpM S e ≤ 120 := by
    have := cnt_b (fun j => S.1 256 j == e && S.1 257 j == -1) (S.1 245 12).toNat
    rw [eh] at this
    omega
  simp (disch := decide) only [pr_sv, pr_u, pr_v, pr_c g6, pr_w, pr_2, pr_up, wok_P, paM_P, wcM_P, wmF_P, wmL_P, wvP_P, mkM_P, atM_P, prL_P, pqP_P g6, pr_a, pr_f, pr_vv, List.append_assoc]
  simp only [eh]
  have z := h2 v u
  clear h2
  have hl := dgt_len (n := hpM S e)
  by_cases c : 0 < hpM S e
  · have e1 : hpL (hpM S e) = [32] ++ ([43] ++ dgt (hpM S e)) := by unfold hpL; rw [if_pos c]; rfl
    rw [e1] at h1 z
    simp only [List.length_append, List.length_cons, List.length_nil] at h1 z ⊢
    repeat' (with_reducible first | intro _ | refine And.intro ?_ ?_)
    all_goals first
      | omega
      | exact z
      | skip
  · have e1 : hpL (hpM S e) = [] := by unfold hpL; rw [if_neg c]
    rw [e1, List.append_nil] at z
    repeat' (with_reducible first | intro _ | refine And.intro ?_ ?_)
    all_goals first
      | omega
      | exact z
      | skip
set_option maxRecDepth 20000 in
set_option maxHeartbeats 4000000 in
theorem okX12_print (l : Launch) : aOK l mX12_print spX12_print := by
  refine aOK_of rfl fun as S Q h => ?_
  unfold spX12_print at h
  split at h
  · rename_i e
    refine ⟨Nat.le_of_ble_eq_true rfl, wp_ok (tbX12_print_ok l) Q (fun pc => pc == 41) 88 0 _ [] S ?_⟩
    show wp cX12_print tbX12_print 5 (some .int) Q (fun pc => pc == 41) (aGo l mX12_print Q) 88 0 [(0, .inr (.inr 245)), (1, .inl e)] [] S
    simp only [wp_s, wpC_f, wpC_t, e_wLd, e_wLd0, e_wLd1, e_wLd2, e_get1, e_get2, e_wJ, e_wJo, f40, f41, f42, f43, Nat.reduceAdd, Nat.reduceBEq, Nat.reduceMul, eq_self, true_or, or_true, true_and, dX12_print_0, dX12_print_1, dX12_print_2, dX12_print_5, dX12_print_8, dX12_print_9, dX12_print_10, dX12_print_11, dX12_print_12, dX12_print_15, dX12_print_16, dX12_print_17, dX12_print_20, dX12_print_21, dX12_print_22, dX12_print_23, dX12_print_24, dX12_print_27, dX12_print_28, dX12_print_30, dX12_print_33, dX12_print_34, dX12_print_35, dX12_print_36, dX12_print_37, dX12_print_40, dX12_print_41, dX12_print_42, dX12_print_43, dX12_print_46, dX12_print_47, dX12_print_48, dX12_print_51, dX12_print_52, dX12_print_53, dX12_print_54, dX12_print_55, dX12_print_58, dX12_print_59, dX12_print_60, dX12_print_62, dX12_print_63, dX12_print_64, dX12_print_67, dX12_print_69, dX12_print_70, dX12_print_73, dX12_print_74, dX12_print_75, dX12_print_76, dX12_print_79, dX12_print_81, dX12_print_82, dX12_print_83, dX12_print_85, dX12_print_88, dX12_print_89, dX12_print_90, dX12_print_93, dX12_print_94, dX12_print_95, dX12_print_98, dX12_print_100, dX12_print_101, dX12_print_103, dX12_print_106, dX12_print_107, dX12_print_108, dX12_print_111, dX12_print_112, dX12_print_113, dX12_print_116, dX12_print_119, dX12_print_120, dX12_print_122, dX12_print_125, dX12_print_126, dX12_print_128, dX12_print_131, dX12_print_132, dX12_print_133, dX12_print_134, dX12_print_137, dX12_print_140, dX12_print_141, dX12_print_144, e_aload_n, e_iload_n, e_iload, e_istore_n, e_istore, e_iconst, e_bipush, e_iadd, e_imul, e_ifCond, e_if_icmp, e_goto, e_getfield, e_putfield, e_iaload, e_laload, e_invokevirtual, e_ireturn, e_wSt0, e_wSt1, e_wSt2, e_isL0, e_isL1, e_isL2, e_lset, e_lclr0, e_lclr1, e_lclr2, e_lput0, e_lput1, e_lput2, e_wInc, e_wInc0, Nat.reduceLT, not_false_eq_true, Bool.or_false, Bool.false_or, Bool.or_true, Bool.true_or, Bool.and_false, Bool.false_and, Bool.and_true, Bool.true_and, e_ri, e_rz, e_wI2, e_wIf_le, e_wIc_eq, e_wIf_ne, e_wIc_ne, bp_32, bp_43, bp_58, fX12_272, fX12_64, fX12_79, ic_0, ic_1, ic_5, ic_m1, jt_103_m41, jt_108_m67, jt_116_24, jt_43_68, jt_5_5, jt_64_42, jt_70_36, pX12_272, e_call, e_callS0, e_callS1, e_callS2, e_callS3, e_callS4, e_pop0, e_pop1, e_tl0, e_tl1, tbX12_print_f, tbX12_print_p, tbX12_print_k, tbX12_print_c152, tbX12_print_c240, tbX12_print_c275, tbX12_print_c278, tbX12_print_c284, tbX12_print_c288, tbX12_print_c292, tbX12_print_c295, l_263, cv_245_0, cv_245_1, cv_245_2, cv_245_3, cv_245_4, g_245_28, l_268, g_245_23, p_245_42, g_245_42, spX12_at, spX12_prints, spX12_place, spX12_heap, spX12_number, spX12_letters, spX12_isEntry, spPu_e, bi_0, bi_1, ne_eq, Classical.not_not, em_r, em_l]
    obtain ⟨hA, hB⟩ := h
    by_cases he : 0 ≤ e ∧ e < S.1 245 13
    · obtain ⟨k1, k2, k3, k4, k5, k6⟩ := hB he
      have k2' := k2
      obtain ⟨g1, g2, g3, g4, g5, g6⟩ := k2'
      have e5 : wI (5 * e) = 5 * e := wI_id (by omega) (by omega)
      have ewz : upI S 245 42 0 = wz S := rfl
      have e263 : (wz S).2 = S.2 := rfl
      have e42 : (wz S).1 245 42 = 0 := up_hit
      simp only [e5, ewz, e263]
      simp (disch := decide) only [pr_sv, pr_u, pr_v, pr_c g6, pr_w, pr_2, pr_up, wok_P, paM_P, wcM_P, wmF_P, wmL_P, wvP_P, mkM_P, atM_P, prL_P, pqP_P g6, pr_a, pr_f, pr_vv, List.append_assoc]
      have k7 := wd8L_len (w := S.2 263 (5 * e).toNat)
      have hP : pnL (wz S) e = (wd8L (S.2 263 (5 * e).toNat) ++ ([58] ++ clL (wz S) e 40 (atM (wz S) e (-1) 1))) ++ hpL (hpM (wz S) e) := by
        unfold pnL
        simp only [List.append_assoc, List.cons_append, List.nil_append]
        rfl
      have hPl := congrArg List.length hP
      simp only [List.length_append, List.length_cons, List.length_nil] at hPl
      refine ⟨fun _ => ⟨by omega, by omega, k3, g6, by omega, by omega, ?_, g1, fun v => ?_⟩, fun q => absurd he q⟩
      · omega
      · refine lpQ1 l Q 40 (wz S) e _ _ v _ (Nat.le_refl _) k2 k4 (atM_v.imp id fun z => z.1) (by simp only [List.length_append, List.length_cons, List.length_nil]; omega) (fun v u => ?_)
        refine lpQ3 l Q (wz S) e _ v u k2 (by simp only [List.length_append, List.length_cons, List.length_nil]; omega) (fun v u => ?_)
        have z := k6 v u
        rw [hP] at z
        rw [e42, Int.zero_add]
        simp only [List.append_assoc] at z ⊢
        exact z
    · exact ⟨fun q => absurd q he, fun _ => hA he⟩
  · exact h.elim
