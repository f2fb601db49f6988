/-! THE REFERENCE: marks, places -/
def upA (P : Nat → Int) : Nat → Int → Nat → (Nat → Int) → (Nat → Int) × Nat
  | 0, _, d, g => (g, d)
  | n + 1, x, d, g => if x = -1 then (g, d) else upA P n (P x.toNat) (d + 1) (fu g d x)
theorem upA_no {P : Nat → Int} {d : Nat} {g : Nat → Int} : ∀ {n : Nat}, upA P n (-1) d g = (g, d)
  | 0 => rfl
  | _ + 1 => if_pos rfl
theorem upA_yes {P : Nat → Int} {d n : Nat} {g : Nat → Int} {x : Int} (h : ¬ x = -1) : upA P (n + 1) x d g = upA P n (P x.toNat) (d + 1) (fu g d x) := if_neg h
theorem upA_d {P : Nat → Int} : ∀ {n : Nat} {x : Int} {d : Nat} {g : Nat → Int}, d ≤ (upA P n x d g).2 ∧ (upA P n x d g).2 ≤ d + n
  | 0, _, d, _ => ⟨Nat.le_refl _, Nat.le_refl _⟩
  | n + 1, x, d, g => by
    by_cases h : x = -1
    · rw [h, upA_no]; exact ⟨Nat.le_refl _, by omega⟩
    · rw [upA_yes h]
      have := upA_d (P := P) (n := n) (x := P x.toNat) (d := d + 1) (g := fu g d x)
      omega
theorem upA_o {P : Nat → Int} : ∀ {n : Nat} {x : Int} {d : Nat} {g : Nat → Int} {j : Nat}, j < d → (upA P n x d g).1 j = g j
  | 0, _, _, _, _, _ => rfl
  | n + 1, x, d, g, j, hj => by
    by_cases h : x = -1
    · rw [h, upA_no]
    · rw [upA_yes h, upA_o (by omega)]
      exact if_neg (by omega)
theorem upA_r {P : Nat → Int} : ∀ {n : Nat} {x : Int} {d : Nat} {g : Nat → Int}, chn P n x → ∀ j, d ≤ j → j < (upA P n x d g).2 → 0 ≤ (upA P n x d g).1 j ∧ (upA P n x d g).1 j < 40
  | 0, _, d, _, _, j, h1, h2 => absurd h2 (by show ¬ j < d; omega)
  | n + 1, x, d, g, hc, j, h1, h2 => by
    by_cases h : x = -1
    · rw [h, upA_no] at h2
      exact absurd h2 (by show ¬ j < d; omega)
    · obtain ⟨a, b, c⟩ := hc.resolve_left h
      rw [upA_yes h] at h2 ⊢
      by_cases e : j = d
      · subst e
        rw [upA_o (by omega)]
        simp [fu]; omega
      · exact upA_r c j (by omega) h2
/-- a mark, from place k down -/
noncomputable def pbM (S : aS) (g : Nat → Int) : Nat → List Int
  | 0 => []
  | k + 1 => dgt (paM S (g k)) ++ ((if 0 < k then [46] else []) ++ pbM S g k)
noncomputable def mkM (S : aS) (a : Int) : List Int := pbM S (upA (S.1 268) 40 a 0 (fun _ => 0)).1 (upA (S.1 268) 40 a 0 (fun _ => 0)).2
theorem upA_g {P : Nat → Int} : ∀ {n : Nat} {x : Int} {d : Nat} {g g' : Nat → Int}, (∀ j, j < d → g j = g' j) → (upA P n x d g).2 = (upA P n x d g').2 ∧ ∀ j, j < (upA P n x d g).2 → (upA P n x d g).1 j = (upA P n x d g').1 j
  | 0, _, _, _, _, h => ⟨rfl, h⟩
  | n + 1, x, d, g, g', h => by
    by_cases q : x = -1
    · rw [q, upA_no, upA_no]; exact ⟨rfl, h⟩
    · rw [upA_yes q, upA_yes q]
      refine upA_g (fun j hj => ?_)
      simp only [fu]
      by_cases e : j = d
      · rw [if_pos e, if_pos e]
      · rw [if_neg e, if_neg e]; exact h j (by omega)
theorem pbM_c {S : aS} {g g' : Nat → Int} : ∀ {k : Nat}, (∀ j, j < k → g j = g' j) → pbM S g k = pbM S g' k
  | 0, _ => rfl
  | k + 1, h => by
    unfold pbM
    rw [h k (by omega), pbM_c (fun j hj => h j (by omega))]
theorem mkM_g {S : aS} {a : Int} {g : Nat → Int} : pbM S (upA (S.1 268) 40 a 0 g).1 (upA (S.1 268) 40 a 0 g).2 = mkM S a := by
  have e := upA_g (P := S.1 268) (n := 40) (x := a) (d := 0) (g := g) (g' := fun _ => 0) (fun j hj => absurd hj (by omega))
  unfold mkM
  rw [← e.1]
  exact pbM_c e.2
theorem paM_b {S : aS} {a : Int} : 1 ≤ paM S a ∧ paM S a ≤ 41 := by
  have := cnt_b (fun j => cb (plM S a j)) 40
  unfold paM
  omega
theorem pbM_V {S : aS} {v g : Nat → Int} : ∀ {k : Nat}, pbM (stV S v) g k = pbM S g k
  | 0 => rfl
  | k + 1 => by unfold pbM; rw [paM_V, pbM_V]
theorem pbM_P {S : aS} {l : List Int} {v u g : Nat → Int} : ∀ {k : Nat}, pbM (prM S l v u) g k = pbM S g k
  | 0 => rfl
  | k + 1 => by unfold pbM; rw [paM_P, pbM_P]
def spX12_mark : aSp := fun as S Q => match as with
  | [.inr (.inr 245), .inl a] => wok S ∧ chn (S.1 268) 40 a ∧ 0 ≤ S.1 245 42 ∧ S.1 245 42 + ((mkM S a).length : Int) ≤ 20000 ∧ ∀ v u, Q none (prM S (mkM S a) v u)
  | _ => False
def tbX12_mark : aTb := (fX12, pX12, fun j => lk [(240, (some 12), 2, spX12_place), (275, (some 12), 2, spX12_puts), (278, (some 12), 2, spX12_number)] j, kX12)
theorem tbX12_mark_f : tbX12_mark.1 = fX12 := rfl
theorem tbX12_mark_p : tbX12_mark.2.1 = pX12 := rfl
theorem tbX12_mark_k : tbX12_mark.2.2.2 = kX12 := rfl
theorem tbX12_mark_c240 : tbX12_mark.2.2.1 240 = some ((some 12), 2, spX12_place) := rfl
theorem tbX12_mark_c275 : tbX12_mark.2.2.1 275 = some ((some 12), 2, spX12_puts) := rfl
theorem tbX12_mark_c278 : tbX12_mark.2.2.1 278 = some ((some 12), 2, spX12_number) := rfl
theorem tbX12_mark_all (l : Launch) : ∀ e ∈ ([(240, (some 12), 2, spX12_place), (275, (some 12), 2, spX12_puts), (278, (some 12), 2, spX12_number)] : List (Nat × Option Nat × Nat × aSp)), cOK l mX12_mark e.1 e.2.1 e.2.2.1 e.2.2.2 ∨ mOK mX12_mark e.1 e.2.1 e.2.2.1 e.2.2.2 := all_cons (cOK_of (okX12_place l) meX12_place cfX12_240 (by decide) (by decide)) (all_cons (cOK_of (okX12_puts l) meX12_puts cfX12_275 (by decide) (by decide)) (all_cons (cOK_of (okX12_number l) meX12_number cfX12_278 (by decide) (by decide)) (all_nil)))
theorem tbX12_mark_ok (l : Launch) : tOK l mX12_mark tbX12_mark := ⟨fX12_ok, pX12_ok, fun _ _ _ _ h => tbX12_mark_all l _ (lk_mem h), kX12_ok⟩
set_option maxRecDepth 20000 in
set_option maxHeartbeats 4000000 in
theorem lpK2 (l : Launch) (Q : Option aV → aS → Prop) : ∀ (n : Nat) (S : aS) (a c : Int) (L : List Int) (g v : Nat → Int) (k : Nat), k = n ∧ k ≤ 40 → wok S → (∀ j : Nat, j < k → 0 ≤ g j ∧ g j < 40) → 0 ≤ S.1 245 42 → S.1 245 42 + ((L.length + (pbM S g k).length : Nat) : Int) ≤ 20000 → (∀ v u, Q none (prM S (L ++ pbM S g k) v u)) → aGo l mX12_mark Q 34 [(0, .inr (.inr 245)), (1, .inl a), (2, .inl c), (3, .inl ((k : Int) - 1))] [] (prM S L v g) := by
  intro n
  induction n using Nat.strongRecOn with
  | _ n ih =>
  intro S  a c  L  g v  k  h0 h1 h2 h3 h4 h5
  refine wp_go (tbX12_mark_ok l) (fun pc => pc == 34) 46 dX12_mark_34 ?_
  show ws1 tbX12_mark 4 none Q (wp cX12_mark tbX12_mark 4 none Q (fun pc => pc == 34) (aGo l mX12_mark Q) 46) (.iload_n 3) 1 34 [(0, .inr (.inr 245)), (1, .inl a), (2, .inl c), (3, .inl ((k : Int) - 1))] [] (prM S L v g)
  simp only [wp_s, wpC_f, wpC_t, e_wLd, e_wLd0, e_wLd1, e_wLd2, e_get1, e_get2, e_wJ, e_wJo, f40, f41, f42, f43, Nat.reduceAdd, Nat.reduceBEq, Nat.reduceMul, eq_self, true_or, or_true, true_and, dX12_mark_0, dX12_mark_1, dX12_mark_2, dX12_mark_3, dX12_mark_4, dX12_mark_5, dX12_mark_6, dX12_mark_9, dX12_mark_10, dX12_mark_13, dX12_mark_14, dX12_mark_15, dX12_mark_16, dX12_mark_17, dX12_mark_18, dX12_mark_19, dX12_mark_20, dX12_mark_21, dX12_mark_24, dX12_mark_25, dX12_mark_26, dX12_mark_27, dX12_mark_30, dX12_mark_31, dX12_mark_32, dX12_mark_33, dX12_mark_34, dX12_mark_35, dX12_mark_38, dX12_mark_39, dX12_mark_40, dX12_mark_41, dX12_mark_44, dX12_mark_45, dX12_mark_46, dX12_mark_49, dX12_mark_52, dX12_mark_53, dX12_mark_56, dX12_mark_57, dX12_mark_59, dX12_mark_62, dX12_mark_65, dX12_mark_68, e_aload_n, e_iload_n, e_istore_n, e_iconst, e_bipush, e_iadd, e_isub, e_iinc, e_ifCond, e_if_icmp, e_goto, e_getfield, e_iaload, e_iastore, e_invokevirtual, e_return_, e_wSt0, e_wSt1, e_wSt2, e_isL0, e_isL1, e_isL2, e_lset, e_lclr0, e_lclr1, e_lclr2, e_lput0, e_lput1, e_lput2, e_wInc, e_wInc0, Nat.reduceLT, not_false_eq_true, Bool.or_false, Bool.false_or, Bool.or_true, Bool.true_or, Bool.and_false, Bool.false_and, Bool.and_true, Bool.true_and, e_rv, e_wI2, e_wIf_lt, e_wIf_le, e_wIc_eq, bp_46, fX12_100, fX12_79, ic_0, ic_1, ic_m1, jt_27_m23, jt_35_33, jt_53_9, jt_65_m31, jt_6_24, e_call, e_callS0, e_callS1, e_callS2, e_callS3, e_callS4, e_pop0, e_pop1, e_tl0, e_tl1, tbX12_mark_f, tbX12_mark_p, tbX12_mark_k, tbX12_mark_c240, tbX12_mark_c275, tbX12_mark_c278, cv_245_0, cv_245_1, cv_245_2, cv_245_3, cv_245_4, l_275, s_275, g_245_28, l_268, s_268, g_245_43, spX12_place, spX12_number, spPu_e]
  simp (disch := decide) only [pr_sv, pr_u, pr_v, pr_c h3, pr_w, pr_2, pr_up, wok_P, paM_P, wcM_P, wmF_P, wmL_P, wvP_P, pr_a, pr_f, pr_vv, List.append_assoc]
  rcases k with _ | k
  · have z := h5 v g
    rw [show pbM S g 0 = [] from rfl, List.append_nil] at z
    exact ⟨fun _ => z, fun q => absurd q (by omega)⟩
  · rw [show ((k + 1 : Nat) : Int) - 1 = (k : Int) from by omega]
    have hg := h2 k (by omega)
    have hp := paM_b (S := S) (a := g k)
    have hl := dgt_len (n := paM S (g k))
    have ek : wI ((k : Int) + -1) = (k : Int) - 1 := wI_id (by omega) (by omega)
    simp only [Int.toNat_natCast, ek]
    unfold pbM at h4 h5
    simp only [List.length_append] at h4
    have hD : (L ++ dgt (paM S (g k))).length = L.length + (dgt (paM S (g k))).length := List.length_append
    refine ⟨fun q => absurd q (by omega), fun _ => ⟨by omega, by omega, h1, hg, fun w => ⟨by omega, by omega, by omega, by omega, fun q => ?_, fun q => ⟨by omega, ?_, ?_⟩⟩⟩⟩
    · obtain rfl : k = 0 := by omega
      refine ih 0 (by omega) S a c _ g w 0 (by omega) h1 (fun j hj => absurd hj (by omega)) h3 (by rw [hD]; show S.1 245 42 + (((L.length + (dgt (paM S (g 0))).length) + 0 : Nat) : Int) ≤ 20000; omega) (fun v u => ?_)
      have z := h5 v u
      rw [if_neg (by omega)] at z
      rw [List.append_assoc]
      exact z
    · rw [if_pos (by omega)] at h4
      simp only [List.length_cons, List.length_nil] at h4
      omega
    · rw [if_pos (by omega)] at h4
      simp only [List.length_cons, List.length_nil] at h4
      refine ih k (by omega) S a c _ g w k (by omega) h1 (fun j hj => h2 j (by omega)) h3 (by simp only [List.length_append, List.length_cons, List.length_nil]; omega) (fun v u => ?_)
      have z := h5 v u
      rw [if_pos (by omega)] at z
      simp only [List.append_assoc]
      exact z
set_option maxRecDepth 20000 in
set_option maxHeartbeats 4000000 in
theorem lpK1 (l : Launch) (Q : Option aV → aS → Prop) : ∀ (n : Nat) (S : aS) (a x : Int) (g : Nat → Int) (d : Nat), d + n = 40 → wok S → chn (S.1 268) n x → (∀ j : Nat, j < d → 0 ≤ g j ∧ g j < 40) → 0 ≤ S.1 245 42 → S.1 245 42 + ((pbM S (upA (S.1 268) n x d g).1 (upA (S.1 268) n x d g).2).length : Int) ≤ 20000 → (∀ v u, Q none (prM S (pbM S (upA (S.1 268) n x d g).1 (upA (S.1 268) n x d g).2) v u)) → aGo l mX12_mark Q 4 [(0, .inr (.inr 245)), (1, .inl a), (2, .inl (d : Int)), (3, .inl x)] [] (prM S [] (S.1 245) g) := by
  intro n
  induction n using Nat.strongRecOn with
  | _ n ih =>
  intro S  a x  g  d  h0 h1 h2 h3 h4 h5 h6
  refine wp_go (tbX12_mark_ok l) (fun pc => pc == 4 || pc == 34) 46 dX12_mark_4 ?_
  show ws1 tbX12_mark 4 none Q (wp cX12_mark tbX12_mark 4 none Q (fun pc => pc == 4 || pc == 34) (aGo l mX12_mark Q) 46) (.iload_n 3) 1 4 [(0, .inr (.inr 245)), (1, .inl a), (2, .inl (d : Int)), (3, .inl x)] [] (prM S [] (S.1 245) g)
  simp only [wp_s, wpC_f, wpC_t, e_wLd, e_wLd0, e_wLd1, e_wLd2, e_get1, e_get2, e_wJ, e_wJo, f40, f41, f42, f43, Nat.reduceAdd, Nat.reduceBEq, Nat.reduceMul, eq_self, true_or, or_true, true_and, dX12_mark_0, dX12_mark_1, dX12_mark_2, dX12_mark_3, dX12_mark_4, dX12_mark_5, dX12_mark_6, dX12_mark_9, dX12_mark_10, dX12_mark_13, dX12_mark_14, dX12_mark_15, dX12_mark_16, dX12_mark_17, dX12_mark_18, dX12_mark_19, dX12_mark_20, dX12_mark_21, dX12_mark_24, dX12_mark_25, dX12_mark_26, dX12_mark_27, dX12_mark_30, dX12_mark_31, dX12_mark_32, dX12_mark_33, dX12_mark_34, dX12_mark_35, dX12_mark_38, dX12_mark_39, dX12_mark_40, dX12_mark_41, dX12_mark_44, dX12_mark_45, dX12_mark_46, dX12_mark_49, dX12_mark_52, dX12_mark_53, dX12_mark_56, dX12_mark_57, dX12_mark_59, dX12_mark_62, dX12_mark_65, dX12_mark_68, e_aload_n, e_iload_n, e_istore_n, e_iconst, e_bipush, e_iadd, e_isub, e_iinc, e_ifCond, e_if_icmp, e_goto, e_getfield, e_iaload, e_iastore, e_invokevirtual, e_return_, e_wSt0, e_wSt1, e_wSt2, e_isL0, e_isL1, e_isL2, e_lset, e_lclr0, e_lclr1, e_lclr2, e_lput0, e_lput1, e_lput2, e_wInc, e_wInc0, Nat.reduceLT, not_false_eq_true, Bool.or_false, Bool.false_or, Bool.or_true, Bool.true_or, Bool.and_false, Bool.false_and, Bool.and_true, Bool.true_and, e_rv, e_wI2, e_wIf_lt, e_wIf_le, e_wIc_eq, bp_46, fX12_100, fX12_79, ic_0, ic_1, ic_m1, jt_27_m23, jt_35_33, jt_53_9, jt_65_m31, jt_6_24, e_call, e_callS0, e_callS1, e_callS2, e_callS3, e_callS4, e_pop0, e_pop1, e_tl0, e_tl1, tbX12_mark_f, tbX12_mark_p, tbX12_mark_k, tbX12_mark_c240, tbX12_mark_c275, tbX12_mark_c278, cv_245_0, cv_245_1, cv_245_2, cv_245_3, cv_245_4, l_275, s_275, g_245_28, l_268, s_268, g_245_43, spX12_place, spX12_number, spPu_e]
  simp (disch := decide) only [pr_sv, pr_u, pr_v, pr_c h4, pr_w, pr_2, pr_up, wok_P, paM_P, wcM_P, wmF_P, wmL_P, wvP_P, pr_a, pr_f, pr_vv, List.append_assoc]
  simp (disch := omega) only [wI_id, Int.toNat_natCast]
  have done : x = -1 → aGo l mX12_mark Q 34 [(0, .inr (.inr 245)), (1, .inl a), (2, .inl (d : Int)), (3, .inl ((d : Int) - 1))] [] (prM S [] (S.1 245) g) := fun q => by
    rw [q, upA_no] at h5 h6
    exact lpK2 l Q d S a (d : Int) [] g (S.1 245) d (by omega) h1 h3 h4 (by rw [List.length_nil, Nat.zero_add]; exact h5) (fun v u => by rw [List.nil_append]; exact h6 v u)
  refine ⟨fun q => done q, fun q => ?_⟩
  rcases n with _ | n
  · exact absurd h2 q
  · obtain ⟨c1, c2, c3⟩ := h2.resolve_left q
    rw [upA_yes q] at h5 h6
    exact ⟨by omega, by omega, c1, c2, ih n (by omega) S a (S.1 268 x.toNat) (fu g d x) (d + 1) (by omega) h1 c3 (fun j hj => by
      by_cases e : j = d
      · subst e; simp [fu]; omega
      · simp only [fu, if_neg e]; exact h3 j (by omega)) h4 h5 h6⟩
set_option maxRecDepth 20000 in
set_option maxHeartbeats 4000000 in
theorem okX12_mark (l : Launch) : aOK l mX12_mark spX12_mark := by
  refine aOK_of rfl fun as S Q h => ?_
  unfold spX12_mark at h
  split at h
  · rename_i a
    refine ⟨Nat.le_of_ble_eq_true rfl, wp_ok (tbX12_mark_ok l) Q (fun pc => pc == 4) 46 0 _ [] S ?_⟩
    show wp cX12_mark tbX12_mark 4 none Q (fun pc => pc == 4) (aGo l mX12_mark Q) 46 0 [(0, .inr (.inr 245)), (1, .inl a)] [] S
    simp only [wp_s, wpC_f, wpC_t, e_wLd, e_wLd0, e_wLd1, e_wLd2, e_get1, e_get2, e_wJ, e_wJo, f40, f41, f42, f43, Nat.reduceAdd, Nat.reduceBEq, Nat.reduceMul, eq_self, true_or, or_true, true_and, dX12_mark_0, dX12_mark_1, dX12_mark_2, dX12_mark_3, dX12_mark_4, dX12_mark_5, dX12_mark_6, dX12_mark_9, dX12_mark_10, dX12_mark_13, dX12_mark_14, dX12_mark_15, dX12_mark_16, dX12_mark_17, dX12_mark_18, dX12_mark_19, dX12_mark_20, dX12_mark_21, dX12_mark_24, dX12_mark_25, dX12_mark_26, dX12_mark_27, dX12_mark_30, dX12_mark_31, dX12_mark_32, dX12_mark_33, dX12_mark_34, dX12_mark_35, dX12_mark_38, dX12_mark_39, dX12_mark_40, dX12_mark_41, dX12_mark_44, dX12_mark_45, dX12_mark_46, dX12_mark_49, dX12_mark_52, dX12_mark_53, dX12_mark_56, dX12_mark_57, dX12_mark_59, dX12_mark_62, dX12_mark_65, dX12_mark_68, e_aload_n, e_iload_n, e_istore_n, e_iconst, e_bipush, e_iadd, e_isub, e_iinc, e_ifCond, e_if_icmp, e_goto, e_getfield, e_iaload, e_iastore, e_invokevirtual, e_return_, e_wSt0, e_wSt1, e_wSt2, e_isL0, e_isL1, e_isL2, e_lset, e_lclr0, e_lclr1, e_lclr2, e_lput0, e_lput1, e_lput2, e_wInc, e_wInc0, Nat.reduceLT, not_false_eq_true, Bool.or_false, Bool.false_or, Bool.or_true, Bool.true_or, Bool.and_false, Bool.false_and, Bool.and_true, Bool.true_and, e_rv, e_wI2, e_wIf_lt, e_wIf_le, e_wIc_eq, bp_46, fX12_100, fX12_79, ic_0, ic_1, ic_m1, jt_27_m23, jt_35_33, jt_53_9, jt_65_m31, jt_6_24, e_call, e_callS0, e_callS1, e_callS2, e_callS3, e_callS4, e_pop0, e_pop1, e_tl0, e_tl1, tbX12_mark_f, tbX12_mark_p, tbX12_mark_k, tbX12_mark_c240, tbX12_mark_c275, tbX12_mark_c278, cv_245_0, cv_245_1, cv_245_2, cv_245_3, cv_245_4, l_275, s_275, g_245_28, l_268, s_268, g_245_43]
    obtain ⟨h0, h1, h2, h3, h4⟩ := h
    have e := lpK1 l Q 40 S a a (S.1 275) 0 rfl h0 h1 (fun j hj => absurd hj (by omega)) h2 (by rw [mkM_g]; exact h3) (by rw [mkM_g]; exact h4)
    rw [pr_nil] at e
    exact e
  · exact h.elim
noncomputable def atM (S : aS) (e u p : Int) : Int := ff (fun m => cb ((¬ S.1 266 m = 0 ∧ S.1 267 m = e ∧ S.1 268 m = u) ∧ paM S m = p)) 40 0
theorem atM_V {S : aS} {v : Nat → Int} : atM (stV S v) = atM S := rfl
theorem atM_P {S : aS} {l : List Int} {v u : Nat → Int} : atM (prM S l v u) = atM S := rfl
theorem mkM_V {S : aS} {v : Nat → Int} : mkM (stV S v) = mkM S := by
  funext a
  unfold mkM
  rw [pbM_V, stV_a (by decide)]
theorem mkM_P {S : aS} {l : List Int} {v u : Nat → Int} : mkM (prM S l v u) = mkM S := by
  funext a
  unfold mkM
  rw [pbM_P, pr_a (by decide) (by decide) (by decide)]
def spX12_at : aSp := fun as S Q => match as with
  | [.inr (.inr 245), .inl e, .inl u, .inl p] => wok S ∧ ∀ v, Q (some (.inl (atM S e u p))) (stV S v)
  | _ => False
def tbX12_at : aTb := (fX12, pX12, fun j => lk [(240, (some 12), 2, spX12_place)] j, kX12)
theorem tbX12_at_f : tbX12_at.1 = fX12 := rfl
theorem tbX12_at_p : tbX12_at.2.1 = pX12 := rfl
theorem tbX12_at_k : tbX12_at.2.2.2 = kX12 := rfl
theorem tbX12_at_c240 : tbX12_at.2.2.1 240 = some ((some 12), 2, spX12_place) := rfl
theorem tbX12_at_all (l : Launch) : ∀ e ∈ ([(240, (some 12), 2, spX12_place)] : List (Nat × Option Nat × Nat × aSp)), cOK l mX12_at e.1 e.2.1 e.2.2.1 e.2.2.2 ∨ mOK mX12_at e.1 e.2.1 e.2.2.1 e.2.2.2 := all_cons (cOK_of (okX12_place l) meX12_place cfX12_240 (by decide) (by decide)) (all_nil)
theorem tbX12_at_ok (l : Launch) : tOK l mX12_at tbX12_at := ⟨fX12_ok, pX12_ok, fun _ _ _ _ h => tbX12_at_all l _ (lk_mem h), kX12_ok⟩
set_option maxRecDepth 20000 in
set_option maxHeartbeats 4000000 in
theorem lpAt (l : Launch) (Q : Option aV → aS → Prop) : ∀ (n : Nat) (S : aS) (e u p : Int) (v : Nat → Int) (i : Nat), i + n = 40 → wok S → (∀ v, Q (some (.inl (ff (fun m => cb ((¬ S.1 266 m = 0 ∧ S.1 267 m = e ∧ S.1 268 m = u) ∧ paM S m = p)) n i))) (stV S v)) → aGo l mX12_at Q 3 [(0, .inr (.inr 245)), (1, .inl e), (2, .inl u), (3, .inl p), (4, .inl (i : Int))] [] (stV S v) := by
  intro n
  induction n using Nat.strongRecOn with
  | _ n ih =>
  intro S  e u p  v  i  h0 h1 h2
  refine wp_go (tbX12_at_ok l) (fun pc => pc == 3) 35 dX12_at_3 ?_
  show ws1 tbX12_at 5 (some .int) Q (wp cX12_at tbX12_at 5 (some .int) Q (fun pc => pc == 3) (aGo l mX12_at Q) 35) (.iload 4) 2 3 [(0, .inr (.inr 245)), (1, .inl e), (2, .inl u), (3, .inl p), (4, .inl (i : Int))] [] (stV S v)
  simp only [wp_s, wpC_f, wpC_t, e_wLd, e_wLd0, e_wLd1, e_wLd2, e_get1, e_get2, e_wJ, e_wJo, f40, f41, f42, f43, Nat.reduceAdd, Nat.reduceBEq, Nat.reduceMul, eq_self, true_or, or_true, true_and, dX12_at_0, dX12_at_1, dX12_at_3, dX12_at_5, dX12_at_7, dX12_at_10, dX12_at_11, dX12_at_14, dX12_at_16, dX12_at_17, dX12_at_20, dX12_at_21, dX12_at_24, dX12_at_26, dX12_at_27, dX12_at_28, dX12_at_31, dX12_at_32, dX12_at_35, dX12_at_37, dX12_at_38, dX12_at_39, dX12_at_42, dX12_at_43, dX12_at_45, dX12_at_48, dX12_at_49, dX12_at_52, dX12_at_54, dX12_at_55, dX12_at_58, dX12_at_61, dX12_at_62, e_aload_n, e_iload_n, e_iload, e_istore, e_iconst, e_bipush, e_iinc, e_ifCond, e_if_icmp, e_goto, e_getfield, e_iaload, e_baload, e_invokevirtual, e_ireturn, e_wSt0, e_wSt1, e_wSt2, e_isL0, e_isL1, e_isL2, e_lset, e_lclr0, e_lclr1, e_lclr2, e_lput0, e_lput1, e_lput2, e_wInc, e_wInc0, Nat.reduceLT, not_false_eq_true, Bool.or_false, Bool.false_or, Bool.or_true, Bool.true_or, Bool.and_false, Bool.false_and, Bool.and_true, Bool.true_and, e_ri, e_rz, e_wIc_ne, e_wIc_ge, e_wIf_eq, bp_40, fX12_73, fX12_76, fX12_79, ic_0, ic_m1, jt_17_38, jt_28_27, jt_39_16, jt_49_6, jt_58_m55, jt_7_54, e_call, e_callS0, e_callS1, e_callS2, e_callS3, e_callS4, e_pop0, e_pop1, e_tl0, e_tl1, tbX12_at_f, tbX12_at_p, tbX12_at_k, tbX12_at_c240, cv_245_0, cv_245_1, cv_245_2, cv_245_3, cv_245_4, g_245_26, l_266, g_245_28, l_268, l_267, g_245_27, spX12_place]
  simp (disch := decide) only [stV_a, stV_V, wok_V, paM_V]
  simp (disch := omega) only [wI_id, Int.toNat_natCast]
  rcases n with _ | n
  · exact ⟨fun _ => h2 v, fun q => absurd q (by omega)⟩
  · unfold ff at h2
    have no : ¬ ((¬ S.1 266 i = 0 ∧ S.1 267 i = e ∧ S.1 268 i = u) ∧ paM S i = p) → ∀ v, aGo l mX12_at Q 3 [(0, .inr (.inr 245)), (1, .inl e), (2, .inl u), (3, .inl p), (4, .inl ((i : Int) + 1))] [] (stV S v) := fun z v => ih n (by omega) S e u p v (i + 1) (by omega) h1 (fun v => by
      have y := h2 v
      rw [if_neg (by rw [cb_f z]; decide)] at y
      exact y)
    have ye : ((¬ S.1 266 i = 0 ∧ S.1 267 i = e ∧ S.1 268 i = u) ∧ paM S i = p) → ∀ v, Q (some (.inl (i : Int))) (stV S v) := fun z v => by
      have y := h2 v
      rw [if_pos (cb_t z)] at y
      exact y
    clear ih h2
    replace no := hid no
    replace ye := hid ye
    have h1' := hid (fun _ : True => h1)
    clear h1
    repeat' (with_reducible first | intro _ | refine And.intro ?_ ?_)
    all_goals first
      | omega
      | exact h1' trivial
      | exact no (fun z => absurd (by assumption) z.1.1) _
      | exact no (fun z => absurd z.1.2.1 (by assumption)) _
      | exact no (fun z => absurd z.1.2.2 (by assumption)) _
      | exact no (fun z => absurd z.2 (by assumption)) _
      | exact ye ⟨⟨by assumption, by assumption, by assumption⟩, by assumption⟩ _
      | skip
set_option maxRecDepth 20000 in
set_option maxHeartbeats 4000000 in
theorem okX12_at (l : Launch) : aOK l mX12_at spX12_at := by
  refine aOK_of rfl fun as S Q h => ?_
  unfold spX12_at at h
  split at h
  · rename_i e u p
    refine ⟨Nat.le_of_ble_eq_true rfl, wp_ok (tbX12_at_ok l) Q (fun pc => pc == 3) 35 0 _ [] S ?_⟩
    show wp cX12_at tbX12_at 5 (some .int) Q (fun pc => pc == 3) (aGo l mX12_at Q) 35 0 [(0, .inr (.inr 245)), (1, .inl e), (2, .inl u), (3, .inl p)] [] S
    simp only [wp_s, wpC_f, wpC_t, e_wLd, e_wLd0, e_wLd1, e_wLd2, e_get1, e_get2, e_wJ, e_wJo, f40, f41, f42, f43, Nat.reduceAdd, Nat.reduceBEq, Nat.reduceMul, eq_self, true_or, or_true, true_and, dX12_at_0, dX12_at_1, dX12_at_3, dX12_at_5, dX12_at_7, dX12_at_10, dX12_at_11, dX12_at_14, dX12_at_16, dX12_at_17, dX12_at_20, dX12_at_21, dX12_at_24, dX12_at_26, dX12_at_27, dX12_at_28, dX12_at_31, dX12_at_32, dX12_at_35, dX12_at_37, dX12_at_38, dX12_at_39, dX12_at_42, dX12_at_43, dX12_at_45, dX12_at_48, dX12_at_49, dX12_at_52, dX12_at_54, dX12_at_55, dX12_at_58, dX12_at_61, dX12_at_62, e_aload_n, e_iload_n, e_iload, e_istore, e_iconst, e_bipush, e_iinc, e_ifCond, e_if_icmp, e_goto, e_getfield, e_iaload, e_baload, e_invokevirtual, e_ireturn, e_wSt0, e_wSt1, e_wSt2, e_isL0, e_isL1, e_isL2, e_lset, e_lclr0, e_lclr1, e_lclr2, e_lput0, e_lput1, e_lput2, e_wInc, e_wInc0, Nat.reduceLT, not_false_eq_true, Bool.or_false, Bool.false_or, Bool.or_true, Bool.true_or, Bool.and_false, Bool.false_and, Bool.and_true, Bool.true_and, e_ri, e_rz, e_wIc_ne, e_wIc_ge, e_wIf_eq, bp_40, fX12_73, fX12_76, fX12_79, ic_0, ic_m1, jt_17_38, jt_28_27, jt_39_16, jt_49_6, jt_58_m55, jt_7_54, e_call, e_callS0, e_callS1, e_callS2, e_callS3, e_callS4, e_pop0, e_pop1, e_tl0, e_tl1, tbX12_at_f, tbX12_at_p, tbX12_at_k, tbX12_at_c240, cv_245_0, cv_245_1, cv_245_2, cv_245_3, cv_245_4, g_245_26, l_266, g_245_28, l_268, l_267, g_245_27]
    have z := lpAt l Q 40 S e u p (S.1 245) 0 rfl h.1 h.2
    rw [stV_S] at z
    exact z
  · exact h.elim
