/-! THE REFERENCE: printing -/
def prM (S : aS) (l : List Int) (v u : Nat → Int) : aS := (fun a b => if a = 274 then (if (S.1 245 42).toNat ≤ b ∧ b < (S.1 245 42).toNat + l.length then narB (narB (l.getD (b - (S.1 245 42).toNat) 0)) else S.1 274 b) else if a = 275 then u b else if a = 245 then (if b = 42 then S.1 245 42 + l.length else if 32 ≤ b ∧ b ≤ 36 then v b else S.1 245 b) else S.1 a b, S.2)
section PR
variable {S : aS} {l l' : List Int} {v u v' u' : Nat → Int}
theorem pr_w : (prM S l v u).1 245 42 = S.1 245 42 + l.length := rfl
theorem pr_u : (prM S l v u).1 275 = u := rfl
theorem pr_2 : (prM S l v u).2 = S.2 := rfl
theorem pr_vv {k : Nat} (h : 32 ≤ k ∧ k ≤ 36) : (prM S l v u).1 245 k = v k := by
  show (if k = 42 then _ else if _ then _ else _) = _
  rw [if_neg (by omega), if_pos h]
theorem pr_f {k : Nat} (h : ¬ (32 ≤ k ∧ k ≤ 36)) (h2 : ¬ k = 42) : (prM S l v u).1 245 k = S.1 245 k := by
  show (if k = 42 then _ else if _ then _ else _) = _
  rw [if_neg h2, if_neg h]
theorem pr_a {a : Nat} (h : ¬ a = 245) (h2 : ¬ a = 274) (h3 : ¬ a = 275) : (prM S l v u).1 a = S.1 a := by
  funext b
  show (if a = 274 then _ else if a = 275 then _ else if a = 245 then _ else _) = _
  rw [if_neg h2, if_neg h3, if_neg h]
theorem pr_nil : prM S [] (S.1 245) (S.1 275) = S := by
  refine st_ext (fun a b => ?_) (fun a b => rfl)
  simp only [prM]
  by_cases h1 : a = 274
  · subst h1
    rw [if_pos rfl, if_neg (by simp)]
  · rw [if_neg h1]
    by_cases h2 : a = 275
    · subst h2; simp
    · rw [if_neg h2]
      by_cases h3 : a = 245
      · subst h3
        rw [if_pos rfl]
        by_cases h4 : b = 42
        · subst h4; simp
        · rw [if_neg h4]; split <;> rfl
      · rw [if_neg h3]
theorem pr_c (h : 0 ≤ S.1 245 42) : prM (prM S l v u) l' v' u' = prM S (l ++ l') v' u' := by
  refine st_ext (fun a b => ?_) (fun a b => rfl)
  by_cases h1 : a = 274
  · subst h1
    show (if ((prM S l v u).1 245 42).toNat ≤ b ∧ b < ((prM S l v u).1 245 42).toNat + l'.length then _ else (if _ then _ else _)) = (if _ then _ else _)
    rw [pr_w, show (S.1 245 42 + (l.length : Int)).toNat = (S.1 245 42).toNat + l.length from by omega]
    generalize (S.1 245 42).toNat = w
    by_cases c1 : w + l.length ≤ b ∧ b < w + l.length + l'.length
    · rw [if_pos c1, if_pos (by rw [List.length_append]; omega)]
      rw [List.getD_eq_getElem?_getD, List.getD_eq_getElem?_getD, List.getElem?_append_right (by omega), show b - w - l.length = b - (w + l.length) from by omega]
    · rw [if_neg c1]
      by_cases c2 : w ≤ b ∧ b < w + l.length
      · rw [if_pos c2, if_pos (by rw [List.length_append]; omega)]
        rw [List.getD_eq_getElem?_getD, List.getD_eq_getElem?_getD, List.getElem?_append_left (by omega)]
      · rw [if_neg c2, if_neg (by rw [List.length_append]; omega)]
  · by_cases h2 : a = 275
    · subst h2; rfl
    · by_cases h3 : a = 245
      · subst h3
        by_cases h4 : b = 42
        · subst h4
          rw [pr_w, pr_w, pr_w, List.length_append]
          omega
        · by_cases h5 : 32 ≤ b ∧ b ≤ 36
          · rw [pr_vv h5, pr_vv h5]
          · rw [pr_f h5 h4, pr_f h5 h4, pr_f h5 h4]
      · rw [pr_a h3 h1 h2, pr_a h3 h1 h2, pr_a h3 h1 h2]
theorem pr_vc (h : ∀ k, 32 ≤ k → k ≤ 36 → v k = v' k) : prM S l v u = prM S l v' u := by
  refine st_ext (fun a b => ?_) (fun a b => rfl)
  simp only [prM]
  by_cases h5 : 32 ≤ b ∧ b ≤ 36
  · rw [h b h5.1 h5.2]
  · simp only [if_neg h5]
theorem pr_v {S' : aS} {l0 : List Int} {u0 : Nat → Int} : prM S l ((prM S' l0 v u0).1 245) u = prM S l v u := pr_vc (fun k h1 h2 => pr_vv ⟨h1, h2⟩)
theorem pr_b (h : 0 ≤ S.1 245 42) : prM (prM S l v u) l' ((prM S l v u).1 245) ((prM S l v u).1 275) = prM S (l ++ l') v u := by rw [pr_c h, pr_v, pr_u]
theorem pr_sv : stV (prM S l v u) v' = prM S l v' u := by
  refine st_ext (fun a b => ?_) (fun a b => rfl)
  by_cases h3 : a = 245
  · subst h3
    by_cases h5 : 32 ≤ b ∧ b ≤ 36
    · rw [stV_v h5, pr_vv h5]
    · rw [stV_f h5]
      by_cases h4 : b = 42
      · subst h4; rfl
      · rw [pr_f h5 h4, pr_f h5 h4]
  · rw [stV_a h3]
    show (if a = 274 then _ else if a = 275 then _ else if a = 245 then _ else _) = (if a = 274 then _ else if a = 275 then _ else if a = 245 then _ else _)
    simp only [if_neg h3]
theorem pr_up {i : Nat} {x : Int} : upI (prM S l v u) 275 i x = prM S l v (fu u i x) := by
  refine st_ext (fun a b => ?_) (fun a b => rfl)
  by_cases h3 : a = 275
  · subst h3
    by_cases h4 : b = i
    · subst h4; rw [up_hit, pr_u]; simp [fu]
    · rw [up_cell h4, pr_u, pr_u]; simp [fu, h4]
  · rw [up_obj h3]
    simp only [prM, if_neg h3]
theorem pr_1 {b : Int} (h : 0 ≤ S.1 245 42) : upI (upI S 274 (S.1 245 42).toNat (narB (narB b))) 245 42 (S.1 245 42 + 1) = prM S [b] (S.1 245) (S.1 275) := by
  refine st_ext (fun x y => ?_) (fun x y => rfl)
  simp only [prM]
  by_cases h1 : x = 274
  · subst h1
    rw [up_obj (by decide), if_pos rfl]
    by_cases h2 : y = (S.1 245 42).toNat
    · subst h2; rw [up_hit, if_pos (by simp)]; simp
    · rw [up_cell h2, if_neg (by simp; omega)]
  · rw [if_neg h1]
    by_cases h3 : x = 245
    · subst h3
      rw [if_neg (by decide), if_pos rfl]
      by_cases h4 : y = 42
      · subst h4; rw [up_hit]; simp
      · rw [up_cell h4, up_obj (by decide), if_neg h4]; simp
    · rw [up_obj h3, up_obj h1]
      by_cases h5 : x = 275
      · subst h5; simp
      · rw [if_neg h5, if_neg h3]
theorem wok_P : wok (prM S l v u) = wok S := rfl
theorem paM_P : paM (prM S l v u) = paM S := rfl
theorem wcM_P : wcM (prM S l v u) = wcM S := rfl
theorem wmF_P : wmF (prM S l v u) = wmF S := rfl
theorem wmL_P : wmL (prM S l v u) = wmL S := rfl
theorem wvP_P {a al : Int} {i : Nat} : wvP (prM S l v u) a al i = wvP S a al i := rfl
end PR
theorem spPu_e {S : aS} {b : Int} {Q : Option aV → aS → Prop} : spX12_puts [.inr (.inr 245), .inl b] S Q = (0 ≤ S.1 245 42 ∧ S.1 245 42 < 20000 ∧ Q none (prM S [b] (S.1 245) (S.1 275))) := by
  unfold spX12_puts
  apply propext
  constructor
  · rintro ⟨a, b, c⟩; exact ⟨a, b, by rw [← pr_1 a]; exact c⟩
  · rintro ⟨a, b, c⟩; exact ⟨a, b, by rw [pr_1 a]; exact c⟩
def ls1 (n : Int) : List Int := [48 + n / 1 % 10]
def ls2 (n : Int) : List Int := (48 + n / 10 % 10) :: ls1 n
def ls3 (n : Int) : List Int := (48 + n / 100 % 10) :: ls2 n
def ls4 (n : Int) : List Int := (48 + n / 1000 % 10) :: ls3 n
theorem dgt_len {n : Int} : (dgt n).length ≤ 4 := by
  unfold dgt
  simp only [List.length_append]
  have : ∀ (c : Prop) [Decidable c] (x : Int), (if c then [x] else []).length ≤ 1 := fun c _ x => by split <;> simp
  have a := this (1000 ≤ n) (48 + n / 1000 % 10)
  have b := this (100 ≤ n) (48 + n / 100 % 10)
  have c := this (10 ≤ n) (48 + n / 10 % 10)
  have d : ([48 + n / 1 % 10] : List Int).length = 1 := rfl
  omega
def spX12_number : aSp := fun as S Q => match as with
  | [.inr (.inr 245), .inl n] => 0 ≤ S.1 245 42 ∧ S.1 245 42 + ((dgt n).length : Int) ≤ 20000 ∧ 0 ≤ n ∧ n ≤ 9999 ∧ Q none (prM S (dgt n) (S.1 245) (S.1 275))
  | _ => False
def tbX12_number : aTb := (fX12, pX12, fun j => lk [(275, (some 12), 2, spX12_puts)] j, kX12)
theorem tbX12_number_f : tbX12_number.1 = fX12 := rfl
theorem tbX12_number_p : tbX12_number.2.1 = pX12 := rfl
theorem tbX12_number_k : tbX12_number.2.2.2 = kX12 := rfl
theorem tbX12_number_c275 : tbX12_number.2.2.1 275 = some ((some 12), 2, spX12_puts) := rfl
theorem tbX12_number_all (l : Launch) : ∀ e ∈ ([(275, (some 12), 2, spX12_puts)] : List (Nat × Option Nat × Nat × aSp)), cOK l mX12_number e.1 e.2.1 e.2.2.1 e.2.2.2 ∨ mOK mX12_number e.1 e.2.1 e.2.2.1 e.2.2.2 := all_cons (cOK_of (okX12_puts l) meX12_puts cfX12_275 (by decide) (by decide)) (all_nil)
theorem tbX12_number_ok (l : Launch) : tOK l mX12_number tbX12_number := ⟨fX12_ok, pX12_ok, fun _ _ _ _ h => tbX12_number_all l _ (lk_mem h), kX12_ok⟩
set_option maxRecDepth 20000 in
set_option maxHeartbeats 4000000 in
theorem lpR0 (l : Launch) (Q : Option aV → aS → Prop) (S : aS) (v t : Int) (h0 : Q none S) : aGo l mX12_number Q 20 [(0, .inr (.inr 245)), (1, .inl v), (2, .inl t), (3, .inl 0)] [] S := by
  refine wp_go (tbX12_number_ok l) (fun pc => pc == 20) 33 dX12_number_20 ?_
  show ws1 tbX12_number 4 none Q (wp cX12_number tbX12_number 4 none Q (fun pc => pc == 20) (aGo l mX12_number Q) 33) (.iload_n 3) 1 20 [(0, .inr (.inr 245)), (1, .inl v), (2, .inl t), (3, .inl 0)] [] S
  simp only [wp_s, wpC_f, wpC_t, e_wLd, e_wLd0, e_wLd1, e_wLd2, e_get1, e_get2, e_wJ, e_wJo, f40, f41, f42, f43, Nat.reduceAdd, Nat.reduceBEq, Nat.reduceMul, eq_self, true_or, or_true, true_and, dX12_number_0, dX12_number_1, dX12_number_2, dX12_number_3, dX12_number_4, dX12_number_5, dX12_number_7, dX12_number_10, dX12_number_12, dX12_number_13, dX12_number_14, dX12_number_15, dX12_number_18, dX12_number_19, dX12_number_20, dX12_number_21, dX12_number_24, dX12_number_25, dX12_number_27, dX12_number_28, dX12_number_29, dX12_number_30, dX12_number_32, dX12_number_33, dX12_number_34, dX12_number_37, dX12_number_38, dX12_number_40, dX12_number_41, dX12_number_42, dX12_number_45, e_aload_n, e_iload_n, e_istore_n, e_iconst, e_bipush, e_iadd, e_imul, e_idiv, e_irem, e_ifCond, e_if_icmp, e_goto, e_invokevirtual, e_return_, e_wSt0, e_wSt1, e_wSt2, e_isL0, e_isL1, e_isL2, e_lset, e_lclr0, e_lclr1, e_lclr2, e_lput0, e_lput1, e_lput2, e_wInc, e_wInc0, Nat.reduceLT, not_false_eq_true, Bool.or_false, Bool.false_or, Bool.or_true, Bool.true_or, Bool.and_false, Bool.false_and, Bool.and_true, Bool.true_and, e_wD2, e_rv, e_wI2, e_wIc_le, e_wIf_le, bp_10, bp_48, bp_9, ic_1, jt_15_m13, jt_21_24, jt_42_m22, jt_7_11, e_call, e_callS0, e_callS1, e_callS2, e_callS3, e_callS4, e_pop0, e_pop1, e_tl0, e_tl1, tbX12_number_f, tbX12_number_p, tbX12_number_k, tbX12_number_c275, cv_245_0, cv_245_1, cv_245_2, cv_245_3, cv_245_4, spPu_e]
  exact ⟨fun _ => h0, fun q => absurd (by decide : (0 : Int) ≤ 0) q⟩
set_option maxRecDepth 20000 in
set_option maxHeartbeats 4000000 in
theorem lpR1 (l : Launch) (Q : Option aV → aS → Prop) (S : aS) (v t : Int) (h0 : 0 ≤ S.1 245 42) (h1 : S.1 245 42 + 1 ≤ 20000) (h2 : (0 ≤ v ∧ v ≤ 9999)) (h3 : Q none (prM S (ls1 v) (S.1 245) (S.1 275))) : aGo l mX12_number Q 20 [(0, .inr (.inr 245)), (1, .inl v), (2, .inl t), (3, .inl 1)] [] S := by
  refine wp_go (tbX12_number_ok l) (fun pc => pc == 20) 33 dX12_number_20 ?_
  show ws1 tbX12_number 4 none Q (wp cX12_number tbX12_number 4 none Q (fun pc => pc == 20) (aGo l mX12_number Q) 33) (.iload_n 3) 1 20 [(0, .inr (.inr 245)), (1, .inl v), (2, .inl t), (3, .inl 1)] [] S
  simp only [wp_s, wpC_f, wpC_t, e_wLd, e_wLd0, e_wLd1, e_wLd2, e_get1, e_get2, e_wJ, e_wJo, f40, f41, f42, f43, Nat.reduceAdd, Nat.reduceBEq, Nat.reduceMul, eq_self, true_or, or_true, true_and, dX12_number_0, dX12_number_1, dX12_number_2, dX12_number_3, dX12_number_4, dX12_number_5, dX12_number_7, dX12_number_10, dX12_number_12, dX12_number_13, dX12_number_14, dX12_number_15, dX12_number_18, dX12_number_19, dX12_number_20, dX12_number_21, dX12_number_24, dX12_number_25, dX12_number_27, dX12_number_28, dX12_number_29, dX12_number_30, dX12_number_32, dX12_number_33, dX12_number_34, dX12_number_37, dX12_number_38, dX12_number_40, dX12_number_41, dX12_number_42, dX12_number_45, e_aload_n, e_iload_n, e_istore_n, e_iconst, e_bipush, e_iadd, e_imul, e_idiv, e_irem, e_ifCond, e_if_icmp, e_goto, e_invokevirtual, e_return_, e_wSt0, e_wSt1, e_wSt2, e_isL0, e_isL1, e_isL2, e_lset, e_lclr0, e_lclr1, e_lclr2, e_lput0, e_lput1, e_lput2, e_wInc, e_wInc0, Nat.reduceLT, not_false_eq_true, Bool.or_false, Bool.false_or, Bool.or_true, Bool.true_or, Bool.and_false, Bool.false_and, Bool.and_true, Bool.true_and, e_wD2, e_rv, e_wI2, e_wIc_le, e_wIf_le, bp_10, bp_48, bp_9, ic_1, jt_15_m13, jt_21_24, jt_42_m22, jt_7_11, e_call, e_callS0, e_callS1, e_callS2, e_callS3, e_callS4, e_pop0, e_pop1, e_tl0, e_tl1, tbX12_number_f, tbX12_number_p, tbX12_number_k, tbX12_number_c275, cv_245_0, cv_245_1, cv_245_2, cv_245_3, cv_245_4, spPu_e]
  have ed : v.tdiv 1 = v / 1 := Int.tdiv_eq_ediv_of_nonneg h2.1
  have ev : wI (v.tdiv 1) = v / 1 := by rw [ed]; exact wI_id (by omega) (by omega)
  have em : (v / 1).tmod 10 = v / 1 % 10 := Int.tmod_eq_emod_of_nonneg (by omega)
  have eu : wI (Int.tdiv 1 10) = 0 := by decide
  have e4 : wI (v / 1 % 10) = v / 1 % 10 := wI_id (by omega) (by omega)
  have e3 : wI (48 + v / 1 % 10) = 48 + v / 1 % 10 := wI_id (by omega) (by omega)
  simp only [ev, em, eu, e4, e3]
  exact ⟨fun q => absurd q (by decide), fun _ => ⟨by decide, by decide, h0, by omega, by decide, lpR0 l Q _ v t h3⟩⟩
set_option maxRecDepth 20000 in
set_option maxHeartbeats 4000000 in
theorem lpR2 (l : Launch) (Q : Option aV → aS → Prop) (S : aS) (v t : Int) (h0 : 0 ≤ S.1 245 42) (h1 : S.1 245 42 + 2 ≤ 20000) (h2 : (0 ≤ v ∧ v ≤ 9999)) (h3 : Q none (prM S (ls2 v) (S.1 245) (S.1 275))) : aGo l mX12_number Q 20 [(0, .inr (.inr 245)), (1, .inl v), (2, .inl t), (3, .inl 10)] [] S := by
  refine wp_go (tbX12_number_ok l) (fun pc => pc == 20) 33 dX12_number_20 ?_
  show ws1 tbX12_number 4 none Q (wp cX12_number tbX12_number 4 none Q (fun pc => pc == 20) (aGo l mX12_number Q) 33) (.iload_n 3) 1 20 [(0, .inr (.inr 245)), (1, .inl v), (2, .inl t), (3, .inl 10)] [] S
  simp only [wp_s, wpC_f, wpC_t, e_wLd, e_wLd0, e_wLd1, e_wLd2, e_get1, e_get2, e_wJ, e_wJo, f40, f41, f42, f43, Nat.reduceAdd, Nat.reduceBEq, Nat.reduceMul, eq_self, true_or, or_true, true_and, dX12_number_0, dX12_number_1, dX12_number_2, dX12_number_3, dX12_number_4, dX12_number_5, dX12_number_7, dX12_number_10, dX12_number_12, dX12_number_13, dX12_number_14, dX12_number_15, dX12_number_18, dX12_number_19, dX12_number_20, dX12_number_21, dX12_number_24, dX12_number_25, dX12_number_27, dX12_number_28, dX12_number_29, dX12_number_30, dX12_number_32, dX12_number_33, dX12_number_34, dX12_number_37, dX12_number_38, dX12_number_40, dX12_number_41, dX12_number_42, dX12_number_45, e_aload_n, e_iload_n, e_istore_n, e_iconst, e_bipush, e_iadd, e_imul, e_idiv, e_irem, e_ifCond, e_if_icmp, e_goto, e_invokevirtual, e_return_, e_wSt0, e_wSt1, e_wSt2, e_isL0, e_isL1, e_isL2, e_lset, e_lclr0, e_lclr1, e_lclr2, e_lput0, e_lput1, e_lput2, e_wInc, e_wInc0, Nat.reduceLT, not_false_eq_true, Bool.or_false, Bool.false_or, Bool.or_true, Bool.true_or, Bool.and_false, Bool.false_and, Bool.and_true, Bool.true_and, e_wD2, e_rv, e_wI2, e_wIc_le, e_wIf_le, bp_10, bp_48, bp_9, ic_1, jt_15_m13, jt_21_24, jt_42_m22, jt_7_11, e_call, e_callS0, e_callS1, e_callS2, e_callS3, e_callS4, e_pop0, e_pop1, e_tl0, e_tl1, tbX12_number_f, tbX12_number_p, tbX12_number_k, tbX12_number_c275, cv_245_0, cv_245_1, cv_245_2, cv_245_3, cv_245_4, spPu_e]
  have ed : v.tdiv 10 = v / 10 := Int.tdiv_eq_ediv_of_nonneg h2.1
  have ev : wI (v.tdiv 10) = v / 10 := by rw [ed]; exact wI_id (by omega) (by omega)
  have em : (v / 10).tmod 10 = v / 10 % 10 := Int.tmod_eq_emod_of_nonneg (by omega)
  have eu : wI (Int.tdiv 10 10) = 1 := by decide
  have e4 : wI (v / 10 % 10) = v / 10 % 10 := wI_id (by omega) (by omega)
  have e3 : wI (48 + v / 10 % 10) = 48 + v / 10 % 10 := wI_id (by omega) (by omega)
  simp only [ev, em, eu, e4, e3]
  exact ⟨fun q => absurd q (by decide), fun _ => ⟨by decide, by decide, h0, by omega, by decide, lpR1 l Q _ v t (by rw [pr_w]; simp; omega) (by rw [pr_w]; simp; omega) h2 (by rw [pr_b h0]; exact h3)⟩⟩
set_option maxRecDepth 20000 in
set_option maxHeartbeats 4000000 in
theorem lpR3 (l : Launch) (Q : Option aV → aS → Prop) (S : aS) (v t : Int) (h0 : 0 ≤ S.1 245 42) (h1 : S.1 245 42 + 3 ≤ 20000) (h2 : (0 ≤ v ∧ v ≤ 9999)) (h3 : Q none (prM S (ls3 v) (S.1 245) (S.1 275))) : aGo l mX12_number Q 20 [(0, .inr (.inr 245)), (1, .inl v), (2, .inl t), (3, .inl 100)] [] S := by
  refine wp_go (tbX12_number_ok l) (fun pc => pc == 20) 33 dX12_number_20 ?_
  show ws1 tbX12_number 4 none Q (wp cX12_number tbX12_number 4 none Q (fun pc => pc == 20) (aGo l mX12_number Q) 33) (.iload_n 3) 1 20 [(0, .inr (.inr 245)), (1, .inl v), (2, .inl t), (3, .inl 100)] [] S
  simp only [wp_s, wpC_f, wpC_t, e_wLd, e_wLd0, e_wLd1, e_wLd2, e_get1, e_get2, e_wJ, e_wJo, f40, f41, f42, f43, Nat.reduceAdd, Nat.reduceBEq, Nat.reduceMul, eq_self, true_or, or_true, true_and, dX12_number_0, dX12_number_1, dX12_number_2, dX12_number_3, dX12_number_4, dX12_number_5, dX12_number_7, dX12_number_10, dX12_number_12, dX12_number_13, dX12_number_14, dX12_number_15, dX12_number_18, dX12_number_19, dX12_number_20, dX12_number_21, dX12_number_24, dX12_number_25, dX12_number_27, dX12_number_28, dX12_number_29, dX12_number_30, dX12_number_32, dX12_number_33, dX12_number_34, dX12_number_37, dX12_number_38, dX12_number_40, dX12_number_41, dX12_number_42, dX12_number_45, e_aload_n, e_iload_n, e_istore_n, e_iconst, e_bipush, e_iadd, e_imul, e_idiv, e_irem, e_ifCond, e_if_icmp, e_goto, e_invokevirtual, e_return_, e_wSt0, e_wSt1, e_wSt2, e_isL0, e_isL1, e_isL2, e_lset, e_lclr0, e_lclr1, e_lclr2, e_lput0, e_lput1, e_lput2, e_wInc, e_wInc0, Nat.reduceLT, not_false_eq_true, Bool.or_false, Bool.false_or, Bool.or_true, Bool.true_or, Bool.and_false, Bool.false_and, Bool.and_true, Bool.true_and, e_wD2, e_rv, e_wI2, e_wIc_le, e_wIf_le, bp_10, bp_48, bp_9, ic_1, jt_15_m13, jt_21_24, jt_42_m22, jt_7_11, e_call, e_callS0, e_callS1, e_callS2, e_callS3, e_callS4, e_pop0, e_pop1, e_tl0, e_tl1, tbX12_number_f, tbX12_number_p, tbX12_number_k, tbX12_number_c275, cv_245_0, cv_245_1, cv_245_2, cv_245_3, cv_245_4, spPu_e]
  have ed : v.tdiv 100 = v / 100 := Int.tdiv_eq_ediv_of_nonneg h2.1
  have ev : wI (v.tdiv 100) = v / 100 := by rw [ed]; exact wI_id (by omega) (by omega)
  have em : (v / 100).tmod 10 = v / 100 % 10 := Int.tmod_eq_emod_of_nonneg (by omega)
  have eu : wI (Int.tdiv 100 10) = 10 := by decide
  have e4 : wI (v / 100 % 10) = v / 100 % 10 := wI_id (by omega) (by omega)
  have e3 : wI (48 + v / 100 % 10) = 48 + v / 100 % 10 := wI_id (by omega) (by omega)
  simp only [ev, em, eu, e4, e3]
  exact ⟨fun q => absurd q (by decide), fun _ => ⟨by decide, by decide, h0, by omega, by decide, lpR2 l Q _ v t (by rw [pr_w]; simp; omega) (by rw [pr_w]; simp; omega) h2 (by rw [pr_b h0]; exact h3)⟩⟩
set_option maxRecDepth 20000 in
set_option maxHeartbeats 4000000 in
theorem lpR4 (l : Launch) (Q : Option aV → aS → Prop) (S : aS) (v t : Int) (h0 : 0 ≤ S.1 245 42) (h1 : S.1 245 42 + 4 ≤ 20000) (h2 : (0 ≤ v ∧ v ≤ 9999)) (h3 : Q none (prM S (ls4 v) (S.1 245) (S.1 275))) : aGo l mX12_number Q 20 [(0, .inr (.inr 245)), (1, .inl v), (2, .inl t), (3, .inl 1000)] [] S := by
  refine wp_go (tbX12_number_ok l) (fun pc => pc == 20) 33 dX12_number_20 ?_
  show ws1 tbX12_number 4 none Q (wp cX12_number tbX12_number 4 none Q (fun pc => pc == 20) (aGo l mX12_number Q) 33) (.iload_n 3) 1 20 [(0, .inr (.inr 245)), (1, .inl v), (2, .inl t), (3, .inl 1000)] [] S
  simp only [wp_s, wpC_f, wpC_t, e_wLd, e_wLd0, e_wLd1, e_wLd2, e_get1, e_get2, e_wJ, e_wJo, f40, f41, f42, f43, Nat.reduceAdd, Nat.reduceBEq, Nat.reduceMul, eq_self, true_or, or_true, true_and, dX12_number_0, dX12_number_1, dX12_number_2, dX12_number_3, dX12_number_4, dX12_number_5, dX12_number_7, dX12_number_10, dX12_number_12, dX12_number_13, dX12_number_14, dX12_number_15, dX12_number_18, dX12_number_19, dX12_number_20, dX12_number_21, dX12_number_24, dX12_number_25, dX12_number_27, dX12_number_28, dX12_number_29, dX12_number_30, dX12_number_32, dX12_number_33, dX12_number_34, dX12_number_37, dX12_number_38, dX12_number_40, dX12_number_41, dX12_number_42, dX12_number_45, e_aload_n, e_iload_n, e_istore_n, e_iconst, e_bipush, e_iadd, e_imul, e_idiv, e_irem, e_ifCond, e_if_icmp, e_goto, e_invokevirtual, e_return_, e_wSt0, e_wSt1, e_wSt2, e_isL0, e_isL1, e_isL2, e_lset, e_lclr0, e_lclr1, e_lclr2, e_lput0, e_lput1, e_lput2, e_wInc, e_wInc0, Nat.reduceLT, not_false_eq_true, Bool.or_false, Bool.false_or, Bool.or_true, Bool.true_or, Bool.and_false, Bool.false_and, Bool.and_true, Bool.true_and, e_wD2, e_rv, e_wI2, e_wIc_le, e_wIf_le, bp_10, bp_48, bp_9, ic_1, jt_15_m13, jt_21_24, jt_42_m22, jt_7_11, e_call, e_callS0, e_callS1, e_callS2, e_callS3, e_callS4, e_pop0, e_pop1, e_tl0, e_tl1, tbX12_number_f, tbX12_number_p, tbX12_number_k, tbX12_number_c275, cv_245_0, cv_245_1, cv_245_2, cv_245_3, cv_245_4, spPu_e]
  have ed : v.tdiv 1000 = v / 1000 := Int.tdiv_eq_ediv_of_nonneg h2.1
  have ev : wI (v.tdiv 1000) = v / 1000 := by rw [ed]; exact wI_id (by omega) (by omega)
  have em : (v / 1000).tmod 10 = v / 1000 % 10 := Int.tmod_eq_emod_of_nonneg (by omega)
  have eu : wI (Int.tdiv 1000 10) = 100 := by decide
  have e4 : wI (v / 1000 % 10) = v / 1000 % 10 := wI_id (by omega) (by omega)
  have e3 : wI (48 + v / 1000 % 10) = 48 + v / 1000 % 10 := wI_id (by omega) (by omega)
  simp only [ev, em, eu, e4, e3]
  exact ⟨fun q => absurd q (by decide), fun _ => ⟨by decide, by decide, h0, by omega, by decide, lpR3 l Q _ v t (by rw [pr_w]; simp; omega) (by rw [pr_w]; simp; omega) h2 (by rw [pr_b h0]; exact h3)⟩⟩
set_option maxRecDepth 20000 in
set_option maxHeartbeats 4000000 in
theorem lpNT3 (l : Launch) (Q : Option aV → aS → Prop) (S : aS) (v : Int) (h0 : 0 ≤ S.1 245 42) (h1 : S.1 245 42 + ((dgt v).length : Int) ≤ 20000) (h2 : (0 ≤ v ∧ v ≤ 9999)) (h3 : (1000 ≤ v ∨ 3 = 0)) (h4 : Q none (prM S (dgt v) (S.1 245) (S.1 275))) : aGo l mX12_number Q 2 [(0, .inr (.inr 245)), (1, .inl v), (2, .inl 1000)] [] S := by
  refine wp_go (tbX12_number_ok l) (fun pc => pc == 2 || pc == 20) 33 dX12_number_2 ?_
  show ws1 tbX12_number 4 none Q (wp cX12_number tbX12_number 4 none Q (fun pc => pc == 2 || pc == 20) (aGo l mX12_number Q) 33) (.iload_n 1) 1 2 [(0, .inr (.inr 245)), (1, .inl v), (2, .inl 1000)] [] S
  simp only [wp_s, wpC_f, wpC_t, e_wLd, e_wLd0, e_wLd1, e_wLd2, e_get1, e_get2, e_wJ, e_wJo, f40, f41, f42, f43, Nat.reduceAdd, Nat.reduceBEq, Nat.reduceMul, eq_self, true_or, or_true, true_and, dX12_number_0, dX12_number_1, dX12_number_2, dX12_number_3, dX12_number_4, dX12_number_5, dX12_number_7, dX12_number_10, dX12_number_12, dX12_number_13, dX12_number_14, dX12_number_15, dX12_number_18, dX12_number_19, dX12_number_20, dX12_number_21, dX12_number_24, dX12_number_25, dX12_number_27, dX12_number_28, dX12_number_29, dX12_number_30, dX12_number_32, dX12_number_33, dX12_number_34, dX12_number_37, dX12_number_38, dX12_number_40, dX12_number_41, dX12_number_42, dX12_number_45, e_aload_n, e_iload_n, e_istore_n, e_iconst, e_bipush, e_iadd, e_imul, e_idiv, e_irem, e_ifCond, e_if_icmp, e_goto, e_invokevirtual, e_return_, e_wSt0, e_wSt1, e_wSt2, e_isL0, e_isL1, e_isL2, e_lset, e_lclr0, e_lclr1, e_lclr2, e_lput0, e_lput1, e_lput2, e_wInc, e_wInc0, Nat.reduceLT, not_false_eq_true, Bool.or_false, Bool.false_or, Bool.or_true, Bool.true_or, Bool.and_false, Bool.false_and, Bool.and_true, Bool.true_and, e_wD2, e_rv, e_wI2, e_wIc_le, e_wIf_le, bp_10, bp_48, bp_9, ic_1, jt_15_m13, jt_21_24, jt_42_m22, jt_7_11, e_call, e_callS0, e_callS1, e_callS2, e_callS3, e_callS4, e_pop0, e_pop1, e_tl0, e_tl1, tbX12_number_f, tbX12_number_p, tbX12_number_k, tbX12_number_c275, cv_245_0, cv_245_1, cv_245_2, cv_245_3, cv_245_4, spPu_e]
  have ed : v.tdiv 1000 = v / 1000 := Int.tdiv_eq_ediv_of_nonneg h2.1
  have ev : wI (v.tdiv 1000) = v / 1000 := by rw [ed]; exact wI_id (by omega) (by omega)
  have eu : wI (10 * 1000) = 10000 := by decide
  simp only [ev, eu]
  have hd : v / 1000 ≤ 9 → dgt v = ls4 v := fun q => by
    unfold dgt
    rw [if_pos (by omega), if_pos (by omega), if_pos (by omega)]
    rfl
  refine ⟨by decide, fun q => ?_, fun q => ?_⟩
  · rw [hd q] at h1 h4
    have hl : ((ls4 v).length : Int) = 4 := rfl
    exact lpR4 l Q S v _ h0 (by omega) h2 h4
  · exact absurd (by omega : v / 1000 ≤ 9) q
set_option maxRecDepth 20000 in
set_option maxHeartbeats 4000000 in
theorem lpNT2 (l : Launch) (Q : Option aV → aS → Prop) (S : aS) (v : Int) (h0 : 0 ≤ S.1 245 42) (h1 : S.1 245 42 + ((dgt v).length : Int) ≤ 20000) (h2 : (0 ≤ v ∧ v ≤ 9999)) (h3 : (100 ≤ v ∨ 2 = 0)) (h4 : Q none (prM S (dgt v) (S.1 245) (S.1 275))) : aGo l mX12_number Q 2 [(0, .inr (.inr 245)), (1, .inl v), (2, .inl 100)] [] S := by
  refine wp_go (tbX12_number_ok l) (fun pc => pc == 2 || pc == 20) 33 dX12_number_2 ?_
  show ws1 tbX12_number 4 none Q (wp cX12_number tbX12_number 4 none Q (fun pc => pc == 2 || pc == 20) (aGo l mX12_number Q) 33) (.iload_n 1) 1 2 [(0, .inr (.inr 245)), (1, .inl v), (2, .inl 100)] [] S
  simp only [wp_s, wpC_f, wpC_t, e_wLd, e_wLd0, e_wLd1, e_wLd2, e_get1, e_get2, e_wJ, e_wJo, f40, f41, f42, f43, Nat.reduceAdd, Nat.reduceBEq, Nat.reduceMul, eq_self, true_or, or_true, true_and, dX12_number_0, dX12_number_1, dX12_number_2, dX12_number_3, dX12_number_4, dX12_number_5, dX12_number_7, dX12_number_10, dX12_number_12, dX12_number_13, dX12_number_14, dX12_number_15, dX12_number_18, dX12_number_19, dX12_number_20, dX12_number_21, dX12_number_24, dX12_number_25, dX12_number_27, dX12_number_28, dX12_number_29, dX12_number_30, dX12_number_32, dX12_number_33, dX12_number_34, dX12_number_37, dX12_number_38, dX12_number_40, dX12_number_41, dX12_number_42, dX12_number_45, e_aload_n, e_iload_n, e_istore_n, e_iconst, e_bipush, e_iadd, e_imul, e_idiv, e_irem, e_ifCond, e_if_icmp, e_goto, e_invokevirtual, e_return_, e_wSt0, e_wSt1, e_wSt2, e_isL0, e_isL1, e_isL2, e_lset, e_lclr0, e_lclr1, e_lclr2, e_lput0, e_lput1, e_lput2, e_wInc, e_wInc0, Nat.reduceLT, not_false_eq_true, Bool.or_false, Bool.false_or, Bool.or_true, Bool.true_or, Bool.and_false, Bool.false_and, Bool.and_true, Bool.true_and, e_wD2, e_rv, e_wI2, e_wIc_le, e_wIf_le, bp_10, bp_48, bp_9, ic_1, jt_15_m13, jt_21_24, jt_42_m22, jt_7_11, e_call, e_callS0, e_callS1, e_callS2, e_callS3, e_callS4, e_pop0, e_pop1, e_tl0, e_tl1, tbX12_number_f, tbX12_number_p, tbX12_number_k, tbX12_number_c275, cv_245_0, cv_245_1, cv_245_2, cv_245_3, cv_245_4, spPu_e]
  have ed : v.tdiv 100 = v / 100 := Int.tdiv_eq_ediv_of_nonneg h2.1
  have ev : wI (v.tdiv 100) = v / 100 := by rw [ed]; exact wI_id (by omega) (by omega)
  have eu : wI (10 * 100) = 1000 := by decide
  simp only [ev, eu]
  have hd : v / 100 ≤ 9 → dgt v = ls3 v := fun q => by
    unfold dgt
    rw [if_neg (by omega), if_pos (by omega), if_pos (by omega)]
    rfl
  refine ⟨by decide, fun q => ?_, fun q => ?_⟩
  · rw [hd q] at h1 h4
    have hl : ((ls3 v).length : Int) = 3 := rfl
    exact lpR3 l Q S v _ h0 (by omega) h2 h4
  · exact lpNT3 l Q S v h0 h1 h2 (Or.inl (by omega)) h4
set_option maxRecDepth 20000 in
set_option maxHeartbeats 4000000 in
theorem lpNT1 (l : Launch) (Q : Option aV → aS → Prop) (S : aS) (v : Int) (h0 : 0 ≤ S.1 245 42) (h1 : S.1 245 42 + ((dgt v).length : Int) ≤ 20000) (h2 : (0 ≤ v ∧ v ≤ 9999)) (h3 : (10 ≤ v ∨ 1 = 0)) (h4 : Q none (prM S (dgt v) (S.1 245) (S.1 275))) : aGo l mX12_number Q 2 [(0, .inr (.inr 245)), (1, .inl v), (2, .inl 10)] [] S := by
  refine wp_go (tbX12_number_ok l) (fun pc => pc == 2 || pc == 20) 33 dX12_number_2 ?_
  show ws1 tbX12_number 4 none Q (wp cX12_number tbX12_number 4 none Q (fun pc => pc == 2 || pc == 20) (aGo l mX12_number Q) 33) (.iload_n 1) 1 2 [(0, .inr (.inr 245)), (1, .inl v), (2, .inl 10)] [] S
  simp only [wp_s, wpC_f, wpC_t, e_wLd, e_wLd0, e_wLd1, e_wLd2, e_get1, e_get2, e_wJ, e_wJo, f40, f41, f42, f43, Nat.reduceAdd, Nat.reduceBEq, Nat.reduceMul, eq_self, true_or, or_true, true_and, dX12_number_0, dX12_number_1, dX12_number_2, dX12_number_3, dX12_number_4, dX12_number_5, dX12_number_7, dX12_number_10, dX12_number_12, dX12_number_13, dX12_number_14, dX12_number_15, dX12_number_18, dX12_number_19, dX12_number_20, dX12_number_21, dX12_number_24, dX12_number_25, dX12_number_27, dX12_number_28, dX12_number_29, dX12_number_30, dX12_number_32, dX12_number_33, dX12_number_34, dX12_number_37, dX12_number_38, dX12_number_40, dX12_number_41, dX12_number_42, dX12_number_45, e_aload_n, e_iload_n, e_istore_n, e_iconst, e_bipush, e_iadd, e_imul, e_idiv, e_irem, e_ifCond, e_if_icmp, e_goto, e_invokevirtual, e_return_, e_wSt0, e_wSt1, e_wSt2, e_isL0, e_isL1, e_isL2, e_lset, e_lclr0, e_lclr1, e_lclr2, e_lput0, e_lput1, e_lput2, e_wInc, e_wInc0, Nat.reduceLT, not_false_eq_true, Bool.or_false, Bool.false_or, Bool.or_true, Bool.true_or, Bool.and_false, Bool.false_and, Bool.and_true, Bool.true_and, e_wD2, e_rv, e_wI2, e_wIc_le, e_wIf_le, bp_10, bp_48, bp_9, ic_1, jt_15_m13, jt_21_24, jt_42_m22, jt_7_11, e_call, e_callS0, e_callS1, e_callS2, e_callS3, e_callS4, e_pop0, e_pop1, e_tl0, e_tl1, tbX12_number_f, tbX12_number_p, tbX12_number_k, tbX12_number_c275, cv_245_0, cv_245_1, cv_245_2, cv_245_3, cv_245_4, spPu_e]
  have ed : v.tdiv 10 = v / 10 := Int.tdiv_eq_ediv_of_nonneg h2.1
  have ev : wI (v.tdiv 10) = v / 10 := by rw [ed]; exact wI_id (by omega) (by omega)
  have eu : wI (10 * 10) = 100 := by decide
  simp only [ev, eu]
  have hd : v / 10 ≤ 9 → dgt v = ls2 v := fun q => by
    unfold dgt
    rw [if_neg (by omega), if_neg (by omega), if_pos (by omega)]
    rfl
  refine ⟨by decide, fun q => ?_, fun q => ?_⟩
  · rw [hd q] at h1 h4
    have hl : ((ls2 v).length : Int) = 2 := rfl
    exact lpR2 l Q S v _ h0 (by omega) h2 h4
  · exact lpNT2 l Q S v h0 h1 h2 (Or.inl (by omega)) h4
set_option maxRecDepth 20000 in
set_option maxHeartbeats 4000000 in
theorem lpNT0 (l : Launch) (Q : Option aV → aS → Prop) (S : aS) (v : Int) (h0 : 0 ≤ S.1 245 42) (h1 : S.1 245 42 + ((dgt v).length : Int) ≤ 20000) (h2 : (0 ≤ v ∧ v ≤ 9999)) (h3 : (1 ≤ v ∨ 0 = 0)) (h4 : Q none (prM S (dgt v) (S.1 245) (S.1 275))) : aGo l mX12_number Q 2 [(0, .inr (.inr 245)), (1, .inl v), (2, .inl 1)] [] S := by
  refine wp_go (tbX12_number_ok l) (fun pc => pc == 2 || pc == 20) 33 dX12_number_2 ?_
  show ws1 tbX12_number 4 none Q (wp cX12_number tbX12_number 4 none Q (fun pc => pc == 2 || pc == 20) (aGo l mX12_number Q) 33) (.iload_n 1) 1 2 [(0, .inr (.inr 245)), (1, .inl v), (2, .inl 1)] [] S
  simp only [wp_s, wpC_f, wpC_t, e_wLd, e_wLd0, e_wLd1, e_wLd2, e_get1, e_get2, e_wJ, e_wJo, f40, f41, f42, f43, Nat.reduceAdd, Nat.reduceBEq, Nat.reduceMul, eq_self, true_or, or_true, true_and, dX12_number_0, dX12_number_1, dX12_number_2, dX12_number_3, dX12_number_4, dX12_number_5, dX12_number_7, dX12_number_10, dX12_number_12, dX12_number_13, dX12_number_14, dX12_number_15, dX12_number_18, dX12_number_19, dX12_number_20, dX12_number_21, dX12_number_24, dX12_number_25, dX12_number_27, dX12_number_28, dX12_number_29, dX12_number_30, dX12_number_32, dX12_number_33, dX12_number_34, dX12_number_37, dX12_number_38, dX12_number_40, dX12_number_41, dX12_number_42, dX12_number_45, e_aload_n, e_iload_n, e_istore_n, e_iconst, e_bipush, e_iadd, e_imul, e_idiv, e_irem, e_ifCond, e_if_icmp, e_goto, e_invokevirtual, e_return_, e_wSt0, e_wSt1, e_wSt2, e_isL0, e_isL1, e_isL2, e_lset, e_lclr0, e_lclr1, e_lclr2, e_lput0, e_lput1, e_lput2, e_wInc, e_wInc0, Nat.reduceLT, not_false_eq_true, Bool.or_false, Bool.false_or, Bool.or_true, Bool.true_or, Bool.and_false, Bool.false_and, Bool.and_true, Bool.true_and, e_wD2, e_rv, e_wI2, e_wIc_le, e_wIf_le, bp_10, bp_48, bp_9, ic_1, jt_15_m13, jt_21_24, jt_42_m22, jt_7_11, e_call, e_callS0, e_callS1, e_callS2, e_callS3, e_callS4, e_pop0, e_pop1, e_tl0, e_tl1, tbX12_number_f, tbX12_number_p, tbX12_number_k, tbX12_number_c275, cv_245_0, cv_245_1, cv_245_2, cv_245_3, cv_245_4, spPu_e]
  have ed : v.tdiv 1 = v / 1 := Int.tdiv_eq_ediv_of_nonneg h2.1
  have ev : wI (v.tdiv 1) = v / 1 := by rw [ed]; exact wI_id (by omega) (by omega)
  have eu : wI (10 * 1) = 10 := by decide
  simp only [ev, eu]
  have hd : v / 1 ≤ 9 → dgt v = ls1 v := fun q => by
    unfold dgt
    rw [if_neg (by omega), if_neg (by omega), if_neg (by omega)]
    rfl
  refine ⟨by decide, fun q => ?_, fun q => ?_⟩
  · rw [hd q] at h1 h4
    have hl : ((ls1 v).length : Int) = 1 := rfl
    exact lpR1 l Q S v _ h0 (by omega) h2 h4
  · exact lpNT1 l Q S v h0 h1 h2 (Or.inl (by omega)) h4
set_option maxRecDepth 20000 in
set_option maxHeartbeats 4000000 in
theorem okX12_number (l : Launch) : aOK l mX12_number spX12_number := by
  refine aOK_of rfl fun as S Q h => ?_
  unfold spX12_number at h
  split at h
  · rename_i v
    refine ⟨Nat.le_of_ble_eq_true rfl, wp_ok (tbX12_number_ok l) Q (fun pc => pc == 2) 33 0 _ [] S ?_⟩
    show wp cX12_number tbX12_number 4 none Q (fun pc => pc == 2) (aGo l mX12_number Q) 33 0 [(0, .inr (.inr 245)), (1, .inl v)] [] S
    simp only [wp_s, wpC_f, wpC_t, e_wLd, e_wLd0, e_wLd1, e_wLd2, e_get1, e_get2, e_wJ, e_wJo, f40, f41, f42, f43, Nat.reduceAdd, Nat.reduceBEq, Nat.reduceMul, eq_self, true_or, or_true, true_and, dX12_number_0, dX12_number_1, dX12_number_2, dX12_number_3, dX12_number_4, dX12_number_5, dX12_number_7, dX12_number_10, dX12_number_12, dX12_number_13, dX12_number_14, dX12_number_15, dX12_number_18, dX12_number_19, dX12_number_20, dX12_number_21, dX12_number_24, dX12_number_25, dX12_number_27, dX12_number_28, dX12_number_29, dX12_number_30, dX12_number_32, dX12_number_33, dX12_number_34, dX12_number_37, dX12_number_38, dX12_number_40, dX12_number_41, dX12_number_42, dX12_number_45, e_aload_n, e_iload_n, e_istore_n, e_iconst, e_bipush, e_iadd, e_imul, e_idiv, e_irem, e_ifCond, e_if_icmp, e_goto, e_invokevirtual, e_return_, e_wSt0, e_wSt1, e_wSt2, e_isL0, e_isL1, e_isL2, e_lset, e_lclr0, e_lclr1, e_lclr2, e_lput0, e_lput1, e_lput2, e_wInc, e_wInc0, Nat.reduceLT, not_false_eq_true, Bool.or_false, Bool.false_or, Bool.or_true, Bool.true_or, Bool.and_false, Bool.false_and, Bool.and_true, Bool.true_and, e_wD2, e_rv, e_wI2, e_wIc_le, e_wIf_le, bp_10, bp_48, bp_9, ic_1, jt_15_m13, jt_21_24, jt_42_m22, jt_7_11, e_call, e_callS0, e_callS1, e_callS2, e_callS3, e_callS4, e_pop0, e_pop1, e_tl0, e_tl1, tbX12_number_f, tbX12_number_p, tbX12_number_k, tbX12_number_c275, cv_245_0, cv_245_1, cv_245_2, cv_245_3, cv_245_4, spPu_e]
    exact lpNT0 l Q S v h.1 h.2.1 ⟨h.2.2.1, h.2.2.2.1⟩ (Or.inr rfl) h.2.2.2.2
  · exact h.elim
def wl8 (w : Int) : Nat → Nat → List Int
  | 0, _ => []
  | m + 1, i => bAnd (wI (lUshr w (8 * (sz8 8 w - 1 - (i : Int))))) 255 :: wl8 w m (i + 1)
def wd8L (w : Int) : List Int := wl8 w (sz8 8 w).toNat 0
theorem wl8_len {w : Int} : ∀ {m i : Nat}, (wl8 w m i).length = m
  | 0, _ => rfl
  | m + 1, i => by unfold wl8; rw [List.length_cons, wl8_len]
def spX12_letters : aSp := fun as S Q => match as with
  | [.inr (.inr 245), .inr (.inl w)] => wrd8 w ∧ 0 ≤ S.1 245 42 ∧ S.1 245 42 + sz8 8 w ≤ 20000 ∧ Q none (prM S (wd8L w) (S.1 245) (S.1 275))
  | _ => False
def tbX12_letters : aTb := (fX12, pX12, fun j => lk [(158, none, 1, spX12_size), (258, none, 2, spX12_byteOf), (275, (some 12), 2, spX12_puts)] j, kX12)
theorem tbX12_letters_f : tbX12_letters.1 = fX12 := rfl
theorem tbX12_letters_p : tbX12_letters.2.1 = pX12 := rfl
theorem tbX12_letters_k : tbX12_letters.2.2.2 = kX12 := rfl
theorem tbX12_letters_c158 : tbX12_letters.2.2.1 158 = some (none, 1, spX12_size) := rfl
theorem tbX12_letters_c258 : tbX12_letters.2.2.1 258 = some (none, 2, spX12_byteOf) := rfl
theorem tbX12_letters_c275 : tbX12_letters.2.2.1 275 = some ((some 12), 2, spX12_puts) := rfl
theorem tbX12_letters_all (l : Launch) : ∀ e ∈ ([(158, none, 1, spX12_size), (258, none, 2, spX12_byteOf), (275, (some 12), 2, spX12_puts)] : List (Nat × Option Nat × Nat × aSp)), cOK l mX12_letters e.1 e.2.1 e.2.2.1 e.2.2.2 ∨ mOK mX12_letters e.1 e.2.1 e.2.2.1 e.2.2.2 := all_cons (cOK_of (okX12_size l) meX12_size cfX12_158 (by decide) (by decide)) (all_cons (cOK_of (okX12_byteOf l) meX12_byteOf cfX12_258 (by decide) (by decide)) (all_cons (cOK_of (okX12_puts l) meX12_puts cfX12_275 (by decide) (by decide)) (all_nil)))
theorem tbX12_letters_ok (l : Launch) : tOK l mX12_letters tbX12_letters := ⟨fX12_ok, pX12_ok, fun _ _ _ _ h => tbX12_letters_all l _ (lk_mem h), kX12_ok⟩
set_option maxRecDepth 20000 in
set_option maxHeartbeats 4000000 in
theorem lpLt (l : Launch) (Q : Option aV → aS → Prop) : ∀ (n : Nat) (S : aS) (w : Int) (i : Nat), (i : Int) + n = sz8 8 w → wrd8 w → 0 ≤ S.1 245 42 → S.1 245 42 + n ≤ 20000 → Q none (prM S (wl8 w n i) (S.1 245) (S.1 275)) → aGo l mX12_letters Q 2 [(0, .inr (.inr 245)), (1, .inr (.inl w)), (3, .inl (i : Int))] [] S := by
  intro n
  induction n using Nat.strongRecOn with
  | _ n ih =>
  intro S  w  i  h0 h1 h2 h3 h4
  refine wp_go (tbX12_letters_ok l) (fun pc => pc == 2) 16 dX12_letters_2 ?_
  show ws1 tbX12_letters 4 none Q (wp cX12_letters tbX12_letters 4 none Q (fun pc => pc == 2) (aGo l mX12_letters Q) 16) (.iload_n 3) 1 2 [(0, .inr (.inr 245)), (1, .inr (.inl w)), (3, .inl (i : Int))] [] S
  simp only [wp_s, wpC_f, wpC_t, e_wLd, e_wLd0, e_wLd1, e_wLd2, e_get1, e_get2, e_wJ, e_wJo, f40, f41, f42, f43, Nat.reduceAdd, Nat.reduceBEq, Nat.reduceMul, eq_self, true_or, or_true, true_and, dX12_letters_0, dX12_letters_1, dX12_letters_2, dX12_letters_3, dX12_letters_4, dX12_letters_7, dX12_letters_10, dX12_letters_11, dX12_letters_12, dX12_letters_13, dX12_letters_16, dX12_letters_19, dX12_letters_22, dX12_letters_25, e_aload_n, e_iload_n, e_lload_n, e_istore_n, e_iconst, e_iinc, e_if_icmp, e_goto, e_invokevirtual, e_invokestatic, e_return_, e_wSt0, e_wSt1, e_wSt2, e_isL0, e_isL1, e_isL2, e_lset, e_lclr0, e_lclr1, e_lclr2, e_lput0, e_lput1, e_lput2, e_wInc, e_wInc0, Nat.reduceLT, not_false_eq_true, Bool.or_false, Bool.false_or, Bool.or_true, Bool.true_or, Bool.and_false, Bool.false_and, Bool.and_true, Bool.true_and, e_rv, e_wIc_ge, ic_0, jt_22_m20, jt_7_18, e_call, e_callS0, e_callS1, e_callS2, e_callS3, e_callS4, e_pop0, e_pop1, e_tl0, e_tl1, tbX12_letters_f, tbX12_letters_p, tbX12_letters_k, tbX12_letters_c158, tbX12_letters_c258, tbX12_letters_c275, cv_245_0, cv_245_1, cv_245_2, cv_245_3, cv_245_4, spX12_size, spX12_byteOf, spPu_e]
  have hb := sz8_b 8 w
  simp (disch := omega) only [wI_id]
  refine ⟨h1, fun q => ?_, fun q => ⟨h1, by omega, by omega, h2, by omega, ?_⟩⟩
  · obtain rfl : n = 0 := by omega
    unfold wl8 at h4
    rw [pr_nil] at h4
    exact h4
  · obtain ⟨m, rfl⟩ : ∃ m, n = m + 1 := ⟨n - 1, by omega⟩
    exact ih m (by omega) _ w (i + 1) (by omega) h1 (by rw [pr_w]; simp; omega) (by rw [pr_w]; simp; omega) (by rw [pr_b h2]; exact h4)
set_option maxRecDepth 20000 in
set_option maxHeartbeats 4000000 in
theorem okX12_letters (l : Launch) : aOK l mX12_letters spX12_letters := by
  refine aOK_of rfl fun as S Q h => ?_
  unfold spX12_letters at h
  split at h
  · rename_i w
    refine ⟨Nat.le_of_ble_eq_true rfl, wp_ok (tbX12_letters_ok l) Q (fun pc => pc == 2) 16 0 _ [] S ?_⟩
    show wp cX12_letters tbX12_letters 4 none Q (fun pc => pc == 2) (aGo l mX12_letters Q) 16 0 [(0, .inr (.inr 245)), (1, .inr (.inl w))] [] S
    simp only [wp_s, wpC_f, wpC_t, e_wLd, e_wLd0, e_wLd1, e_wLd2, e_get1, e_get2, e_wJ, e_wJo, f40, f41, f42, f43, Nat.reduceAdd, Nat.reduceBEq, Nat.reduceMul, eq_self, true_or, or_true, true_and, dX12_letters_0, dX12_letters_1, dX12_letters_2, dX12_letters_3, dX12_letters_4, dX12_letters_7, dX12_letters_10, dX12_letters_11, dX12_letters_12, dX12_letters_13, dX12_letters_16, dX12_letters_19, dX12_letters_22, dX12_letters_25, e_aload_n, e_iload_n, e_lload_n, e_istore_n, e_iconst, e_iinc, e_if_icmp, e_goto, e_invokevirtual, e_invokestatic, e_return_, e_wSt0, e_wSt1, e_wSt2, e_isL0, e_isL1, e_isL2, e_lset, e_lclr0, e_lclr1, e_lclr2, e_lput0, e_lput1, e_lput2, e_wInc, e_wInc0, Nat.reduceLT, not_false_eq_true, Bool.or_false, Bool.false_or, Bool.or_true, Bool.true_or, Bool.and_false, Bool.false_and, Bool.and_true, Bool.true_and, e_rv, e_wIc_ge, ic_0, jt_22_m20, jt_7_18, e_call, e_callS0, e_callS1, e_callS2, e_callS3, e_callS4, e_pop0, e_pop1, e_tl0, e_tl1, tbX12_letters_f, tbX12_letters_p, tbX12_letters_k, tbX12_letters_c158, tbX12_letters_c258, tbX12_letters_c275, cv_245_0, cv_245_1, cv_245_2, cv_245_3, cv_245_4]
    have hb := sz8_b 8 w
    exact lpLt l Q (sz8 8 w).toNat S w 0 (by omega) h.1 h.2.1 (by have := h.2.2.1; omega) h.2.2.2
  · exact h.elim
