/-! words of the pure side -/
noncomputable def bi (p : Prop) : Int := @ite _ p (Classical.propDecidable p) 1 0
theorem bi_t {p : Prop} (h : p) : bi p = 1 := if_pos h
theorem bi_f {p : Prop} (h : ¬ p) : bi p = 0 := if_neg h
theorem bi_0 {p : Prop} : (bi p = 0) = ¬ p := by
  by_cases h : p
  · rw [bi_t h]; simp [h]
  · rw [bi_f h]; simp [h]
theorem bi_1 {p : Prop} : (bi p = 1) = p := by
  by_cases h : p
  · rw [bi_t h]; simp [h]
  · rw [bi_f h]; simp [h]
theorem bi_01 (p : Prop) : bi p = 0 ∨ bi p = 1 := by
  by_cases h : p
  · exact Or.inr (bi_t h)
  · exact Or.inl (bi_f h)
theorem em_r {p : Prop} : (¬ p ∨ p) = True := eq_true (Classical.em p).symm
theorem em_l {p : Prop} : (p ∨ ¬ p) = True := eq_true (Classical.em p)
theorem bi_c {p q : Prop} (h : p ↔ q) : bi p = bi q := by rw [propext h]
def cnt (p : Nat → Bool) : Nat → Int
  | 0 => 0
  | n + 1 => cnt p n + (if p n = true then 1 else 0)
theorem cnt_t {p : Nat → Bool} {n : Nat} (h : p n = true) : cnt p (n + 1) = cnt p n + 1 := by simp [cnt, h]
theorem cnt_f {p : Nat → Bool} {n : Nat} (h : p n = false) : cnt p (n + 1) = cnt p n := by simp [cnt, h]
theorem cnt_b (p : Nat → Bool) : ∀ n : Nat, 0 ≤ cnt p n ∧ cnt p n ≤ n
  | 0 => by simp [cnt]
  | n + 1 => by
    have := cnt_b p n
    unfold cnt
    split <;> (push_cast; omega)
theorem cnt_c {p q : Nat → Bool} : ∀ {n : Nat}, (∀ j, j < n → p j = q j) → cnt p n = cnt q n
  | 0, _ => rfl
  | n + 1, h => by
    unfold cnt
    rw [cnt_c (fun j hj => h j (by omega)), h n (by omega)]
/-- the first of the n places from i on that has p; -1 -/
def ff (p : Nat → Bool) : Nat → Nat → Int
  | 0, _ => -1
  | n + 1, i => if p i = true then (i : Int) else ff p n (i + 1)
theorem ff_c {p q : Nat → Bool} : ∀ {n i : Nat}, (∀ j, i ≤ j → j < i + n → p j = q j) → ff p n i = ff q n i
  | 0, _, _ => rfl
  | n + 1, i, h => by
    unfold ff
    rw [h i (by omega) (by omega), ff_c (fun j h1 h2 => h j (by omega) (by omega))]
theorem st_ext {S T : aS} (h1 : ∀ a b, S.1 a b = T.1 a b) (h2 : ∀ a b, S.2 a b = T.2 a b) : S = T :=
  Prod.ext (funext fun a => funext fun b => h1 a b) (funext fun a => funext fun b => h2 a b)
/-- the state, with another content of one array -/
def stA (S : aS) (i : Nat) (f : Nat → Int) : aS := (fun a b => if a = i then f b else S.1 a b, S.2)
/-! SLIPS -/
def spX7_has : aSp := fun as S Q => match as with
  | [.inr (.inr 81), .inl b] => Q (some (.inl (bi (0 ≤ b ∧ b < S.1 81 4)))) S
  | _ => False
def tbX7_has : aTb := (fX7, pX7, fun j => lk [] j, kX7)
theorem tbX7_has_f : tbX7_has.1 = fX7 := rfl
theorem tbX7_has_p : tbX7_has.2.1 = pX7 := rfl
theorem tbX7_has_k : tbX7_has.2.2.2 = kX7 := rfl
theorem tbX7_has_all (l : Launch) : ∀ e ∈ ([] : List (Nat × Option Nat × Nat × aSp)), cOK l mX7_has e.1 e.2.1 e.2.2.1 e.2.2.2 ∨ mOK mX7_has e.1 e.2.1 e.2.2.1 e.2.2.2 := all_nil
theorem tbX7_has_ok (l : Launch) : tOK l mX7_has tbX7_has := ⟨fX7_ok, pX7_ok, fun _ _ _ _ h => tbX7_has_all l _ (lk_mem h), kX7_ok⟩
set_option maxRecDepth 20000 in
set_option maxHeartbeats 4000000 in
theorem okX7_has (l : Launch) : aOK l mX7_has spX7_has := by
  refine aOK_of rfl fun as S Q h => ?_
  unfold spX7_has at h
  split at h
  · rename_i b
    refine ⟨Nat.le_of_ble_eq_true rfl, wp_ok (tbX7_has_ok l) Q (fun pc => false) 12 0 _ [] S ?_⟩
    show wp cX7_has tbX7_has 2 (some .boolean) Q (fun pc => false) (aGo l mX7_has Q) 12 0 [(0, .inr (.inr 81)), (1, .inl b)] [] S
    simp only [wp_s, wpC_f, wpC_t, e_wLd, e_wLd0, e_wLd1, e_wLd2, e_get1, e_get2, e_wJ, e_wJo, f40, f41, f42, f43, Nat.reduceAdd, Nat.reduceBEq, Nat.reduceMul, eq_self, true_or, or_true, true_and, dX7_has_0, dX7_has_1, dX7_has_4, dX7_has_5, dX7_has_6, dX7_has_9, dX7_has_12, dX7_has_13, dX7_has_16, dX7_has_17, e_aload_n, e_iload_n, e_iconst, e_ifCond, e_if_icmp, e_goto, e_getfield, e_ireturn, e_ri, e_rz, e_wIc_ge, e_wIf_lt, fX7_30, ic_0, ic_1, jt_13_4, jt_1_15, jt_9_7, tbX7_has_f, tbX7_has_p, tbX7_has_k, g_81_4]
    repeat' (with_reducible first | intro _ | refine And.intro ?_ ?_)
    all_goals first | exact h | (rw [bi_t (by omega)] at h; exact h) | (rw [bi_f (by omega)] at h; exact h) | omega
  · exact h.elim
def spX7_standsAt : aSp := fun as S Q => match as with
  | [.inr (.inr 81), .inl b, .inl e, .inl t] => S.1 81 4 ≤ 120 ∧ Q (some (.inl (bi (0 ≤ b ∧ b < S.1 81 4 ∧ S.1 83 b.toNat = e ∧ S.1 84 b.toNat = t)))) S
  | _ => False
def tbX7_standsAt : aTb := (fX7, pX7, fun j => lk [(42, (some 7), 2, spX7_has)] j, kX7)
theorem tbX7_standsAt_f : tbX7_standsAt.1 = fX7 := rfl
theorem tbX7_standsAt_p : tbX7_standsAt.2.1 = pX7 := rfl
theorem tbX7_standsAt_k : tbX7_standsAt.2.2.2 = kX7 := rfl
theorem tbX7_standsAt_c42 : tbX7_standsAt.2.2.1 42 = some ((some 7), 2, spX7_has) := rfl
theorem tbX7_standsAt_all (l : Launch) : ∀ e ∈ ([(42, (some 7), 2, spX7_has)] : List (Nat × Option Nat × Nat × aSp)), cOK l mX7_standsAt e.1 e.2.1 e.2.2.1 e.2.2.2 ∨ mOK mX7_standsAt e.1 e.2.1 e.2.2.1 e.2.2.2 := all_cons (cOK_of (okX7_has l) meX7_has cfX7_42 (by decide) (by decide)) (all_nil)
theorem tbX7_standsAt_ok (l : Launch) : tOK l mX7_standsAt tbX7_standsAt := ⟨fX7_ok, pX7_ok, fun _ _ _ _ h => tbX7_standsAt_all l _ (lk_mem h), kX7_ok⟩
set_option maxRecDepth 20000 in
set_option maxHeartbeats 4000000 in
theorem okX7_standsAt (l : Launch) : aOK l mX7_standsAt spX7_standsAt := by
  refine aOK_of rfl fun as S Q h => ?_
  unfold spX7_standsAt at h
  split at h
  · rename_i b e t
    refine ⟨Nat.le_of_ble_eq_true rfl, wp_ok (tbX7_standsAt_ok l) Q (fun pc => false) 22 0 _ [] S ?_⟩
    show wp cX7_standsAt tbX7_standsAt 4 (some .boolean) Q (fun pc => false) (aGo l mX7_standsAt Q) 22 0 [(0, .inr (.inr 81)), (1, .inl b), (2, .inl e), (3, .inl t)] [] S
    simp only [wp_s, wpC_f, wpC_t, e_wLd, e_wLd0, e_wLd1, e_wLd2, e_get1, e_get2, e_wJ, e_wJo, f40, f41, f42, f43, Nat.reduceAdd, Nat.reduceBEq, Nat.reduceMul, eq_self, true_or, or_true, true_and, dX7_standsAt_0, dX7_standsAt_1, dX7_standsAt_2, dX7_standsAt_5, dX7_standsAt_8, dX7_standsAt_9, dX7_standsAt_12, dX7_standsAt_13, dX7_standsAt_14, dX7_standsAt_15, dX7_standsAt_18, dX7_standsAt_19, dX7_standsAt_22, dX7_standsAt_23, dX7_standsAt_24, dX7_standsAt_25, dX7_standsAt_28, dX7_standsAt_29, dX7_standsAt_32, dX7_standsAt_33, e_aload_n, e_iload_n, e_iconst, e_ifCond, e_if_icmp, e_goto, e_getfield, e_iaload, e_invokevirtual, e_ireturn, e_ri, e_rz, e_wIc_ne, e_wIf_eq, fX7_15, fX7_18, ic_0, ic_1, jt_15_17, jt_25_7, jt_29_4, jt_5_27, e_call, e_callS0, e_callS1, e_callS2, e_callS3, e_callS4, e_pop0, e_pop1, e_tl0, e_tl1, tbX7_standsAt_f, tbX7_standsAt_p, tbX7_standsAt_k, tbX7_standsAt_c42, g_81_1, l_83, cv_81_0, cv_81_1, cv_81_2, cv_81_3, cv_81_4, l_84, g_81_2, spX7_has, bi_0, bi_1, ne_eq, Classical.not_not, em_r, em_l]
    obtain ⟨hs, h⟩ := h
    repeat' (with_reducible first | intro _ | refine And.intro ?_ ?_)
    all_goals first | exact h | (rw [bi_t (by omega)] at h; exact h) | (rw [bi_f (by omega)] at h; exact h) | omega
  · exact h.elim
def spX7_isLoose : aSp := fun as S Q => match as with
  | [.inr (.inr 81), .inl b] => S.1 81 4 ≤ 120 ∧ Q (some (.inl (bi (0 ≤ b ∧ b < S.1 81 4 ∧ S.1 83 b.toNat = -1 ∧ S.1 84 b.toNat = -1)))) S
  | _ => False
def tbX7_isLoose : aTb := (fX7, pX7, fun j => lk [(46, (some 7), 4, spX7_standsAt)] j, kX7)
theorem tbX7_isLoose_f : tbX7_isLoose.1 = fX7 := rfl
theorem tbX7_isLoose_p : tbX7_isLoose.2.1 = pX7 := rfl
theorem tbX7_isLoose_k : tbX7_isLoose.2.2.2 = kX7 := rfl
theorem tbX7_isLoose_c46 : tbX7_isLoose.2.2.1 46 = some ((some 7), 4, spX7_standsAt) := rfl
theorem tbX7_isLoose_all (l : Launch) : ∀ e ∈ ([(46, (some 7), 4, spX7_standsAt)] : List (Nat × Option Nat × Nat × aSp)), cOK l mX7_isLoose e.1 e.2.1 e.2.2.1 e.2.2.2 ∨ mOK mX7_isLoose e.1 e.2.1 e.2.2.1 e.2.2.2 := all_cons (cOK_of (okX7_standsAt l) meX7_standsAt cfX7_46 (by decide) (by decide)) (all_nil)
theorem tbX7_isLoose_ok (l : Launch) : tOK l mX7_isLoose tbX7_isLoose := ⟨fX7_ok, pX7_ok, fun _ _ _ _ h => tbX7_isLoose_all l _ (lk_mem h), kX7_ok⟩
set_option maxRecDepth 20000 in
set_option maxHeartbeats 4000000 in
theorem okX7_isLoose (l : Launch) : aOK l mX7_isLoose spX7_isLoose := by
  refine aOK_of rfl fun as S Q h => ?_
  unfold spX7_isLoose at h
  split at h
  · rename_i b
    refine ⟨Nat.le_of_ble_eq_true rfl, wp_ok (tbX7_isLoose_ok l) Q (fun pc => false) 8 0 _ [] S ?_⟩
    show wp cX7_isLoose tbX7_isLoose 2 (some .boolean) Q (fun pc => false) (aGo l mX7_isLoose Q) 8 0 [(0, .inr (.inr 81)), (1, .inl b)] [] S
    simp only [wp_s, wpC_f, wpC_t, e_wLd, e_wLd0, e_wLd1, e_wLd2, e_get1, e_get2, e_wJ, e_wJo, f40, f41, f42, f43, Nat.reduceAdd, Nat.reduceBEq, Nat.reduceMul, eq_self, true_or, or_true, true_and, dX7_isLoose_0, dX7_isLoose_1, dX7_isLoose_2, dX7_isLoose_3, dX7_isLoose_4, dX7_isLoose_7, e_aload_n, e_iload_n, e_iconst, e_invokevirtual, e_ireturn, e_ri, e_rz, ic_m1, e_call, e_callS0, e_callS1, e_callS2, e_callS3, e_callS4, e_pop0, e_pop1, e_tl0, e_tl1, tbX7_isLoose_f, tbX7_isLoose_p, tbX7_isLoose_k, tbX7_isLoose_c46, cv_81_0, cv_81_1, cv_81_2, cv_81_3, cv_81_4, spX7_standsAt, bi_0, bi_1, ne_eq, Classical.not_not, em_r, em_l]
    obtain ⟨hs, h⟩ := h
    exact ⟨hs, h⟩
  · exact h.elim
def spX7_place : aSp := fun as S Q => match as with
  | [.inr (.inr 81), .inl b, .inl e, .inl t] => S.1 81 4 ≤ 120 ∧ (0 ≤ b ∧ b < S.1 81 4 → Q none (upI (upI S 83 b.toNat e) 84 b.toNat t)) ∧ (¬ (0 ≤ b ∧ b < S.1 81 4) → Q none S)
  | _ => False
def tbX7_place : aTb := (fX7, pX7, fun j => lk [(42, (some 7), 2, spX7_has)] j, kX7)
theorem tbX7_place_f : tbX7_place.1 = fX7 := rfl
theorem tbX7_place_p : tbX7_place.2.1 = pX7 := rfl
theorem tbX7_place_k : tbX7_place.2.2.2 = kX7 := rfl
theorem tbX7_place_c42 : tbX7_place.2.2.1 42 = some ((some 7), 2, spX7_has) := rfl
theorem tbX7_place_all (l : Launch) : ∀ e ∈ ([(42, (some 7), 2, spX7_has)] : List (Nat × Option Nat × Nat × aSp)), cOK l mX7_place e.1 e.2.1 e.2.2.1 e.2.2.2 ∨ mOK mX7_place e.1 e.2.1 e.2.2.1 e.2.2.2 := all_cons (cOK_of (okX7_has l) meX7_has cfX7_42 (by decide) (by decide)) (all_nil)
theorem tbX7_place_ok (l : Launch) : tOK l mX7_place tbX7_place := ⟨fX7_ok, pX7_ok, fun _ _ _ _ h => tbX7_place_all l _ (lk_mem h), kX7_ok⟩
set_option maxRecDepth 20000 in
set_option maxHeartbeats 4000000 in
theorem okX7_place (l : Launch) : aOK l mX7_place spX7_place := by
  refine aOK_of rfl fun as S Q h => ?_
  unfold spX7_place at h
  split at h
  · rename_i b e t
    refine ⟨Nat.le_of_ble_eq_true rfl, wp_ok (tbX7_place_ok l) Q (fun pc => false) 17 0 _ [] S ?_⟩
    show wp cX7_place tbX7_place 4 none Q (fun pc => false) (aGo l mX7_place Q) 17 0 [(0, .inr (.inr 81)), (1, .inl b), (2, .inl e), (3, .inl t)] [] S
    simp only [wp_s, wpC_f, wpC_t, e_wLd, e_wLd0, e_wLd1, e_wLd2, e_get1, e_get2, e_wJ, e_wJo, f40, f41, f42, f43, Nat.reduceAdd, Nat.reduceBEq, Nat.reduceMul, eq_self, true_or, or_true, true_and, dX7_place_0, dX7_place_1, dX7_place_2, dX7_place_5, dX7_place_8, dX7_place_9, dX7_place_12, dX7_place_13, dX7_place_14, dX7_place_15, dX7_place_16, dX7_place_19, dX7_place_20, dX7_place_21, dX7_place_22, e_aload_n, e_iload_n, e_ifCond, e_getfield, e_iastore, e_invokevirtual, e_return_, e_rv, e_wIf_eq, fX7_15, fX7_18, jt_5_17, e_call, e_callS0, e_callS1, e_callS2, e_callS3, e_callS4, e_pop0, e_pop1, e_tl0, e_tl1, tbX7_place_f, tbX7_place_p, tbX7_place_k, tbX7_place_c42, g_81_1, s_83, cv_81_0, cv_81_1, cv_81_2, cv_81_3, cv_81_4, s_84, g_81_2, spX7_has, bi_0, bi_1, ne_eq, Classical.not_not, em_r, em_l]
    obtain ⟨hs, h1, h2⟩ := h
    repeat' (with_reducible first | intro _ | refine And.intro ?_ ?_)
    all_goals first | omega | exact h1 (by omega) | exact h2 (by omega)
  · exact h.elim
def spX7_ofBook : aSp := fun as S Q => match as with
  | [.inr (.inr 81), .inl b] => 0 ≤ S.1 81 4 ∧ S.1 81 4 ≤ 120 ∧ Q (some (.inl (cnt (fun j => S.1 82 j == b) (S.1 81 4).toNat))) S
  | _ => False
def tbX7_ofBook : aTb := (fX7, pX7, fun j => lk [] j, kX7)
theorem tbX7_ofBook_f : tbX7_ofBook.1 = fX7 := rfl
theorem tbX7_ofBook_p : tbX7_ofBook.2.1 = pX7 := rfl
theorem tbX7_ofBook_k : tbX7_ofBook.2.2.2 = kX7 := rfl
theorem tbX7_ofBook_all (l : Launch) : ∀ e ∈ ([] : List (Nat × Option Nat × Nat × aSp)), cOK l mX7_ofBook e.1 e.2.1 e.2.2.1 e.2.2.2 ∨ mOK mX7_ofBook e.1 e.2.1 e.2.2.1 e.2.2.2 := all_nil
theorem tbX7_ofBook_ok (l : Launch) : tOK l mX7_ofBook tbX7_ofBook := ⟨fX7_ok, pX7_ok, fun _ _ _ _ h => tbX7_ofBook_all l _ (lk_mem h), kX7_ok⟩
set_option maxRecDepth 20000 in
set_option maxHeartbeats 4000000 in
theorem lpX7_ofBook (l : Launch) (Q : Option aV → aS → Prop) : ∀ (n : Nat) (S : aS) (b : Int) (i : Nat), i + n = (S.1 81 4).toNat → Q (some (.inl (cnt (fun j => S.1 82 j == b) ((S.1 81 4).toNat)))) S → S.1 81 4 ≤ 120 → aGo l mX7_ofBook Q 4 [(0, .inr (.inr 81)), (1, .inl b), (2, .inl (cnt (fun j => S.1 82 j == b) i)), (3, .inl (i : Int))] [] S := by
  intro n
  induction n using Nat.strongRecOn with
  | _ n ih =>
  intro S  b  i  h0 h1 h2
  refine wp_go (tbX7_ofBook_ok l) (fun pc => pc == 4) 21 dX7_ofBook_4 ?_
  show ws1 tbX7_ofBook 4 (some .int) Q (wp cX7_ofBook tbX7_ofBook 4 (some .int) Q (fun pc => pc == 4) (aGo l mX7_ofBook Q) 21) (.iload_n 3) 1 4 [(0, .inr (.inr 81)), (1, .inl b), (2, .inl (cnt (fun j => S.1 82 j == b) i)), (3, .inl (i : Int))] [] S
  simp only [wp_s, wpC_f, wpC_t, e_wLd, e_wLd0, e_wLd1, e_wLd2, e_get1, e_get2, e_wJ, e_wJo, f40, f41, f42, f43, Nat.reduceAdd, Nat.reduceBEq, Nat.reduceMul, eq_self, true_or, or_true, true_and, dX7_ofBook_0, dX7_ofBook_1, dX7_ofBook_2, dX7_ofBook_3, dX7_ofBook_4, dX7_ofBook_5, dX7_ofBook_6, dX7_ofBook_9, dX7_ofBook_12, dX7_ofBook_13, dX7_ofBook_16, dX7_ofBook_17, dX7_ofBook_18, dX7_ofBook_19, dX7_ofBook_22, dX7_ofBook_25, dX7_ofBook_28, dX7_ofBook_31, dX7_ofBook_32, e_aload_n, e_iload_n, e_istore_n, e_iconst, e_iinc, e_if_icmp, e_goto, e_getfield, e_iaload, e_ireturn, e_wSt0, e_wSt1, e_wSt2, e_isL0, e_isL1, e_isL2, e_lset, e_lclr0, e_lclr1, e_lclr2, e_lput0, e_lput1, e_lput2, e_wInc, e_wInc0, Nat.reduceLT, not_false_eq_true, Bool.or_false, Bool.false_or, Bool.or_true, Bool.true_or, Bool.and_false, Bool.false_and, Bool.and_true, Bool.true_and, e_ri, e_rz, e_wIc_ge, e_wIc_ne, fX7_30, fX7_9, ic_0, jt_19_6, jt_28_m24, jt_9_22, tbX7_ofBook_f, tbX7_ofBook_p, tbX7_ofBook_k, g_81_0, l_82, g_81_4]
  have cb := cnt_b (fun j => S.1 82 j == b) i
  repeat' (with_reducible first | intro _ | refine And.intro ?_ ?_)
  all_goals (try simp (disch := omega) only [wI_id, Int.toNat_natCast] at *)
  all_goals first
    | omega
    | (rw [show (S.1 81 4).toNat = i from by omega] at h1; exact h1)
    | (have e := ih (n - 1) (by omega) S b (i + 1) (by omega) h1 h2; rw [cnt_f (by first | (simp_all; done) | (simp; omega))] at e; exact e)
    | (have e := ih (n - 1) (by omega) S b (i + 1) (by omega) h1 h2; rw [cnt_t (by first | (simp_all; done) | (simp; omega))] at e; exact e)
    | skip
set_option maxRecDepth 20000 in
set_option maxHeartbeats 4000000 in
theorem okX7_ofBook (l : Launch) : aOK l mX7_ofBook spX7_ofBook := by
  refine aOK_of rfl fun as S Q h => ?_
  unfold spX7_ofBook at h
  split at h
  · rename_i b
    refine ⟨Nat.le_of_ble_eq_true rfl, wp_ok (tbX7_ofBook_ok l) Q (fun pc => pc == 4) 21 0 _ [] S ?_⟩
    show wp cX7_ofBook tbX7_ofBook 4 (some .int) Q (fun pc => pc == 4) (aGo l mX7_ofBook Q) 21 0 [(0, .inr (.inr 81)), (1, .inl b)] [] S
    simp only [wp_s, wpC_f, wpC_t, e_wLd, e_wLd0, e_wLd1, e_wLd2, e_get1, e_get2, e_wJ, e_wJo, f40, f41, f42, f43, Nat.reduceAdd, Nat.reduceBEq, Nat.reduceMul, eq_self, true_or, or_true, true_and, dX7_ofBook_0, dX7_ofBook_1, dX7_ofBook_2, dX7_ofBook_3, dX7_ofBook_4, dX7_ofBook_5, dX7_ofBook_6, dX7_ofBook_9, dX7_ofBook_12, dX7_ofBook_13, dX7_ofBook_16, dX7_ofBook_17, dX7_ofBook_18, dX7_ofBook_19, dX7_ofBook_22, dX7_ofBook_25, dX7_ofBook_28, dX7_ofBook_31, dX7_ofBook_32, e_aload_n, e_iload_n, e_istore_n, e_iconst, e_iinc, e_if_icmp, e_goto, e_getfield, e_iaload, e_ireturn, e_wSt0, e_wSt1, e_wSt2, e_isL0, e_isL1, e_isL2, e_lset, e_lclr0, e_lclr1, e_lclr2, e_lput0, e_lput1, e_lput2, e_wInc, e_wInc0, Nat.reduceLT, not_false_eq_true, Bool.or_false, Bool.false_or, Bool.or_true, Bool.true_or, Bool.and_false, Bool.false_and, Bool.and_true, Bool.true_and, e_ri, e_rz, e_wIc_ge, e_wIc_ne, fX7_30, fX7_9, ic_0, jt_19_6, jt_28_m24, jt_9_22, tbX7_ofBook_f, tbX7_ofBook_p, tbX7_ofBook_k, g_81_0, l_82, g_81_4]
    exact lpX7_ofBook l Q _ S b 0 (Nat.zero_add _) h.2.2 h.2.1
  · exact h.elim
def spX7_at : aSp := fun as S Q => match as with
  | [.inr (.inr 81), .inl e, .inl t] => 0 ≤ S.1 81 4 ∧ S.1 81 4 ≤ 120 ∧ Q (some (.inl (cnt (fun j => S.1 83 j == e && S.1 84 j == t) (S.1 81 4).toNat))) S
  | _ => False
def tbX7_at : aTb := (fX7, pX7, fun j => lk [(46, (some 7), 4, spX7_standsAt)] j, kX7)
theorem tbX7_at_f : tbX7_at.1 = fX7 := rfl
theorem tbX7_at_p : tbX7_at.2.1 = pX7 := rfl
theorem tbX7_at_k : tbX7_at.2.2.2 = kX7 := rfl
theorem tbX7_at_c46 : tbX7_at.2.2.1 46 = some ((some 7), 4, spX7_standsAt) := rfl
theorem tbX7_at_all (l : Launch) : ∀ e ∈ ([(46, (some 7), 4, spX7_standsAt)] : List (Nat × Option Nat × Nat × aSp)), cOK l mX7_at e.1 e.2.1 e.2.2.1 e.2.2.2 ∨ mOK mX7_at e.1 e.2.1 e.2.2.1 e.2.2.2 := all_cons (cOK_of (okX7_standsAt l) meX7_standsAt cfX7_46 (by decide) (by decide)) (all_nil)
theorem tbX7_at_ok (l : Launch) : tOK l mX7_at tbX7_at := ⟨fX7_ok, pX7_ok, fun _ _ _ _ h => tbX7_at_all l _ (lk_mem h), kX7_ok⟩
set_option maxRecDepth 20000 in
set_option maxHeartbeats 4000000 in
theorem lpX7_at (l : Launch) (Q : Option aV → aS → Prop) : ∀ (n : Nat) (S : aS) (e t : Int) (i : Nat), i + n = (S.1 81 4).toNat → Q (some (.inl (cnt (fun j => S.1 83 j == e && S.1 84 j == t) ((S.1 81 4).toNat)))) S → S.1 81 4 ≤ 120 → aGo l mX7_at Q 5 [(0, .inr (.inr 81)), (1, .inl e), (2, .inl t), (3, .inl (cnt (fun j => S.1 83 j == e && S.1 84 j == t) i)), (4, .inl (i : Int))] [] S := by
  intro n
  induction n using Nat.strongRecOn with
  | _ n ih =>
  intro S  e t  i  h0 h1 h2
  refine wp_go (tbX7_at_ok l) (fun pc => pc == 5) 21 dX7_at_5 ?_
  show ws1 tbX7_at 5 (some .int) Q (wp cX7_at tbX7_at 5 (some .int) Q (fun pc => pc == 5) (aGo l mX7_at Q) 21) (.iload 4) 2 5 [(0, .inr (.inr 81)), (1, .inl e), (2, .inl t), (3, .inl (cnt (fun j => S.1 83 j == e && S.1 84 j == t) i)), (4, .inl (i : Int))] [] S
  simp only [wp_s, wpC_f, wpC_t, e_wLd, e_wLd0, e_wLd1, e_wLd2, e_get1, e_get2, e_wJ, e_wJo, f40, f41, f42, f43, Nat.reduceAdd, Nat.reduceBEq, Nat.reduceMul, eq_self, true_or, or_true, true_and, dX7_at_0, dX7_at_1, dX7_at_2, dX7_at_3, dX7_at_5, dX7_at_7, dX7_at_8, dX7_at_11, dX7_at_14, dX7_at_15, dX7_at_17, dX7_at_18, dX7_at_19, dX7_at_22, dX7_at_25, dX7_at_28, dX7_at_31, dX7_at_34, dX7_at_35, e_aload_n, e_iload_n, e_iload, e_istore_n, e_istore, e_iconst, e_iinc, e_ifCond, e_if_icmp, e_goto, e_getfield, e_invokevirtual, e_ireturn, e_wSt0, e_wSt1, e_wSt2, e_isL0, e_isL1, e_isL2, e_lset, e_lclr0, e_lclr1, e_lclr2, e_lput0, e_lput1, e_lput2, e_wInc, e_wInc0, Nat.reduceLT, not_false_eq_true, Bool.or_false, Bool.false_or, Bool.or_true, Bool.true_or, Bool.and_false, Bool.false_and, Bool.and_true, Bool.true_and, e_ri, e_rz, e_wIc_ge, e_wIf_eq, fX7_30, ic_0, jt_11_23, jt_22_6, jt_31_m26, e_call, e_callS0, e_callS1, e_callS2, e_callS3, e_callS4, e_pop0, e_pop1, e_tl0, e_tl1, tbX7_at_f, tbX7_at_p, tbX7_at_k, tbX7_at_c46, cv_81_0, cv_81_1, cv_81_2, cv_81_3, cv_81_4, g_81_4, spX7_standsAt, bi_0, bi_1, ne_eq, Classical.not_not, em_r, em_l]
  have cb := cnt_b (fun j => S.1 83 j == e && S.1 84 j == t) i
  repeat' (with_reducible first | intro _ | refine And.intro ?_ ?_)
  all_goals (try simp (disch := omega) only [wI_id, Int.toNat_natCast] at *)
  all_goals first
    | omega
    | (rw [show (S.1 81 4).toNat = i from by omega] at h1; exact h1)
    | (have e := ih (n - 1) (by omega) S e t (i + 1) (by omega) h1 h2; rw [cnt_f (by first | (simp_all; done) | (simp; omega))] at e; exact e)
    | (have e := ih (n - 1) (by omega) S e t (i + 1) (by omega) h1 h2; rw [cnt_t (by first | (simp_all; done) | (simp; omega))] at e; exact e)
    | skip
set_option maxRecDepth 20000 in
set_option maxHeartbeats 4000000 in
theorem okX7_at (l : Launch) : aOK l mX7_at spX7_at := by
  refine aOK_of rfl fun as S Q h => ?_
  unfold spX7_at at h
  split at h
  · rename_i e t
    refine ⟨Nat.le_of_ble_eq_true rfl, wp_ok (tbX7_at_ok l) Q (fun pc => pc == 5) 21 0 _ [] S ?_⟩
    show wp cX7_at tbX7_at 5 (some .int) Q (fun pc => pc == 5) (aGo l mX7_at Q) 21 0 [(0, .inr (.inr 81)), (1, .inl e), (2, .inl t)] [] S
    simp only [wp_s, wpC_f, wpC_t, e_wLd, e_wLd0, e_wLd1, e_wLd2, e_get1, e_get2, e_wJ, e_wJo, f40, f41, f42, f43, Nat.reduceAdd, Nat.reduceBEq, Nat.reduceMul, eq_self, true_or, or_true, true_and, dX7_at_0, dX7_at_1, dX7_at_2, dX7_at_3, dX7_at_5, dX7_at_7, dX7_at_8, dX7_at_11, dX7_at_14, dX7_at_15, dX7_at_17, dX7_at_18, dX7_at_19, dX7_at_22, dX7_at_25, dX7_at_28, dX7_at_31, dX7_at_34, dX7_at_35, e_aload_n, e_iload_n, e_iload, e_istore_n, e_istore, e_iconst, e_iinc, e_ifCond, e_if_icmp, e_goto, e_getfield, e_invokevirtual, e_ireturn, e_wSt0, e_wSt1, e_wSt2, e_isL0, e_isL1, e_isL2, e_lset, e_lclr0, e_lclr1, e_lclr2, e_lput0, e_lput1, e_lput2, e_wInc, e_wInc0, Nat.reduceLT, not_false_eq_true, Bool.or_false, Bool.false_or, Bool.or_true, Bool.true_or, Bool.and_false, Bool.false_and, Bool.and_true, Bool.true_and, e_ri, e_rz, e_wIc_ge, e_wIf_eq, fX7_30, ic_0, jt_11_23, jt_22_6, jt_31_m26, e_call, e_callS0, e_callS1, e_callS2, e_callS3, e_callS4, e_pop0, e_pop1, e_tl0, e_tl1, tbX7_at_f, tbX7_at_p, tbX7_at_k, tbX7_at_c46, cv_81_0, cv_81_1, cv_81_2, cv_81_3, cv_81_4, g_81_4]
    exact lpX7_at l Q _ S e t 0 (Nat.zero_add _) h.2.2 h.2.1
  · exact h.elim
def spX7_moveAll : aSp := fun as S Q => match as with
  | [.inr (.inr 81), .inl a, .inl b] => 0 ≤ S.1 81 4 ∧ S.1 81 4 ≤ 120 ∧ Q none (stA S 84 (fun j => if (j : Int) < S.1 81 4 ∧ S.1 84 j = a then b else S.1 84 j))
  | _ => False
def tbX7_moveAll : aTb := (fX7, pX7, fun j => lk [] j, kX7)
theorem tbX7_moveAll_f : tbX7_moveAll.1 = fX7 := rfl
theorem tbX7_moveAll_p : tbX7_moveAll.2.1 = pX7 := rfl
theorem tbX7_moveAll_k : tbX7_moveAll.2.2.2 = kX7 := rfl
theorem tbX7_moveAll_all (l : Launch) : ∀ e ∈ ([] : List (Nat × Option Nat × Nat × aSp)), cOK l mX7_moveAll e.1 e.2.1 e.2.2.1 e.2.2.2 ∨ mOK mX7_moveAll e.1 e.2.1 e.2.2.1 e.2.2.2 := all_nil
theorem tbX7_moveAll_ok (l : Launch) : tOK l mX7_moveAll tbX7_moveAll := ⟨fX7_ok, pX7_ok, fun _ _ _ _ h => tbX7_moveAll_all l _ (lk_mem h), kX7_ok⟩
set_option maxRecDepth 20000 in
set_option maxHeartbeats 4000000 in
theorem lpX7_moveAll (l : Launch) (Q : Option aV → aS → Prop) : ∀ (n : Nat) (S : aS) (a b : Int) (i : Nat), i + n = (S.1 81 4).toNat → Q (none) (stA S 84 (fun j => if i ≤ j ∧ (j : Int) < S.1 81 4 ∧ S.1 84 j = a then b else S.1 84 j)) → S.1 81 4 ≤ 120 → aGo l mX7_moveAll Q 2 [(0, .inr (.inr 81)), (1, .inl a), (2, .inl b), (3, .inl (i : Int))] [] S := by
  intro n
  induction n using Nat.strongRecOn with
  | _ n ih =>
  intro S  a b  i  h0 h1 h2
  refine wp_go (tbX7_moveAll_ok l) (fun pc => pc == 2) 22 dX7_moveAll_2 ?_
  show ws1 tbX7_moveAll 4 none Q (wp cX7_moveAll tbX7_moveAll 4 none Q (fun pc => pc == 2) (aGo l mX7_moveAll Q) 22) (.iload_n 3) 1 2 [(0, .inr (.inr 81)), (1, .inl a), (2, .inl b), (3, .inl (i : Int))] [] S
  simp only [wp_s, wpC_f, wpC_t, e_wLd, e_wLd0, e_wLd1, e_wLd2, e_get1, e_get2, e_wJ, e_wJo, f40, f41, f42, f43, Nat.reduceAdd, Nat.reduceBEq, Nat.reduceMul, eq_self, true_or, or_true, true_and, dX7_moveAll_0, dX7_moveAll_1, dX7_moveAll_2, dX7_moveAll_3, dX7_moveAll_4, dX7_moveAll_7, dX7_moveAll_10, dX7_moveAll_11, dX7_moveAll_14, dX7_moveAll_15, dX7_moveAll_16, dX7_moveAll_17, dX7_moveAll_20, dX7_moveAll_21, dX7_moveAll_24, dX7_moveAll_25, dX7_moveAll_26, dX7_moveAll_27, dX7_moveAll_30, dX7_moveAll_33, e_aload_n, e_iload_n, e_istore_n, e_iconst, e_iinc, e_if_icmp, e_goto, e_getfield, e_iaload, e_iastore, e_return_, e_wSt0, e_wSt1, e_wSt2, e_isL0, e_isL1, e_isL2, e_lset, e_lclr0, e_lclr1, e_lclr2, e_lput0, e_lput1, e_lput2, e_wInc, e_wInc0, Nat.reduceLT, not_false_eq_true, Bool.or_false, Bool.false_or, Bool.or_true, Bool.true_or, Bool.and_false, Bool.false_and, Bool.and_true, Bool.true_and, e_rv, e_wIc_ge, e_wIc_ne, fX7_18, fX7_30, ic_0, jt_17_10, jt_30_m28, jt_7_26, tbX7_moveAll_f, tbX7_moveAll_p, tbX7_moveAll_k, l_84, s_84, g_81_2, g_81_4]
  repeat' (with_reducible first | intro _ | refine And.intro ?_ ?_)
  all_goals (try simp (disch := omega) only [wI_id, Int.toNat_natCast] at *)
  all_goals first
    | omega
    | (refine Eq.mp (congrArg (Q (none)) ?_) h1; (refine st_ext (fun x y => ?_) (fun x y => ?_) <;> (try simp only [stA, upI, upL, up2]) <;> (repeat' split) <;> first | rfl | omega | (simp_all; done) | (simp_all; omega) | (have hq : y = i := (by omega); subst hq; first | rfl | omega | (simp_all; done) | (simp_all; omega)) | (congr 2 <;> omega) | (congr 3 <;> omega)); done)
    | (refine ih (n - 1) (by omega) _ a b (i + 1) ?_ ?_ ?_ <;> first | omega | (simp only [up_hit, up_obj, upL_hit, upL_obj, up_2, upL_1, Int.toNat_natCast, stA, upI, upL, up2]; first | omega | (simp; omega)) | (refine Eq.mp (congrArg (Q (none)) ?_) h1; (refine st_ext (fun x y => ?_) (fun x y => ?_) <;> (try simp only [stA, upI, upL, up2]) <;> (repeat' split) <;> first | rfl | omega | (simp_all; done) | (simp_all; omega) | (have hq : y = i := (by omega); subst hq; first | rfl | omega | (simp_all; done) | (simp_all; omega)) | (congr 2 <;> omega) | (congr 3 <;> omega)); done))
    | skip
set_option maxRecDepth 20000 in
set_option maxHeartbeats 4000000 in
theorem okX7_moveAll (l : Launch) : aOK l mX7_moveAll spX7_moveAll := by
  refine aOK_of rfl fun as S Q h => ?_
  unfold spX7_moveAll at h
  split at h
  · rename_i a b
    refine ⟨Nat.le_of_ble_eq_true rfl, wp_ok (tbX7_moveAll_ok l) Q (fun pc => pc == 2) 22 0 _ [] S ?_⟩
    show wp cX7_moveAll tbX7_moveAll 4 none Q (fun pc => pc == 2) (aGo l mX7_moveAll Q) 22 0 [(0, .inr (.inr 81)), (1, .inl a), (2, .inl b)] [] S
    simp only [wp_s, wpC_f, wpC_t, e_wLd, e_wLd0, e_wLd1, e_wLd2, e_get1, e_get2, e_wJ, e_wJo, f40, f41, f42, f43, Nat.reduceAdd, Nat.reduceBEq, Nat.reduceMul, eq_self, true_or, or_true, true_and, dX7_moveAll_0, dX7_moveAll_1, dX7_moveAll_2, dX7_moveAll_3, dX7_moveAll_4, dX7_moveAll_7, dX7_moveAll_10, dX7_moveAll_11, dX7_moveAll_14, dX7_moveAll_15, dX7_moveAll_16, dX7_moveAll_17, dX7_moveAll_20, dX7_moveAll_21, dX7_moveAll_24, dX7_moveAll_25, dX7_moveAll_26, dX7_moveAll_27, dX7_moveAll_30, dX7_moveAll_33, e_aload_n, e_iload_n, e_istore_n, e_iconst, e_iinc, e_if_icmp, e_goto, e_getfield, e_iaload, e_iastore, e_return_, e_wSt0, e_wSt1, e_wSt2, e_isL0, e_isL1, e_isL2, e_lset, e_lclr0, e_lclr1, e_lclr2, e_lput0, e_lput1, e_lput2, e_wInc, e_wInc0, Nat.reduceLT, not_false_eq_true, Bool.or_false, Bool.false_or, Bool.or_true, Bool.true_or, Bool.and_false, Bool.false_and, Bool.and_true, Bool.true_and, e_rv, e_wIc_ge, e_wIc_ne, fX7_18, fX7_30, ic_0, jt_17_10, jt_30_m28, jt_7_26, tbX7_moveAll_f, tbX7_moveAll_p, tbX7_moveAll_k, l_84, s_84, g_81_2, g_81_4]
    exact lpX7_moveAll l Q _ S a b 0 (Nat.zero_add _) (by simpa using h.2.2) h.2.1
  · exact h.elim
