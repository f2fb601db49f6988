/-! WORDS: neighbours -/
abbrev aX : Type := (Nat → Int) × Int
/-- row R and its length (place i of le) replaced -/
def stN (S : aS) (R le i : Nat) (x : aX) : aS := (up2 S.1 le i x.2, fun a b => if a = R then x.1 b else S.2 a b)
def adn1 (w o f at' : Int) (x : aX) : aX := if chg5 w at' o f ≠ 0 ∧ x.2 < 81 then (fu x.1 x.2.toNat (chg5 w at' o f), x.2 + 1) else x
def adn (w o f : Int) : Nat → Nat → aX → aX
  | 0, _, x => x
  | n + 1, a, x => adn w o f n (a + 1) (adn1 w o f a x)
def chOK (w o f : Int) : Prop := wrd o ∧ wrd f ∧ ∀ a : Int, 0 ≤ a → a < 8 → lowB (5 * lt5 12 o) (lUshr w (5 * a)) = o → wrdC (chgR w a o f)
theorem adn1_b {w o f a : Int} {x : aX} (h : 1 ≤ x.2 ∧ x.2 ≤ 81) : 1 ≤ (adn1 w o f a x).2 ∧ (adn1 w o f a x).2 ≤ 81 := by
  unfold adn1
  split
  · show 1 ≤ x.2 + 1 ∧ x.2 + 1 ≤ 81; omega
  · exact h
theorem adn1_0 {w o f a : Int} {x : aX} (h : 1 ≤ x.2) : (adn1 w o f a x).1 0 = x.1 0 := by
  unfold adn1
  split
  · show fu x.1 x.2.toNat _ 0 = _; unfold fu; rw [if_neg (by omega)]
  · rfl
theorem lCmp_0 {x y : Int} : (lCmp x y = 0) = (x = y) := by
  unfold lCmp
  apply propext
  split
  · constructor <;> omega
  · split <;> constructor <;> omega
theorem stN_1 {S : aS} {R le i a b : Nat} {x : aX} (h : ¬ a = le) : (stN S R le i x).1 a b = S.1 a b := by simp [stN, up2, h]
theorem stN_l {S : aS} {R le i : Nat} {x : aX} : (stN S R le i x).1 le i = x.2 := by simp [stN, up2]
theorem stN_2 {S : aS} {R le i : Nat} {x : aX} {b : Nat} : (stN S R le i x).2 R b = x.1 b := by simp [stN]
theorem stN_o {S : aS} {R le i a b : Nat} {x : aX} (h : ¬ a = R) : (stN S R le i x).2 a b = S.2 a b := by simp [stN, h]
theorem stN_self {S : aS} {R le i : Nat} : stN S R le i (S.2 R, S.1 le i) = S := by
  refine st_ext (fun a b => ?_) (fun a b => ?_)
  · simp only [stN, up2]; split
    · rename_i h; rw [h.1, h.2]
    · rfl
  · simp only [stN]; split
    · rename_i h; rw [h]
    · rfl
theorem stN_up {S : aS} {R le i : Nat} {x : aX} {j : Nat} {v c : Int} : upI (upL (stN S R le i x) R j v) le i c = stN S R le i (fu x.1 j v, c) := by
  refine st_ext (fun a b => ?_) (fun a b => ?_)
  · simp only [stN, upI, upL, up2]; split <;> simp_all
  · simp only [stN, upI, upL, up2, fu]
    by_cases h : a = R <;> by_cases h2 : b = j <;> simp_all
def spX10_addNeighboursOf : aSp := fun as S Q => match as with
  | [.inr (.inr 18), .inl i, .inl r] => 0 ≤ S.1 11 2 ∧ S.1 11 2 ≤ 10 ∧ 0 ≤ i ∧ i < 60 ∧ (S.1 18 1 = 0) ∧ (¬ (0 ≤ r ∧ r < S.1 11 2) → Q none S) ∧ (0 ≤ r ∧ r < S.1 11 2 → 1 ≤ S.1 80 i.toNat ∧ S.1 80 i.toNat ≤ 81 ∧ chOK (S.2 (20 + i.toNat) 0) (S.2 12 r.toNat) (S.2 13 r.toNat) ∧ Q none (stN S (20 + i.toNat) 80 i.toNat (adn (S.2 (20 + i.toNat) 0) (S.2 12 r.toNat) (S.2 13 r.toNat) 8 0 (S.2 (20 + i.toNat), S.1 80 i.toNat))))
  | [.inr (.inr 85), .inl i, .inl r] => 0 ≤ S.1 11 2 ∧ S.1 11 2 ≤ 10 ∧ 0 ≤ i ∧ i < 120 ∧ (¬ S.1 85 1 = 0) ∧ (¬ (0 ≤ r ∧ r < S.1 11 2) → Q none S) ∧ (0 ≤ r ∧ r < S.1 11 2 → 1 ≤ S.1 207 i.toNat ∧ S.1 207 i.toNat ≤ 81 ∧ chOK (S.2 (87 + i.toNat) 0) (S.2 13 r.toNat) (S.2 12 r.toNat) ∧ Q none (stN S (87 + i.toNat) 207 i.toNat (adn (S.2 (87 + i.toNat) 0) (S.2 13 r.toNat) (S.2 12 r.toNat) 8 0 (S.2 (87 + i.toNat), S.1 207 i.toNat))))
  | _ => False
def tbX10_addNeighboursOf : aTb := (fX10, pX10, fun j => lk [(49, none, 4, spX10_changed)] j, kX10)
theorem tbX10_addNeighboursOf_f : tbX10_addNeighboursOf.1 = fX10 := rfl
theorem tbX10_addNeighboursOf_p : tbX10_addNeighboursOf.2.1 = pX10 := rfl
theorem tbX10_addNeighboursOf_k : tbX10_addNeighboursOf.2.2.2 = kX10 := rfl
theorem tbX10_addNeighboursOf_c49 : tbX10_addNeighboursOf.2.2.1 49 = some (none, 4, spX10_changed) := rfl
theorem tbX10_addNeighboursOf_all (l : Launch) : ∀ e ∈ ([(49, none, 4, spX10_changed)] : List (Nat × Option Nat × Nat × aSp)), cOK l mX10_addNeighboursOf e.1 e.2.1 e.2.2.1 e.2.2.2 ∨ mOK mX10_addNeighboursOf e.1 e.2.1 e.2.2.1 e.2.2.2 := all_cons (cOK_of (okX10_changed l) meX10_changed cfX10_49 (by decide) (by decide)) (all_nil)
theorem tbX10_addNeighboursOf_ok (l : Launch) : tOK l mX10_addNeighboursOf tbX10_addNeighboursOf := ⟨fX10_ok, pX10_ok, fun _ _ _ _ h => tbX10_addNeighboursOf_all l _ (lk_mem h), kX10_ok⟩
set_option maxRecDepth 20000 in
set_option maxHeartbeats 4000000 in
theorem lpAN_18 (l : Launch) (Q : Option aV → aS → Prop) : ∀ (n : Nat) (S : aS) (x : aX) (i r w o f : Int) (a : Nat), a + n = 8 → (0 ≤ i ∧ i < 60) → (1 ≤ x.2 ∧ x.2 ≤ 81) → x.1 0 = w → chOK w o f → Q none (stN S (20 + i.toNat) 80 i.toNat (adn w o f n a x)) → aGo l mX10_addNeighboursOf Q 78 [(0, .inr (.inr 18)), (1, .inl i), (2, .inl r), (3, .inr (.inl o)), (5, .inr (.inl f)), (7, .inl (a : Int))] [] (stN S (20 + i.toNat) 80 i.toNat x) := by
  intro n
  induction n using Nat.strongRecOn with
  | _ n ih =>
  intro S  x  i r w o f  a  h0 h1 h2 h3 h4 h5
  refine wp_go (tbX10_addNeighboursOf_ok l) (fun pc => pc == 78) 87 dX10_addNeighboursOf_78 ?_
  show ws1 tbX10_addNeighboursOf 10 none Q (wp cX10_addNeighboursOf tbX10_addNeighboursOf 10 none Q (fun pc => pc == 78) (aGo l mX10_addNeighboursOf Q) 87) (.iload 7) 2 78 [(0, .inr (.inr 18)), (1, .inl i), (2, .inl r), (3, .inr (.inl o)), (5, .inr (.inl f)), (7, .inl (a : Int))] [] (stN S (20 + i.toNat) 80 i.toNat x)
  have hi : i.toNat < 60 := by omega
  simp only [lr_18 hi, sr_18 hi, stN_2, stN_l, wp_s, wpC_f, wpC_t, e_wLd, e_wLd0, e_wLd1, e_wLd2, e_get1, e_get2, e_wJ, e_wJo, f40, f41, f42, f43, Nat.reduceAdd, Nat.reduceBEq, Nat.reduceMul, eq_self, true_or, or_true, true_and, dX10_addNeighboursOf_0, dX10_addNeighboursOf_1, dX10_addNeighboursOf_4, dX10_addNeighboursOf_5, dX10_addNeighboursOf_6, dX10_addNeighboursOf_9, dX10_addNeighboursOf_12, dX10_addNeighboursOf_15, dX10_addNeighboursOf_16, dX10_addNeighboursOf_17, dX10_addNeighboursOf_20, dX10_addNeighboursOf_23, dX10_addNeighboursOf_24, dX10_addNeighboursOf_27, dX10_addNeighboursOf_30, dX10_addNeighboursOf_31, dX10_addNeighboursOf_32, dX10_addNeighboursOf_35, dX10_addNeighboursOf_36, dX10_addNeighboursOf_39, dX10_addNeighboursOf_42, dX10_addNeighboursOf_43, dX10_addNeighboursOf_44, dX10_addNeighboursOf_45, dX10_addNeighboursOf_46, dX10_addNeighboursOf_49, dX10_addNeighboursOf_52, dX10_addNeighboursOf_53, dX10_addNeighboursOf_56, dX10_addNeighboursOf_59, dX10_addNeighboursOf_60, dX10_addNeighboursOf_61, dX10_addNeighboursOf_64, dX10_addNeighboursOf_65, dX10_addNeighboursOf_68, dX10_addNeighboursOf_71, dX10_addNeighboursOf_72, dX10_addNeighboursOf_73, dX10_addNeighboursOf_75, dX10_addNeighboursOf_76, dX10_addNeighboursOf_78, dX10_addNeighboursOf_80, dX10_addNeighboursOf_82, dX10_addNeighboursOf_85, dX10_addNeighboursOf_86, dX10_addNeighboursOf_89, dX10_addNeighboursOf_90, dX10_addNeighboursOf_91, dX10_addNeighboursOf_92, dX10_addNeighboursOf_93, dX10_addNeighboursOf_95, dX10_addNeighboursOf_96, dX10_addNeighboursOf_98, dX10_addNeighboursOf_101, dX10_addNeighboursOf_103, dX10_addNeighboursOf_105, dX10_addNeighboursOf_106, dX10_addNeighboursOf_107, dX10_addNeighboursOf_110, dX10_addNeighboursOf_111, dX10_addNeighboursOf_114, dX10_addNeighboursOf_115, dX10_addNeighboursOf_116, dX10_addNeighboursOf_118, dX10_addNeighboursOf_121, dX10_addNeighboursOf_122, dX10_addNeighboursOf_125, dX10_addNeighboursOf_126, dX10_addNeighboursOf_127, dX10_addNeighboursOf_128, dX10_addNeighboursOf_131, dX10_addNeighboursOf_132, dX10_addNeighboursOf_133, dX10_addNeighboursOf_135, dX10_addNeighboursOf_136, dX10_addNeighboursOf_137, dX10_addNeighboursOf_140, dX10_addNeighboursOf_141, dX10_addNeighboursOf_142, dX10_addNeighboursOf_143, dX10_addNeighboursOf_144, dX10_addNeighboursOf_145, dX10_addNeighboursOf_146, dX10_addNeighboursOf_149, dX10_addNeighboursOf_152, e_aload_n, e_iload_n, e_iload, e_lload_n, e_lload, e_istore, e_lstore_n, e_lstore, e_iconst, e_bipush, e_lconst, e_iadd, e_lcmp, e_dup2, e_iinc, e_ifCond, e_if_icmp, e_goto, e_getfield, e_iaload, e_laload, e_aaload, e_iastore, e_lastore, e_invokestatic, e_return_, e_wSt0, e_wSt1, e_wSt2, e_isL0, e_isL1, e_isL2, e_lset, e_lclr0, e_lclr1, e_lclr2, e_lput0, e_lput1, e_lput2, e_wInc, e_wInc0, Nat.reduceLT, not_false_eq_true, Bool.or_false, Bool.false_or, Bool.or_true, Bool.true_or, Bool.and_false, Bool.false_and, Bool.and_true, Bool.true_and, e_wI2, e_wCmp, lc0, lc1, e_wDup2, e_rv, e_wIc_ge, e_wIc_lt, e_wIf_lt, e_wIf_eq, bp_8, bp_81, fX10_15, fX10_21, fX10_24, fX10_28, fX10_42, fX10_46, fX10_9, ic_0, ic_1, jt_107_39, jt_118_28, jt_12_4, jt_149_m71, jt_1_14, jt_20_15, jt_32_12, jt_49_15, jt_61_12, jt_82_70, e_call, e_callS0, e_callS1, e_callS2, e_callS3, e_callS4, e_pop0, e_pop1, e_tl0, e_tl1, tbX10_addNeighboursOf_f, tbX10_addNeighboursOf_p, tbX10_addNeighboursOf_k, tbX10_addNeighboursOf_c49, g_18_1, g_11_1, g_18_0, l_13, s_13, g_18_3, l_19, g_11_0, l_80, s_80, l_12, s_12, g_18_2, g_11_2, spX10_changed, lCmp_0]
  simp only [lr_18 hi, sr_18 hi, stN_2, stN_l, show Int.toNat 0 = 0 from rfl, h3]
  repeat' (with_reducible first | intro _ | refine And.intro ?_ ?_)
  all_goals (try simp (disch := omega) only [upL_1, stN_l, stN_up, wI_id])
  all_goals first
    | omega
    | exact h4.1
    | exact h4.2.1
    | exact h4.2.2 a (by omega) (by omega) (by assumption)
    | (rw [show n = 0 from by omega] at h5; exact h5)
    | (obtain ⟨m, rfl⟩ : ∃ m, n = m + 1 := ⟨n - 1, by omega⟩
       have e := ih m (by omega) S (adn1 w o f a x) i r w o f (a + 1) (by omega) h1 (adn1_b h2) ((adn1_0 h2.1).trans h3) h4 h5
       unfold adn1 at e
       first
         | (rw [if_neg (by rintro ⟨q1, q2⟩; first | exact q1 (by assumption) | omega)] at e; exact aGo_sub e (fun q hq => List.mem_append_left _ hq))
         | (rw [if_pos ⟨by assumption, by omega⟩] at e; exact aGo_sub e (fun q hq => List.mem_append_left _ hq)))
    | skip
set_option maxRecDepth 20000 in
set_option maxHeartbeats 4000000 in
theorem lpAN_85 (l : Launch) (Q : Option aV → aS → Prop) : ∀ (n : Nat) (S : aS) (x : aX) (i r w o f : Int) (a : Nat), a + n = 8 → (0 ≤ i ∧ i < 120) → (1 ≤ x.2 ∧ x.2 ≤ 81) → x.1 0 = w → chOK w o f → Q none (stN S (87 + i.toNat) 207 i.toNat (adn w o f n a x)) → aGo l mX10_addNeighboursOf Q 78 [(0, .inr (.inr 85)), (1, .inl i), (2, .inl r), (3, .inr (.inl o)), (5, .inr (.inl f)), (7, .inl (a : Int))] [] (stN S (87 + i.toNat) 207 i.toNat x) := by
  intro n
  induction n using Nat.strongRecOn with
  | _ n ih =>
  intro S  x  i r w o f  a  h0 h1 h2 h3 h4 h5
  refine wp_go (tbX10_addNeighboursOf_ok l) (fun pc => pc == 78) 87 dX10_addNeighboursOf_78 ?_
  show ws1 tbX10_addNeighboursOf 10 none Q (wp cX10_addNeighboursOf tbX10_addNeighboursOf 10 none Q (fun pc => pc == 78) (aGo l mX10_addNeighboursOf Q) 87) (.iload 7) 2 78 [(0, .inr (.inr 85)), (1, .inl i), (2, .inl r), (3, .inr (.inl o)), (5, .inr (.inl f)), (7, .inl (a : Int))] [] (stN S (87 + i.toNat) 207 i.toNat x)
  have hi : i.toNat < 120 := by omega
  simp only [lr_85 hi, sr_85 hi, stN_2, stN_l, wp_s, wpC_f, wpC_t, e_wLd, e_wLd0, e_wLd1, e_wLd2, e_get1, e_get2, e_wJ, e_wJo, f40, f41, f42, f43, Nat.reduceAdd, Nat.reduceBEq, Nat.reduceMul, eq_self, true_or, or_true, true_and, dX10_addNeighboursOf_0, dX10_addNeighboursOf_1, dX10_addNeighboursOf_4, dX10_addNeighboursOf_5, dX10_addNeighboursOf_6, dX10_addNeighboursOf_9, dX10_addNeighboursOf_12, dX10_addNeighboursOf_15, dX10_addNeighboursOf_16, dX10_addNeighboursOf_17, dX10_addNeighboursOf_20, dX10_addNeighboursOf_23, dX10_addNeighboursOf_24, dX10_addNeighboursOf_27, dX10_addNeighboursOf_30, dX10_addNeighboursOf_31, dX10_addNeighboursOf_32, dX10_addNeighboursOf_35, dX10_addNeighboursOf_36, dX10_addNeighboursOf_39, dX10_addNeighboursOf_42, dX10_addNeighboursOf_43, dX10_addNeighboursOf_44, dX10_addNeighboursOf_45, dX10_addNeighboursOf_46, dX10_addNeighboursOf_49, dX10_addNeighboursOf_52, dX10_addNeighboursOf_53, dX10_addNeighboursOf_56, dX10_addNeighboursOf_59, dX10_addNeighboursOf_60, dX10_addNeighboursOf_61, dX10_addNeighboursOf_64, dX10_addNeighboursOf_65, dX10_addNeighboursOf_68, dX10_addNeighboursOf_71, dX10_addNeighboursOf_72, dX10_addNeighboursOf_73, dX10_addNeighboursOf_75, dX10_addNeighboursOf_76, dX10_addNeighboursOf_78, dX10_addNeighboursOf_80, dX10_addNeighboursOf_82, dX10_addNeighboursOf_85, dX10_addNeighboursOf_86, dX10_addNeighboursOf_89, dX10_addNeighboursOf_90, dX10_addNeighboursOf_91, dX10_addNeighboursOf_92, dX10_addNeighboursOf_93, dX10_addNeighboursOf_95, dX10_addNeighboursOf_96, dX10_addNeighboursOf_98, dX10_addNeighboursOf_101, dX10_addNeighboursOf_103, dX10_addNeighboursOf_105, dX10_addNeighboursOf_106, dX10_addNeighboursOf_107, dX10_addNeighboursOf_110, dX10_addNeighboursOf_111, dX10_addNeighboursOf_114, dX10_addNeighboursOf_115, dX10_addNeighboursOf_116, dX10_addNeighboursOf_118, dX10_addNeighboursOf_121, dX10_addNeighboursOf_122, dX10_addNeighboursOf_125, dX10_addNeighboursOf_126, dX10_addNeighboursOf_127, dX10_addNeighboursOf_128, dX10_addNeighboursOf_131, dX10_addNeighboursOf_132, dX10_addNeighboursOf_133, dX10_addNeighboursOf_135, dX10_addNeighboursOf_136, dX10_addNeighboursOf_137, dX10_addNeighboursOf_140, dX10_addNeighboursOf_141, dX10_addNeighboursOf_142, dX10_addNeighboursOf_143, dX10_addNeighboursOf_144, dX10_addNeighboursOf_145, dX10_addNeighboursOf_146, dX10_addNeighboursOf_149, dX10_addNeighboursOf_152, e_aload_n, e_iload_n, e_iload, e_lload_n, e_lload, e_istore, e_lstore_n, e_lstore, e_iconst, e_bipush, e_lconst, e_iadd, e_lcmp, e_dup2, e_iinc, e_ifCond, e_if_icmp, e_goto, e_getfield, e_iaload, e_laload, e_aaload, e_iastore, e_lastore, e_invokestatic, e_return_, e_wSt0, e_wSt1, e_wSt2, e_isL0, e_isL1, e_isL2, e_lset, e_lclr0, e_lclr1, e_lclr2, e_lput0, e_lput1, e_lput2, e_wInc, e_wInc0, Nat.reduceLT, not_false_eq_true, Bool.or_false, Bool.false_or, Bool.or_true, Bool.true_or, Bool.and_false, Bool.false_and, Bool.and_true, Bool.true_and, e_wI2, e_wCmp, lc0, lc1, e_wDup2, e_rv, e_wIc_ge, e_wIc_lt, e_wIf_lt, e_wIf_eq, bp_8, bp_81, fX10_15, fX10_21, fX10_24, fX10_28, fX10_42, fX10_46, fX10_9, ic_0, ic_1, jt_107_39, jt_118_28, jt_12_4, jt_149_m71, jt_1_14, jt_20_15, jt_32_12, jt_49_15, jt_61_12, jt_82_70, e_call, e_callS0, e_callS1, e_callS2, e_callS3, e_callS4, e_pop0, e_pop1, e_tl0, e_tl1, tbX10_addNeighboursOf_f, tbX10_addNeighboursOf_p, tbX10_addNeighboursOf_k, tbX10_addNeighboursOf_c49, g_85_0, l_207, s_207, g_85_3, g_11_1, g_85_2, l_13, s_13, g_11_0, l_12, s_12, l_86, g_85_1, g_11_2, spX10_changed, lCmp_0]
  simp only [lr_85 hi, sr_85 hi, stN_2, stN_l, show Int.toNat 0 = 0 from rfl, h3]
  repeat' (with_reducible first | intro _ | refine And.intro ?_ ?_)
  all_goals (try simp (disch := omega) only [upL_1, stN_l, stN_up, wI_id])
  all_goals first
    | omega
    | exact h4.1
    | exact h4.2.1
    | exact h4.2.2 a (by omega) (by omega) (by assumption)
    | (rw [show n = 0 from by omega] at h5; exact h5)
    | (obtain ⟨m, rfl⟩ : ∃ m, n = m + 1 := ⟨n - 1, by omega⟩
       have e := ih m (by omega) S (adn1 w o f a x) i r w o f (a + 1) (by omega) h1 (adn1_b h2) ((adn1_0 h2.1).trans h3) h4 h5
       unfold adn1 at e
       first
         | (rw [if_neg (by rintro ⟨q1, q2⟩; first | exact q1 (by assumption) | omega)] at e; exact aGo_sub e (fun q hq => List.mem_append_left _ hq))
         | (rw [if_pos ⟨by assumption, by omega⟩] at e; exact aGo_sub e (fun q hq => List.mem_append_left _ hq)))
    | skip
set_option maxRecDepth 20000 in
set_option maxHeartbeats 4000000 in
theorem okX10_addNeighboursOf (l : Launch) : aOK l mX10_addNeighboursOf spX10_addNeighboursOf := by
  refine aOK_of rfl fun as S Q h => ?_
  unfold spX10_addNeighboursOf at h
  split at h
  · rename_i i r
    refine ⟨Nat.le_of_ble_eq_true rfl, wp_ok (tbX10_addNeighboursOf_ok l) Q (fun pc => pc == 78) 90 0 _ [] S ?_⟩
    show wp cX10_addNeighboursOf tbX10_addNeighboursOf 10 none Q (fun pc => pc == 78) (aGo l mX10_addNeighboursOf Q) 90 0 [(0, .inr (.inr 18)), (1, .inl i), (2, .inl r)] [] S
    simp only [wp_s, wpC_f, wpC_t, e_wLd, e_wLd0, e_wLd1, e_wLd2, e_get1, e_get2, e_wJ, e_wJo, f40, f41, f42, f43, Nat.reduceAdd, Nat.reduceBEq, Nat.reduceMul, eq_self, true_or, or_true, true_and, dX10_addNeighboursOf_0, dX10_addNeighboursOf_1, dX10_addNeighboursOf_4, dX10_addNeighboursOf_5, dX10_addNeighboursOf_6, dX10_addNeighboursOf_9, dX10_addNeighboursOf_12, dX10_addNeighboursOf_15, dX10_addNeighboursOf_16, dX10_addNeighboursOf_17, dX10_addNeighboursOf_20, dX10_addNeighboursOf_23, dX10_addNeighboursOf_24, dX10_addNeighboursOf_27, dX10_addNeighboursOf_30, dX10_addNeighboursOf_31, dX10_addNeighboursOf_32, dX10_addNeighboursOf_35, dX10_addNeighboursOf_36, dX10_addNeighboursOf_39, dX10_addNeighboursOf_42, dX10_addNeighboursOf_43, dX10_addNeighboursOf_44, dX10_addNeighboursOf_45, dX10_addNeighboursOf_46, dX10_addNeighboursOf_49, dX10_addNeighboursOf_52, dX10_addNeighboursOf_53, dX10_addNeighboursOf_56, dX10_addNeighboursOf_59, dX10_addNeighboursOf_60, dX10_addNeighboursOf_61, dX10_addNeighboursOf_64, dX10_addNeighboursOf_65, dX10_addNeighboursOf_68, dX10_addNeighboursOf_71, dX10_addNeighboursOf_72, dX10_addNeighboursOf_73, dX10_addNeighboursOf_75, dX10_addNeighboursOf_76, dX10_addNeighboursOf_78, dX10_addNeighboursOf_80, dX10_addNeighboursOf_82, dX10_addNeighboursOf_85, dX10_addNeighboursOf_86, dX10_addNeighboursOf_89, dX10_addNeighboursOf_90, dX10_addNeighboursOf_91, dX10_addNeighboursOf_92, dX10_addNeighboursOf_93, dX10_addNeighboursOf_95, dX10_addNeighboursOf_96, dX10_addNeighboursOf_98, dX10_addNeighboursOf_101, dX10_addNeighboursOf_103, dX10_addNeighboursOf_105, dX10_addNeighboursOf_106, dX10_addNeighboursOf_107, dX10_addNeighboursOf_110, dX10_addNeighboursOf_111, dX10_addNeighboursOf_114, dX10_addNeighboursOf_115, dX10_addNeighboursOf_116, dX10_addNeighboursOf_118, dX10_addNeighboursOf_121, dX10_addNeighboursOf_122, dX10_addNeighboursOf_125, dX10_addNeighboursOf_126, dX10_addNeighboursOf_127, dX10_addNeighboursOf_128, dX10_addNeighboursOf_131, dX10_addNeighboursOf_132, dX10_addNeighboursOf_133, dX10_addNeighboursOf_135, dX10_addNeighboursOf_136, dX10_addNeighboursOf_137, dX10_addNeighboursOf_140, dX10_addNeighboursOf_141, dX10_addNeighboursOf_142, dX10_addNeighboursOf_143, dX10_addNeighboursOf_144, dX10_addNeighboursOf_145, dX10_addNeighboursOf_146, dX10_addNeighboursOf_149, dX10_addNeighboursOf_152, e_aload_n, e_iload_n, e_iload, e_lload_n, e_lload, e_istore, e_lstore_n, e_lstore, e_iconst, e_bipush, e_lconst, e_iadd, e_lcmp, e_dup2, e_iinc, e_ifCond, e_if_icmp, e_goto, e_getfield, e_iaload, e_laload, e_aaload, e_iastore, e_lastore, e_invokestatic, e_return_, e_wSt0, e_wSt1, e_wSt2, e_isL0, e_isL1, e_isL2, e_lset, e_lclr0, e_lclr1, e_lclr2, e_lput0, e_lput1, e_lput2, e_wInc, e_wInc0, Nat.reduceLT, not_false_eq_true, Bool.or_false, Bool.false_or, Bool.or_true, Bool.true_or, Bool.and_false, Bool.false_and, Bool.and_true, Bool.true_and, e_wI2, e_wCmp, lc0, lc1, e_wDup2, e_rv, e_wIc_ge, e_wIc_lt, e_wIf_lt, e_wIf_eq, bp_8, bp_81, fX10_15, fX10_21, fX10_24, fX10_28, fX10_42, fX10_46, fX10_9, ic_0, ic_1, jt_107_39, jt_118_28, jt_12_4, jt_149_m71, jt_1_14, jt_20_15, jt_32_12, jt_49_15, jt_61_12, jt_82_70, e_call, e_callS0, e_callS1, e_callS2, e_callS3, e_callS4, e_pop0, e_pop1, e_tl0, e_tl1, tbX10_addNeighboursOf_f, tbX10_addNeighboursOf_p, tbX10_addNeighboursOf_k, tbX10_addNeighboursOf_c49, g_85_0, l_207, s_207, g_18_1, g_85_3, g_11_1, g_18_0, g_85_2, l_13, s_13, g_18_3, l_19, l_80, s_80, g_11_0, l_12, s_12, g_18_2, l_86, g_85_1, g_11_2]
    obtain ⟨h0, h1, h2, h3, h4, h5, h6⟩ := h
    have hi : i.toNat < 60 := by omega
    repeat' (with_reducible first | intro _ | refine And.intro ?_ ?_)
    all_goals first
      | omega
      | exact h5 (by omega)
      | exact absurd (by assumption) h4
      | (obtain ⟨g1, g2, g3, g4⟩ := h6 (by omega)
         have e := lpAN_18 l Q 8 S (S.2 (20 + i.toNat), S.1 80 i.toNat) i r (S.2 (20 + i.toNat) 0) (S.2 12 r.toNat) (S.2 13 r.toNat) 0 rfl ⟨h2, h3⟩ ⟨g1, g2⟩ rfl g3 g4
         rw [stN_self] at e
         exact e)
      | skip
  · rename_i i r
    refine ⟨Nat.le_of_ble_eq_true rfl, wp_ok (tbX10_addNeighboursOf_ok l) Q (fun pc => pc == 78) 90 0 _ [] S ?_⟩
    show wp cX10_addNeighboursOf tbX10_addNeighboursOf 10 none Q (fun pc => pc == 78) (aGo l mX10_addNeighboursOf Q) 90 0 [(0, .inr (.inr 85)), (1, .inl i), (2, .inl r)] [] S
    simp only [wp_s, wpC_f, wpC_t, e_wLd, e_wLd0, e_wLd1, e_wLd2, e_get1, e_get2, e_wJ, e_wJo, f40, f41, f42, f43, Nat.reduceAdd, Nat.reduceBEq, Nat.reduceMul, eq_self, true_or, or_true, true_and, dX10_addNeighboursOf_0, dX10_addNeighboursOf_1, dX10_addNeighboursOf_4, dX10_addNeighboursOf_5, dX10_addNeighboursOf_6, dX10_addNeighboursOf_9, dX10_addNeighboursOf_12, dX10_addNeighboursOf_15, dX10_addNeighboursOf_16, dX10_addNeighboursOf_17, dX10_addNeighboursOf_20, dX10_addNeighboursOf_23, dX10_addNeighboursOf_24, dX10_addNeighboursOf_27, dX10_addNeighboursOf_30, dX10_addNeighboursOf_31, dX10_addNeighboursOf_32, dX10_addNeighboursOf_35, dX10_addNeighboursOf_36, dX10_addNeighboursOf_39, dX10_addNeighboursOf_42, dX10_addNeighboursOf_43, dX10_addNeighboursOf_44, dX10_addNeighboursOf_45, dX10_addNeighboursOf_46, dX10_addNeighboursOf_49, dX10_addNeighboursOf_52, dX10_addNeighboursOf_53, dX10_addNeighboursOf_56, dX10_addNeighboursOf_59, dX10_addNeighboursOf_60, dX10_addNeighboursOf_61, dX10_addNeighboursOf_64, dX10_addNeighboursOf_65, dX10_addNeighboursOf_68, dX10_addNeighboursOf_71, dX10_addNeighboursOf_72, dX10_addNeighboursOf_73, dX10_addNeighboursOf_75, dX10_addNeighboursOf_76, dX10_addNeighboursOf_78, dX10_addNeighboursOf_80, dX10_addNeighboursOf_82, dX10_addNeighboursOf_85, dX10_addNeighboursOf_86, dX10_addNeighboursOf_89, dX10_addNeighboursOf_90, dX10_addNeighboursOf_91, dX10_addNeighboursOf_92, dX10_addNeighboursOf_93, dX10_addNeighboursOf_95, dX10_addNeighboursOf_96, dX10_addNeighboursOf_98, dX10_addNeighboursOf_101, dX10_addNeighboursOf_103, dX10_addNeighboursOf_105, dX10_addNeighboursOf_106, dX10_addNeighboursOf_107, dX10_addNeighboursOf_110, dX10_addNeighboursOf_111, dX10_addNeighboursOf_114, dX10_addNeighboursOf_115, dX10_addNeighboursOf_116, dX10_addNeighboursOf_118, dX10_addNeighboursOf_121, dX10_addNeighboursOf_122, dX10_addNeighboursOf_125, dX10_addNeighboursOf_126, dX10_addNeighboursOf_127, dX10_addNeighboursOf_128, dX10_addNeighboursOf_131, dX10_addNeighboursOf_132, dX10_addNeighboursOf_133, dX10_addNeighboursOf_135, dX10_addNeighboursOf_136, dX10_addNeighboursOf_137, dX10_addNeighboursOf_140, dX10_addNeighboursOf_141, dX10_addNeighboursOf_142, dX10_addNeighboursOf_143, dX10_addNeighboursOf_144, dX10_addNeighboursOf_145, dX10_addNeighboursOf_146, dX10_addNeighboursOf_149, dX10_addNeighboursOf_152, e_aload_n, e_iload_n, e_iload, e_lload_n, e_lload, e_istore, e_lstore_n, e_lstore, e_iconst, e_bipush, e_lconst, e_iadd, e_lcmp, e_dup2, e_iinc, e_ifCond, e_if_icmp, e_goto, e_getfield, e_iaload, e_laload, e_aaload, e_iastore, e_lastore, e_invokestatic, e_return_, e_wSt0, e_wSt1, e_wSt2, e_isL0, e_isL1, e_isL2, e_lset, e_lclr0, e_lclr1, e_lclr2, e_lput0, e_lput1, e_lput2, e_wInc, e_wInc0, Nat.reduceLT, not_false_eq_true, Bool.or_false, Bool.false_or, Bool.or_true, Bool.true_or, Bool.and_false, Bool.false_and, Bool.and_true, Bool.true_and, e_wI2, e_wCmp, lc0, lc1, e_wDup2, e_rv, e_wIc_ge, e_wIc_lt, e_wIf_lt, e_wIf_eq, bp_8, bp_81, fX10_15, fX10_21, fX10_24, fX10_28, fX10_42, fX10_46, fX10_9, ic_0, ic_1, jt_107_39, jt_118_28, jt_12_4, jt_149_m71, jt_1_14, jt_20_15, jt_32_12, jt_49_15, jt_61_12, jt_82_70, e_call, e_callS0, e_callS1, e_callS2, e_callS3, e_callS4, e_pop0, e_pop1, e_tl0, e_tl1, tbX10_addNeighboursOf_f, tbX10_addNeighboursOf_p, tbX10_addNeighboursOf_k, tbX10_addNeighboursOf_c49, g_85_0, l_207, s_207, g_18_1, g_85_3, g_11_1, g_18_0, g_85_2, l_13, s_13, g_18_3, l_19, l_80, s_80, g_11_0, l_12, s_12, g_18_2, l_86, g_85_1, g_11_2]
    obtain ⟨h0, h1, h2, h3, h4, h5, h6⟩ := h
    have hi : i.toNat < 120 := by omega
    repeat' (with_reducible first | intro _ | refine And.intro ?_ ?_)
    all_goals first
      | omega
      | exact h5 (by omega)
      | exact absurd (by assumption) h4
      | (obtain ⟨g1, g2, g3, g4⟩ := h6 (by omega)
         have e := lpAN_85 l Q 8 S (S.2 (87 + i.toNat), S.1 207 i.toNat) i r (S.2 (87 + i.toNat) 0) (S.2 13 r.toNat) (S.2 12 r.toNat) 0 rfl ⟨h2, h3⟩ ⟨g1, g2⟩ rfl g3 g4
         rw [stN_self] at e
         exact e)
      | skip
  · exact h.elim
