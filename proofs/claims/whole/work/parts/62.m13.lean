/-! THE REFERENCE: fits, sort -/
def exF (S : aS) (k : Nat) : Prop := k < 60 ∧ ((k / 5 : Nat) : Int) < S.1 245 13 ∧ ((k % 5 : Nat) : Int) < S.1 260 (k / 5)
noncomputable def ldV (S : aS) (s k : Nat) : Int := @ite _ (ldM S (S.2 263 k) (S.2 258 s)) (Classical.propDecidable _) 1 2
def knX (S : aS) (g : Nat → Int) : Prop := ∀ i : Nat, g i = S.1 259 i ∨ ∃ s k : Nat, (s : Int) < S.1 245 12 ∧ exF S k ∧ i = 60 * s + k ∧ g i = ldV S s k
def kwP (S : aS) : Prop := ruP S ∧ (0 ≤ S.1 245 12 ∧ S.1 245 12 ≤ 120) ∧ (0 ≤ S.1 245 13 ∧ S.1 245 13 ≤ 12) ∧ (∀ e : Nat, e < 12 → 0 ≤ S.1 260 e ∧ S.1 260 e ≤ 5) ∧ (∀ s : Nat, (s : Int) < S.1 245 12 → 0 ≤ S.1 255 s ∧ S.1 255 s < 30) ∧ (∀ k : Nat, exF S k → cwP S (S.2 263 k)) ∧ (∀ s k : Nat, (s : Int) < S.1 245 12 → exF S k → (S.1 259 (60 * s + k) = 0 ∨ S.1 259 (60 * s + k) = ldV S s k))
def ftP (S : aS) (s k : Nat) : Prop := S.1 261 k ≤ S.1 251 (S.1 255 s).toNat ∧ S.1 250 (S.1 255 s).toNat ≤ S.1 262 k ∧ ldM S (S.2 263 k) (S.2 258 s)
def ftM (S : aS) (s e : Nat) : Prop := ∃ k : Nat, 5 * e ≤ k ∧ (k : Int) < 5 * (e : Int) + S.1 260 e ∧ ftP S s k
section KN
variable {S : aS} {g h : Nat → Int}
theorem ld_K : ldM (stA S 259 g) = ldM S := rfl
theorem ldV_K : ldV (stA S 259 g) = ldV S := rfl
theorem exF_K : exF (stA S 259 g) = exF S := rfl
theorem ft_K : ftM (stA S 259 g) = ftM S := rfl
theorem ftP_K : ftP (stA S 259 g) = ftP S := rfl
theorem ru_K : ruP (stA S 259 g) = ruP S := rfl
theorem cw_K : cwP (stA S 259 g) = cwP S := rfl
theorem st_K {a : Nat} (q : ¬ a = 259) : (stA S 259 g).1 a = S.1 a := funext fun _ => if_neg q
theorem st_hit {a i : Nat} : (stA S a g).1 a i = g i := by simp [stA]
theorem st_KK : stA (stA S 259 g) 259 h = stA S 259 h := by
  refine st_ext (fun a b => ?_) (fun a b => rfl)
  simp only [stA]
  split <;> rfl
theorem st_KS : stA S 259 (S.1 259) = S := by
  refine st_ext (fun a b => ?_) (fun a b => rfl)
  simp only [stA]
  split
  · subst_vars; rfl
  · rfl
theorem kn_0 : knX S (S.1 259) := fun _ => Or.inl rfl
theorem kn_tr (hg : knX S g) (hh : knX (stA S 259 g) h) : knX S h := by
  intro i
  rcases hh i with e | e
  · rcases hg i with e2 | ⟨s, k, a, b, c, d⟩
    · exact Or.inl (e.trans (st_hit.trans e2))
    · exact Or.inr ⟨s, k, a, b, c, (e.trans st_hit).trans d⟩
  · exact Or.inr e
theorem kw_K (hw : kwP S) (hg : knX S g) : kwP (stA S 259 g) := by
  obtain ⟨a, b, c, d, e, f, k⟩ := hw
  refine ⟨a, b, c, d, e, f, fun s m hs hm => ?_⟩
  rcases hg (60 * s + m) with q | ⟨s', m', q1, q2, q3, q4⟩
  · rcases k s m hs hm with z | z
    · exact Or.inl ((st_hit.trans q).trans z)
    · exact Or.inr ((st_hit.trans q).trans z)
  · have h1 := hm.1
    have h2 := q2.1
    obtain rfl : s = s' := by omega
    obtain rfl : m = m' := by omega
    exact Or.inr (st_hit.trans q4)
theorem kn_up {s k : Nat} (hs : (s : Int) < S.1 245 12) (hk : exF S k) : knX S (fu (S.1 259) (60 * s + k) (ldV S s k)) := by
  intro i
  by_cases q : i = 60 * s + k
  · exact Or.inr ⟨s, k, hs, hk, q, if_pos q⟩
  · exact Or.inl (if_neg q)
theorem up_K {i : Nat} {v : Int} : upI S 259 i v = stA S 259 (fu (S.1 259) i v) := by
  refine st_ext (fun a b => ?_) (fun a b => rfl)
  simp only [stA, upI, up2, fu]
  by_cases ha : a = 259
  · subst ha; simp
  · simp [ha]
theorem up_id {a i : Nat} {v : Int} (q : S.1 a i = v) : upI S a i v = S := by
  refine st_ext (fun x y => ?_) (fun x y => rfl)
  simp only [upI, up2]
  split
  · rename_i z; rw [z.1, z.2, q]
  · rfl
end KN
theorem nar_1 : narB (narB 1) = 1 := by decide
theorem nar_2 : narB (narB 2) = 2 := by decide
def spX12_isLed : aSp := fun as S Q => match as with
  | [.inr (.inr 245), .inl s, .inl k] => ruP S ∧ cwP S (S.2 263 k.toNat) ∧ (0 ≤ s ∧ s < 120) ∧ (0 ≤ k ∧ k < 60) ∧ (S.1 259 (60 * s + k).toNat = 0 ∨ S.1 259 (60 * s + k).toNat = ldV S s.toNat k.toNat) ∧ Q (some (.inl (bi (ldM S (S.2 263 k.toNat) (S.2 258 s.toNat))))) (upI S 259 (60 * s + k).toNat (ldV S s.toNat k.toNat))
  | _ => False
def tbX12_isLed : aTb := (fX12, pX12, fun j => lk [(170, (some 12), 3, spX12_leads)] j, kX12)
theorem tbX12_isLed_f : tbX12_isLed.1 = fX12 := rfl
theorem tbX12_isLed_p : tbX12_isLed.2.1 = pX12 := rfl
theorem tbX12_isLed_k : tbX12_isLed.2.2.2 = kX12 := rfl
theorem tbX12_isLed_c170 : tbX12_isLed.2.2.1 170 = some ((some 12), 3, spX12_leads) := rfl
theorem tbX12_isLed_all (l : Launch) : ∀ e ∈ ([(170, (some 12), 3, spX12_leads)] : List (Nat × Option Nat × Nat × aSp)), cOK l mX12_isLed e.1 e.2.1 e.2.2.1 e.2.2.2 ∨ mOK mX12_isLed e.1 e.2.1 e.2.2.1 e.2.2.2 := all_cons (cOK_of (okX12_leads l) meX12_leads cfX12_170 (by decide) (by decide)) (all_nil)
theorem tbX12_isLed_ok (l : Launch) : tOK l mX12_isLed tbX12_isLed := ⟨fX12_ok, pX12_ok, fun _ _ _ _ h => tbX12_isLed_all l _ (lk_mem h), kX12_ok⟩
set_option maxRecDepth 20000 in
set_option maxHeartbeats 4000000 in
theorem okX12_isLed (l : Launch) : aOK l mX12_isLed spX12_isLed := by
  refine aOK_of rfl fun as S Q h => ?_
  unfold spX12_isLed at h
  split at h
  · rename_i s k
    refine ⟨Nat.le_of_ble_eq_true rfl, wp_ok (tbX12_isLed_ok l) Q (fun pc => false) 42 0 _ [] S ?_⟩
    show wp cX12_isLed tbX12_isLed 4 (some .boolean) Q (fun pc => false) (aGo l mX12_isLed Q) 42 0 [(0, .inr (.inr 245)), (1, .inl s), (2, .inl k)] [] S
    simp only [wp_s, wpC_f, wpC_t, e_wLd, e_wLd0, e_wLd1, e_wLd2, e_get1, e_get2, e_wJ, e_wJo, f40, f41, f42, f43, Nat.reduceAdd, Nat.reduceBEq, Nat.reduceMul, eq_self, true_or, or_true, true_and, dX12_isLed_0, dX12_isLed_2, dX12_isLed_3, dX12_isLed_4, dX12_isLed_5, dX12_isLed_6, dX12_isLed_7, dX12_isLed_8, dX12_isLed_11, dX12_isLed_12, dX12_isLed_13, dX12_isLed_16, dX12_isLed_17, dX12_isLed_20, dX12_isLed_21, dX12_isLed_22, dX12_isLed_23, dX12_isLed_26, dX12_isLed_27, dX12_isLed_28, dX12_isLed_29, dX12_isLed_32, dX12_isLed_33, dX12_isLed_34, dX12_isLed_37, dX12_isLed_40, dX12_isLed_41, dX12_isLed_44, dX12_isLed_45, dX12_isLed_46, dX12_isLed_47, dX12_isLed_48, dX12_isLed_51, dX12_isLed_52, dX12_isLed_53, dX12_isLed_54, dX12_isLed_57, dX12_isLed_58, dX12_isLed_61, dX12_isLed_62, e_aload_n, e_iload_n, e_istore_n, e_iconst, e_bipush, e_iadd, e_imul, e_i2b, e_ifCond, e_if_icmp, e_goto, e_getfield, e_baload, e_laload, e_bastore, e_invokevirtual, e_ireturn, e_wSt0, e_wSt1, e_wSt2, e_isL0, e_isL1, e_isL2, e_lset, e_lclr0, e_lclr1, e_lclr2, e_lput0, e_lput1, e_lput2, e_wInc, e_wInc0, Nat.reduceLT, not_false_eq_true, Bool.or_false, Bool.false_or, Bool.or_true, Bool.true_or, Bool.and_false, Bool.false_and, Bool.and_true, Bool.true_and, e_wI2, e_wI2B, e_ri, e_rz, e_wIc_ne, e_wIf_ne, e_wIf_eq, bp_60, fX12_48, fX12_52, fX12_64, ic_0, ic_1, ic_2, jt_13_34, jt_37_7, jt_41_4, jt_54_7, jt_58_4, e_call, e_callS0, e_callS1, e_callS2, e_callS3, e_callS4, e_pop0, e_pop1, e_tl0, e_tl1, tbX12_isLed_f, tbX12_isLed_p, tbX12_isLed_k, tbX12_isLed_c170, l_263, s_263, g_245_23, l_259, s_259, g_245_19, cv_245_0, cv_245_1, cv_245_2, cv_245_3, cv_245_4, l_258, s_258, g_245_18, spX12_leads, bi_0, bi_1, ne_eq, Classical.not_not, em_r, em_l]
    obtain ⟨h0, h1, h2, h3, h4, h5⟩ := h
    have ei : wI (wI (60 * s) + k) = 60 * s + k := by simp (disch := omega) only [wI_id]
    simp only [ei, up_hit, nar_1, nar_2]
    by_cases q : ldM S (S.2 263 k.toNat) (S.2 258 s.toNat)
    · have eV : ldV S s.toNat k.toNat = 1 := if_pos q
      rw [bi_t q, eV] at h5
      rw [eV] at h4
      have h5' : S.1 259 (60 * s + k).toNat = 1 → Q (some (.inl 1)) S := fun z => by rw [up_id z] at h5; exact h5
      repeat' (with_reducible first | intro _ | refine And.intro ?_ ?_)
      all_goals first
        | omega
        | exact h0
        | exact h1
        | exact h5
        | exact h5' (by omega)
        | exact absurd q (by assumption)
        | exact absurd trivial (by assumption)
        | contradiction
        | skip
    · have eV : ldV S s.toNat k.toNat = 2 := if_neg q
      rw [bi_f q, eV] at h5
      rw [eV] at h4
      have h5' : S.1 259 (60 * s + k).toNat = 2 → Q (some (.inl 0)) S := fun z => by rw [up_id z] at h5; exact h5
      repeat' (with_reducible first | intro _ | refine And.intro ?_ ?_)
      all_goals first
        | omega
        | exact h0
        | exact h1
        | exact h5
        | exact h5' (by omega)
        | exact absurd (by assumption) q
        | exact absurd trivial (by assumption)
        | contradiction
        | skip
  · exact h.elim
def spX12_isFitting : aSp := fun as S Q => match as with
  | [.inr (.inr 245), .inl s, .inl e] => kwP S ∧ (0 ≤ s ∧ s < S.1 245 12) ∧ (0 ≤ e ∧ e < S.1 245 13) ∧ ∀ g, knX S g → Q (some (.inl (bi (ftM S s.toNat e.toNat)))) (stA S 259 g)
  | _ => False
def tbX12_isFitting : aTb := (fX12, pX12, fun j => lk [(180, (some 12), 3, spX12_isLed)] j, kX12)
theorem tbX12_isFitting_f : tbX12_isFitting.1 = fX12 := rfl
theorem tbX12_isFitting_p : tbX12_isFitting.2.1 = pX12 := rfl
theorem tbX12_isFitting_k : tbX12_isFitting.2.2.2 = kX12 := rfl
theorem tbX12_isFitting_c180 : tbX12_isFitting.2.2.1 180 = some ((some 12), 3, spX12_isLed) := rfl
theorem tbX12_isFitting_all (l : Launch) : ∀ e ∈ ([(180, (some 12), 3, spX12_isLed)] : List (Nat × Option Nat × Nat × aSp)), cOK l mX12_isFitting e.1 e.2.1 e.2.2.1 e.2.2.2 ∨ mOK mX12_isFitting e.1 e.2.1 e.2.2.1 e.2.2.2 := all_cons (cOK_of (okX12_isLed l) meX12_isLed cfX12_180 (by decide) (by decide)) (all_nil)
theorem tbX12_isFitting_ok (l : Launch) : tOK l mX12_isFitting tbX12_isFitting := ⟨fX12_ok, pX12_ok, fun _ _ _ _ h => tbX12_isFitting_all l _ (lk_mem h), kX12_ok⟩
set_option maxRecDepth 20000 in
set_option maxHeartbeats 4000000 in
theorem lpT1 (l : Launch) (Q : Option aV → aS → Prop) : ∀ (n : Nat) (S : aS) (s e k : Nat), (k : Int) + n = 5 * (e : Int) + S.1 260 e → 5 * e ≤ k → kwP S → (s : Int) < S.1 245 12 → (e : Int) < S.1 245 13 → (∀ j : Nat, 5 * e ≤ j → j < k → ¬ ftP S s j) → (∀ g, knX S g → Q (some (.inl (bi (ftM S s e)))) (stA S 259 g)) → aGo l mX12_isFitting Q 12 [(0, .inr (.inr 245)), (1, .inl (s : Int)), (2, .inl (e : Int)), (3, .inl (S.1 255 s)), (4, .inl (k : Int))] [] S := by
  intro n
  induction n using Nat.strongRecOn with
  | _ n ih =>
  intro S  s e k  h0 h1 h2 h3 h4 h5 h6
  refine wp_go (tbX12_isFitting_ok l) (fun pc => pc == 12) 50 dX12_isFitting_12 ?_
  show ws1 tbX12_isFitting 5 (some .boolean) Q (wp cX12_isFitting tbX12_isFitting 5 (some .boolean) Q (fun pc => pc == 12) (aGo l mX12_isFitting Q) 50) (.iload 4) 2 12 [(0, .inr (.inr 245)), (1, .inl (s : Int)), (2, .inl (e : Int)), (3, .inl (S.1 255 s)), (4, .inl (k : Int))] [] S
  simp only [wp_s, wpC_f, wpC_t, e_wLd, e_wLd0, e_wLd1, e_wLd2, e_get1, e_get2, e_wJ, e_wJo, f40, f41, f42, f43, Nat.reduceAdd, Nat.reduceBEq, Nat.reduceMul, eq_self, true_or, or_true, true_and, dX12_isFitting_0, dX12_isFitting_1, dX12_isFitting_4, dX12_isFitting_5, dX12_isFitting_6, dX12_isFitting_7, dX12_isFitting_8, dX12_isFitting_9, dX12_isFitting_10, dX12_isFitting_12, dX12_isFitting_14, dX12_isFitting_15, dX12_isFitting_16, dX12_isFitting_17, dX12_isFitting_18, dX12_isFitting_21, dX12_isFitting_22, dX12_isFitting_23, dX12_isFitting_24, dX12_isFitting_27, dX12_isFitting_28, dX12_isFitting_31, dX12_isFitting_33, dX12_isFitting_34, dX12_isFitting_35, dX12_isFitting_38, dX12_isFitting_39, dX12_isFitting_40, dX12_isFitting_43, dX12_isFitting_44, dX12_isFitting_47, dX12_isFitting_49, dX12_isFitting_50, dX12_isFitting_51, dX12_isFitting_54, dX12_isFitting_55, dX12_isFitting_56, dX12_isFitting_59, dX12_isFitting_60, dX12_isFitting_61, dX12_isFitting_63, dX12_isFitting_66, dX12_isFitting_69, dX12_isFitting_70, dX12_isFitting_71, dX12_isFitting_74, dX12_isFitting_77, dX12_isFitting_78, e_aload_n, e_iload_n, e_iload, e_istore_n, e_istore, e_iconst, e_iadd, e_imul, e_iinc, e_ifCond, e_if_icmp, e_goto, e_getfield, e_iaload, e_invokevirtual, e_ireturn, e_wSt0, e_wSt1, e_wSt2, e_isL0, e_isL1, e_isL2, e_lset, e_lclr0, e_lclr1, e_lclr2, e_lput0, e_lput1, e_lput2, e_wInc, e_wInc0, Nat.reduceLT, not_false_eq_true, Bool.or_false, Bool.false_or, Bool.or_true, Bool.true_or, Bool.and_false, Bool.false_and, Bool.and_true, Bool.true_and, e_wI2, e_ri, e_rz, e_wIc_ge, e_wIc_gt, e_wIc_lt, e_wIf_eq, fX12_23, fX12_26, fX12_39, fX12_55, fX12_58, fX12_61, ic_0, ic_1, ic_5, jt_24_53, jt_40_31, jt_56_15, jt_66_5, jt_74_m62, e_call, e_callS0, e_callS1, e_callS2, e_callS3, e_callS4, e_pop0, e_pop1, e_tl0, e_tl1, tbX12_isFitting_f, tbX12_isFitting_p, tbX12_isFitting_k, tbX12_isFitting_c180, g_245_7, l_262, g_245_22, l_255, l_261, cv_245_0, cv_245_1, cv_245_2, cv_245_3, cv_245_4, g_245_15, l_251, g_245_8, g_245_21, l_250, l_260, g_245_20, spX12_isLed, bi_0, bi_1, ne_eq, Classical.not_not, em_r, em_l]
  have h2' := h2
  obtain ⟨a, b, c, d, e', f, kk⟩ := h2'
  have he := d e (by omega)
  have hs := e' s h3
  have ei : wI (60 * (s : Int) + k) = 60 * s + k ∨ ¬ k < 60 := by
    by_cases q : k < 60
    · exact Or.inl (wI_id (by omega) (by omega))
    · exact Or.inr q
  have e5 : wI (wI (5 * (e : Int)) + S.1 260 e) = 5 * e + S.1 260 e := by simp (disch := omega) only [wI_id]
  simp only [Int.toNat_natCast, e5]
  refine ⟨by omega, by omega, fun q => ?_, fun q => ?_⟩
  · have hn : ¬ ftM S s e := fun ⟨j, j1, j2, j3⟩ => h5 j j1 (by omega) j3
    have z := h6 (S.1 259) kn_0
    rw [st_KS, bi_f hn] at z; exact z
  · have hk : k < 60 := by omega
    have hx : exF S k := ⟨hk, by omega, by rw [show k / 5 = e from by omega]; omega⟩
    have ek : wI ((k : Int) + 1) = (k : Int) + 1 := wI_id (by omega) (by omega)
    have e6 : (60 * (s : Int) + k).toNat = 60 * s + k := by omega
    simp only [ek, e6]
    have no : ¬ ftP S s k → ∀ g, knX S g → aGo l mX12_isFitting Q 12 [(0, .inr (.inr 245)), (1, .inl (s : Int)), (2, .inl (e : Int)), (3, .inl (S.1 255 s)), (4, .inl ((k : Int) + 1))] [] (stA S 259 g) := fun z g hg =>
      ih (n - 1) (by omega) (stA S 259 g) s e (k + 1) (by rw [st_K (by decide)]; omega) (by omega) (kw_K h2 hg) h3 h4 (fun j j1 j2 => by
        rw [ftP_K]
        by_cases q : j = k
        · subst q; exact z
        · exact h5 j j1 (by omega)) (fun g' hg' => by rw [st_KK]; exact h6 g' (kn_tr hg hg'))
    have no0 : ¬ ftP S s k → aGo l mX12_isFitting Q 12 [(0, .inr (.inr 245)), (1, .inl (s : Int)), (2, .inl (e : Int)), (3, .inl (S.1 255 s)), (4, .inl ((k : Int) + 1))] [] S := fun z => by
      have y := no z (S.1 259) kn_0
      rw [st_KS] at y; exact y
    have no1 : ¬ ftP S s k → aGo l mX12_isFitting Q 12 [(0, .inr (.inr 245)), (1, .inl (s : Int)), (2, .inl (e : Int)), (3, .inl (S.1 255 s)), (4, .inl ((k : Int) + 1))] [] (upI S 259 (60 * s + k) (ldV S s k)) := fun z => by rw [up_K]; exact no z _ (kn_up h3 hx)
    have ye : ftP S s k → Q (some (.inl 1)) (upI S 259 (60 * s + k) (ldV S s k)) := fun z => by
      have y := h6 _ (kn_up h3 hx)
      rw [bi_t (show ftM S s e from ⟨k, h1, by omega, z⟩), ← up_K] at y; exact y
    have g1 := kk s k h3 hx
    have g2 := f k hx
    clear ih h6 h5 no kk f
    unfold ftP at no0 no1 ye
    replace no0 := hid no0
    replace no1 := hid no1
    replace ye := hid ye
    clear d e'
    repeat' (with_reducible first | intro _ | refine And.intro ?_ ?_)
    all_goals first
      | omega
      | exact a
      | exact g2
      | exact g1
      | exact no0 (fun z => by omega)
      | exact no1 (fun z => absurd z.2.2 (by assumption))
      | exact ye ⟨by omega, by omega, by assumption⟩
      | skip
set_option maxRecDepth 20000 in
set_option maxHeartbeats 4000000 in
theorem okX12_isFitting (l : Launch) : aOK l mX12_isFitting spX12_isFitting := by
  refine aOK_of rfl fun as S Q h => ?_
  unfold spX12_isFitting at h
  split at h
  · rename_i s e
    refine ⟨Nat.le_of_ble_eq_true rfl, wp_ok (tbX12_isFitting_ok l) Q (fun pc => pc == 12) 50 0 _ [] S ?_⟩
    show wp cX12_isFitting tbX12_isFitting 5 (some .boolean) Q (fun pc => pc == 12) (aGo l mX12_isFitting Q) 50 0 [(0, .inr (.inr 245)), (1, .inl s), (2, .inl e)] [] S
    simp only [wp_s, wpC_f, wpC_t, e_wLd, e_wLd0, e_wLd1, e_wLd2, e_get1, e_get2, e_wJ, e_wJo, f40, f41, f42, f43, Nat.reduceAdd, Nat.reduceBEq, Nat.reduceMul, eq_self, true_or, or_true, true_and, dX12_isFitting_0, dX12_isFitting_1, dX12_isFitting_4, dX12_isFitting_5, dX12_isFitting_6, dX12_isFitting_7, dX12_isFitting_8, dX12_isFitting_9, dX12_isFitting_10, dX12_isFitting_12, dX12_isFitting_14, dX12_isFitting_15, dX12_isFitting_16, dX12_isFitting_17, dX12_isFitting_18, dX12_isFitting_21, dX12_isFitting_22, dX12_isFitting_23, dX12_isFitting_24, dX12_isFitting_27, dX12_isFitting_28, dX12_isFitting_31, dX12_isFitting_33, dX12_isFitting_34, dX12_isFitting_35, dX12_isFitting_38, dX12_isFitting_39, dX12_isFitting_40, dX12_isFitting_43, dX12_isFitting_44, dX12_isFitting_47, dX12_isFitting_49, dX12_isFitting_50, dX12_isFitting_51, dX12_isFitting_54, dX12_isFitting_55, dX12_isFitting_56, dX12_isFitting_59, dX12_isFitting_60, dX12_isFitting_61, dX12_isFitting_63, dX12_isFitting_66, dX12_isFitting_69, dX12_isFitting_70, dX12_isFitting_71, dX12_isFitting_74, dX12_isFitting_77, dX12_isFitting_78, e_aload_n, e_iload_n, e_iload, e_istore_n, e_istore, e_iconst, e_iadd, e_imul, e_iinc, e_ifCond, e_if_icmp, e_goto, e_getfield, e_iaload, e_invokevirtual, e_ireturn, e_wSt0, e_wSt1, e_wSt2, e_isL0, e_isL1, e_isL2, e_lset, e_lclr0, e_lclr1, e_lclr2, e_lput0, e_lput1, e_lput2, e_wInc, e_wInc0, Nat.reduceLT, not_false_eq_true, Bool.or_false, Bool.false_or, Bool.or_true, Bool.true_or, Bool.and_false, Bool.false_and, Bool.and_true, Bool.true_and, e_wI2, e_ri, e_rz, e_wIc_ge, e_wIc_gt, e_wIc_lt, e_wIf_eq, fX12_23, fX12_26, fX12_39, fX12_55, fX12_58, fX12_61, ic_0, ic_1, ic_5, jt_24_53, jt_40_31, jt_56_15, jt_66_5, jt_74_m62, e_call, e_callS0, e_callS1, e_callS2, e_callS3, e_callS4, e_pop0, e_pop1, e_tl0, e_tl1, tbX12_isFitting_f, tbX12_isFitting_p, tbX12_isFitting_k, tbX12_isFitting_c180, g_245_7, l_262, g_245_22, l_255, l_261, cv_245_0, cv_245_1, cv_245_2, cv_245_3, cv_245_4, g_245_15, l_251, g_245_8, g_245_21, l_250, l_260, g_245_20]
    obtain ⟨h0, h1, h2, h3⟩ := h
    have he := h0.2.2.2.1 e.toNat (by have := h0.2.2.1; omega)
    have hb := h0.2.1
    have hb2 := h0.2.2.1
    have e1 : wI (5 * e) = 5 * e := wI_id (by omega) (by omega)
    rw [e1]
    have z := lpT1 l Q (S.1 260 e.toNat).toNat S s.toNat e.toNat (5 * e.toNat) (by omega) (by omega) h0 (by omega) (by omega) (fun j j1 j2 => absurd j2 (by omega)) h3
    rw [show ((s.toNat : Nat) : Int) = s from by omega, show ((e.toNat : Nat) : Int) = e from by omega, show ((5 * e.toNat : Nat) : Int) = 5 * e from by omega] at z
    exact ⟨by omega, by omega, z⟩
  · exact h.elim
