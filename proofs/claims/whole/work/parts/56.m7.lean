/-! THE REFERENCE: witnesses -/
def witP (S : aS) (a al : Int) (s : Nat) : Prop := ¬ S.1 257 s = -1 ∧ ((¬ al = 0 ∧ S.1 257 s = a) ∨ (al = 0 ∧ wtM (S.1 268) a 40 (S.1 257 s)))
def stV (S : aS) (v : Nat → Int) : aS := stA S 245 (fun j => if 32 ≤ j ∧ j ≤ 36 then v j else S.1 245 j)
section SV
variable {S : aS} {v w : Nat → Int} {k : Nat} {x : Int}
theorem stV_v (h : 32 ≤ k ∧ k ≤ 36) : (stV S v).1 245 k = v k := by
  simp [stV, stA, h]
theorem stV_f (h : ¬ (32 ≤ k ∧ k ≤ 36)) : (stV S v).1 245 k = S.1 245 k := by
  simp [stV, stA, h]
theorem stV_a {a : Nat} (h : ¬ a = 245) : (stV S v).1 a = S.1 a := funext fun _ => if_neg h
theorem stV_2 : (stV S v).2 = S.2 := rfl
theorem stV_up (h : 32 ≤ k ∧ k ≤ 36) : upI (stV S v) 245 k x = stV S (fu v k x) := by
  refine st_ext (fun a b => ?_) (fun a b => rfl)
  simp only [stV, stA, upI, up2, fu]
  by_cases ha : a = 245
  · subst ha
    by_cases hb : b = k
    · subst hb; simp [h]
    · simp [hb]
  · simp [ha]
theorem stV_V : stV (stV S v) w = stV S w := by
  refine st_ext (fun a b => ?_) (fun a b => rfl)
  simp only [stV, stA]
  by_cases ha : a = 245
  · subst ha
    by_cases hb : 32 ≤ b ∧ b ≤ 36
    · simp [hb]
    · simp [hb]
  · simp [ha]
theorem stV_S : stV S (S.1 245) = S := by
  refine st_ext (fun a b => ?_) (fun a b => rfl)
  simp only [stV, stA]
  by_cases ha : a = 245
  · subst ha; simp
  · simp [ha]
end SV
def fF (S : aS) (j : Nat) : Int := S.1 250 (S.1 255 j).toNat
def fL (S : aS) (j : Nat) : Int := S.1 251 (S.1 255 j).toNat
def wok (S : aS) : Prop := (0 ≤ S.1 245 12 ∧ S.1 245 12 ≤ 120) ∧ ∀ s : Nat, (s : Int) < S.1 245 12 → (0 ≤ S.1 255 s ∧ S.1 255 s < 30) ∧ (1 ≤ fF S s ∧ fF S s ≤ 2000) ∧ (1 ≤ fL S s ∧ fL S s ≤ 2000) ∧ chn (S.1 268) 40 (S.1 257 s)
def wvP (S : aS) (a al : Int) (i : Nat) (v : Nat → Int) : Prop := v 32 = cnt (fun j => cb (witP S a al j)) i ∧ (0 < v 32 → v 33 = mn (fF S) (witP S a al) i ∧ v 34 = mn (fL S) (witP S a al) i ∧ v 35 = mx (fF S) (witP S a al) i ∧ v 36 = mx (fL S) (witP S a al) i)
theorem witP_V {S : aS} {v : Nat → Int} {a al : Int} : witP (stV S v) a al = witP S a al := rfl
theorem wok_V {S : aS} {v : Nat → Int} : wok (stV S v) = wok S := rfl
theorem wvP_V {S : aS} {v : Nat → Int} {a al : Int} {i : Nat} : wvP (stV S v) a al i = wvP S a al i := rfl
theorem cnt_no {p : Nat → Prop} : ∀ {n : Nat}, cnt (fun j => cb (p j)) n = 0 → ∀ j, j < n → ¬ p j
  | 0, _, j, hj => absurd hj (by omega)
  | n + 1, h, j, hj => by
    have hb := cnt_b (fun j => cb (p j)) n
    by_cases q : p n
    · rw [cnt_t (cb_t q)] at h; omega
    · rw [cnt_f (cb_f q)] at h
      by_cases e : j = n
      · subst e; exact q
      · exact cnt_no h j (by omega)
theorem mn_no {f : Nat → Int} {p : Nat → Prop} : ∀ {n : Nat}, (∀ j, j < n → ¬ p j) → mn f p n = 2001
  | 0, _ => rfl
  | n + 1, h => by rw [mn_f (h n (by omega))]; exact mn_no (fun j hj => h j (by omega))
theorem mx_no {f : Nat → Int} {p : Nat → Prop} : ∀ {n : Nat}, (∀ j, j < n → ¬ p j) → mx f p n = 0
  | 0, _ => rfl
  | n + 1, h => by rw [mx_f (h n (by omega))]; exact mx_no (fun j hj => h j (by omega))
def m1 (c x f : Int) : Int := if c = 0 ∨ f < x then f else x
def m2 (c x f : Int) : Int := if c = 0 ∨ x < f then f else x
def wvS (S : aS) (v : Nat → Int) (i : Nat) : Nat → Int := fu (fu (fu (fu (fu v 33 (m1 (v 32) (v 33) (fF S i))) 34 (m1 (v 32) (v 34) (fL S i))) 35 (m2 (v 32) (v 35) (fF S i))) 36 (m2 (v 32) (v 36) (fL S i))) 32 (v 32 + 1)
theorem wvP_no {S : aS} {a al : Int} {i : Nat} {v : Nat → Int} (h : wvP S a al i v) (hn : ¬ witP S a al i) : wvP S a al (i + 1) v := by
  unfold wvP at *
  rw [cnt_f (cb_f hn), mn_f hn, mn_f hn, mx_f hn, mx_f hn]
  exact h
theorem wvP_yes {S : aS} {a al : Int} {i : Nat} {v : Nat → Int} (hF : 1 ≤ fF S i ∧ fF S i ≤ 2000) (hL : 1 ≤ fL S i ∧ fL S i ≤ 2000) (h : wvP S a al i v) (hy : witP S a al i) : wvP S a al (i + 1) (wvS S v i) := by
  obtain ⟨h1, h2⟩ := h
  have hb := cnt_b (fun j => cb (witP S a al j)) i
  unfold wvP
  rw [cnt_t (cb_t hy), mn_t hy, mn_t hy, mx_t hy, mx_t hy, ← h1]
  have e32 : wvS S v i 32 = v 32 + 1 := by simp [wvS, fu]
  have e33 : wvS S v i 33 = m1 (v 32) (v 33) (fF S i) := by simp [wvS, fu]
  have e34 : wvS S v i 34 = m1 (v 32) (v 34) (fL S i) := by simp [wvS, fu]
  have e35 : wvS S v i 35 = m2 (v 32) (v 35) (fF S i) := by simp [wvS, fu]
  have e36 : wvS S v i 36 = m2 (v 32) (v 36) (fL S i) := by simp [wvS, fu]
  refine ⟨e32, fun _ => ?_⟩
  rw [e33, e34, e35, e36]
  by_cases q : v 32 = 0
  · have hn := cnt_no (h1.symm.trans q)
    rw [mn_no hn, mn_no hn, mx_no hn, mx_no hn]
    simp only [m1, m2, if_pos (Or.inl q : v 32 = 0 ∨ _)]
    omega
  · obtain ⟨g1, g2, g3, g4⟩ := h2 (by omega)
    simp only [m1, m2]
    rw [g1, g2, g3, g4]
    refine ⟨?_, ?_, ?_, ?_⟩ <;> split <;> omega
def spX12_isWitness : aSp := fun as S Q => match as with
  | [.inr (.inr 245), .inl s, .inl a, .inl al] => (0 ≤ s ∧ s < 120) ∧ ¬ a = -1 ∧ chn (S.1 268) 40 (S.1 257 s.toNat) ∧ (al = 0 ∨ al = 1) ∧ Q (some (.inl (bi (witP S a al s.toNat)))) S
  | _ => False
def tbX12_isWitness : aTb := (fX12, pX12, fun j => lk [(193, (some 12), 3, spX12_isWithin)] j, kX12)
theorem tbX12_isWitness_f : tbX12_isWitness.1 = fX12 := rfl
theorem tbX12_isWitness_p : tbX12_isWitness.2.1 = pX12 := rfl
theorem tbX12_isWitness_k : tbX12_isWitness.2.2.2 = kX12 := rfl
theorem tbX12_isWitness_c193 : tbX12_isWitness.2.2.1 193 = some ((some 12), 3, spX12_isWithin) := rfl
theorem tbX12_isWitness_all (l : Launch) : ∀ e ∈ ([(193, (some 12), 3, spX12_isWithin)] : List (Nat × Option Nat × Nat × aSp)), cOK l mX12_isWitness e.1 e.2.1 e.2.2.1 e.2.2.2 ∨ mOK mX12_isWitness e.1 e.2.1 e.2.2.1 e.2.2.2 := all_cons (cOK_of (okX12_isWithin l) meX12_isWithin cfX12_193 (by decide) (by decide)) (all_nil)
theorem tbX12_isWitness_ok (l : Launch) : tOK l mX12_isWitness tbX12_isWitness := ⟨fX12_ok, pX12_ok, fun _ _ _ _ h => tbX12_isWitness_all l _ (lk_mem h), kX12_ok⟩
set_option maxRecDepth 20000 in
set_option maxHeartbeats 4000000 in
theorem okX12_isWitness (l : Launch) : aOK l mX12_isWitness spX12_isWitness := by
  refine aOK_of rfl fun as S Q h => ?_
  unfold spX12_isWitness at h
  split at h
  · rename_i s a al
    refine ⟨Nat.le_of_ble_eq_true rfl, wp_ok (tbX12_isWitness_ok l) Q (fun pc => false) 29 0 _ [] S ?_⟩
    show wp cX12_isWitness tbX12_isWitness 4 (some .boolean) Q (fun pc => false) (aGo l mX12_isWitness Q) 29 0 [(0, .inr (.inr 245)), (1, .inl s), (2, .inl a), (3, .inl al)] [] S
    simp only [wp_s, wpC_f, wpC_t, e_wLd, e_wLd0, e_wLd1, e_wLd2, e_get1, e_get2, e_wJ, e_wJo, f40, f41, f42, f43, Nat.reduceAdd, Nat.reduceBEq, Nat.reduceMul, eq_self, true_or, or_true, true_and, dX12_isWitness_0, dX12_isWitness_1, dX12_isWitness_4, dX12_isWitness_5, dX12_isWitness_6, dX12_isWitness_7, dX12_isWitness_10, dX12_isWitness_11, dX12_isWitness_14, dX12_isWitness_15, dX12_isWitness_18, dX12_isWitness_19, dX12_isWitness_20, dX12_isWitness_21, dX12_isWitness_24, dX12_isWitness_27, dX12_isWitness_28, dX12_isWitness_29, dX12_isWitness_32, dX12_isWitness_33, dX12_isWitness_34, dX12_isWitness_35, dX12_isWitness_38, dX12_isWitness_41, dX12_isWitness_42, dX12_isWitness_45, dX12_isWitness_46, e_aload_n, e_iload_n, e_iconst, e_ifCond, e_if_icmp, e_goto, e_getfield, e_iaload, e_invokevirtual, e_ireturn, e_ri, e_rz, e_wIc_ne, e_wIc_eq, e_wIf_eq, fX12_45, ic_0, ic_1, ic_m1, jt_11_16, jt_21_24, jt_24_17, jt_38_7, jt_42_4, jt_7_38, e_call, e_callS0, e_callS1, e_callS2, e_callS3, e_callS4, e_pop0, e_pop1, e_tl0, e_tl1, tbX12_isWitness_f, tbX12_isWitness_p, tbX12_isWitness_k, tbX12_isWitness_c193, cv_245_0, cv_245_1, cv_245_2, cv_245_3, cv_245_4, g_245_17, l_257, spX12_isWithin, bi_0, bi_1, ne_eq, Classical.not_not, em_r, em_l]
    obtain ⟨h0, h1, h2, h3, h4⟩ := h
    have ht : witP S a al s.toNat → Q (some (.inl 1)) S := fun q => by rw [bi_t q] at h4; exact h4
    have hf : ¬ witP S a al s.toNat → Q (some (.inl 0)) S := fun q => by rw [bi_f q] at h4; exact h4
    clear h4
    unfold witP at ht hf
    replace ht := hid ht
    replace hf := hid hf
    repeat' (with_reducible first | intro _ | refine And.intro ?_ ?_)
    all_goals first
      | omega
      | assumption
      | exact hf (fun z => z.1 (by assumption))
      | exact hf (fun z => absurd (by assumption) z.1)
      | exact ht ⟨by assumption, Or.inl ⟨by assumption, by assumption⟩⟩
      | exact ht ⟨by assumption, Or.inr ⟨by assumption, by assumption⟩⟩
      | exact hf (fun z => z.2.elim (fun y => absurd y.2 (by assumption)) (fun y => absurd y.1 (by assumption)))
      | exact hf (fun z => z.2.elim (fun y => absurd (by assumption) y.1) (fun y => absurd y.2 (by assumption)))
      | skip
  · exact h.elim
def spX12_witnesses : aSp := fun as S Q => match as with
  | [.inr (.inr 245), .inl a, .inl al] => wok S ∧ ¬ a = -1 ∧ (al = 0 ∨ al = 1) ∧ ∀ v, wvP S a al (S.1 245 12).toNat v → Q none (stV S v)
  | _ => False
def tbX12_witnesses : aTb := (fX12, pX12, fun j => lk [(214, (some 12), 4, spX12_isWitness)] j, kX12)
theorem tbX12_witnesses_f : tbX12_witnesses.1 = fX12 := rfl
theorem tbX12_witnesses_p : tbX12_witnesses.2.1 = pX12 := rfl
theorem tbX12_witnesses_k : tbX12_witnesses.2.2.2 = kX12 := rfl
theorem tbX12_witnesses_c214 : tbX12_witnesses.2.2.1 214 = some ((some 12), 4, spX12_isWitness) := rfl
theorem tbX12_witnesses_all (l : Launch) : ∀ e ∈ ([(214, (some 12), 4, spX12_isWitness)] : List (Nat × Option Nat × Nat × aSp)), cOK l mX12_witnesses e.1 e.2.1 e.2.2.1 e.2.2.2 ∨ mOK mX12_witnesses e.1 e.2.1 e.2.2.1 e.2.2.2 := all_cons (cOK_of (okX12_isWitness l) meX12_isWitness cfX12_214 (by decide) (by decide)) (all_nil)
theorem tbX12_witnesses_ok (l : Launch) : tOK l mX12_witnesses tbX12_witnesses := ⟨fX12_ok, pX12_ok, fun _ _ _ _ h => tbX12_witnesses_all l _ (lk_mem h), kX12_ok⟩
set_option maxRecDepth 20000 in
set_option maxHeartbeats 4000000 in
theorem sgW36 (l : Launch) (Q : Option aV → aS → Prop) (S : aS) (v : Nat → Int) (a al f g : Int) (i : Nat) (h0 : aGo l mX12_witnesses Q 170 [(0, .inr (.inr 245)), (1, .inl a), (2, .inl al), (3, .inl (i : Int)), (4, .inl f), (5, .inl g)] [] (stV S (fu v 36 (m2 (v 32) (v 36) g)))) : aGo l mX12_witnesses Q 141 [(0, .inr (.inr 245)), (1, .inl a), (2, .inl al), (3, .inl (i : Int)), (4, .inl f), (5, .inl g)] [] (stV S v) := by
  refine wp_go (tbX12_witnesses_ok l) (fun pc => pc == 170) 95 dX12_witnesses_141 ?_
  show ws1 tbX12_witnesses 6 none Q (wp cX12_witnesses tbX12_witnesses 6 none Q (fun pc => pc == 170) (aGo l mX12_witnesses Q) 95) (.aload_n 0) 1 141 [(0, .inr (.inr 245)), (1, .inl a), (2, .inl al), (3, .inl (i : Int)), (4, .inl f), (5, .inl g)] [] (stV S v)
  simp only [wp_s, wpC_f, wpC_t, e_wLd, e_wLd0, e_wLd1, e_wLd2, e_get1, e_get2, e_wJ, e_wJo, f40, f41, f42, f43, Nat.reduceAdd, Nat.reduceBEq, Nat.reduceMul, eq_self, true_or, or_true, true_and, dX12_witnesses_0, dX12_witnesses_1, dX12_witnesses_2, dX12_witnesses_5, dX12_witnesses_6, dX12_witnesses_7, dX12_witnesses_8, dX12_witnesses_9, dX12_witnesses_12, dX12_witnesses_15, dX12_witnesses_16, dX12_witnesses_17, dX12_witnesses_18, dX12_witnesses_19, dX12_witnesses_22, dX12_witnesses_25, dX12_witnesses_28, dX12_witnesses_29, dX12_witnesses_32, dX12_witnesses_33, dX12_witnesses_36, dX12_witnesses_37, dX12_witnesses_38, dX12_witnesses_39, dX12_witnesses_41, dX12_witnesses_42, dX12_witnesses_45, dX12_witnesses_46, dX12_witnesses_49, dX12_witnesses_50, dX12_witnesses_51, dX12_witnesses_52, dX12_witnesses_54, dX12_witnesses_55, dX12_witnesses_56, dX12_witnesses_59, dX12_witnesses_62, dX12_witnesses_64, dX12_witnesses_65, dX12_witnesses_68, dX12_witnesses_71, dX12_witnesses_73, dX12_witnesses_76, dX12_witnesses_77, dX12_witnesses_80, dX12_witnesses_83, dX12_witnesses_84, dX12_witnesses_85, dX12_witnesses_88, dX12_witnesses_91, dX12_witnesses_93, dX12_witnesses_94, dX12_witnesses_97, dX12_witnesses_100, dX12_witnesses_102, dX12_witnesses_105, dX12_witnesses_106, dX12_witnesses_109, dX12_witnesses_112, dX12_witnesses_113, dX12_witnesses_114, dX12_witnesses_117, dX12_witnesses_120, dX12_witnesses_122, dX12_witnesses_123, dX12_witnesses_126, dX12_witnesses_129, dX12_witnesses_131, dX12_witnesses_134, dX12_witnesses_135, dX12_witnesses_138, dX12_witnesses_141, dX12_witnesses_142, dX12_witnesses_143, dX12_witnesses_146, dX12_witnesses_149, dX12_witnesses_151, dX12_witnesses_152, dX12_witnesses_155, dX12_witnesses_158, dX12_witnesses_160, dX12_witnesses_163, dX12_witnesses_164, dX12_witnesses_167, dX12_witnesses_170, dX12_witnesses_171, dX12_witnesses_172, dX12_witnesses_175, dX12_witnesses_176, dX12_witnesses_177, dX12_witnesses_180, dX12_witnesses_183, dX12_witnesses_186, e_aload_n, e_iload_n, e_iload, e_istore_n, e_istore, e_iconst, e_iadd, e_iinc, e_ifCond, e_if_icmp, e_goto, e_getfield, e_putfield, e_iaload, e_invokevirtual, e_return_, e_wSt0, e_wSt1, e_wSt2, e_isL0, e_isL1, e_isL2, e_lset, e_lclr0, e_lclr1, e_lclr2, e_lput0, e_lput1, e_lput2, e_wInc, e_wInc0, Nat.reduceLT, not_false_eq_true, Bool.or_false, Bool.false_or, Bool.or_true, Bool.true_or, Bool.and_false, Bool.false_and, Bool.and_true, Bool.true_and, e_wI2, e_rv, e_wIc_ge, e_wIc_le, e_wIf_eq, e_wIf_ne, fX12_132, fX12_211, fX12_218, fX12_221, fX12_224, fX12_227, fX12_23, fX12_26, fX12_39, ic_0, ic_1, jt_102_7, jt_117_12, jt_126_8, jt_12_174, jt_131_7, jt_146_12, jt_155_8, jt_160_7, jt_183_m176, jt_22_6, jt_25_155, jt_59_12, jt_68_8, jt_73_7, jt_88_12, jt_97_8, pX12_211, pX12_218, pX12_221, pX12_224, pX12_227, e_call, e_callS0, e_callS1, e_callS2, e_callS3, e_callS4, e_pop0, e_pop1, e_tl0, e_tl1, tbX12_witnesses_f, tbX12_witnesses_p, tbX12_witnesses_k, tbX12_witnesses_c214, cv_245_0, cv_245_1, cv_245_2, cv_245_3, cv_245_4, g_245_34, p_245_36, g_245_33, l_255, g_245_7, g_245_36, p_245_32, p_245_33, g_245_35, l_251, p_245_35, g_245_32, p_245_34, g_245_12, g_245_15, l_250, g_245_8]
  simp (disch := decide) only [stV_f, stV_v, stV_a, stV_up]
  unfold m2 at h0
  repeat' (with_reducible first | intro _ | refine And.intro ?_ ?_)
  all_goals first
    | (rw [if_pos (Or.inl (by assumption))] at h0; exact h0)
    | (rw [if_pos (Or.inr (by omega))] at h0; exact h0)
    | (rw [if_neg (by omega)] at h0; exact h0)
    | skip
set_option maxRecDepth 20000 in
set_option maxHeartbeats 4000000 in
theorem sgW35 (l : Launch) (Q : Option aV → aS → Prop) (S : aS) (v : Nat → Int) (a al f g : Int) (i : Nat) (h0 : aGo l mX12_witnesses Q 141 [(0, .inr (.inr 245)), (1, .inl a), (2, .inl al), (3, .inl (i : Int)), (4, .inl f), (5, .inl g)] [] (stV S (fu v 35 (m2 (v 32) (v 35) f)))) : aGo l mX12_witnesses Q 112 [(0, .inr (.inr 245)), (1, .inl a), (2, .inl al), (3, .inl (i : Int)), (4, .inl f), (5, .inl g)] [] (stV S v) := by
  refine wp_go (tbX12_witnesses_ok l) (fun pc => pc == 141) 95 dX12_witnesses_112 ?_
  show ws1 tbX12_witnesses 6 none Q (wp cX12_witnesses tbX12_witnesses 6 none Q (fun pc => pc == 141) (aGo l mX12_witnesses Q) 95) (.aload_n 0) 1 112 [(0, .inr (.inr 245)), (1, .inl a), (2, .inl al), (3, .inl (i : Int)), (4, .inl f), (5, .inl g)] [] (stV S v)
  simp only [wp_s, wpC_f, wpC_t, e_wLd, e_wLd0, e_wLd1, e_wLd2, e_get1, e_get2, e_wJ, e_wJo, f40, f41, f42, f43, Nat.reduceAdd, Nat.reduceBEq, Nat.reduceMul, eq_self, true_or, or_true, true_and, dX12_witnesses_0, dX12_witnesses_1, dX12_witnesses_2, dX12_witnesses_5, dX12_witnesses_6, dX12_witnesses_7, dX12_witnesses_8, dX12_witnesses_9, dX12_witnesses_12, dX12_witnesses_15, dX12_witnesses_16, dX12_witnesses_17, dX12_witnesses_18, dX12_witnesses_19, dX12_witnesses_22, dX12_witnesses_25, dX12_witnesses_28, dX12_witnesses_29, dX12_witnesses_32, dX12_witnesses_33, dX12_witnesses_36, dX12_witnesses_37, dX12_witnesses_38, dX12_witnesses_39, dX12_witnesses_41, dX12_witnesses_42, dX12_witnesses_45, dX12_witnesses_46, dX12_witnesses_49, dX12_witnesses_50, dX12_witnesses_51, dX12_witnesses_52, dX12_witnesses_54, dX12_witnesses_55, dX12_witnesses_56, dX12_witnesses_59, dX12_witnesses_62, dX12_witnesses_64, dX12_witnesses_65, dX12_witnesses_68, dX12_witnesses_71, dX12_witnesses_73, dX12_witnesses_76, dX12_witnesses_77, dX12_witnesses_80, dX12_witnesses_83, dX12_witnesses_84, dX12_witnesses_85, dX12_witnesses_88, dX12_witnesses_91, dX12_witnesses_93, dX12_witnesses_94, dX12_witnesses_97, dX12_witnesses_100, dX12_witnesses_102, dX12_witnesses_105, dX12_witnesses_106, dX12_witnesses_109, dX12_witnesses_112, dX12_witnesses_113, dX12_witnesses_114, dX12_witnesses_117, dX12_witnesses_120, dX12_witnesses_122, dX12_witnesses_123, dX12_witnesses_126, dX12_witnesses_129, dX12_witnesses_131, dX12_witnesses_134, dX12_witnesses_135, dX12_witnesses_138, dX12_witnesses_141, dX12_witnesses_142, dX12_witnesses_143, dX12_witnesses_146, dX12_witnesses_149, dX12_witnesses_151, dX12_witnesses_152, dX12_witnesses_155, dX12_witnesses_158, dX12_witnesses_160, dX12_witnesses_163, dX12_witnesses_164, dX12_witnesses_167, dX12_witnesses_170, dX12_witnesses_171, dX12_witnesses_172, dX12_witnesses_175, dX12_witnesses_176, dX12_witnesses_177, dX12_witnesses_180, dX12_witnesses_183, dX12_witnesses_186, e_aload_n, e_iload_n, e_iload, e_istore_n, e_istore, e_iconst, e_iadd, e_iinc, e_ifCond, e_if_icmp, e_goto, e_getfield, e_putfield, e_iaload, e_invokevirtual, e_return_, e_wSt0, e_wSt1, e_wSt2, e_isL0, e_isL1, e_isL2, e_lset, e_lclr0, e_lclr1, e_lclr2, e_lput0, e_lput1, e_lput2, e_wInc, e_wInc0, Nat.reduceLT, not_false_eq_true, Bool.or_false, Bool.false_or, Bool.or_true, Bool.true_or, Bool.and_false, Bool.false_and, Bool.and_true, Bool.true_and, e_wI2, e_rv, e_wIc_ge, e_wIc_le, e_wIf_eq, e_wIf_ne, fX12_132, fX12_211, fX12_218, fX12_221, fX12_224, fX12_227, fX12_23, fX12_26, fX12_39, ic_0, ic_1, jt_102_7, jt_117_12, jt_126_8, jt_12_174, jt_131_7, jt_146_12, jt_155_8, jt_160_7, jt_183_m176, jt_22_6, jt_25_155, jt_59_12, jt_68_8, jt_73_7, jt_88_12, jt_97_8, pX12_211, pX12_218, pX12_221, pX12_224, pX12_227, e_call, e_callS0, e_callS1, e_callS2, e_callS3, e_callS4, e_pop0, e_pop1, e_tl0, e_tl1, tbX12_witnesses_f, tbX12_witnesses_p, tbX12_witnesses_k, tbX12_witnesses_c214, cv_245_0, cv_245_1, cv_245_2, cv_245_3, cv_245_4, g_245_34, p_245_36, g_245_33, l_255, g_245_7, g_245_36, p_245_32, p_245_33, g_245_35, l_251, p_245_35, g_245_32, p_245_34, g_245_12, g_245_15, l_250, g_245_8]
  simp (disch := decide) only [stV_f, stV_v, stV_a, stV_up]
  unfold m2 at h0
  repeat' (with_reducible first | intro _ | refine And.intro ?_ ?_)
  all_goals first
    | (rw [if_pos (Or.inl (by assumption))] at h0; exact h0)
    | (rw [if_pos (Or.inr (by omega))] at h0; exact h0)
    | (rw [if_neg (by omega)] at h0; exact h0)
    | skip
set_option maxRecDepth 20000 in
set_option maxHeartbeats 4000000 in
theorem sgW34 (l : Launch) (Q : Option aV → aS → Prop) (S : aS) (v : Nat → Int) (a al f g : Int) (i : Nat) (h0 : aGo l mX12_witnesses Q 112 [(0, .inr (.inr 245)), (1, .inl a), (2, .inl al), (3, .inl (i : Int)), (4, .inl f), (5, .inl g)] [] (stV S (fu v 34 (m1 (v 32) (v 34) g)))) : aGo l mX12_witnesses Q 83 [(0, .inr (.inr 245)), (1, .inl a), (2, .inl al), (3, .inl (i : Int)), (4, .inl f), (5, .inl g)] [] (stV S v) := by
  refine wp_go (tbX12_witnesses_ok l) (fun pc => pc == 112) 95 dX12_witnesses_83 ?_
  show ws1 tbX12_witnesses 6 none Q (wp cX12_witnesses tbX12_witnesses 6 none Q (fun pc => pc == 112) (aGo l mX12_witnesses Q) 95) (.aload_n 0) 1 83 [(0, .inr (.inr 245)), (1, .inl a), (2, .inl al), (3, .inl (i : Int)), (4, .inl f), (5, .inl g)] [] (stV S v)
  simp only [wp_s, wpC_f, wpC_t, e_wLd, e_wLd0, e_wLd1, e_wLd2, e_get1, e_get2, e_wJ, e_wJo, f40, f41, f42, f43, Nat.reduceAdd, Nat.reduceBEq, Nat.reduceMul, eq_self, true_or, or_true, true_and, dX12_witnesses_0, dX12_witnesses_1, dX12_witnesses_2, dX12_witnesses_5, dX12_witnesses_6, dX12_witnesses_7, dX12_witnesses_8, dX12_witnesses_9, dX12_witnesses_12, dX12_witnesses_15, dX12_witnesses_16, dX12_witnesses_17, dX12_witnesses_18, dX12_witnesses_19, dX12_witnesses_22, dX12_witnesses_25, dX12_witnesses_28, dX12_witnesses_29, dX12_witnesses_32, dX12_witnesses_33, dX12_witnesses_36, dX12_witnesses_37, dX12_witnesses_38, dX12_witnesses_39, dX12_witnesses_41, dX12_witnesses_42, dX12_witnesses_45, dX12_witnesses_46, dX12_witnesses_49, dX12_witnesses_50, dX12_witnesses_51, dX12_witnesses_52, dX12_witnesses_54, dX12_witnesses_55, dX12_witnesses_56, dX12_witnesses_59, dX12_witnesses_62, dX12_witnesses_64, dX12_witnesses_65, dX12_witnesses_68, dX12_witnesses_71, dX12_witnesses_73, dX12_witnesses_76, dX12_witnesses_77, dX12_witnesses_80, dX12_witnesses_83, dX12_witnesses_84, dX12_witnesses_85, dX12_witnesses_88, dX12_witnesses_91, dX12_witnesses_93, dX12_witnesses_94, dX12_witnesses_97, dX12_witnesses_100, dX12_witnesses_102, dX12_witnesses_105, dX12_witnesses_106, dX12_witnesses_109, dX12_witnesses_112, dX12_witnesses_113, dX12_witnesses_114, dX12_witnesses_117, dX12_witnesses_120, dX12_witnesses_122, dX12_witnesses_123, dX12_witnesses_126, dX12_witnesses_129, dX12_witnesses_131, dX12_witnesses_134, dX12_witnesses_135, dX12_witnesses_138, dX12_witnesses_141, dX12_witnesses_142, dX12_witnesses_143, dX12_witnesses_146, dX12_witnesses_149, dX12_witnesses_151, dX12_witnesses_152, dX12_witnesses_155, dX12_witnesses_158, dX12_witnesses_160, dX12_witnesses_163, dX12_witnesses_164, dX12_witnesses_167, dX12_witnesses_170, dX12_witnesses_171, dX12_witnesses_172, dX12_witnesses_175, dX12_witnesses_176, dX12_witnesses_177, dX12_witnesses_180, dX12_witnesses_183, dX12_witnesses_186, e_aload_n, e_iload_n, e_iload, e_istore_n, e_istore, e_iconst, e_iadd, e_iinc, e_ifCond, e_if_icmp, e_goto, e_getfield, e_putfield, e_iaload, e_invokevirtual, e_return_, e_wSt0, e_wSt1, e_wSt2, e_isL0, e_isL1, e_isL2, e_lset, e_lclr0, e_lclr1, e_lclr2, e_lput0, e_lput1, e_lput2, e_wInc, e_wInc0, Nat.reduceLT, not_false_eq_true, Bool.or_false, Bool.false_or, Bool.or_true, Bool.true_or, Bool.and_false, Bool.false_and, Bool.and_true, Bool.true_and, e_wI2, e_rv, e_wIc_ge, e_wIc_le, e_wIf_eq, e_wIf_ne, fX12_132, fX12_211, fX12_218, fX12_221, fX12_224, fX12_227, fX12_23, fX12_26, fX12_39, ic_0, ic_1, jt_102_7, jt_117_12, jt_126_8, jt_12_174, jt_131_7, jt_146_12, jt_155_8, jt_160_7, jt_183_m176, jt_22_6, jt_25_155, jt_59_12, jt_68_8, jt_73_7, jt_88_12, jt_97_8, pX12_211, pX12_218, pX12_221, pX12_224, pX12_227, e_call, e_callS0, e_callS1, e_callS2, e_callS3, e_callS4, e_pop0, e_pop1, e_tl0, e_tl1, tbX12_witnesses_f, tbX12_witnesses_p, tbX12_witnesses_k, tbX12_witnesses_c214, cv_245_0, cv_245_1, cv_245_2, cv_245_3, cv_245_4, g_245_34, p_245_36, g_245_33, l_255, g_245_7, g_245_36, p_245_32, p_245_33, g_245_35, l_251, p_245_35, g_245_32, p_245_34, g_245_12, g_245_15, l_250, g_245_8]
  simp (disch := decide) only [stV_f, stV_v, stV_a, stV_up]
  unfold m1 at h0
  repeat' (with_reducible first | intro _ | refine And.intro ?_ ?_)
  all_goals first
    | (rw [if_pos (Or.inl (by assumption))] at h0; exact h0)
    | (rw [if_pos (Or.inr (by omega))] at h0; exact h0)
    | (rw [if_neg (by omega)] at h0; exact h0)
    | skip
set_option maxRecDepth 20000 in
set_option maxHeartbeats 4000000 in
theorem sgW33 (l : Launch) (Q : Option aV → aS → Prop) (S : aS) (v : Nat → Int) (a al f g : Int) (i : Nat) (h0 : aGo l mX12_witnesses Q 83 [(0, .inr (.inr 245)), (1, .inl a), (2, .inl al), (3, .inl (i : Int)), (4, .inl f), (5, .inl g)] [] (stV S (fu v 33 (m1 (v 32) (v 33) f)))) : aGo l mX12_witnesses Q 54 [(0, .inr (.inr 245)), (1, .inl a), (2, .inl al), (3, .inl (i : Int)), (4, .inl f), (5, .inl g)] [] (stV S v) := by
  refine wp_go (tbX12_witnesses_ok l) (fun pc => pc == 83) 95 dX12_witnesses_54 ?_
  show ws1 tbX12_witnesses 6 none Q (wp cX12_witnesses tbX12_witnesses 6 none Q (fun pc => pc == 83) (aGo l mX12_witnesses Q) 95) (.aload_n 0) 1 54 [(0, .inr (.inr 245)), (1, .inl a), (2, .inl al), (3, .inl (i : Int)), (4, .inl f), (5, .inl g)] [] (stV S v)
  simp only [wp_s, wpC_f, wpC_t, e_wLd, e_wLd0, e_wLd1, e_wLd2, e_get1, e_get2, e_wJ, e_wJo, f40, f41, f42, f43, Nat.reduceAdd, Nat.reduceBEq, Nat.reduceMul, eq_self, true_or, or_true, true_and, dX12_witnesses_0, dX12_witnesses_1, dX12_witnesses_2, dX12_witnesses_5, dX12_witnesses_6, dX12_witnesses_7, dX12_witnesses_8, dX12_witnesses_9, dX12_witnesses_12, dX12_witnesses_15, dX12_witnesses_16, dX12_witnesses_17, dX12_witnesses_18, dX12_witnesses_19, dX12_witnesses_22, dX12_witnesses_25, dX12_witnesses_28, dX12_witnesses_29, dX12_witnesses_32, dX12_witnesses_33, dX12_witnesses_36, dX12_witnesses_37, dX12_witnesses_38, dX12_witnesses_39, dX12_witnesses_41, dX12_witnesses_42, dX12_witnesses_45, dX12_witnesses_46, dX12_witnesses_49, dX12_witnesses_50, dX12_witnesses_51, dX12_witnesses_52, dX12_witnesses_54, dX12_witnesses_55, dX12_witnesses_56, dX12_witnesses_59, dX12_witnesses_62, dX12_witnesses_64, dX12_witnesses_65, dX12_witnesses_68, dX12_witnesses_71, dX12_witnesses_73, dX12_witnesses_76, dX12_witnesses_77, dX12_witnesses_80, dX12_witnesses_83, dX12_witnesses_84, dX12_witnesses_85, dX12_witnesses_88, dX12_witnesses_91, dX12_witnesses_93, dX12_witnesses_94, dX12_witnesses_97, dX12_witnesses_100, dX12_witnesses_102, dX12_witnesses_105, dX12_witnesses_106, dX12_witnesses_109, dX12_witnesses_112, dX12_witnesses_113, dX12_witnesses_114, dX12_witnesses_117, dX12_witnesses_120, dX12_witnesses_122, dX12_witnesses_123, dX12_witnesses_126, dX12_witnesses_129, dX12_witnesses_131, dX12_witnesses_134, dX12_witnesses_135, dX12_witnesses_138, dX12_witnesses_141, dX12_witnesses_142, dX12_witnesses_143, dX12_witnesses_146, dX12_witnesses_149, dX12_witnesses_151, dX12_witnesses_152, dX12_witnesses_155, dX12_witnesses_158, dX12_witnesses_160, dX12_witnesses_163, dX12_witnesses_164, dX12_witnesses_167, dX12_witnesses_170, dX12_witnesses_171, dX12_witnesses_172, dX12_witnesses_175, dX12_witnesses_176, dX12_witnesses_177, dX12_witnesses_180, dX12_witnesses_183, dX12_witnesses_186, e_aload_n, e_iload_n, e_iload, e_istore_n, e_istore, e_iconst, e_iadd, e_iinc, e_ifCond, e_if_icmp, e_goto, e_getfield, e_putfield, e_iaload, e_invokevirtual, e_return_, e_wSt0, e_wSt1, e_wSt2, e_isL0, e_isL1, e_isL2, e_lset, e_lclr0, e_lclr1, e_lclr2, e_lput0, e_lput1, e_lput2, e_wInc, e_wInc0, Nat.reduceLT, not_false_eq_true, Bool.or_false, Bool.false_or, Bool.or_true, Bool.true_or, Bool.and_false, Bool.false_and, Bool.and_true, Bool.true_and, e_wI2, e_rv, e_wIc_ge, e_wIc_le, e_wIf_eq, e_wIf_ne, fX12_132, fX12_211, fX12_218, fX12_221, fX12_224, fX12_227, fX12_23, fX12_26, fX12_39, ic_0, ic_1, jt_102_7, jt_117_12, jt_126_8, jt_12_174, jt_131_7, jt_146_12, jt_155_8, jt_160_7, jt_183_m176, jt_22_6, jt_25_155, jt_59_12, jt_68_8, jt_73_7, jt_88_12, jt_97_8, pX12_211, pX12_218, pX12_221, pX12_224, pX12_227, e_call, e_callS0, e_callS1, e_callS2, e_callS3, e_callS4, e_pop0, e_pop1, e_tl0, e_tl1, tbX12_witnesses_f, tbX12_witnesses_p, tbX12_witnesses_k, tbX12_witnesses_c214, cv_245_0, cv_245_1, cv_245_2, cv_245_3, cv_245_4, g_245_34, p_245_36, g_245_33, l_255, g_245_7, g_245_36, p_245_32, p_245_33, g_245_35, l_251, p_245_35, g_245_32, p_245_34, g_245_12, g_245_15, l_250, g_245_8]
  simp (disch := decide) only [stV_f, stV_v, stV_a, stV_up]
  unfold m1 at h0
  repeat' (with_reducible first | intro _ | refine And.intro ?_ ?_)
  all_goals first
    | (rw [if_pos (Or.inl (by assumption))] at h0; exact h0)
    | (rw [if_pos (Or.inr (by omega))] at h0; exact h0)
    | (rw [if_neg (by omega)] at h0; exact h0)
    | skip
set_option maxRecDepth 20000 in
set_option maxHeartbeats 4000000 in
theorem sgW32 (l : Launch) (Q : Option aV → aS → Prop) (S : aS) (v : Nat → Int) (a al f g : Int) (i : Nat) (h0 : aGo l mX12_witnesses Q 7 [(0, .inr (.inr 245)), (1, .inl a), (2, .inl al), (3, .inl ((i : Int) + 1))] [] (stV S (fu v 32 (v 32 + 1)))) (h1 : 0 ≤ v 32 ∧ v 32 ≤ 120) (h2 : i < 120) : aGo l mX12_witnesses Q 170 [(0, .inr (.inr 245)), (1, .inl a), (2, .inl al), (3, .inl (i : Int)), (4, .inl f), (5, .inl g)] [] (stV S v) := by
  refine wp_go (tbX12_witnesses_ok l) (fun pc => pc == 7) 95 dX12_witnesses_170 ?_
  show ws1 tbX12_witnesses 6 none Q (wp cX12_witnesses tbX12_witnesses 6 none Q (fun pc => pc == 7) (aGo l mX12_witnesses Q) 95) (.aload_n 0) 1 170 [(0, .inr (.inr 245)), (1, .inl a), (2, .inl al), (3, .inl (i : Int)), (4, .inl f), (5, .inl g)] [] (stV S v)
  simp only [wp_s, wpC_f, wpC_t, e_wLd, e_wLd0, e_wLd1, e_wLd2, e_get1, e_get2, e_wJ, e_wJo, f40, f41, f42, f43, Nat.reduceAdd, Nat.reduceBEq, Nat.reduceMul, eq_self, true_or, or_true, true_and, dX12_witnesses_0, dX12_witnesses_1, dX12_witnesses_2, dX12_witnesses_5, dX12_witnesses_6, dX12_witnesses_7, dX12_witnesses_8, dX12_witnesses_9, dX12_witnesses_12, dX12_witnesses_15, dX12_witnesses_16, dX12_witnesses_17, dX12_witnesses_18, dX12_witnesses_19, dX12_witnesses_22, dX12_witnesses_25, dX12_witnesses_28, dX12_witnesses_29, dX12_witnesses_32, dX12_witnesses_33, dX12_witnesses_36, dX12_witnesses_37, dX12_witnesses_38, dX12_witnesses_39, dX12_witnesses_41, dX12_witnesses_42, dX12_witnesses_45, dX12_witnesses_46, dX12_witnesses_49, dX12_witnesses_50, dX12_witnesses_51, dX12_witnesses_52, dX12_witnesses_54, dX12_witnesses_55, dX12_witnesses_56, dX12_witnesses_59, dX12_witnesses_62, dX12_witnesses_64, dX12_witnesses_65, dX12_witnesses_68, dX12_witnesses_71, dX12_witnesses_73, dX12_witnesses_76, dX12_witnesses_77, dX12_witnesses_80, dX12_witnesses_83, dX12_witnesses_84, dX12_witnesses_85, dX12_witnesses_88, dX12_witnesses_91, dX12_witnesses_93, dX12_witnesses_94, dX12_witnesses_97, dX12_witnesses_100, dX12_witnesses_102, dX12_witnesses_105, dX12_witnesses_106, dX12_witnesses_109, dX12_witnesses_112, dX12_witnesses_113, dX12_witnesses_114, dX12_witnesses_117, dX12_witnesses_120, dX12_witnesses_122, dX12_witnesses_123, dX12_witnesses_126, dX12_witnesses_129, dX12_witnesses_131, dX12_witnesses_134, dX12_witnesses_135, dX12_witnesses_138, dX12_witnesses_141, dX12_witnesses_142, dX12_witnesses_143, dX12_witnesses_146, dX12_witnesses_149, dX12_witnesses_151, dX12_witnesses_152, dX12_witnesses_155, dX12_witnesses_158, dX12_witnesses_160, dX12_witnesses_163, dX12_witnesses_164, dX12_witnesses_167, dX12_witnesses_170, dX12_witnesses_171, dX12_witnesses_172, dX12_witnesses_175, dX12_witnesses_176, dX12_witnesses_177, dX12_witnesses_180, dX12_witnesses_183, dX12_witnesses_186, e_aload_n, e_iload_n, e_iload, e_istore_n, e_istore, e_iconst, e_iadd, e_iinc, e_ifCond, e_if_icmp, e_goto, e_getfield, e_putfield, e_iaload, e_invokevirtual, e_return_, e_wSt0, e_wSt1, e_wSt2, e_isL0, e_isL1, e_isL2, e_lset, e_lclr0, e_lclr1, e_lclr2, e_lput0, e_lput1, e_lput2, e_wInc, e_wInc0, Nat.reduceLT, not_false_eq_true, Bool.or_false, Bool.false_or, Bool.or_true, Bool.true_or, Bool.and_false, Bool.false_and, Bool.and_true, Bool.true_and, e_wI2, e_rv, e_wIc_ge, e_wIc_le, e_wIf_eq, e_wIf_ne, fX12_132, fX12_211, fX12_218, fX12_221, fX12_224, fX12_227, fX12_23, fX12_26, fX12_39, ic_0, ic_1, jt_102_7, jt_117_12, jt_126_8, jt_12_174, jt_131_7, jt_146_12, jt_155_8, jt_160_7, jt_183_m176, jt_22_6, jt_25_155, jt_59_12, jt_68_8, jt_73_7, jt_88_12, jt_97_8, pX12_211, pX12_218, pX12_221, pX12_224, pX12_227, e_call, e_callS0, e_callS1, e_callS2, e_callS3, e_callS4, e_pop0, e_pop1, e_tl0, e_tl1, tbX12_witnesses_f, tbX12_witnesses_p, tbX12_witnesses_k, tbX12_witnesses_c214, cv_245_0, cv_245_1, cv_245_2, cv_245_3, cv_245_4, g_245_34, p_245_36, g_245_33, l_255, g_245_7, g_245_36, p_245_32, p_245_33, g_245_35, l_251, p_245_35, g_245_32, p_245_34, g_245_12, g_245_15, l_250, g_245_8]
  simp (disch := decide) only [stV_f, stV_v, stV_a, stV_up]
  simp (disch := omega) only [wI_id]
  exact aGo_sub h0 (fun q hq => List.mem_append_left ([(4, Sum.inl f), (5, Sum.inl g)] : aL) hq)
set_option maxRecDepth 20000 in
set_option maxHeartbeats 4000000 in
theorem lpX12_witnesses (l : Launch) (Q : Option aV → aS → Prop) : ∀ (n : Nat) (S : aS) (a al : Int) (v : Nat → Int) (i : Nat), i + n = (S.1 245 12).toNat → wok S → ¬ a = -1 → (al = 0 ∨ al = 1) → wvP S a al i v → (∀ v, wvP S a al (S.1 245 12).toNat v → Q none (stV S v)) → aGo l mX12_witnesses Q 7 [(0, .inr (.inr 245)), (1, .inl a), (2, .inl al), (3, .inl (i : Int))] [] (stV S v) := by
  intro n
  induction n using Nat.strongRecOn with
  | _ n ih =>
  intro S  a al  v  i  h0 h1 h2 h3 h4 h5
  refine wp_go (tbX12_witnesses_ok l) (fun pc => pc == 7 || pc == 54) 95 dX12_witnesses_7 ?_
  show ws1 tbX12_witnesses 6 none Q (wp cX12_witnesses tbX12_witnesses 6 none Q (fun pc => pc == 7 || pc == 54) (aGo l mX12_witnesses Q) 95) (.iload_n 3) 1 7 [(0, .inr (.inr 245)), (1, .inl a), (2, .inl al), (3, .inl (i : Int))] [] (stV S v)
  simp only [wp_s, wpC_f, wpC_t, e_wLd, e_wLd0, e_wLd1, e_wLd2, e_get1, e_get2, e_wJ, e_wJo, f40, f41, f42, f43, Nat.reduceAdd, Nat.reduceBEq, Nat.reduceMul, eq_self, true_or, or_true, true_and, dX12_witnesses_0, dX12_witnesses_1, dX12_witnesses_2, dX12_witnesses_5, dX12_witnesses_6, dX12_witnesses_7, dX12_witnesses_8, dX12_witnesses_9, dX12_witnesses_12, dX12_witnesses_15, dX12_witnesses_16, dX12_witnesses_17, dX12_witnesses_18, dX12_witnesses_19, dX12_witnesses_22, dX12_witnesses_25, dX12_witnesses_28, dX12_witnesses_29, dX12_witnesses_32, dX12_witnesses_33, dX12_witnesses_36, dX12_witnesses_37, dX12_witnesses_38, dX12_witnesses_39, dX12_witnesses_41, dX12_witnesses_42, dX12_witnesses_45, dX12_witnesses_46, dX12_witnesses_49, dX12_witnesses_50, dX12_witnesses_51, dX12_witnesses_52, dX12_witnesses_54, dX12_witnesses_55, dX12_witnesses_56, dX12_witnesses_59, dX12_witnesses_62, dX12_witnesses_64, dX12_witnesses_65, dX12_witnesses_68, dX12_witnesses_71, dX12_witnesses_73, dX12_witnesses_76, dX12_witnesses_77, dX12_witnesses_80, dX12_witnesses_83, dX12_witnesses_84, dX12_witnesses_85, dX12_witnesses_88, dX12_witnesses_91, dX12_witnesses_93, dX12_witnesses_94, dX12_witnesses_97, dX12_witnesses_100, dX12_witnesses_102, dX12_witnesses_105, dX12_witnesses_106, dX12_witnesses_109, dX12_witnesses_112, dX12_witnesses_113, dX12_witnesses_114, dX12_witnesses_117, dX12_witnesses_120, dX12_witnesses_122, dX12_witnesses_123, dX12_witnesses_126, dX12_witnesses_129, dX12_witnesses_131, dX12_witnesses_134, dX12_witnesses_135, dX12_witnesses_138, dX12_witnesses_141, dX12_witnesses_142, dX12_witnesses_143, dX12_witnesses_146, dX12_witnesses_149, dX12_witnesses_151, dX12_witnesses_152, dX12_witnesses_155, dX12_witnesses_158, dX12_witnesses_160, dX12_witnesses_163, dX12_witnesses_164, dX12_witnesses_167, dX12_witnesses_170, dX12_witnesses_171, dX12_witnesses_172, dX12_witnesses_175, dX12_witnesses_176, dX12_witnesses_177, dX12_witnesses_180, dX12_witnesses_183, dX12_witnesses_186, e_aload_n, e_iload_n, e_iload, e_istore_n, e_istore, e_iconst, e_iadd, e_iinc, e_ifCond, e_if_icmp, e_goto, e_getfield, e_putfield, e_iaload, e_invokevirtual, e_return_, e_wSt0, e_wSt1, e_wSt2, e_isL0, e_isL1, e_isL2, e_lset, e_lclr0, e_lclr1, e_lclr2, e_lput0, e_lput1, e_lput2, e_wInc, e_wInc0, Nat.reduceLT, not_false_eq_true, Bool.or_false, Bool.false_or, Bool.or_true, Bool.true_or, Bool.and_false, Bool.false_and, Bool.and_true, Bool.true_and, e_wI2, e_rv, e_wIc_ge, e_wIc_le, e_wIf_eq, e_wIf_ne, fX12_132, fX12_211, fX12_218, fX12_221, fX12_224, fX12_227, fX12_23, fX12_26, fX12_39, ic_0, ic_1, jt_102_7, jt_117_12, jt_126_8, jt_12_174, jt_131_7, jt_146_12, jt_155_8, jt_160_7, jt_183_m176, jt_22_6, jt_25_155, jt_59_12, jt_68_8, jt_73_7, jt_88_12, jt_97_8, pX12_211, pX12_218, pX12_221, pX12_224, pX12_227, e_call, e_callS0, e_callS1, e_callS2, e_callS3, e_callS4, e_pop0, e_pop1, e_tl0, e_tl1, tbX12_witnesses_f, tbX12_witnesses_p, tbX12_witnesses_k, tbX12_witnesses_c214, cv_245_0, cv_245_1, cv_245_2, cv_245_3, cv_245_4, g_245_34, p_245_36, g_245_33, l_255, g_245_7, g_245_36, p_245_32, p_245_33, g_245_35, l_251, p_245_35, g_245_32, p_245_34, g_245_12, g_245_15, l_250, g_245_8, stV_f, stV_a, stV_2, stV_v, spX12_isWitness, witP_V, bi_0, bi_1, ne_eq, Classical.not_not, em_r, em_l]
  simp (disch := decide) only [stV_f, stV_a]
  simp (disch := omega) only [wI_id, Int.toNat_natCast]
  have h1' := h1
  obtain ⟨g0, g1⟩ := h1'
  have hb := cnt_b (fun j => cb (witP S a al j)) i
  have hv := h4.1
  refine ⟨fun q => ?_, fun q => ?_⟩
  · obtain rfl : i = (S.1 245 12).toNat := by omega
    exact h5 v h4
  · obtain ⟨k1, k2, k3, k4⟩ := g1 i (by omega)
    have k2' := k2
    have k3' := k3
    unfold fF at k2'
    unfold fL at k3'
    refine ⟨⟨by omega, by omega⟩, h2, k4, h3, fun q1 => ⟨by omega, by omega, by omega, by omega, by omega, by omega, by omega, by omega, ?_⟩, fun q1 => ?_⟩
    · refine sgW33 l Q S v a al _ _ i ?_
      refine sgW34 l Q S _ a al _ _ i ?_
      refine sgW35 l Q S _ a al _ _ i ?_
      refine sgW36 l Q S _ a al _ _ i ?_
      refine sgW32 l Q S _ a al _ _ i ?_ (by simp only [fu]; simp; omega) (by omega)
      have e := ih (n - 1) (by omega) S a al (wvS S v i) (i + 1) (by omega) h1 h2 h3 (wvP_yes k2 k3 h4 q1) h5
      refine Eq.mp (congrArg (fun z => aGo l mX12_witnesses Q 7 [(0, .inr (.inr 245)), (1, .inl a), (2, .inl al), (3, .inl ((i : Int) + 1))] [] (stV S z)) ?_) e
      simp only [wvS, fF, fL, fu]
      simp
    · rw [show wI ((i : Int) + 1) = ((i + 1 : Nat) : Int) from wI_id (by omega) (by omega)]
      exact ih (n - 1) (by omega) S a al v (i + 1) (by omega) h1 h2 h3 (wvP_no h4 q1) h5
set_option maxRecDepth 20000 in
set_option maxHeartbeats 4000000 in
theorem okX12_witnesses (l : Launch) : aOK l mX12_witnesses spX12_witnesses := by
  refine aOK_of rfl fun as S Q h => ?_
  unfold spX12_witnesses at h
  split at h
  · rename_i a al
    refine ⟨Nat.le_of_ble_eq_true rfl, wp_ok (tbX12_witnesses_ok l) Q (fun pc => pc == 7) 95 0 _ [] S ?_⟩
    show wp cX12_witnesses tbX12_witnesses 6 none Q (fun pc => pc == 7) (aGo l mX12_witnesses Q) 95 0 [(0, .inr (.inr 245)), (1, .inl a), (2, .inl al)] [] S
    simp only [wp_s, wpC_f, wpC_t, e_wLd, e_wLd0, e_wLd1, e_wLd2, e_get1, e_get2, e_wJ, e_wJo, f40, f41, f42, f43, Nat.reduceAdd, Nat.reduceBEq, Nat.reduceMul, eq_self, true_or, or_true, true_and, dX12_witnesses_0, dX12_witnesses_1, dX12_witnesses_2, dX12_witnesses_5, dX12_witnesses_6, dX12_witnesses_7, dX12_witnesses_8, dX12_witnesses_9, dX12_witnesses_12, dX12_witnesses_15, dX12_witnesses_16, dX12_witnesses_17, dX12_witnesses_18, dX12_witnesses_19, dX12_witnesses_22, dX12_witnesses_25, dX12_witnesses_28, dX12_witnesses_29, dX12_witnesses_32, dX12_witnesses_33, dX12_witnesses_36, dX12_witnesses_37, dX12_witnesses_38, dX12_witnesses_39, dX12_witnesses_41, dX12_witnesses_42, dX12_witnesses_45, dX12_witnesses_46, dX12_witnesses_49, dX12_witnesses_50, dX12_witnesses_51, dX12_witnesses_52, dX12_witnesses_54, dX12_witnesses_55, dX12_witnesses_56, dX12_witnesses_59, dX12_witnesses_62, dX12_witnesses_64, dX12_witnesses_65, dX12_witnesses_68, dX12_witnesses_71, dX12_witnesses_73, dX12_witnesses_76, dX12_witnesses_77, dX12_witnesses_80, dX12_witnesses_83, dX12_witnesses_84, dX12_witnesses_85, dX12_witnesses_88, dX12_witnesses_91, dX12_witnesses_93, dX12_witnesses_94, dX12_witnesses_97, dX12_witnesses_100, dX12_witnesses_102, dX12_witnesses_105, dX12_witnesses_106, dX12_witnesses_109, dX12_witnesses_112, dX12_witnesses_113, dX12_witnesses_114, dX12_witnesses_117, dX12_witnesses_120, dX12_witnesses_122, dX12_witnesses_123, dX12_witnesses_126, dX12_witnesses_129, dX12_witnesses_131, dX12_witnesses_134, dX12_witnesses_135, dX12_witnesses_138, dX12_witnesses_141, dX12_witnesses_142, dX12_witnesses_143, dX12_witnesses_146, dX12_witnesses_149, dX12_witnesses_151, dX12_witnesses_152, dX12_witnesses_155, dX12_witnesses_158, dX12_witnesses_160, dX12_witnesses_163, dX12_witnesses_164, dX12_witnesses_167, dX12_witnesses_170, dX12_witnesses_171, dX12_witnesses_172, dX12_witnesses_175, dX12_witnesses_176, dX12_witnesses_177, dX12_witnesses_180, dX12_witnesses_183, dX12_witnesses_186, e_aload_n, e_iload_n, e_iload, e_istore_n, e_istore, e_iconst, e_iadd, e_iinc, e_ifCond, e_if_icmp, e_goto, e_getfield, e_putfield, e_iaload, e_invokevirtual, e_return_, e_wSt0, e_wSt1, e_wSt2, e_isL0, e_isL1, e_isL2, e_lset, e_lclr0, e_lclr1, e_lclr2, e_lput0, e_lput1, e_lput2, e_wInc, e_wInc0, Nat.reduceLT, not_false_eq_true, Bool.or_false, Bool.false_or, Bool.or_true, Bool.true_or, Bool.and_false, Bool.false_and, Bool.and_true, Bool.true_and, e_wI2, e_rv, e_wIc_ge, e_wIc_le, e_wIf_eq, e_wIf_ne, fX12_132, fX12_211, fX12_218, fX12_221, fX12_224, fX12_227, fX12_23, fX12_26, fX12_39, ic_0, ic_1, jt_102_7, jt_117_12, jt_126_8, jt_12_174, jt_131_7, jt_146_12, jt_155_8, jt_160_7, jt_183_m176, jt_22_6, jt_25_155, jt_59_12, jt_68_8, jt_73_7, jt_88_12, jt_97_8, pX12_211, pX12_218, pX12_221, pX12_224, pX12_227, e_call, e_callS0, e_callS1, e_callS2, e_callS3, e_callS4, e_pop0, e_pop1, e_tl0, e_tl1, tbX12_witnesses_f, tbX12_witnesses_p, tbX12_witnesses_k, tbX12_witnesses_c214, cv_245_0, cv_245_1, cv_245_2, cv_245_3, cv_245_4, g_245_34, p_245_36, g_245_33, l_255, g_245_7, g_245_36, p_245_32, p_245_33, g_245_35, l_251, p_245_35, g_245_32, p_245_34, g_245_12, g_245_15, l_250, g_245_8, stV_f, stV_a, stV_2, stV_v, spX12_isWitness, witP_V, bi_0, bi_1, ne_eq, Classical.not_not, em_r, em_l]
    obtain ⟨h0, h1, h2, h3⟩ := h
    have e := lpX12_witnesses l Q (S.1 245 12).toNat S a al (fu (S.1 245) 32 0) 0 (Nat.zero_add _) h0 h1 h2 ⟨by simp [fu, cnt], fun q => absurd q (by simp [fu])⟩ h3
    rw [← stV_up (by decide), stV_S] at e
    exact e
  · exact h.elim
