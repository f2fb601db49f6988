/-! THE REFERENCE: tightens -/
def Fe (S : aS) (F L : Nat → Int) : Prop := (∀ b : Nat, (b : Int) < S.1 245 3 → S.1 248 b ≤ F b ∧ F b ≤ L b ∧ L b ≤ S.1 249 b) ∧ ∀ k : Nat, (k : Int) < S.1 245 4 → F (S.1 252 k).toNat < F (S.1 253 k).toNat ∧ L (S.1 252 k).toNat < L (S.1 253 k).toNat
def FeL (S : aS) (f l : Nat → Int) : Prop := Fe S f l ∧ ∀ F L, Fe S F L → ∀ b : Nat, (b : Int) < S.1 245 3 → f b ≤ F b ∧ L b ≤ l b
def tgS (S : aS) : Prop := (0 ≤ S.1 245 3 ∧ S.1 245 3 ≤ 30) ∧ (0 ≤ S.1 245 4 ∧ S.1 245 4 ≤ 60) ∧ (∀ k : Nat, (k : Int) < S.1 245 4 → (0 ≤ S.1 252 k ∧ S.1 252 k < S.1 245 3) ∧ (0 ≤ S.1 253 k ∧ S.1 253 k < S.1 245 3)) ∧ ∀ b : Nat, (b : Int) < S.1 245 3 → 1 ≤ S.1 248 b ∧ S.1 248 b ≤ S.1 249 b ∧ S.1 249 b ≤ 2000
def st2 (S : aS) (f l : Nat → Int) : aS := stA (stA S 250 f) 251 l
def tgI (S : aS) (f l : Nat → Int) : Prop := (∀ b : Nat, (b : Int) < S.1 245 3 → S.1 248 b ≤ f b ∧ f b ≤ l b ∧ l b ≤ S.1 249 b) ∧ ∀ F L, Fe S F L → ∀ b : Nat, (b : Int) < S.1 245 3 → f b ≤ F b ∧ L b ≤ l b
def sm (g : Nat → Int) : Nat → Int
  | 0 => 0
  | n + 1 => sm g n + g n
theorem sm_o {g : Nat → Int} {b : Nat} {v : Int} : ∀ {n : Nat}, n ≤ b → sm (fu g b v) n = sm g n
  | 0, _ => rfl
  | n + 1, h => by
    unfold sm
    rw [sm_o (by omega)]
    simp only [fu]
    rw [if_neg (by omega)]
theorem sm_fu {g : Nat → Int} {b : Nat} {v : Int} : ∀ {n : Nat}, b < n → sm (fu g b v) n = sm g n + (v - g b)
  | 0, h => absurd h (by omega)
  | n + 1, h => by
    unfold sm
    by_cases q : b = n
    · subst q
      rw [sm_o (Nat.le_refl _)]
      simp only [fu, if_true]
      omega
    · rw [sm_fu (by omega)]
      simp only [fu]
      rw [if_neg (by omega)]
      omega
theorem sm_le {g h : Nat → Int} : ∀ {n : Nat}, (∀ b, b < n → g b ≤ h b) → sm g n ≤ sm h n
  | 0, _ => Int.le_refl _
  | n + 1, q => by
    unfold sm
    have := sm_le (fun b hb => q b (by omega)) (n := n)
    have := q n (by omega)
    omega
def sg (S : aS) (f l : Nat → Int) : Int := sm l (S.1 245 3).toNat - sm f (S.1 245 3).toNat
def tf1 (a b : Nat) (f : Nat → Int) : Nat → Int := if f b ≤ f a then fu f b (f a + 1) else f
def tl1 (a b : Nat) (l : Nat → Int) : Nat → Int := if l b ≤ l a then fu l a (l b - 1) else l
section TG
variable {S : aS} {f l : Nat → Int}
theorem s2_f : (st2 S f l).1 250 = f := rfl
theorem s2_l : (st2 S f l).1 251 = l := rfl
theorem s2_2 : (st2 S f l).2 = S.2 := rfl
theorem s2_o {a : Nat} (h : ¬ a = 250) (h2 : ¬ a = 251) : (st2 S f l).1 a = S.1 a := by
  funext b
  show (if a = 251 then _ else if a = 250 then _ else _) = _
  rw [if_neg h2, if_neg h]
theorem s2_uf {i : Nat} {x : Int} : upI (st2 S f l) 250 i x = st2 S (fu f i x) l := by
  refine st_ext (fun a b => ?_) (fun a b => rfl)
  simp only [upI, up2, st2, stA, fu]
  by_cases h : a = 250
  · subst h; simp
  · simp [h]
theorem s2_ul {i : Nat} {x : Int} : upI (st2 S f l) 251 i x = st2 S f (fu l i x) := by
  refine st_ext (fun a b => ?_) (fun a b => rfl)
  simp only [upI, up2, st2, stA, fu]
  by_cases h : a = 251
  · subst h; simp
  · simp [h]
theorem s2_S : st2 S (S.1 250) (S.1 251) = S := by
  refine st_ext (fun a b => ?_) (fun a b => rfl)
  simp only [st2, stA]
  by_cases h : a = 251
  · subst h; simp
  · by_cases h2 : a = 250
    · subst h2; simp
    · simp [h, h2]
theorem tg_step {a b : Nat} (hI : tgI S f l) (ha : (a : Int) < S.1 245 3) (hb : (b : Int) < S.1 245 3) (hk : ∀ F L, Fe S F L → F a < F b ∧ L a < L b) :
    ((tf1 a b f a ≤ tl1 a b l a ∧ tf1 a b f b ≤ tl1 a b l b) → tgI S (tf1 a b f) (tl1 a b l)) ∧ (¬ (tf1 a b f a ≤ tl1 a b l a ∧ tf1 a b f b ≤ tl1 a b l b) → ¬ ∃ F L, Fe S F L) ∧ (sg S (tf1 a b f) (tl1 a b l) < sg S f l ∨ (tf1 a b f = f ∧ tl1 a b l = l ∧ f a < f b ∧ l a < l b)) := by
  obtain ⟨h1, h2⟩ := hI
  have low : ∀ F L, Fe S F L → ∀ c : Nat, (c : Int) < S.1 245 3 → tf1 a b f c ≤ F c ∧ L c ≤ tl1 a b l c := by
    intro F L hF c hc
    have q := h2 F L hF c hc
    have qa := h2 F L hF a ha
    have qb := h2 F L hF b hb
    have qk := hk F L hF
    constructor
    · unfold tf1
      split
      · simp only [fu]
        split
        · rename_i e; rw [e]; omega
        · exact q.1
      · exact q.1
    · unfold tl1
      split
      · simp only [fu]
        split
        · rename_i e; rw [e]; omega
        · exact q.2
      · exact q.2
  refine ⟨fun hc => ⟨fun c hc' => ?_, low⟩, fun hc => ?_, ?_⟩
  · have q := h1 c hc'
    have qa := h1 a ha
    have qb := h1 b hb
    have e1 : S.1 248 c ≤ tf1 a b f c := by
      unfold tf1
      split
      · simp only [fu]
        split
        · rename_i e; subst e; omega
        · exact q.1
      · exact q.1
    have e2 : tl1 a b l c ≤ S.1 249 c := by
      unfold tl1
      split
      · simp only [fu]
        split
        · rename_i e; subst e; omega
        · exact q.2.2
      · exact q.2.2
    refine ⟨e1, ?_, e2⟩
    by_cases ca : c = a
    · subst ca; exact hc.1
    · by_cases cc : c = b
      · subst cc; exact hc.2
      · have f1 : tf1 a b f c = f c := by
          unfold tf1
          split
          · simp only [fu]; rw [if_neg cc]
          · rfl
        have f2 : tl1 a b l c = l c := by
          unfold tl1
          split
          · simp only [fu]; rw [if_neg ca]
          · rfl
        rw [f1, f2]; exact q.2.1
  · rintro ⟨F, L, hF⟩
    have qa := low F L hF a ha
    have qb := low F L hF b hb
    have ra := hF.1 a ha
    have rb := hF.1 b hb
    exact hc ⟨by omega, by omega⟩
  · by_cases c1 : f b ≤ f a
    · left
      have e1 : tf1 a b f = fu f b (f a + 1) := if_pos c1
      have s1 : sm (tf1 a b f) (S.1 245 3).toNat = sm f (S.1 245 3).toNat + (f a + 1 - f b) := by rw [e1]; exact sm_fu (by omega)
      have s2 : sm (tl1 a b l) (S.1 245 3).toNat ≤ sm l (S.1 245 3).toNat := by
        unfold tl1
        split
        · rw [sm_fu (by omega)]; omega
        · exact Int.le_refl _
      unfold sg
      omega
    · by_cases c2 : l b ≤ l a
      · left
        have e1 : tf1 a b f = f := if_neg c1
        have e2 : tl1 a b l = fu l a (l b - 1) := if_pos c2
        unfold sg
        rw [e1, e2, sm_fu (by omega)]
        omega
      · exact Or.inr ⟨if_neg c1, if_neg c2, by omega, by omega⟩
end TG
def cns (S : aS) (f l : Nat → Int) (j : Nat) : Prop := f (S.1 252 j).toNat < f (S.1 253 j).toNat ∧ l (S.1 252 j).toNat < l (S.1 253 j).toNat
def spX12_tightens : aSp := fun as S Q => match as with
  | [.inr (.inr 245)] => tgS S ∧ (∀ f l, FeL S f l → Q (some (.inl 1)) (st2 S f l)) ∧ ((¬ ∃ F L, Fe S F L) → ∀ f l, Q (some (.inl 0)) (st2 S f l))
  | _ => False
def tbX12_tightens : aTb := (fX12, pX12, fun j => lk [] j, kX12)
theorem tbX12_tightens_f : tbX12_tightens.1 = fX12 := rfl
theorem tbX12_tightens_p : tbX12_tightens.2.1 = pX12 := rfl
theorem tbX12_tightens_k : tbX12_tightens.2.2.2 = kX12 := rfl
theorem tbX12_tightens_all (l : Launch) : ∀ e ∈ ([] : List (Nat × Option Nat × Nat × aSp)), cOK l mX12_tightens e.1 e.2.1 e.2.2.1 e.2.2.2 ∨ mOK mX12_tightens e.1 e.2.1 e.2.2.1 e.2.2.2 := all_nil
theorem tbX12_tightens_ok (l : Launch) : tOK l mX12_tightens tbX12_tightens := ⟨fX12_ok, pX12_ok, fun _ _ _ _ h => tbX12_tightens_all l _ (lk_mem h), kX12_ok⟩
set_option maxRecDepth 20000 in
set_option maxHeartbeats 4000000 in
theorem lpTg0 (l : Launch) (Q : Option aV → aS → Prop) : ∀ (n : Nat) (S : aS) (f g : Nat → Int) (i : Nat), i + n = (S.1 245 3).toNat → tgS S → (∀ b : Nat, b < i → f b = S.1 248 b ∧ g b = S.1 249 b) → (∀ f g, (∀ b : Nat, (b : Int) < S.1 245 3 → f b = S.1 248 b ∧ g b = S.1 249 b) → aGo l mX12_tightens Q 42 [(0, .inr (.inr 245)), (1, .inl 1)] [] (st2 S f g)) → aGo l mX12_tightens Q 2 [(0, .inr (.inr 245)), (1, .inl (i : Int))] [] (st2 S f g) := by
  intro n
  induction n using Nat.strongRecOn with
  | _ n ih =>
  intro S  f g  i  h0 h1 h2 h3
  refine wp_go (tbX12_tightens_ok l) (fun pc => pc == 2 || pc == 42) 115 dX12_tightens_2 ?_
  show ws1 tbX12_tightens 5 (some .boolean) Q (wp cX12_tightens tbX12_tightens 5 (some .boolean) Q (fun pc => pc == 2 || pc == 42) (aGo l mX12_tightens Q) 115) (.iload_n 1) 1 2 [(0, .inr (.inr 245)), (1, .inl (i : Int))] [] (st2 S f g)
  simp only [wp_s, wpC_f, wpC_t, e_wLd, e_wLd0, e_wLd1, e_wLd2, e_get1, e_get2, e_wJ, e_wJo, f40, f41, f42, f43, Nat.reduceAdd, Nat.reduceBEq, Nat.reduceMul, eq_self, true_or, or_true, true_and, dX12_tightens_0, dX12_tightens_1, dX12_tightens_2, dX12_tightens_3, dX12_tightens_4, dX12_tightens_7, dX12_tightens_10, dX12_tightens_11, dX12_tightens_14, dX12_tightens_15, dX12_tightens_16, dX12_tightens_19, dX12_tightens_20, dX12_tightens_21, dX12_tightens_22, dX12_tightens_23, dX12_tightens_26, dX12_tightens_27, dX12_tightens_28, dX12_tightens_31, dX12_tightens_32, dX12_tightens_33, dX12_tightens_34, dX12_tightens_37, dX12_tightens_40, dX12_tightens_41, dX12_tightens_42, dX12_tightens_43, dX12_tightens_46, dX12_tightens_47, dX12_tightens_48, dX12_tightens_49, dX12_tightens_50, dX12_tightens_51, dX12_tightens_52, dX12_tightens_55, dX12_tightens_58, dX12_tightens_59, dX12_tightens_62, dX12_tightens_63, dX12_tightens_64, dX12_tightens_65, dX12_tightens_66, dX12_tightens_69, dX12_tightens_70, dX12_tightens_71, dX12_tightens_73, dX12_tightens_74, dX12_tightens_77, dX12_tightens_79, dX12_tightens_80, dX12_tightens_81, dX12_tightens_84, dX12_tightens_85, dX12_tightens_86, dX12_tightens_89, dX12_tightens_90, dX12_tightens_93, dX12_tightens_95, dX12_tightens_96, dX12_tightens_99, dX12_tightens_100, dX12_tightens_101, dX12_tightens_102, dX12_tightens_103, dX12_tightens_104, dX12_tightens_105, dX12_tightens_106, dX12_tightens_107, dX12_tightens_110, dX12_tightens_111, dX12_tightens_112, dX12_tightens_113, dX12_tightens_116, dX12_tightens_118, dX12_tightens_119, dX12_tightens_122, dX12_tightens_123, dX12_tightens_126, dX12_tightens_127, dX12_tightens_128, dX12_tightens_131, dX12_tightens_133, dX12_tightens_134, dX12_tightens_135, dX12_tightens_136, dX12_tightens_137, dX12_tightens_138, dX12_tightens_139, dX12_tightens_140, dX12_tightens_143, dX12_tightens_144, dX12_tightens_145, dX12_tightens_146, dX12_tightens_149, dX12_tightens_150, dX12_tightens_151, dX12_tightens_154, dX12_tightens_155, dX12_tightens_158, dX12_tightens_160, dX12_tightens_161, dX12_tightens_162, dX12_tightens_165, dX12_tightens_167, dX12_tightens_168, dX12_tightens_171, dX12_tightens_172, dX12_tightens_173, dX12_tightens_176, dX12_tightens_179, dX12_tightens_182, dX12_tightens_183, e_aload_n, e_iload_n, e_iload, e_istore_n, e_istore, e_iconst, e_iadd, e_isub, e_iinc, e_ifCond, e_if_icmp, e_goto, e_getfield, e_iaload, e_iastore, e_ireturn, e_wSt0, e_wSt1, e_wSt2, e_isL0, e_isL1, e_isL2, e_lset, e_lclr0, e_lclr1, e_lclr2, e_lput0, e_lput1, e_lput2, e_wInc, e_wInc0, Nat.reduceLT, not_false_eq_true, Bool.or_false, Bool.false_or, Bool.or_true, Bool.true_or, Bool.and_false, Bool.false_and, Bool.and_true, Bool.true_and, e_wI2, e_ri, e_rz, e_wIc_ge, e_wIc_gt, e_wIc_le, e_wIc_lt, e_wIf_eq, fX12_111, fX12_122, fX12_16, fX12_20, fX12_23, fX12_26, fX12_29, fX12_32, ic_0, ic_1, jt_119_20, jt_151_20, jt_168_5, jt_176_m126, jt_179_m137, jt_37_m35, jt_43_139, jt_55_124, jt_7_33, jt_86_20, tbX12_tightens_f, tbX12_tightens_p, tbX12_tightens_k, g_245_8, g_245_4, l_251, s_251, l_248, s_248, g_245_7, g_245_10, l_253, s_253, g_245_6, l_250, s_250, g_245_3, g_245_9, g_245_5, l_249, s_249, l_252, s_252]
  have h1' := h1
  obtain ⟨g1, g2, g3, g4⟩ := h1'
  simp (disch := decide) only [s2_f, s2_l, s2_2, s2_o, s2_uf, s2_ul]
  simp (disch := omega) only [wI_id, Int.toNat_natCast]
  refine ⟨fun q => h3 f g (fun b hb => h2 b (by omega)), fun q => ⟨by omega, by omega, by omega, by omega, by omega, by omega, by omega, by omega, ih (n - 1) (by omega) S _ _ (i + 1) (by omega) h1 (fun b hb => ?_) h3⟩⟩
  simp only [fu]
  by_cases e : b = i
  · rw [if_pos e, if_pos e, e]; exact ⟨rfl, rfl⟩
  · rw [if_neg e, if_neg e]; exact h2 b (by omega)
set_option maxRecDepth 20000 in
set_option maxHeartbeats 4000000 in
theorem lpTg1 (l : Launch) (Q : Option aV → aS → Prop) : ∀ (n : Nat) (S : aS) (f g : Nat → Int) (m N : Int) (k : Nat), k + n = (S.1 245 4).toNat → tgS S → tgI S f g → ((m = 1 ∧ sg S f g < N) ∨ (m = 0 ∧ sg S f g ≤ N ∧ ∀ j : Nat, j < k → cns S f g j)) → ((¬ ∃ F L, Fe S F L) → ∀ f l, Q (some (.inl 0)) (st2 S f l)) → (∀ m f g, tgI S f g → ((m = 1 ∧ sg S f g < N) ∨ (m = 0 ∧ ∀ j : Nat, (j : Int) < S.1 245 4 → cns S f g j)) → aGo l mX12_tightens Q 42 [(0, .inr (.inr 245)), (1, .inl m)] [] (st2 S f g)) → aGo l mX12_tightens Q 50 [(0, .inr (.inr 245)), (1, .inl m), (2, .inl (k : Int))] [] (st2 S f g) := by
  intro n
  induction n using Nat.strongRecOn with
  | _ n ih =>
  intro S  f g  m N  k  h0 h1 h2 h3 h4 h5
  refine wp_go (tbX12_tightens_ok l) (fun pc => pc == 42 || pc == 50) 115 dX12_tightens_50 ?_
  show ws1 tbX12_tightens 5 (some .boolean) Q (wp cX12_tightens tbX12_tightens 5 (some .boolean) Q (fun pc => pc == 42 || pc == 50) (aGo l mX12_tightens Q) 115) (.iload_n 2) 1 50 [(0, .inr (.inr 245)), (1, .inl m), (2, .inl (k : Int))] [] (st2 S f g)
  simp only [wp_s, wpC_f, wpC_t, e_wLd, e_wLd0, e_wLd1, e_wLd2, e_get1, e_get2, e_wJ, e_wJo, f40, f41, f42, f43, Nat.reduceAdd, Nat.reduceBEq, Nat.reduceMul, eq_self, true_or, or_true, true_and, dX12_tightens_0, dX12_tightens_1, dX12_tightens_2, dX12_tightens_3, dX12_tightens_4, dX12_tightens_7, dX12_tightens_10, dX12_tightens_11, dX12_tightens_14, dX12_tightens_15, dX12_tightens_16, dX12_tightens_19, dX12_tightens_20, dX12_tightens_21, dX12_tightens_22, dX12_tightens_23, dX12_tightens_26, dX12_tightens_27, dX12_tightens_28, dX12_tightens_31, dX12_tightens_32, dX12_tightens_33, dX12_tightens_34, dX12_tightens_37, dX12_tightens_40, dX12_tightens_41, dX12_tightens_42, dX12_tightens_43, dX12_tightens_46, dX12_tightens_47, dX12_tightens_48, dX12_tightens_49, dX12_tightens_50, dX12_tightens_51, dX12_tightens_52, dX12_tightens_55, dX12_tightens_58, dX12_tightens_59, dX12_tightens_62, dX12_tightens_63, dX12_tightens_64, dX12_tightens_65, dX12_tightens_66, dX12_tightens_69, dX12_tightens_70, dX12_tightens_71, dX12_tightens_73, dX12_tightens_74, dX12_tightens_77, dX12_tightens_79, dX12_tightens_80, dX12_tightens_81, dX12_tightens_84, dX12_tightens_85, dX12_tightens_86, dX12_tightens_89, dX12_tightens_90, dX12_tightens_93, dX12_tightens_95, dX12_tightens_96, dX12_tightens_99, dX12_tightens_100, dX12_tightens_101, dX12_tightens_102, dX12_tightens_103, dX12_tightens_104, dX12_tightens_105, dX12_tightens_106, dX12_tightens_107, dX12_tightens_110, dX12_tightens_111, dX12_tightens_112, dX12_tightens_113, dX12_tightens_116, dX12_tightens_118, dX12_tightens_119, dX12_tightens_122, dX12_tightens_123, dX12_tightens_126, dX12_tightens_127, dX12_tightens_128, dX12_tightens_131, dX12_tightens_133, dX12_tightens_134, dX12_tightens_135, dX12_tightens_136, dX12_tightens_137, dX12_tightens_138, dX12_tightens_139, dX12_tightens_140, dX12_tightens_143, dX12_tightens_144, dX12_tightens_145, dX12_tightens_146, dX12_tightens_149, dX12_tightens_150, dX12_tightens_151, dX12_tightens_154, dX12_tightens_155, dX12_tightens_158, dX12_tightens_160, dX12_tightens_161, dX12_tightens_162, dX12_tightens_165, dX12_tightens_167, dX12_tightens_168, dX12_tightens_171, dX12_tightens_172, dX12_tightens_173, dX12_tightens_176, dX12_tightens_179, dX12_tightens_182, dX12_tightens_183, e_aload_n, e_iload_n, e_iload, e_istore_n, e_istore, e_iconst, e_iadd, e_isub, e_iinc, e_ifCond, e_if_icmp, e_goto, e_getfield, e_iaload, e_iastore, e_ireturn, e_wSt0, e_wSt1, e_wSt2, e_isL0, e_isL1, e_isL2, e_lset, e_lclr0, e_lclr1, e_lclr2, e_lput0, e_lput1, e_lput2, e_wInc, e_wInc0, Nat.reduceLT, not_false_eq_true, Bool.or_false, Bool.false_or, Bool.or_true, Bool.true_or, Bool.and_false, Bool.false_and, Bool.and_true, Bool.true_and, e_wI2, e_ri, e_rz, e_wIc_ge, e_wIc_gt, e_wIc_le, e_wIc_lt, e_wIf_eq, fX12_111, fX12_122, fX12_16, fX12_20, fX12_23, fX12_26, fX12_29, fX12_32, ic_0, ic_1, jt_119_20, jt_151_20, jt_168_5, jt_176_m126, jt_179_m137, jt_37_m35, jt_43_139, jt_55_124, jt_7_33, jt_86_20, tbX12_tightens_f, tbX12_tightens_p, tbX12_tightens_k, g_245_8, g_245_4, l_251, s_251, l_248, s_248, g_245_7, g_245_10, l_253, s_253, g_245_6, l_250, s_250, g_245_3, g_245_9, g_245_5, l_249, s_249, l_252, s_252]
  have h1' := h1
  obtain ⟨g1, g2, g3, g4⟩ := h1'
  simp (disch := decide) only [s2_f, s2_l, s2_2, s2_o, s2_uf, s2_ul]
  simp (disch := omega) only [wI_id, Int.toNat_natCast]
  refine ⟨fun q => ?_, fun q => ?_⟩
  · refine aGo_sub (h5 m f g h2 (h3.imp id fun z => ⟨z.1, fun j hj => z.2.2 j (by omega)⟩)) (fun q hq => List.mem_append_left ([(2, Sum.inl _)] : aL) hq)
  · obtain ⟨⟨a1, a2⟩, ⟨b1, b2⟩⟩ := g3 k (by omega)
    have hk : ∀ F L, Fe S F L → F (S.1 252 k).toNat < F (S.1 253 k).toNat ∧ L (S.1 252 k).toNat < L (S.1 253 k).toNat := fun F L hF => hF.2 k (by omega)
    obtain ⟨t1, t2, t3⟩ := tg_step h2 (a := (S.1 252 k).toNat) (b := (S.1 253 k).toNat) (by omega) (by omega) hk
    have ra := h2.1 (S.1 252 k).toNat (by omega)
    have rb := h2.1 (S.1 253 k).toNat (by omega)
    have sa := g4 (S.1 252 k).toNat (by omega)
    have sb := g4 (S.1 253 k).toNat (by omega)
    have nx : ∀ m' x y : Int, (tf1 (S.1 252 k).toNat (S.1 253 k).toNat f (S.1 252 k).toNat ≤ tl1 (S.1 252 k).toNat (S.1 253 k).toNat g (S.1 252 k).toNat ∧ tf1 (S.1 252 k).toNat (S.1 253 k).toNat f (S.1 253 k).toNat ≤ tl1 (S.1 252 k).toNat (S.1 253 k).toNat g (S.1 253 k).toNat) → (m' = 1 ∨ (m' = m ∧ tf1 (S.1 252 k).toNat (S.1 253 k).toNat f = f ∧ tl1 (S.1 252 k).toNat (S.1 253 k).toNat g = g)) → (sg S (tf1 (S.1 252 k).toNat (S.1 253 k).toNat f) (tl1 (S.1 252 k).toNat (S.1 253 k).toNat g) < sg S f g ∨ (m' = m ∧ tf1 (S.1 252 k).toNat (S.1 253 k).toNat f = f ∧ tl1 (S.1 252 k).toNat (S.1 253 k).toNat g = g ∧ cns S f g k)) → aGo l mX12_tightens Q 50 [(0, .inr (.inr 245)), (1, .inl m'), (2, .inl ((k : Int) + 1)), (3, .inl x), (4, .inl y)] [] (st2 S (tf1 (S.1 252 k).toNat (S.1 253 k).toNat f) (tl1 (S.1 252 k).toNat (S.1 253 k).toNat g)) := by
      intro m' x y hc hm hs
      refine aGo_sub (ih (n - 1) (by omega) S _ _ m' N (k + 1) (by omega) h1 (t1 hc) ?_ h4 h5) (fun q hq => List.mem_append_left ([(3, Sum.inl x), (4, Sum.inl y)] : aL) hq)
      have hN : sg S f g ≤ N := h3.elim (fun z => by omega) (fun z => z.2.1)
      rcases hs with hs | ⟨hs1, hs2, hs3, hs4⟩
      · rcases hm with hm | ⟨hm, e1, e2⟩
        · exact Or.inl ⟨hm, by omega⟩
        · rw [e1, e2] at hs; omega
      · rw [hs2, hs3]
        rcases h3 with z | z
        · exact Or.inl ⟨by omega, z.2⟩
        · refine Or.inr ⟨by omega, z.2.1, fun j hj => ?_⟩
          by_cases e : j = k
          · subst e; exact hs4
          · exact z.2.2 j (by omega)
    have fl : (¬ (tf1 (S.1 252 k).toNat (S.1 253 k).toNat f (S.1 252 k).toNat ≤ tl1 (S.1 252 k).toNat (S.1 253 k).toNat g (S.1 252 k).toNat ∧ tf1 (S.1 252 k).toNat (S.1 253 k).toNat f (S.1 253 k).toNat ≤ tl1 (S.1 252 k).toNat (S.1 253 k).toNat g (S.1 253 k).toNat)) → Q (some (.inl 0)) (st2 S (tf1 (S.1 252 k).toNat (S.1 253 k).toNat f) (tl1 (S.1 252 k).toNat (S.1 253 k).toNat g)) := fun z => h4 (t2 z) _ _
    have hcn : f (S.1 252 k).toNat < f (S.1 253 k).toNat → g (S.1 252 k).toNat < g (S.1 253 k).toNat → cns S f g k := fun x y => ⟨x, y⟩
    clear ih h5 h4 h3 t1 t2 hk h2 g3 g4
    have w1 : wI (f (S.1 252 k).toNat + 1) = f (S.1 252 k).toNat + 1 := wI_id (by omega) (by omega)
    have w2 : wI (g (S.1 253 k).toNat - 1) = g (S.1 253 k).toNat - 1 := wI_id (by omega) (by omega)
    simp only [w1, w2]
    clear w1 w2 ra rb sa sb
    by_cases c1 : f (S.1 253 k).toNat ≤ f (S.1 252 k).toNat
    · have e1 : tf1 (S.1 252 k).toNat (S.1 253 k).toNat f = fu f (S.1 253 k).toNat (f (S.1 252 k).toNat + 1) := if_pos c1
      have nn := fun hc => nx 1 (S.1 252 k) (S.1 253 k) hc (Or.inl rfl) (Or.inl (t3.resolve_right (fun z => by omega)))
      clear nx t3 hcn
      by_cases c2 : g (S.1 253 k).toNat ≤ g (S.1 252 k).toNat
      · have e2 : tl1 (S.1 252 k).toNat (S.1 253 k).toNat g = fu g (S.1 252 k).toNat (g (S.1 253 k).toNat - 1) := if_pos c2
        rw [e1, e2] at nn fl
        replace nn := hid nn
        replace fl := hid fl
        repeat' (with_reducible first | intro _ | refine And.intro ?_ ?_)
        all_goals first | omega | exact nn ⟨by omega, by omega⟩ | exact fl (by omega) | skip
      · have e2 : tl1 (S.1 252 k).toNat (S.1 253 k).toNat g = g := if_neg c2
        rw [e1, e2] at nn fl
        replace nn := hid nn
        replace fl := hid fl
        repeat' (with_reducible first | intro _ | refine And.intro ?_ ?_)
        all_goals first | omega | exact nn ⟨by omega, by omega⟩ | exact fl (by omega) | skip
    · have e1 : tf1 (S.1 252 k).toNat (S.1 253 k).toNat f = f := if_neg c1
      by_cases c2 : g (S.1 253 k).toNat ≤ g (S.1 252 k).toNat
      · have e2 : tl1 (S.1 252 k).toNat (S.1 253 k).toNat g = fu g (S.1 252 k).toNat (g (S.1 253 k).toNat - 1) := if_pos c2
        have nn := fun hc => nx 1 (S.1 252 k) (S.1 253 k) hc (Or.inl rfl) (Or.inl (t3.resolve_right (fun z => by omega)))
        clear nx t3 hcn
        rw [e1, e2] at nn fl
        replace nn := hid nn
        replace fl := hid fl
        repeat' (with_reducible first | intro _ | refine And.intro ?_ ?_)
        all_goals first | omega | exact nn ⟨by omega, by omega⟩ | exact fl (by omega) | skip
      · have e2 : tl1 (S.1 252 k).toNat (S.1 253 k).toNat g = g := if_neg c2
        have nn := fun hc => nx m (S.1 252 k) (S.1 253 k) hc (Or.inr ⟨rfl, e1, e2⟩) (Or.inr ⟨rfl, e1, e2, hcn (by omega) (by omega)⟩)
        clear nx t3 hcn
        rw [e1, e2] at nn fl
        replace nn := hid nn
        replace fl := hid fl
        repeat' (with_reducible first | intro _ | refine And.intro ?_ ?_)
        all_goals first | omega | exact nn ⟨by omega, by omega⟩ | exact fl (by omega) | skip
set_option maxRecDepth 20000 in
set_option maxHeartbeats 4000000 in
theorem lpTg2 (l : Launch) (Q : Option aV → aS → Prop) : ∀ (n : Nat) (S : aS) (f g : Nat → Int) (m : Int), tgS S → tgI S f g → ((m = 1 ∧ sg S f g < n) ∨ (m = 0 ∧ ∀ j : Nat, (j : Int) < S.1 245 4 → cns S f g j)) → (∀ f l, FeL S f l → Q (some (.inl 1)) (st2 S f l)) → ((¬ ∃ F L, Fe S F L) → ∀ f l, Q (some (.inl 0)) (st2 S f l)) → aGo l mX12_tightens Q 42 [(0, .inr (.inr 245)), (1, .inl m)] [] (st2 S f g) := by
  intro n
  induction n using Nat.strongRecOn with
  | _ n ih =>
  intro S  f g  m  h0 h1 h2 h3 h4
  refine wp_go (tbX12_tightens_ok l) (fun pc => pc == 42 || pc == 50) 115 dX12_tightens_42 ?_
  show ws1 tbX12_tightens 5 (some .boolean) Q (wp cX12_tightens tbX12_tightens 5 (some .boolean) Q (fun pc => pc == 42 || pc == 50) (aGo l mX12_tightens Q) 115) (.iload_n 1) 1 42 [(0, .inr (.inr 245)), (1, .inl m)] [] (st2 S f g)
  simp only [wp_s, wpC_f, wpC_t, e_wLd, e_wLd0, e_wLd1, e_wLd2, e_get1, e_get2, e_wJ, e_wJo, f40, f41, f42, f43, Nat.reduceAdd, Nat.reduceBEq, Nat.reduceMul, eq_self, true_or, or_true, true_and, dX12_tightens_0, dX12_tightens_1, dX12_tightens_2, dX12_tightens_3, dX12_tightens_4, dX12_tightens_7, dX12_tightens_10, dX12_tightens_11, dX12_tightens_14, dX12_tightens_15, dX12_tightens_16, dX12_tightens_19, dX12_tightens_20, dX12_tightens_21, dX12_tightens_22, dX12_tightens_23, dX12_tightens_26, dX12_tightens_27, dX12_tightens_28, dX12_tightens_31, dX12_tightens_32, dX12_tightens_33, dX12_tightens_34, dX12_tightens_37, dX12_tightens_40, dX12_tightens_41, dX12_tightens_42, dX12_tightens_43, dX12_tightens_46, dX12_tightens_47, dX12_tightens_48, dX12_tightens_49, dX12_tightens_50, dX12_tightens_51, dX12_tightens_52, dX12_tightens_55, dX12_tightens_58, dX12_tightens_59, dX12_tightens_62, dX12_tightens_63, dX12_tightens_64, dX12_tightens_65, dX12_tightens_66, dX12_tightens_69, dX12_tightens_70, dX12_tightens_71, dX12_tightens_73, dX12_tightens_74, dX12_tightens_77, dX12_tightens_79, dX12_tightens_80, dX12_tightens_81, dX12_tightens_84, dX12_tightens_85, dX12_tightens_86, dX12_tightens_89, dX12_tightens_90, dX12_tightens_93, dX12_tightens_95, dX12_tightens_96, dX12_tightens_99, dX12_tightens_100, dX12_tightens_101, dX12_tightens_102, dX12_tightens_103, dX12_tightens_104, dX12_tightens_105, dX12_tightens_106, dX12_tightens_107, dX12_tightens_110, dX12_tightens_111, dX12_tightens_112, dX12_tightens_113, dX12_tightens_116, dX12_tightens_118, dX12_tightens_119, dX12_tightens_122, dX12_tightens_123, dX12_tightens_126, dX12_tightens_127, dX12_tightens_128, dX12_tightens_131, dX12_tightens_133, dX12_tightens_134, dX12_tightens_135, dX12_tightens_136, dX12_tightens_137, dX12_tightens_138, dX12_tightens_139, dX12_tightens_140, dX12_tightens_143, dX12_tightens_144, dX12_tightens_145, dX12_tightens_146, dX12_tightens_149, dX12_tightens_150, dX12_tightens_151, dX12_tightens_154, dX12_tightens_155, dX12_tightens_158, dX12_tightens_160, dX12_tightens_161, dX12_tightens_162, dX12_tightens_165, dX12_tightens_167, dX12_tightens_168, dX12_tightens_171, dX12_tightens_172, dX12_tightens_173, dX12_tightens_176, dX12_tightens_179, dX12_tightens_182, dX12_tightens_183, e_aload_n, e_iload_n, e_iload, e_istore_n, e_istore, e_iconst, e_iadd, e_isub, e_iinc, e_ifCond, e_if_icmp, e_goto, e_getfield, e_iaload, e_iastore, e_ireturn, e_wSt0, e_wSt1, e_wSt2, e_isL0, e_isL1, e_isL2, e_lset, e_lclr0, e_lclr1, e_lclr2, e_lput0, e_lput1, e_lput2, e_wInc, e_wInc0, Nat.reduceLT, not_false_eq_true, Bool.or_false, Bool.false_or, Bool.or_true, Bool.true_or, Bool.and_false, Bool.false_and, Bool.and_true, Bool.true_and, e_wI2, e_ri, e_rz, e_wIc_ge, e_wIc_gt, e_wIc_le, e_wIc_lt, e_wIf_eq, fX12_111, fX12_122, fX12_16, fX12_20, fX12_23, fX12_26, fX12_29, fX12_32, ic_0, ic_1, jt_119_20, jt_151_20, jt_168_5, jt_176_m126, jt_179_m137, jt_37_m35, jt_43_139, jt_55_124, jt_7_33, jt_86_20, tbX12_tightens_f, tbX12_tightens_p, tbX12_tightens_k, g_245_8, g_245_4, l_251, s_251, l_248, s_248, g_245_7, g_245_10, l_253, s_253, g_245_6, l_250, s_250, g_245_3, g_245_9, g_245_5, l_249, s_249, l_252, s_252]
  refine ⟨fun q => ?_, fun q => ?_⟩
  · have hc := (h2.resolve_left (fun z => by omega)).2
    exact h3 f g ⟨⟨h1.1, hc⟩, h1.2⟩
  · have hm := h2.resolve_right (fun z => by omega)
    have hs0 : 0 ≤ sg S f g := by
      have := sm_le (g := f) (h := g) (n := (S.1 245 3).toNat) (fun b hb => (h1.1 b (by omega)).2.1)
      unfold sg
      omega
    have hb := h0.2.1
    refine lpTg1 l Q (S.1 245 4).toNat S f g 0 (sg S f g) 0 (Nat.zero_add _) h0 h1 (Or.inr ⟨rfl, Int.le_refl _, fun j hj => absurd hj (by omega)⟩) h4 (fun m' f' g' hI' hm' => ?_)
    exact ih (n - 1) (by omega) S f' g' m' h0 hI' (hm'.imp (fun z => ⟨z.1, by omega⟩) id) h3 h4
set_option maxRecDepth 20000 in
set_option maxHeartbeats 4000000 in
theorem okX12_tightens (l : Launch) : aOK l mX12_tightens spX12_tightens := by
  refine aOK_of rfl fun as S Q h => ?_
  unfold spX12_tightens at h
  split at h
  · refine ⟨Nat.le_of_ble_eq_true rfl, wp_ok (tbX12_tightens_ok l) Q (fun pc => pc == 2) 115 0 _ [] S ?_⟩
    show wp cX12_tightens tbX12_tightens 5 (some .boolean) Q (fun pc => pc == 2) (aGo l mX12_tightens Q) 115 0 [(0, .inr (.inr 245))] [] S
    simp only [wp_s, wpC_f, wpC_t, e_wLd, e_wLd0, e_wLd1, e_wLd2, e_get1, e_get2, e_wJ, e_wJo, f40, f41, f42, f43, Nat.reduceAdd, Nat.reduceBEq, Nat.reduceMul, eq_self, true_or, or_true, true_and, dX12_tightens_0, dX12_tightens_1, dX12_tightens_2, dX12_tightens_3, dX12_tightens_4, dX12_tightens_7, dX12_tightens_10, dX12_tightens_11, dX12_tightens_14, dX12_tightens_15, dX12_tightens_16, dX12_tightens_19, dX12_tightens_20, dX12_tightens_21, dX12_tightens_22, dX12_tightens_23, dX12_tightens_26, dX12_tightens_27, dX12_tightens_28, dX12_tightens_31, dX12_tightens_32, dX12_tightens_33, dX12_tightens_34, dX12_tightens_37, dX12_tightens_40, dX12_tightens_41, dX12_tightens_42, dX12_tightens_43, dX12_tightens_46, dX12_tightens_47, dX12_tightens_48, dX12_tightens_49, dX12_tightens_50, dX12_tightens_51, dX12_tightens_52, dX12_tightens_55, dX12_tightens_58, dX12_tightens_59, dX12_tightens_62, dX12_tightens_63, dX12_tightens_64, dX12_tightens_65, dX12_tightens_66, dX12_tightens_69, dX12_tightens_70, dX12_tightens_71, dX12_tightens_73, dX12_tightens_74, dX12_tightens_77, dX12_tightens_79, dX12_tightens_80, dX12_tightens_81, dX12_tightens_84, dX12_tightens_85, dX12_tightens_86, dX12_tightens_89, dX12_tightens_90, dX12_tightens_93, dX12_tightens_95, dX12_tightens_96, dX12_tightens_99, dX12_tightens_100, dX12_tightens_101, dX12_tightens_102, dX12_tightens_103, dX12_tightens_104, dX12_tightens_105, dX12_tightens_106, dX12_tightens_107, dX12_tightens_110, dX12_tightens_111, dX12_tightens_112, dX12_tightens_113, dX12_tightens_116, dX12_tightens_118, dX12_tightens_119, dX12_tightens_122, dX12_tightens_123, dX12_tightens_126, dX12_tightens_127, dX12_tightens_128, dX12_tightens_131, dX12_tightens_133, dX12_tightens_134, dX12_tightens_135, dX12_tightens_136, dX12_tightens_137, dX12_tightens_138, dX12_tightens_139, dX12_tightens_140, dX12_tightens_143, dX12_tightens_144, dX12_tightens_145, dX12_tightens_146, dX12_tightens_149, dX12_tightens_150, dX12_tightens_151, dX12_tightens_154, dX12_tightens_155, dX12_tightens_158, dX12_tightens_160, dX12_tightens_161, dX12_tightens_162, dX12_tightens_165, dX12_tightens_167, dX12_tightens_168, dX12_tightens_171, dX12_tightens_172, dX12_tightens_173, dX12_tightens_176, dX12_tightens_179, dX12_tightens_182, dX12_tightens_183, e_aload_n, e_iload_n, e_iload, e_istore_n, e_istore, e_iconst, e_iadd, e_isub, e_iinc, e_ifCond, e_if_icmp, e_goto, e_getfield, e_iaload, e_iastore, e_ireturn, e_wSt0, e_wSt1, e_wSt2, e_isL0, e_isL1, e_isL2, e_lset, e_lclr0, e_lclr1, e_lclr2, e_lput0, e_lput1, e_lput2, e_wInc, e_wInc0, Nat.reduceLT, not_false_eq_true, Bool.or_false, Bool.false_or, Bool.or_true, Bool.true_or, Bool.and_false, Bool.false_and, Bool.and_true, Bool.true_and, e_wI2, e_ri, e_rz, e_wIc_ge, e_wIc_gt, e_wIc_le, e_wIc_lt, e_wIf_eq, fX12_111, fX12_122, fX12_16, fX12_20, fX12_23, fX12_26, fX12_29, fX12_32, ic_0, ic_1, jt_119_20, jt_151_20, jt_168_5, jt_176_m126, jt_179_m137, jt_37_m35, jt_43_139, jt_55_124, jt_7_33, jt_86_20, tbX12_tightens_f, tbX12_tightens_p, tbX12_tightens_k, g_245_8, g_245_4, l_251, s_251, l_248, s_248, g_245_7, g_245_10, l_253, s_253, g_245_6, l_250, s_250, g_245_3, g_245_9, g_245_5, l_249, s_249, l_252, s_252]
    obtain ⟨h0, h1, h2⟩ := h
    have z := lpTg0 l Q (S.1 245 3).toNat S (S.1 250) (S.1 251) 0 (Nat.zero_add _) h0 (fun b hb => absurd hb (by omega)) (fun f g hfg => ?_)
    · rw [s2_S] at z; exact z
    · have hI : tgI S f g := ⟨fun b hb => by
          have := hfg b hb
          have := h0.2.2.2 b hb
          omega, fun F L hF b hb => by
          have := hfg b hb
          have := hF.1 b hb
          omega⟩
      have hs0 : 0 ≤ sg S f g := by
        have := sm_le (g := f) (h := g) (n := (S.1 245 3).toNat) (fun b hb => (hI.1 b (by have := h0.1; omega)).2.1)
        unfold sg
        omega
      exact lpTg2 l Q ((sg S f g).toNat + 1) S f g 1 h0 hI (Or.inl ⟨rfl, by omega⟩) h1 h2
  · exact h.elim
