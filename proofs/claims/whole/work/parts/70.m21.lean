/-! THE REFERENCE: closes, book, before -/
def zz (e : Nat → Int) (a b : Nat) : Prop := ¬ e (30 * a + b) = 0
def inB (S : aS) (a : Nat) : Prop := (a : Int) < S.1 245 3
def clB (S : aS) (R : Nat → Nat → Prop) : Prop := (∀ a b, inB S a → inB S b → zz (S.1 254) a b → R a b) ∧ (∀ k : Nat, (k : Int) < S.1 245 4 → R (S.1 252 k).toNat (S.1 253 k).toNat) ∧ ∀ a m b, inB S a → inB S m → inB S b → R a m → R m b → R a b
def clI (S : aS) (e : Nat → Int) (i m : Nat) : Prop := (∀ j, e j = S.1 254 j ∨ (e j = 1 ∧ ∃ a b : Nat, inB S a ∧ inB S b ∧ j = 30 * a + b)) ∧ (∀ k, k < i → zz e (S.1 252 k).toNat (S.1 253 k).toNat) ∧ (∀ R, clB S R → ∀ a b, inB S a → inB S b → zz e a b → R a b) ∧ ∀ m', m' < m → ∀ a b, inB S a → inB S b → zz e a m' → zz e m' b → zz e a b
def clS (S : aS) (e : Nat → Int) : Prop := clI S e (S.1 245 4).toNat (S.1 245 3).toNat
def clP (S : aS) : Prop := (0 ≤ S.1 245 3 ∧ S.1 245 3 ≤ 30) ∧ (0 ≤ S.1 245 4 ∧ S.1 245 4 ≤ 60) ∧ (∀ k : Nat, (k : Int) < S.1 245 4 → (0 ≤ S.1 252 k ∧ S.1 252 k < S.1 245 3) ∧ (0 ≤ S.1 253 k ∧ S.1 253 k < S.1 245 3))
/-- within stage m, from the array g at its beginning -/
def clJ (S : aS) (g e : Nat → Int) (m a b : Nat) : Prop := (∀ j, e j = g j ∨ (e j = 1 ∧ ∃ a b : Nat, inB S a ∧ inB S b ∧ j = 30 * a + b)) ∧ ∀ x y, inB S x → inB S y → (zz e x y ↔ (zz g x y ∨ ((x < a ∨ (x = a ∧ y < b)) ∧ zz g x m ∧ zz g m y)))
theorem zz_fu {e : Nat → Int} {a b x y : Nat} (hb : b < 30) (hy : y < 30) : zz (fu e (30 * a + b) 1) x y ↔ (zz e x y ∨ (x = a ∧ y = b)) := by
  unfold zz fu
  by_cases q : 30 * x + y = 30 * a + b
  · rw [if_pos q]
    exact ⟨fun _ => Or.inr ⟨by omega, by omega⟩, fun _ => by decide⟩
  · rw [if_neg q]
    exact ⟨Or.inl, fun z => z.elim id (fun z => absurd (by rw [z.1, z.2]) q)⟩
theorem clJ_0 {S : aS} {g : Nat → Int} {m : Nat} : clJ S g g m 0 0 := ⟨fun j => Or.inl rfl, fun x y hx hy => ⟨Or.inl, fun z => z.elim id (fun z => absurd z.1 (by omega))⟩⟩
theorem clJ_row {S : aS} {g e : Nat → Int} {m a b : Nat} (h : clJ S g e m a b) (hb : S.1 245 3 ≤ b) : clJ S g e m (a + 1) 0 := by
  refine ⟨h.1, fun x y hx hy => ?_⟩
  unfold inB at hy
  rw [h.2 x y hx hy]
  constructor
  · exact fun z => z.imp id (fun z => ⟨by omega, z.2⟩)
  · exact fun z => z.imp id (fun z => ⟨by omega, z.2⟩)
/-- the two places that a turn of the stage reads are as at the stage's beginning -/
theorem clJ_am {S : aS} {g e : Nat → Int} {m a b : Nat} (h : clJ S g e m a b) (ha : inB S a) (hm : inB S m) : zz e a m ↔ zz g a m := by
  rw [h.2 a m ha hm]
  exact ⟨fun z => z.elim id (fun z => z.2.1), Or.inl⟩
theorem clJ_mb {S : aS} {g e : Nat → Int} {m a b : Nat} (h : clJ S g e m a b) (hb : inB S b) (hm : inB S m) : zz e m b ↔ zz g m b := by
  rw [h.2 m b hm hb]
  exact ⟨fun z => z.elim id (fun z => z.2.2), Or.inl⟩
theorem clJ_no {S : aS} {g e : Nat → Int} {m a b : Nat} (h : clJ S g e m a b) (hn : ¬ (zz g a m ∧ zz g m b)) : clJ S g e m a (b + 1) := by
  refine ⟨h.1, fun x y hx hy => ?_⟩
  rw [h.2 x y hx hy]
  constructor
  · exact fun z => z.imp id (fun z => ⟨by omega, z.2⟩)
  · refine fun z => z.elim Or.inl (fun z => ?_)
    by_cases q : x = a ∧ y = b
    · obtain ⟨rfl, rfl⟩ := q; exact absurd z.2 hn
    · exact Or.inr ⟨by omega, z.2⟩
theorem clJ_ye {S : aS} {g e : Nat → Int} {m a b : Nat} (hS : S.1 245 3 ≤ 30) (h : clJ S g e m a b) (ha : inB S a) (hb : inB S b) (hy : zz g a m ∧ zz g m b) : clJ S g (fu e (30 * a + b) 1) m a (b + 1) := by
  refine ⟨fun j => ?_, fun x y hx hy' => ?_⟩
  · by_cases q : j = 30 * a + b
    · exact Or.inr ⟨by simp [fu, q], a, b, ha, hb, q⟩
    · have e1 : fu e (30 * a + b) 1 j = e j := if_neg q
      rw [e1]; exact h.1 j
  · have hb' := hb
    have hy2 := hy'
    unfold inB at hb' hy2
    rw [zz_fu (by omega) (by omega), h.2 x y hx hy']
    constructor
    · rintro ((z | z) | ⟨rfl, rfl⟩)
      · exact Or.inl z
      · exact Or.inr ⟨by omega, z.2⟩
      · exact Or.inr ⟨by omega, hy⟩
    · rintro (z | z)
      · exact Or.inl (Or.inl z)
      · by_cases q : x = a ∧ y = b
        · exact Or.inr q
        · exact Or.inl (Or.inr ⟨by omega, z.2⟩)
/-- a whole stage -/
theorem clI_st {S : aS} {g e : Nat → Int} {i m a b : Nat} (hI : clI S g i m) (h : clJ S g e m a b) (ha : S.1 245 3 ≤ a) (hm : inB S m) (hk : ∀ k, k < i → inB S (S.1 252 k).toNat ∧ inB S (S.1 253 k).toNat) : clI S e i (m + 1) := by
  obtain ⟨i1, i2, i3, i4⟩ := hI
  have z1 : ∀ x y, inB S x → inB S y → (zz e x y ↔ (zz g x y ∨ (zz g x m ∧ zz g m y))) := fun x y hx hy => by
    rw [h.2 x y hx hy]
    have hx' := hx
    unfold inB at hx'
    exact ⟨fun z => z.imp id (fun z => z.2), fun z => z.imp id (fun z => ⟨by omega, z⟩)⟩
  refine ⟨fun j => ?_, fun k hk' => ?_, fun R hR x y hx hy hz => ?_, fun m' hm' x y hx hy p q => ?_⟩
  · rcases h.1 j with z | z
    · rw [z]; exact i1 j
    · exact Or.inr z
  · exact (z1 _ _ (hk k hk').1 (hk k hk').2).mpr (Or.inl (i2 k hk'))
  · rcases (z1 x y hx hy).mp hz with z | z
    · exact i3 R hR x y hx hy z
    · exact hR.2.2 x m y hx hm hy (i3 R hR x m hx hm z.1) (i3 R hR m y hm hy z.2)
  · have hb' : inB S m' := by unfold inB at *; omega
    rw [z1 x y hx hy]
    rw [z1 x m' hx hb'] at p
    rw [z1 m' y hb' hy] at q
    by_cases e : m' = m
    · subst e
      have p' : zz g x m' := p.elim id (fun z => z.1)
      have q' : zz g m' y := q.elim id (fun z => z.2)
      exact Or.inr ⟨p', q'⟩
    · have lt : m' < m := by omega
      rcases p with p | p <;> rcases q with q | q
      · exact Or.inl (i4 m' lt x y hx hy p q)
      · exact Or.inr ⟨i4 m' lt x m hx hm p q.1, q.2⟩
      · exact Or.inr ⟨p.1, i4 m' lt m y hm hy p.2 q⟩
      · exact Or.inr ⟨p.1, q.2⟩
section E4
variable {S : aS} {e g : Nat → Int}
theorem e4_o {a : Nat} (h : ¬ a = 254) : (stA S 254 e).1 a = S.1 a := funext fun _ => if_neg h
theorem e4_h : (stA S 254 e).1 254 = e := rfl
theorem e4_up {i : Nat} {x : Int} : upI (stA S 254 e) 254 i x = stA S 254 (fu e i x) := by
  refine st_ext (fun a b => ?_) (fun a b => rfl)
  simp only [stA, upI, up2, fu]
  by_cases ha : a = 254
  · subst ha; simp
  · simp [ha]
theorem e4_S : stA S 254 (S.1 254) = S := by
  refine st_ext (fun a b => ?_) (fun a b => rfl)
  simp only [stA]
  split
  · subst_vars; rfl
  · rfl
end E4
def spX12_closes : aSp := fun as S Q => match as with
  | [.inr (.inr 245)] => clP S ∧ ∀ e, clS S e → Q none (stA S 254 e)
  | _ => False
def tbX12_closes : aTb := (fX12, pX12, fun j => lk [] j, kX12)
theorem tbX12_closes_f : tbX12_closes.1 = fX12 := rfl
theorem tbX12_closes_p : tbX12_closes.2.1 = pX12 := rfl
theorem tbX12_closes_k : tbX12_closes.2.2.2 = kX12 := rfl
theorem tbX12_closes_all (l : Launch) : ∀ e ∈ ([] : List (Nat × Option Nat × Nat × aSp)), cOK l mX12_closes e.1 e.2.1 e.2.2.1 e.2.2.2 ∨ mOK mX12_closes e.1 e.2.1 e.2.2.1 e.2.2.2 := all_nil
theorem tbX12_closes_ok (l : Launch) : tOK l mX12_closes tbX12_closes := ⟨fX12_ok, pX12_ok, fun _ _ _ _ h => tbX12_closes_all l _ (lk_mem h), kX12_ok⟩
set_option maxRecDepth 20000 in
set_option maxHeartbeats 4000000 in
theorem lpE3 (l : Launch) (Q : Option aV → aS → Prop) : ∀ (n : Nat) (S : aS) (g e : Nat → Int) (m a b : Nat), b + n = (S.1 245 3).toNat → clP S → inB S m ∧ inB S a → clJ S g e m a b → (∀ e, clJ S g e m (a + 1) 0 → aGo l mX12_closes Q 50 [(0, .inr (.inr 245)), (1, .inl (m : Int)), (2, .inl ((a : Int) + 1))] [] (stA S 254 e)) → aGo l mX12_closes Q 60 [(0, .inr (.inr 245)), (1, .inl (m : Int)), (2, .inl (a : Int)), (3, .inl (b : Int))] [] (stA S 254 e) := by
  intro n
  induction n using Nat.strongRecOn with
  | _ n ih =>
  intro S  g e  m a b  h0 h1 h2 h3 h4
  refine wp_go (tbX12_closes_ok l) (fun pc => pc == 50 || pc == 60) 77 dX12_closes_60 ?_
  show ws1 tbX12_closes 4 none Q (wp cX12_closes tbX12_closes 4 none Q (fun pc => pc == 50 || pc == 60) (aGo l mX12_closes Q) 77) (.iload_n 3) 1 60 [(0, .inr (.inr 245)), (1, .inl (m : Int)), (2, .inl (a : Int)), (3, .inl (b : Int))] [] (stA S 254 e)
  simp only [wp_s, wpC_f, wpC_t, e_wLd, e_wLd0, e_wLd1, e_wLd2, e_get1, e_get2, e_wJ, e_wJo, f40, f41, f42, f43, Nat.reduceAdd, Nat.reduceBEq, Nat.reduceMul, eq_self, true_or, or_true, true_and, dX12_closes_0, dX12_closes_1, dX12_closes_2, dX12_closes_3, dX12_closes_4, dX12_closes_7, dX12_closes_10, dX12_closes_11, dX12_closes_14, dX12_closes_16, dX12_closes_17, dX12_closes_20, dX12_closes_21, dX12_closes_22, dX12_closes_23, dX12_closes_24, dX12_closes_27, dX12_closes_28, dX12_closes_29, dX12_closes_30, dX12_closes_31, dX12_closes_32, dX12_closes_35, dX12_closes_38, dX12_closes_39, dX12_closes_40, dX12_closes_41, dX12_closes_42, dX12_closes_45, dX12_closes_48, dX12_closes_49, dX12_closes_50, dX12_closes_51, dX12_closes_52, dX12_closes_55, dX12_closes_58, dX12_closes_59, dX12_closes_60, dX12_closes_61, dX12_closes_62, dX12_closes_65, dX12_closes_68, dX12_closes_69, dX12_closes_72, dX12_closes_74, dX12_closes_75, dX12_closes_76, dX12_closes_77, dX12_closes_78, dX12_closes_79, dX12_closes_82, dX12_closes_83, dX12_closes_86, dX12_closes_88, dX12_closes_89, dX12_closes_90, dX12_closes_91, dX12_closes_92, dX12_closes_93, dX12_closes_96, dX12_closes_97, dX12_closes_100, dX12_closes_102, dX12_closes_103, dX12_closes_104, dX12_closes_105, dX12_closes_106, dX12_closes_107, dX12_closes_108, dX12_closes_111, dX12_closes_114, dX12_closes_117, dX12_closes_120, dX12_closes_123, dX12_closes_126, e_aload_n, e_iload_n, e_istore_n, e_iconst, e_bipush, e_iadd, e_imul, e_iinc, e_ifCond, e_if_icmp, e_goto, e_getfield, e_iaload, e_baload, e_bastore, e_return_, e_wSt0, e_wSt1, e_wSt2, e_isL0, e_isL1, e_isL2, e_lset, e_lclr0, e_lclr1, e_lclr2, e_lput0, e_lput1, e_lput2, e_wInc, e_wInc0, Nat.reduceLT, not_false_eq_true, Bool.or_false, Bool.false_or, Bool.or_true, Bool.true_or, Bool.and_false, Bool.false_and, Bool.and_true, Bool.true_and, e_wI2, e_rv, e_wIf_eq, e_wIc_ge, bp_30, fX12_111, fX12_122, fX12_29, fX12_32, fX12_35, ic_0, ic_1, jt_111_m51, jt_117_m67, jt_123_m83, jt_35_m33, jt_45_81, jt_55_65, jt_65_49, jt_79_29, jt_7_31, jt_93_15, tbX12_closes_f, tbX12_closes_p, tbX12_closes_k, g_245_4, l_254, s_254, g_245_3, g_245_10, l_253, s_253, g_245_9, g_245_11, l_252, s_252]
  have h1' := h1
  obtain ⟨g1, g2, g3⟩ := h1'
  have hm := h2.1
  have ha := h2.2
  unfold inB at hm ha
  have e1 : wI (wI (30 * (a : Int)) + m) = ((30 * a + m : Nat) : Int) := by simp (disch := omega) only [wI_id]; omega
  have ea : wI ((a : Int) + 1) = (a : Int) + 1 := wI_id (by omega) (by omega)
  simp (disch := decide) only [e4_o, e4_h, e4_up, narZ_1]
  simp only [e1, ea]
  refine ⟨fun q => aGo_sub (h4 e (clJ_row h3 q)) (fun q hq => List.mem_append_left ([(3, Sum.inl _)] : aL) hq), fun q => ?_⟩
  have hb : inB S b := by unfold inB; omega
  have e2 : wI (wI (30 * (m : Int)) + b) = ((30 * m + b : Nat) : Int) := by simp (disch := omega) only [wI_id]; omega
  have e3 : wI (wI (30 * (a : Int)) + b) = ((30 * a + b : Nat) : Int) := by simp (disch := omega) only [wI_id]; omega
  have eb : wI ((b : Int) + 1) = (b : Int) + 1 := wI_id (by omega) (by omega)
  simp only [e2, e3, eb, Int.toNat_natCast]
  have no : ¬ (zz e a m ∧ zz e m b) → aGo l mX12_closes Q 60 [(0, .inr (.inr 245)), (1, .inl (m : Int)), (2, .inl (a : Int)), (3, .inl ((b : Int) + 1))] [] (stA S 254 e) := fun z => ih (n - 1) (by omega) S g e m a (b + 1) (by omega) h1 h2 (clJ_no h3 (fun y => z ⟨(clJ_am h3 h2.2 h2.1).mpr y.1, (clJ_mb h3 hb h2.1).mpr y.2⟩)) h4
  have ye : zz e a m ∧ zz e m b → aGo l mX12_closes Q 60 [(0, .inr (.inr 245)), (1, .inl (m : Int)), (2, .inl (a : Int)), (3, .inl ((b : Int) + 1))] [] (stA S 254 (fu e (30 * a + b) 1)) := fun z => ih (n - 1) (by omega) S g _ m a (b + 1) (by omega) h1 h2 (clJ_ye g1.2 h3 h2.2 hb ⟨(clJ_am h3 h2.2 h2.1).mp z.1, (clJ_mb h3 hb h2.1).mp z.2⟩) h4
  exact ⟨by omega, by omega, fun q1 => no (fun z => z.1 q1), fun q1 => ⟨by omega, by omega, fun q2 => no (fun z => z.2 q2), fun q2 => ⟨by omega, by omega, ye ⟨q1, q2⟩⟩⟩⟩
set_option maxRecDepth 20000 in
set_option maxHeartbeats 4000000 in
theorem lpE2 (l : Launch) (Q : Option aV → aS → Prop) : ∀ (n : Nat) (S : aS) (g e : Nat → Int) (m a : Nat), a + n = (S.1 245 3).toNat → clP S → inB S m → clJ S g e m a 0 → (∀ e, clJ S g e m (S.1 245 3).toNat 0 → aGo l mX12_closes Q 40 [(0, .inr (.inr 245)), (1, .inl ((m : Int) + 1))] [] (stA S 254 e)) → aGo l mX12_closes Q 50 [(0, .inr (.inr 245)), (1, .inl (m : Int)), (2, .inl (a : Int))] [] (stA S 254 e) := by
  intro n
  induction n using Nat.strongRecOn with
  | _ n ih =>
  intro S  g e  m a  h0 h1 h2 h3 h4
  refine wp_go (tbX12_closes_ok l) (fun pc => pc == 40 || pc == 50 || pc == 60) 77 dX12_closes_50 ?_
  show ws1 tbX12_closes 4 none Q (wp cX12_closes tbX12_closes 4 none Q (fun pc => pc == 40 || pc == 50 || pc == 60) (aGo l mX12_closes Q) 77) (.iload_n 2) 1 50 [(0, .inr (.inr 245)), (1, .inl (m : Int)), (2, .inl (a : Int))] [] (stA S 254 e)
  simp only [wp_s, wpC_f, wpC_t, e_wLd, e_wLd0, e_wLd1, e_wLd2, e_get1, e_get2, e_wJ, e_wJo, f40, f41, f42, f43, Nat.reduceAdd, Nat.reduceBEq, Nat.reduceMul, eq_self, true_or, or_true, true_and, dX12_closes_0, dX12_closes_1, dX12_closes_2, dX12_closes_3, dX12_closes_4, dX12_closes_7, dX12_closes_10, dX12_closes_11, dX12_closes_14, dX12_closes_16, dX12_closes_17, dX12_closes_20, dX12_closes_21, dX12_closes_22, dX12_closes_23, dX12_closes_24, dX12_closes_27, dX12_closes_28, dX12_closes_29, dX12_closes_30, dX12_closes_31, dX12_closes_32, dX12_closes_35, dX12_closes_38, dX12_closes_39, dX12_closes_40, dX12_closes_41, dX12_closes_42, dX12_closes_45, dX12_closes_48, dX12_closes_49, dX12_closes_50, dX12_closes_51, dX12_closes_52, dX12_closes_55, dX12_closes_58, dX12_closes_59, dX12_closes_60, dX12_closes_61, dX12_closes_62, dX12_closes_65, dX12_closes_68, dX12_closes_69, dX12_closes_72, dX12_closes_74, dX12_closes_75, dX12_closes_76, dX12_closes_77, dX12_closes_78, dX12_closes_79, dX12_closes_82, dX12_closes_83, dX12_closes_86, dX12_closes_88, dX12_closes_89, dX12_closes_90, dX12_closes_91, dX12_closes_92, dX12_closes_93, dX12_closes_96, dX12_closes_97, dX12_closes_100, dX12_closes_102, dX12_closes_103, dX12_closes_104, dX12_closes_105, dX12_closes_106, dX12_closes_107, dX12_closes_108, dX12_closes_111, dX12_closes_114, dX12_closes_117, dX12_closes_120, dX12_closes_123, dX12_closes_126, e_aload_n, e_iload_n, e_istore_n, e_iconst, e_bipush, e_iadd, e_imul, e_iinc, e_ifCond, e_if_icmp, e_goto, e_getfield, e_iaload, e_baload, e_bastore, e_return_, e_wSt0, e_wSt1, e_wSt2, e_isL0, e_isL1, e_isL2, e_lset, e_lclr0, e_lclr1, e_lclr2, e_lput0, e_lput1, e_lput2, e_wInc, e_wInc0, Nat.reduceLT, not_false_eq_true, Bool.or_false, Bool.false_or, Bool.or_true, Bool.true_or, Bool.and_false, Bool.false_and, Bool.and_true, Bool.true_and, e_wI2, e_rv, e_wIf_eq, e_wIc_ge, bp_30, fX12_111, fX12_122, fX12_29, fX12_32, fX12_35, ic_0, ic_1, jt_111_m51, jt_117_m67, jt_123_m83, jt_35_m33, jt_45_81, jt_55_65, jt_65_49, jt_79_29, jt_7_31, jt_93_15, tbX12_closes_f, tbX12_closes_p, tbX12_closes_k, g_245_4, l_254, s_254, g_245_3, g_245_10, l_253, s_253, g_245_9, g_245_11, l_252, s_252]
  have h1' := h1
  obtain ⟨g1, g2, g3⟩ := h1'
  have hm := h2
  unfold inB at hm
  simp (disch := decide) only [e4_o, e4_h, e4_up, narZ_1]
  have em : wI ((m : Int) + 1) = (m : Int) + 1 := wI_id (by omega) (by omega)
  simp only [em]
  refine ⟨fun q => ?_, fun q => ?_⟩
  · obtain rfl : a = (S.1 245 3).toNat := by omega
    exact aGo_sub (h4 e h3) (fun q hq => List.mem_append_left ([(2, Sum.inl _)] : aL) hq)
  · exact lpE3 l Q (S.1 245 3).toNat S g e m a 0 (Nat.zero_add _) h1 ⟨h2, by unfold inB; omega⟩ h3 (fun e' he' => ih (n - 1) (by omega) S g e' m (a + 1) (by omega) h1 h2 he' h4)
set_option maxRecDepth 20000 in
set_option maxHeartbeats 4000000 in
theorem lpE1 (l : Launch) (Q : Option aV → aS → Prop) : ∀ (n : Nat) (S : aS) (e : Nat → Int) (m : Nat), m + n = (S.1 245 3).toNat → clP S → clI S e (S.1 245 4).toNat m → (∀ e, clS S e → Q none (stA S 254 e)) → aGo l mX12_closes Q 40 [(0, .inr (.inr 245)), (1, .inl (m : Int))] [] (stA S 254 e) := by
  intro n
  induction n using Nat.strongRecOn with
  | _ n ih =>
  intro S  e  m  h0 h1 h2 h3
  refine wp_go (tbX12_closes_ok l) (fun pc => pc == 40 || pc == 50) 77 dX12_closes_40 ?_
  show ws1 tbX12_closes 4 none Q (wp cX12_closes tbX12_closes 4 none Q (fun pc => pc == 40 || pc == 50) (aGo l mX12_closes Q) 77) (.iload_n 1) 1 40 [(0, .inr (.inr 245)), (1, .inl (m : Int))] [] (stA S 254 e)
  simp only [wp_s, wpC_f, wpC_t, e_wLd, e_wLd0, e_wLd1, e_wLd2, e_get1, e_get2, e_wJ, e_wJo, f40, f41, f42, f43, Nat.reduceAdd, Nat.reduceBEq, Nat.reduceMul, eq_self, true_or, or_true, true_and, dX12_closes_0, dX12_closes_1, dX12_closes_2, dX12_closes_3, dX12_closes_4, dX12_closes_7, dX12_closes_10, dX12_closes_11, dX12_closes_14, dX12_closes_16, dX12_closes_17, dX12_closes_20, dX12_closes_21, dX12_closes_22, dX12_closes_23, dX12_closes_24, dX12_closes_27, dX12_closes_28, dX12_closes_29, dX12_closes_30, dX12_closes_31, dX12_closes_32, dX12_closes_35, dX12_closes_38, dX12_closes_39, dX12_closes_40, dX12_closes_41, dX12_closes_42, dX12_closes_45, dX12_closes_48, dX12_closes_49, dX12_closes_50, dX12_closes_51, dX12_closes_52, dX12_closes_55, dX12_closes_58, dX12_closes_59, dX12_closes_60, dX12_closes_61, dX12_closes_62, dX12_closes_65, dX12_closes_68, dX12_closes_69, dX12_closes_72, dX12_closes_74, dX12_closes_75, dX12_closes_76, dX12_closes_77, dX12_closes_78, dX12_closes_79, dX12_closes_82, dX12_closes_83, dX12_closes_86, dX12_closes_88, dX12_closes_89, dX12_closes_90, dX12_closes_91, dX12_closes_92, dX12_closes_93, dX12_closes_96, dX12_closes_97, dX12_closes_100, dX12_closes_102, dX12_closes_103, dX12_closes_104, dX12_closes_105, dX12_closes_106, dX12_closes_107, dX12_closes_108, dX12_closes_111, dX12_closes_114, dX12_closes_117, dX12_closes_120, dX12_closes_123, dX12_closes_126, e_aload_n, e_iload_n, e_istore_n, e_iconst, e_bipush, e_iadd, e_imul, e_iinc, e_ifCond, e_if_icmp, e_goto, e_getfield, e_iaload, e_baload, e_bastore, e_return_, e_wSt0, e_wSt1, e_wSt2, e_isL0, e_isL1, e_isL2, e_lset, e_lclr0, e_lclr1, e_lclr2, e_lput0, e_lput1, e_lput2, e_wInc, e_wInc0, Nat.reduceLT, not_false_eq_true, Bool.or_false, Bool.false_or, Bool.or_true, Bool.true_or, Bool.and_false, Bool.false_and, Bool.and_true, Bool.true_and, e_wI2, e_rv, e_wIf_eq, e_wIc_ge, bp_30, fX12_111, fX12_122, fX12_29, fX12_32, fX12_35, ic_0, ic_1, jt_111_m51, jt_117_m67, jt_123_m83, jt_35_m33, jt_45_81, jt_55_65, jt_65_49, jt_79_29, jt_7_31, jt_93_15, tbX12_closes_f, tbX12_closes_p, tbX12_closes_k, g_245_4, l_254, s_254, g_245_3, g_245_10, l_253, s_253, g_245_9, g_245_11, l_252, s_252]
  have h1' := h1
  obtain ⟨g1, g2, g3⟩ := h1'
  simp (disch := decide) only [e4_o, e4_h, e4_up, narZ_1]
  refine ⟨fun q => ?_, fun q => ?_⟩
  · obtain rfl : m = (S.1 245 3).toNat := by omega
    exact h3 e h2
  · have hm : inB S m := by unfold inB; omega
    refine lpE2 l Q (S.1 245 3).toNat S e e m 0 (Nat.zero_add _) h1 hm clJ_0 (fun e' he' => ?_)
    exact ih (n - 1) (by omega) S e' (m + 1) (by omega) h1 (clI_st h2 he' (by omega) hm (fun k hk => by have := g3 k (by omega); unfold inB; omega)) h3
set_option maxRecDepth 20000 in
set_option maxHeartbeats 4000000 in
theorem lpE0 (l : Launch) (Q : Option aV → aS → Prop) : ∀ (n : Nat) (S : aS) (e : Nat → Int) (i : Nat), i + n = (S.1 245 4).toNat → clP S → clI S e i 0 → (∀ e, clS S e → Q none (stA S 254 e)) → aGo l mX12_closes Q 2 [(0, .inr (.inr 245)), (1, .inl (i : Int))] [] (stA S 254 e) := by
  intro n
  induction n using Nat.strongRecOn with
  | _ n ih =>
  intro S  e  i  h0 h1 h2 h3
  refine wp_go (tbX12_closes_ok l) (fun pc => pc == 2 || pc == 40) 77 dX12_closes_2 ?_
  show ws1 tbX12_closes 4 none Q (wp cX12_closes tbX12_closes 4 none Q (fun pc => pc == 2 || pc == 40) (aGo l mX12_closes Q) 77) (.iload_n 1) 1 2 [(0, .inr (.inr 245)), (1, .inl (i : Int))] [] (stA S 254 e)
  simp only [wp_s, wpC_f, wpC_t, e_wLd, e_wLd0, e_wLd1, e_wLd2, e_get1, e_get2, e_wJ, e_wJo, f40, f41, f42, f43, Nat.reduceAdd, Nat.reduceBEq, Nat.reduceMul, eq_self, true_or, or_true, true_and, dX12_closes_0, dX12_closes_1, dX12_closes_2, dX12_closes_3, dX12_closes_4, dX12_closes_7, dX12_closes_10, dX12_closes_11, dX12_closes_14, dX12_closes_16, dX12_closes_17, dX12_closes_20, dX12_closes_21, dX12_closes_22, dX12_closes_23, dX12_closes_24, dX12_closes_27, dX12_closes_28, dX12_closes_29, dX12_closes_30, dX12_closes_31, dX12_closes_32, dX12_closes_35, dX12_closes_38, dX12_closes_39, dX12_closes_40, dX12_closes_41, dX12_closes_42, dX12_closes_45, dX12_closes_48, dX12_closes_49, dX12_closes_50, dX12_closes_51, dX12_closes_52, dX12_closes_55, dX12_closes_58, dX12_closes_59, dX12_closes_60, dX12_closes_61, dX12_closes_62, dX12_closes_65, dX12_closes_68, dX12_closes_69, dX12_closes_72, dX12_closes_74, dX12_closes_75, dX12_closes_76, dX12_closes_77, dX12_closes_78, dX12_closes_79, dX12_closes_82, dX12_closes_83, dX12_closes_86, dX12_closes_88, dX12_closes_89, dX12_closes_90, dX12_closes_91, dX12_closes_92, dX12_closes_93, dX12_closes_96, dX12_closes_97, dX12_closes_100, dX12_closes_102, dX12_closes_103, dX12_closes_104, dX12_closes_105, dX12_closes_106, dX12_closes_107, dX12_closes_108, dX12_closes_111, dX12_closes_114, dX12_closes_117, dX12_closes_120, dX12_closes_123, dX12_closes_126, e_aload_n, e_iload_n, e_istore_n, e_iconst, e_bipush, e_iadd, e_imul, e_iinc, e_ifCond, e_if_icmp, e_goto, e_getfield, e_iaload, e_baload, e_bastore, e_return_, e_wSt0, e_wSt1, e_wSt2, e_isL0, e_isL1, e_isL2, e_lset, e_lclr0, e_lclr1, e_lclr2, e_lput0, e_lput1, e_lput2, e_wInc, e_wInc0, Nat.reduceLT, not_false_eq_true, Bool.or_false, Bool.false_or, Bool.or_true, Bool.true_or, Bool.and_false, Bool.false_and, Bool.and_true, Bool.true_and, e_wI2, e_rv, e_wIf_eq, e_wIc_ge, bp_30, fX12_111, fX12_122, fX12_29, fX12_32, fX12_35, ic_0, ic_1, jt_111_m51, jt_117_m67, jt_123_m83, jt_35_m33, jt_45_81, jt_55_65, jt_65_49, jt_79_29, jt_7_31, jt_93_15, tbX12_closes_f, tbX12_closes_p, tbX12_closes_k, g_245_4, l_254, s_254, g_245_3, g_245_10, l_253, s_253, g_245_9, g_245_11, l_252, s_252]
  have h1' := h1
  obtain ⟨g1, g2, g3⟩ := h1'
  simp (disch := decide) only [e4_o, e4_h, e4_up, narZ_1]
  refine ⟨fun q => ?_, fun q => ?_⟩
  · obtain rfl : i = (S.1 245 4).toNat := by omega
    exact lpE1 l Q (S.1 245 3).toNat S e 0 (Nat.zero_add _) h1 h2 h3
  · obtain ⟨⟨a1, a2⟩, ⟨b1, b2⟩⟩ := g3 i (by omega)
    have e1 : wI (wI (30 * S.1 252 i) + S.1 253 i) = ((30 * (S.1 252 i).toNat + (S.1 253 i).toNat : Nat) : Int) := by simp (disch := omega) only [wI_id]; omega
    have ei : wI ((i : Int) + 1) = (i : Int) + 1 := wI_id (by omega) (by omega)
    simp only [Int.toNat_natCast, e1, ei]
    have ha : inB S (S.1 252 i).toNat := by unfold inB; omega
    have hb : inB S (S.1 253 i).toNat := by unfold inB; omega
    obtain ⟨i1, i2, i3, i4⟩ := h2
    refine ⟨by omega, by omega, by omega, by omega, by omega, by omega, ih (n - 1) (by omega) S _ (i + 1) (by omega) h1 ⟨fun j => ?_, fun k hk => ?_, fun R hR x y hx hy hz => ?_, fun m' hm' => absurd hm' (by omega)⟩ h3⟩
    · by_cases q : j = 30 * (S.1 252 i).toNat + (S.1 253 i).toNat
      · exact Or.inr ⟨by simp [fu, q], _, _, ha, hb, q⟩
      · have e1 : fu e (30 * (S.1 252 i).toNat + (S.1 253 i).toNat) 1 j = e j := if_neg q
        rw [e1]; exact i1 j
    · have := g3 k (by omega)
      rw [zz_fu (by omega) (by omega)]
      by_cases q : k = i
      · subst q; exact Or.inr ⟨rfl, rfl⟩
      · exact Or.inl (i2 k (by omega))
    · have hy' := hy
      unfold inB at hy'
      rcases (zz_fu (by omega) (by omega)).mp hz with z | ⟨z1, z2⟩
      · exact i3 R hR x y hx hy z
      · rw [z1, z2]; exact hR.2.1 i (by omega)
set_option maxRecDepth 20000 in
set_option maxHeartbeats 4000000 in
theorem okX12_closes (l : Launch) : aOK l mX12_closes spX12_closes := by
  refine aOK_of rfl fun as S Q h => ?_
  unfold spX12_closes at h
  split at h
  · refine ⟨Nat.le_of_ble_eq_true rfl, wp_ok (tbX12_closes_ok l) Q (fun pc => pc == 2) 77 0 _ [] S ?_⟩
    show wp cX12_closes tbX12_closes 4 none Q (fun pc => pc == 2) (aGo l mX12_closes Q) 77 0 [(0, .inr (.inr 245))] [] S
    simp only [wp_s, wpC_f, wpC_t, e_wLd, e_wLd0, e_wLd1, e_wLd2, e_get1, e_get2, e_wJ, e_wJo, f40, f41, f42, f43, Nat.reduceAdd, Nat.reduceBEq, Nat.reduceMul, eq_self, true_or, or_true, true_and, dX12_closes_0, dX12_closes_1, dX12_closes_2, dX12_closes_3, dX12_closes_4, dX12_closes_7, dX12_closes_10, dX12_closes_11, dX12_closes_14, dX12_closes_16, dX12_closes_17, dX12_closes_20, dX12_closes_21, dX12_closes_22, dX12_closes_23, dX12_closes_24, dX12_closes_27, dX12_closes_28, dX12_closes_29, dX12_closes_30, dX12_closes_31, dX12_closes_32, dX12_closes_35, dX12_closes_38, dX12_closes_39, dX12_closes_40, dX12_closes_41, dX12_closes_42, dX12_closes_45, dX12_closes_48, dX12_closes_49, dX12_closes_50, dX12_closes_51, dX12_closes_52, dX12_closes_55, dX12_closes_58, dX12_closes_59, dX12_closes_60, dX12_closes_61, dX12_closes_62, dX12_closes_65, dX12_closes_68, dX12_closes_69, dX12_closes_72, dX12_closes_74, dX12_closes_75, dX12_closes_76, dX12_closes_77, dX12_closes_78, dX12_closes_79, dX12_closes_82, dX12_closes_83, dX12_closes_86, dX12_closes_88, dX12_closes_89, dX12_closes_90, dX12_closes_91, dX12_closes_92, dX12_closes_93, dX12_closes_96, dX12_closes_97, dX12_closes_100, dX12_closes_102, dX12_closes_103, dX12_closes_104, dX12_closes_105, dX12_closes_106, dX12_closes_107, dX12_closes_108, dX12_closes_111, dX12_closes_114, dX12_closes_117, dX12_closes_120, dX12_closes_123, dX12_closes_126, e_aload_n, e_iload_n, e_istore_n, e_iconst, e_bipush, e_iadd, e_imul, e_iinc, e_ifCond, e_if_icmp, e_goto, e_getfield, e_iaload, e_baload, e_bastore, e_return_, e_wSt0, e_wSt1, e_wSt2, e_isL0, e_isL1, e_isL2, e_lset, e_lclr0, e_lclr1, e_lclr2, e_lput0, e_lput1, e_lput2, e_wInc, e_wInc0, Nat.reduceLT, not_false_eq_true, Bool.or_false, Bool.false_or, Bool.or_true, Bool.true_or, Bool.and_false, Bool.false_and, Bool.and_true, Bool.true_and, e_wI2, e_rv, e_wIf_eq, e_wIc_ge, bp_30, fX12_111, fX12_122, fX12_29, fX12_32, fX12_35, ic_0, ic_1, jt_111_m51, jt_117_m67, jt_123_m83, jt_35_m33, jt_45_81, jt_55_65, jt_65_49, jt_79_29, jt_7_31, jt_93_15, tbX12_closes_f, tbX12_closes_p, tbX12_closes_k, g_245_4, l_254, s_254, g_245_3, g_245_10, l_253, s_253, g_245_9, g_245_11, l_252, s_252]
    have z := lpE0 l Q (S.1 245 4).toNat S (S.1 254) 0 (Nat.zero_add _) h.1 ⟨fun j => Or.inl rfl, fun k hk => absurd hk (by omega), fun R hR x y hx hy hz => hR.1 x y hx hy hz, fun m' hm' => absurd hm' (by omega)⟩ h.2
    rw [e4_S] at z
    exact z
  · exact h.elim
