/-! EQUAL ANSWERS: fits, sort, where -/
theorem v8_wrd {L : List Nat} (h : okA L) (hl : L.length ≤ 8) : wrd8 (v8 L) := by
  rw [v8_n]
  have := vn8_b h hl
  exact ⟨by omega, by omega⟩
theorem v5_wrd {L : List Nat} (h : okA L) (hl : L.length ≤ 9) : wrd (v5 L) := by
  rw [v5_n]
  have := vn5_b h hl
  have b9 : (32 : Nat) ^ 9 = 35184372088832 := by decide
  exact ⟨by omega, by omega⟩
theorem ru_P {S : aS} (ru : iRu S) : ruP S := by
  have e := ru.2.2.2.1
  refine ⟨by have := ru.2.2.1; omega, fun r hr => ?_⟩
  obtain ⟨O, F, hO⟩ := ruL_ex ru (by omega : (r : Int) < S.1 11 2)
  rw [hO.2.1.2, hO.2.2.2]
  exact ⟨v8_wrd hO.1.1.2 (by have := hO.1.1.1; omega), v8_wrd hO.1.2.2 (by have := hO.1.2.1; omega)⟩
theorem cw_P {S : aS} (ru : iRu S) {L : List Nat} (hL : okW L) : cwP S (v8 L) := by
  have e := ru.2.2.2.1
  refine ⟨v8_wrd hL.1 hL.2.2, fun r hr p hp => ?_⟩
  obtain ⟨O, F, hO⟩ := ruL_ex ru (by omega : (r : Int) < S.1 11 2)
  rw [chR_v hL hO hp]
  by_cases q : chC L O F p ∧ (chL L O F p).length ≤ 8
  · rw [if_pos q]
    exact v8_wrd (chL_ok hL.1 hO.1.2.2) q.2
  · rw [if_neg q]; exact ⟨by decide, by decide⟩
theorem kw_I {S : aS} (h : Inv S) : kwP S := by
  obtain ⟨tp, bk, bh, sl, se, po, ed, pr, en, ru, ws, wf, kn⟩ := h
  have s1 := sl.1
  have s2 := sl.2.1
  have n1 := en.1
  have n2 := en.2.1
  have b1 := bk.1
  refine ⟨ru_P ru, by omega, by omega, fun e he => ?_, fun s hs => ?_, fun k hk => ?_, fun s k hs hk => ?_⟩
  · obtain ⟨z1, z2, z3⟩ := en.2.2.1 e he
    by_cases q : (e : Int) < S.1 14 4
    · rw [(z2 q).2]; exact z1
    · have := z3 (by omega); omega
  · have := sl.2.2 s (by omega)
    rw [this.1.1]; omega
  · obtain ⟨k1, k2⟩ := (ex_F en).mpr hk
    obtain ⟨⟨L, a1, a2, a3⟩, _⟩ := (wf k k1).1 k2
    rw [a3]
    exact cw_P ru ⟨a1.2, a1.1⟩
  · obtain ⟨k1, k2⟩ := (ex_F en).mpr hk
    exact (kn s k (by omega) k1).imp id fun z => z.2.2
theorem kn_I {S : aS} (h : Inv S) {g : Nat → Int} (hg : knX S g) : Inv (stA S 259 g) := by
  obtain ⟨tp, bk, bh, sl, se, po, ed, pr, en, ru, ws, wf, kn⟩ := h
  refine ⟨tp, bk, bh, sl, se, po, iEd_a (edX_d (by decide)) ed, pr, en, ru, ws, wf, fun s k hs hk => ?_⟩
  show g (60 * s + k) = 0 ∨ ((s : Int) < S.1 81 4 ∧ exK S k ∧ g (60 * s + k) = ldV S s k)
  rcases hg (60 * s + k) with z | ⟨s', k', a, b, c, d⟩
  · rw [z]; exact kn s k hs hk
  · have b1 := b.1
    obtain rfl : s = s' := by omega
    obtain rfl : k = k' := by omega
    exact Or.inr ⟨by have := sl.2.1; omega, ((ex_F en).mpr b).2, d⟩
theorem fitR_I {S : aS} (h : Inv S) : fitR S := by
  obtain ⟨tp, bk, bh, sl, se, po, ed, pr, en, ru, ws, wf, kn⟩ := h
  have s1 := sl.1
  have n1 := en.1
  have b1 := bk.1
  have r1 := ru.2.2.1
  refine ⟨⟨by omega, fun i hi => ?_, fun j hj => ?_, fun e he => (en.2.2.1 e he).1.2⟩, by omega, by omega, by omega⟩
  · by_cases q : exK S i
    · have := ((wf i hi).1 q).2.1; omega
    · have := (wf i hi).2 q; omega
  · by_cases q : (j : Int) < S.1 81 4
    · have := ((ws j hj).1 q).2.1; omega
    · have := (ws j hj).2 (by omega); omega
theorem ftc_eq {S : aS} (h : Inv S) {s : Nat} (hs : (s : Int) < S.1 81 4) : cnt (fun j => cb (fitP S s j)) (S.1 14 4).toNat = ftc S s := by
  have n1 := h.2.2.2.2.2.2.2.2.1.1
  have n2 := h.2.2.2.2.2.2.2.2.1.2.1
  unfold ftc
  rw [n2]
  exact cnt_c (fun j hj => cb_c (fit_eq h hs (by omega)))
theorem ff_eq2 {S : aS} (h : Inv S) {s : Nat} (hs : (s : Int) < S.1 81 4) : ff (fun j => cb (fitP S s j)) (S.1 14 4).toNat 0 = ff0 S s := by
  have n1 := h.2.2.2.2.2.2.2.2.1.1
  have n2 := h.2.2.2.2.2.2.2.2.1.2.1
  unfold ff0
  rw [n2]
  exact ff_c (fun j _ hj => cb_c (fit_eq h hs (by omega)))
theorem dbt_eq {S : aS} (h : Inv S) {s : Nat} (hs : (s : Int) < S.1 81 4) : dbt S s ↔ dbM S s := by
  obtain ⟨⟨c1, c2, c3⟩, c4, c5⟩ := h.2.2.2.1.2.2 s hs
  unfold dbt dbM
  rw [ftc_eq h hs, c2]
  simp only [Int.toNat_natCast]
  constructor
  · rintro ⟨⟨_, _, z1, _⟩, z2⟩; exact ⟨z1, z2⟩
  · rintro ⟨z1, z2⟩
    exact ⟨⟨by omega, hs, z1, by rcases c5 with y | y <;> omega⟩, z2⟩
set_option maxHeartbeats 4000000 in
theorem eq_fits {S : aS} {s e : Int} (h : Inv S) : spX11_fits [.inr (.inr 0), .inl s, .inl e] S (fun r T => spX12_fits [.inr (.inr 245), .inl s, .inl e] T (Eqv r)) := by
  have n2 := h.2.2.2.2.2.2.2.2.1.2.1
  have s2 := h.2.2.2.1.2.1
  refine ⟨fitR_I h, fun q => ⟨kw_I h, fun _ => ⟨rfl, h⟩, fun z => absurd (by omega) q⟩, fun q => ⟨kw_I h, fun z => absurd (by omega) z, fun z g hg => ⟨oi (bi_c ?_), kn_I h hg⟩⟩⟩
  have z := fit_eq h (s := s.toNat) (e := e.toNat) (by omega) (by omega)
  rw [show ((s.toNat : Nat) : Int) = s from by omega, show ((e.toNat : Nat) : Int) = e from by omega] at z
  exact z
def cP (S : aS) (j : Nat) : Prop := (S.1 83 j = -1 ∧ S.1 84 j = -1) ∧ cnt (fun e => cb (fitP S j e)) (S.1 14 4).toNat = 1
noncomputable def cQf (S : aS) (j : Nat) : Int := ff (fun e => cb (fitP S j e)) (S.1 14 4).toNat 0
theorem so1_2 {S : aS} {s : Nat} : (so1 S s).2 = S.2 := by
  unfold so1
  split <;> rfl
theorem fit_so {S : aS} {s : Nat} : fitP (so1 S s) = fitP S := by
  funext x y
  unfold fitP fiP mtP
  simp (disch := decide) only [so1_f, so1_2]
theorem so1_83 {S : aS} {s j : Nat} : (so1 S s).1 83 j = @ite _ (j = s ∧ cP S s) (Classical.propDecidable _) (cQf S s) (S.1 83 j) := by
  unfold so1
  by_cases q : (S.1 83 s = -1 ∧ S.1 84 s = -1) ∧ cnt (fun j => cb (fitP S s j)) (S.1 14 4).toNat = 1
  · rw [if_pos q, up_obj (by decide)]
    by_cases e : j = s
    · subst e; rw [up_hit, if_pos ⟨rfl, q⟩]; rfl
    · rw [up_cell e, if_neg (fun z => e z.1)]
  · rw [if_neg q, if_neg (fun z => q z.2)]
theorem so1_84 {S : aS} {s j : Nat} : (so1 S s).1 84 j = @ite _ (j = s ∧ cP S s) (Classical.propDecidable _) (-1) (S.1 84 j) := by
  unfold so1
  by_cases q : (S.1 83 s = -1 ∧ S.1 84 s = -1) ∧ cnt (fun j => cb (fitP S s j)) (S.1 14 4).toNat = 1
  · rw [if_pos q]
    by_cases e : j = s
    · subst e; rw [up_hit, if_pos ⟨rfl, q⟩]
    · rw [up_cell e, if_neg (fun z => e z.1), up_obj (by decide)]
  · rw [if_neg q, if_neg (fun z => q z.2)]
theorem cP_so {S : aS} {s j : Nat} (h : ¬ j = s) : cP (so1 S s) j ↔ cP S j := by
  unfold cP
  rw [so1_83, so1_84, if_neg (fun z => h z.1), if_neg (fun z => h z.1), fit_so, so1_f (by decide) (by decide)]
theorem cQf_so {S : aS} {s j : Nat} : cQf (so1 S s) j = cQf S j := by
  unfold cQf
  rw [fit_so, so1_f (by decide) (by decide)]
theorem soS_f : ∀ {n s : Nat} {S : aS} {i : Nat}, ¬ i = 83 → ¬ i = 84 → (soS n s S).1 i = S.1 i
  | 0, _, _, _, _, _ => rfl
  | n + 1, s, S, i, h, h2 => (soS_f (n := n) h h2).trans (so1_f h h2)
theorem soS_2 : ∀ {n s : Nat} {S : aS}, (soS n s S).2 = S.2
  | 0, _, _ => rfl
  | n + 1, s, S => (soS_2 (n := n)).trans so1_2
theorem soS_v : ∀ {n s : Nat} {S : aS} {j : Nat}, (soS n s S).1 83 j = @ite _ (s ≤ j ∧ j < s + n ∧ cP S j) (Classical.propDecidable _) (cQf S j) (S.1 83 j) ∧ (soS n s S).1 84 j = @ite _ (s ≤ j ∧ j < s + n ∧ cP S j) (Classical.propDecidable _) (-1) (S.1 84 j)
  | 0, s, S, j => by
    rw [if_neg (by omega), if_neg (by omega)]
    exact ⟨rfl, rfl⟩
  | n + 1, s, S, j => by
    obtain ⟨i1, i2⟩ := soS_v (n := n) (s := s + 1) (S := so1 S s) (j := j)
    have e : soS (n + 1) s S = soS n (s + 1) (so1 S s) := rfl
    rw [e, i1, i2, so1_83, so1_84, cQf_so]
    by_cases q : j = s
    · subst q
      have c0 : ¬ (j + 1 ≤ j ∧ j < j + 1 + n ∧ cP (so1 S j) j) := fun z => by omega
      by_cases c : cP S j
      · have c1 : j = j ∧ cP S j := ⟨rfl, c⟩
        have c2 : j ≤ j ∧ j < j + (n + 1) ∧ cP S j := ⟨by omega, by omega, c⟩
        rw [if_neg c0, if_neg c0, if_pos c1, if_pos c1, if_pos c2, if_pos c2]
        exact ⟨rfl, rfl⟩
      · have c1 : ¬ (j = j ∧ cP S j) := fun z => c z.2
        have c2 : ¬ (j ≤ j ∧ j < j + (n + 1) ∧ cP S j) := fun z => c z.2.2
        rw [if_neg c0, if_neg c0, if_neg c1, if_neg c1, if_neg c2, if_neg c2]
        exact ⟨rfl, rfl⟩
    · have c1 : ¬ (j = s ∧ cP S s) := fun z => q z.1
      rw [if_neg c1, if_neg c1]
      by_cases c : s + 1 ≤ j ∧ j < s + 1 + n ∧ cP (so1 S s) j
      · have c2 : s ≤ j ∧ j < s + (n + 1) ∧ cP S j := ⟨by omega, by omega, (cP_so q).mp c.2.2⟩
        rw [if_pos c, if_pos c, if_pos c2, if_pos c2]
        exact ⟨rfl, rfl⟩
      · have c2 : ¬ (s ≤ j ∧ j < s + (n + 1) ∧ cP S j) := fun z => c ⟨by omega, by omega, (cP_so q).mpr z.2.2⟩
        rw [if_neg c, if_neg c, if_neg c2, if_neg c2]
        exact ⟨rfl, rfl⟩
theorem soN_v : ∀ {n s : Nat} {S : aS}, soN n s S = cf (fun j => cb (cP S j)) n s
  | 0, _, _ => rfl
  | n + 1, s, S => by
    have ih := soN_v (n := n) (s := s + 1) (S := so1 S s)
    have e : soN (n + 1) s S = soC S s + soN n (s + 1) (so1 S s) := rfl
    have e2 : cf (fun j => cb (cP (so1 S s) j)) n (s + 1) = cf (fun j => cb (cP S j)) n (s + 1) := cf_c (fun j h1 h2 => cb_c (cP_so (by omega)))
    rw [e, ih, e2]
    show _ = (if cb (cP S s) = true then 1 else 0) + cf (fun j => cb (cP S j)) n (s + 1)
    by_cases q : cP S s
    · rw [if_pos (cb_t q), show soC S s = 1 from bi_t q]
    · rw [if_neg (by rw [cb_f q]; decide), show soC S s = 0 from bi_f q]
def cSo (a _b : Nat) : Bool := decide (a = 83) || decide (a = 84)
theorem cP_eq {S : aS} (h : Inv S) {j : Nat} (hj : (j : Int) < S.1 81 4) : cP S j ↔ soP S j := by
  obtain ⟨⟨c1, c2, c3⟩, c4, c5⟩ := h.2.2.2.1.2.2 j hj
  unfold cP soP
  rw [ftc_eq h hj, c2]
  constructor
  · rintro ⟨⟨z1, _⟩, z2⟩; exact ⟨z1, z2⟩
  · rintro ⟨z1, z2⟩; exact ⟨⟨z1, by rcases c5 with y | y <;> omega⟩, z2⟩
theorem ff0_r {S : aS} {j : Nat} (hc : ftc S j = 1) : 0 ≤ ff0 S j ∧ ff0 S j < S.1 245 13 := by
  have hc' : cnt (fun e => cb (ftM S j e)) (S.1 245 13).toNat = 1 := hc
  obtain ⟨e0, e1, e2⟩ := cnt_ex (p := fun e => cb (ftM S j e)) (n := (S.1 245 13).toNat) (by rw [hc']; decide)
  rcases ff_val (p := fun e => cb (ftM S j e)) (n := (S.1 245 13).toNat) (i := 0) with z | ⟨i, a, b, c, d⟩
  · exfalso
    have gen : ∀ (n i : Nat), ff (fun e => cb (ftM S j e)) n i = -1 → ∀ t, i ≤ t → t < i + n → ¬ cb (ftM S j t) = true := by
      intro n
      induction n with
      | zero => intro i _ t h1 h2; omega
      | succ n ih =>
        intro i hi t h1 h2
        unfold ff at hi
        by_cases q : cb (ftM S j i) = true
        · rw [if_pos q] at hi; omega
        · rw [if_neg q] at hi
          by_cases e : t = i
          · subst e; exact q
          · exact ih (i + 1) hi t (by omega) (by omega)
    exact gen _ _ z e0 (Nat.zero_le _) (by omega) e2
  · have d' : ff0 S j = (i : Int) := d
    rw [d']; omega
set_option maxHeartbeats 4000000 in
theorem eq_sort {S : aS} (h : Inv S) : spX11_sort [.inr (.inr 0)] S (fun r T => spX12_sort [.inr (.inr 245)] T (Eqv r)) := by
  have h' := h
  obtain ⟨tp, bk, bh, sl, se, po, ed, pr, en, ru, ws, wf, kn⟩ := h'
  have s1 := sl.1
  have s2 := sl.2.1
  have fr : ∀ a b, cSo a b = false → (soS (S.1 81 4).toNat 0 S).1 a b = S.1 a b := fun a b hc => by
    unfold cSo at hc
    simp at hc
    rw [soS_f hc.1 hc.2]
  have hp := pat_e fr soS_2
  have hkw0 : kwP S := kw_I h
  have hkw : kwP (soS (S.1 81 4).toNat 0 S) := by
    rw [hp]
    exact hkw0
  refine ⟨fitR_I h, s1.1, hkw, fun g hg => ?_⟩
  have e12 : (soS (S.1 81 4).toNat 0 S).1 245 12 = S.1 245 12 := fr 245 12 (by decide)
  have hsoP : ∀ j, soP (soS (S.1 81 4).toNat 0 S) j ↔ soP S j := fun j => by rw [hp]; exact Iff.rfl
  have hff : ∀ j, ff0 (soS (S.1 81 4).toNat 0 S) j = ff0 S j := fun j => by rw [hp]; rfl
  have hgS : knX S g := by
    rw [hp] at hg
    exact hg
  constructor
  · rw [e12, s2, soN_v]
    refine oi (cf_c (fun j _ hj => cb_c ?_))
    exact (cP_eq h (by omega)).trans (hsoP j).symm
  · have e83 : ∀ j : Nat, (j : Int) < S.1 81 4 → (soS (S.1 81 4).toNat 0 S).1 83 j = @ite _ (soP S j) (Classical.propDecidable _) (ff0 S j) (S.1 83 j) ∧ (soS (S.1 81 4).toNat 0 S).1 84 j = @ite _ (soP S j) (Classical.propDecidable _) (-1) (S.1 84 j) := fun j hj => by
      obtain ⟨a1, a2⟩ := soS_v (n := (S.1 81 4).toNat) (s := 0) (S := S) (j := j)
      rw [a1, a2]
      by_cases q : soP S j
      · have c : 0 ≤ j ∧ j < 0 + (S.1 81 4).toNat ∧ cP S j := ⟨by omega, by omega, (cP_eq h hj).mpr q⟩
        rw [if_pos c, if_pos c, if_pos q, if_pos q]
        exact ⟨ff_eq2 h hj, rfl⟩
      · have c : ¬ (0 ≤ j ∧ j < 0 + (S.1 81 4).toNat ∧ cP S j) := fun z => q ((cP_eq h hj).mp z.2.2)
        rw [if_neg c, if_neg c, if_neg q, if_neg q]
        exact ⟨rfl, rfl⟩
    have i1 : Inv (soE (soS (S.1 81 4).toNat 0 S) 0) := by
      have fr2 : ∀ a b, (fun a b => cSo a b || (decide (a = 256) || decide (a = 257))) a b = false → (soE (soS (S.1 81 4).toNat 0 S) 0).1 a b = S.1 a b := fun a b hc => by
        simp at hc
        unfold soE
        simp only [stA]
        rw [if_neg hc.2.2, if_neg hc.2.1]
        exact fr a b hc.1
      have f2 : (soE (soS (S.1 81 4).toNat 0 S) 0).2 = S.2 := soS_2
      have vsl : iSl (soE (soS (S.1 81 4).toNat 0 S) 0) := by
        have z81 := fr2 81 4 (by decide)
        refine ⟨by rw [z81]; exact s1, by rw [z81, fr2 245 12 (by decide)]; exact s2, fun s hs => ?_⟩
        rw [z81] at hs
        obtain ⟨⟨c1, c2, c3⟩, c4, c5⟩ := sl.2.2 s hs
        obtain ⟨g1, g2⟩ := e83 s hs
        have m83 : (soE (soS (S.1 81 4).toNat 0 S) 0).1 83 s = (soS (S.1 81 4).toNat 0 S).1 83 s := by
          unfold soE; simp only [stA]; rw [if_neg (by decide), if_neg (by decide)]
        have m84 : (soE (soS (S.1 81 4).toNat 0 S) 0).1 84 s = (soS (S.1 81 4).toNat 0 S).1 84 s := by
          unfold soE; simp only [stA]; rw [if_neg (by decide), if_neg (by decide)]
        have o56 : (soS (S.1 81 4).toNat 0 S).1 256 s = S.1 256 s := fr 256 s (by simp [cSo])
        have o57 : (soS (S.1 81 4).toNat 0 S).1 257 s = S.1 257 s := fr 257 s (by simp [cSo])
        have m56 : (soE (soS (S.1 81 4).toNat 0 S) 0).1 256 s = @ite _ (soP S s) (Classical.propDecidable _) (ff0 S s) (S.1 256 s) := by
          unfold soE
          simp only [stA]
          rw [if_neg (by decide), if_pos trivial]
          by_cases q : soP S s
          · rw [if_pos ⟨by omega, by rw [e12]; omega, (hsoP s).mpr q⟩, if_pos q, hff]
          · rw [if_neg (fun z => q ((hsoP s).mp z.2.2)), if_neg q, o56]
        have m57 : (soE (soS (S.1 81 4).toNat 0 S) 0).1 257 s = @ite _ (soP S s) (Classical.propDecidable _) (-1) (S.1 257 s) := by
          unfold soE
          simp only [stA]
          rw [if_pos trivial]
          by_cases q : soP S s
          · rw [if_pos ⟨by omega, by rw [e12]; omega, (hsoP s).mpr q⟩, if_pos q]
          · rw [if_neg (fun z => q ((hsoP s).mp z.2.2)), if_neg q, o57]
        rw [m83, m84, m56, m57, g1, g2, fr2 255 s (by simp [cSo]), fr2 82 s (by simp [cSo]), fr2 3 7 (by decide), fr2 14 4 (by decide)]
        have u9 : ∀ t, uS (soE (soS (S.1 81 4).toNat 0 S) 0) t ↔ uS S t := fun t => by
          unfold uS
          rw [fr2 209 t.toNat (by simp [cSo])]
        refine ⟨⟨c1, by rw [c2], by rw [c3]⟩, c4, ?_⟩
        by_cases q : soP S s
        · rw [if_pos q, if_pos q]
          have := ff0_r q.2
          have n2 := en.2.1
          exact Or.inr ⟨by omega, Or.inl rfl⟩
        · rw [if_neg q, if_neg q]
          refine c5.imp id fun z => ⟨z.1, z.2.imp id fun y => ⟨(u9 _).mpr y.1, ?_⟩⟩
          rw [fr2 209 _ (by simp [cSo])]
          exact y.2
      have ved : iEd (soE (soS (S.1 81 4).toNat 0 S) 0) := iEd_c (fr2 222 4 (by decide)) (fr2 245 37 (by decide)) (funext fun b => fr2 223 b (by simp [cSo])) (funext fun b => fr2 271 b (by simp [cSo])) (funext fun b => fr2 272 b (by simp [cSo])) (funext fun b => fr2 273 b (by simp [cSo])) (fun e he => ⟨funext fun b => fr2 _ b (by simp [cSo]; omega), funext fun b => fr2 _ b (by simp [cSo]; omega)⟩) ed
      rw [pat_e fr2 f2] at vsl ved ⊢
      exact ⟨tp, bk, bh, vsl, se, po, ved, pr, en, ru, ws, wf, kn⟩
    refine kn_I i1 ?_
    have fr2 : ∀ a b, (fun a b => cSo a b || (decide (a = 256) || decide (a = 257))) a b = false → (soE (soS (S.1 81 4).toNat 0 S) 0).1 a b = S.1 a b := fun a b hc => by
      simp at hc
      unfold soE
      simp only [stA]
      rw [if_neg hc.2.2, if_neg hc.2.1]
      exact fr a b hc.1
    rw [pat_e fr2 (soS_2)]
    exact hgS
