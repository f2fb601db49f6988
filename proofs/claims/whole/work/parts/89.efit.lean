/-! EQUAL ANSWERS: what fits -/
theorem okL_A {n : Nat} {L : List Nat} (h : okL n L) : okA L := h.2
def okW (L : List Nat) : Prop := okA L ∧ 1 ≤ L.length ∧ L.length ≤ 8
theorem v5_inj {A B : List Nat} (hA : okA A) (hB : okA B) (h : v5 A = v5 B) : A = B := by
  rw [v5_n, v5_n] at h
  exact vn_inj (okA_5 hA) (okA_5 hB) (by omega)
theorem v8_inj {A B : List Nat} (hA : okA A) (hB : okA B) (h : v8 A = v8 B) : A = B := by
  rw [v8_n, v8_n] at h
  exact vn_inj (okA_8 hA) (okA_8 hB) (by omega)
theorem v5_0 {A : List Nat} (hA : okA A) (h : 1 ≤ A.length) : ¬ v5 A = 0 := by
  intro z
  have := v5_inj (A := A) (B := []) hA (fun x hx => absurd hx (by simp)) z
  rw [this] at h
  exact absurd h (by simp)
theorem v8_0 {A : List Nat} (hA : okA A) (h : 1 ≤ A.length) : ¬ v8 A = 0 := by
  intro z
  have := v8_inj (A := A) (B := []) hA (fun x hx => absurd hx (by simp)) z
  rw [this] at h
  exact absurd h (by simp)
/-- rule r, as lists -/
def ruL (S : aS) (r : Nat) (O F : List Nat) : Prop := (okL 2 O ∧ okL 2 F) ∧ (S.2 12 r = v5 O ∧ S.2 264 r = v8 O) ∧ S.2 13 r = v5 F ∧ S.2 265 r = v8 F
theorem ruL_ex {S : aS} (h : iRu S) {r : Nat} (hr : (r : Int) < S.1 11 2) : ∃ O F, ruL S r O F := by
  obtain ⟨⟨O, a, b, c⟩, ⟨F, d, e, g⟩⟩ := h.2.2.2.2 r hr
  exact ⟨O, F, ⟨a, d⟩, ⟨b, c⟩, e, g⟩
def stL (S : aS) (A B : List Nat) : Prop := ∃ r : Nat, (r : Int) < S.1 11 2 ∧ ∃ p : Nat, p < 8 ∧ ∃ O F, ruL S r O F ∧ chC A O F p ∧ (chL A O F p).length ≤ 8 ∧ B = chL A O F p
theorem chL_W {A O F : List Nat} {p : Nat} (hA : okW A) (hO : okL 2 O) (hF : okL 2 F) (hc : chC A O F p) (h8 : (chL A O F p).length ≤ 8) : okW (chL A O F p) := by
  have := chL_l (F := F) hc hO.1.1
  have := chC_l hc hO.1.1
  have := hF.1.1
  exact ⟨chL_ok hA.1 hF.2, by omega, h8⟩
theorem nb_f {S : aS} (h : iRu S) {A : List Nat} (hA : okW A) {x : Int} : nb S (v5 A) (S.2 12) (S.2 13) x ↔ ∃ B, okW B ∧ x = v5 B ∧ (B = A ∨ stL S A B) := by
  constructor
  · rintro (z | ⟨r, hr, p, hp, z, z2⟩)
    · exact ⟨A, hA, z, Or.inl rfl⟩
    · obtain ⟨O, F, hO⟩ := ruL_ex h hr
      have k := hO
      obtain ⟨⟨o1, o2⟩, ⟨o3, _⟩, o4, _⟩ := k
      rw [o3, o4, v5_n, v5_n, v5_n, chg5_v hA.1 o1.2 o2.2 hA.2.2 o1.1 o2.1.2 hp] at z z2
      by_cases q : chC A O F p ∧ (chL A O F p).length ≤ 8
      · rw [if_pos q, ← v5_n] at z2
        exact ⟨_, chL_W hA o1 o2 q.1 q.2, z2, Or.inr ⟨r, hr, p, hp, O, F, hO, q.1, q.2, rfl⟩⟩
      · rw [if_neg q] at z; exact absurd rfl z
  · rintro ⟨B, hB, hx, z | ⟨r, hr, p, hp, O, F, hO, q1, q2, z⟩⟩
    · rw [z] at hx; exact Or.inl hx
    · obtain ⟨⟨o1, o2⟩, ⟨o3, _⟩, o4, _⟩ := hO
      refine Or.inr ⟨r, hr, p, hp, ?_, ?_⟩
      · rw [o3, o4, v5_n, v5_n, v5_n, chg5_v hA.1 o1.2 o2.2 hA.2.2 o1.1 o2.1.2 hp, if_pos ⟨q1, q2⟩, ← v5_n, ← z]
        exact v5_0 hB.1 hB.2.1
      · rw [o3, o4, v5_n, v5_n, v5_n, chg5_v hA.1 o1.2 o2.2 hA.2.2 o1.1 o2.1.2 hp, if_pos ⟨q1, q2⟩, ← v5_n, ← z]
        exact hx
theorem nb_b {S : aS} (h : iRu S) {A : List Nat} (hA : okW A) {x : Int} : nb S (v5 A) (S.2 13) (S.2 12) x ↔ ∃ B, okW B ∧ x = v5 B ∧ (B = A ∨ stL S B A) := by
  constructor
  · rintro (z | ⟨r, hr, p, hp, z, z2⟩)
    · exact ⟨A, hA, z, Or.inl rfl⟩
    · obtain ⟨O, F, hO⟩ := ruL_ex h hr
      have k := hO
      obtain ⟨⟨o1, o2⟩, ⟨o3, _⟩, o4, _⟩ := k
      rw [o3, o4, v5_n, v5_n, v5_n, chg5_v hA.1 o2.2 o1.2 hA.2.2 o2.1 o1.1.2 hp] at z z2
      by_cases q : chC A F O p ∧ (chL A F O p).length ≤ 8
      · rw [if_pos q, ← v5_n] at z2
        obtain ⟨b1, b2⟩ := chL_back q.1 o2.1.1
        exact ⟨_, chL_W hA o2 o1 q.1 q.2, z2, Or.inr ⟨r, hr, p, hp, O, F, hO, b1, by rw [b2]; exact hA.2.2, b2.symm⟩⟩
      · rw [if_neg q] at z; exact absurd rfl z
  · rintro ⟨B, hB, hx, z | ⟨r, hr, p, hp, O, F, hO, q1, q2, z⟩⟩
    · rw [z] at hx; exact Or.inl hx
    · obtain ⟨⟨o1, o2⟩, ⟨o3, _⟩, o4, _⟩ := hO
      obtain ⟨b1, b2⟩ := chL_back q1 o1.1.1
      rw [← z] at b1 b2
      have q : chC A F O p ∧ (chL A F O p).length ≤ 8 := ⟨b1, by rw [b2]; exact hB.2.2⟩
      refine Or.inr ⟨r, hr, p, hp, ?_, ?_⟩
      · rw [o3, o4, v5_n, v5_n, v5_n, chg5_v hA.1 o2.2 o1.2 hA.2.2 o2.1 o1.1.2 hp, if_pos q, ← v5_n, b2]
        exact v5_0 hB.1 hB.2.1
      · rw [o3, o4, v5_n, v5_n, v5_n, chg5_v hA.1 o2.2 o1.2 hA.2.2 o2.1 o1.1.2 hp, if_pos q, ← v5_n, b2]
        exact hx
theorem chR_v {S : aS} {A O F : List Nat} {r p : Nat} (hA : okW A) (hO : ruL S r O F) (hp : p < 8) : chR S (v8 A) r p = @ite _ (chC A O F p ∧ (chL A O F p).length ≤ 8) (Classical.propDecidable _) (v8 (chL A O F p)) 0 := by
  obtain ⟨⟨o1, o2⟩, ⟨_, o3⟩, _, o4⟩ := hO
  unfold chR
  rw [o3, o4, v8_n, v8_n, v8_n, chg8_v hA.1 o1.2 o2.2 hA.2.2 o1.1 o2.1 hp, v8_n]
theorem l1_v {S : aS} (h : iRu S) {A B : List Nat} (hA : okW A) (hB : okW B) : l1M S (v8 A) (v8 B) ↔ stL S A B := by
  have e14 := h.2.2.2.1
  constructor
  · rintro ⟨r, hr, p, hp, z⟩
    obtain ⟨O, F, hO⟩ := ruL_ex h (by omega : (r : Int) < S.1 11 2)
    rw [chR_v hA hO hp] at z
    by_cases q : chC A O F p ∧ (chL A O F p).length ≤ 8
    · rw [if_pos q] at z
      exact ⟨r, by omega, p, hp, O, F, hO, q.1, q.2, (v8_inj (chL_ok hA.1 hO.1.2.2) hB.1 z).symm⟩
    · rw [if_neg q] at z
      exact absurd z.symm (v8_0 hB.1 hB.2.1)
  · rintro ⟨r, hr, p, hp, O, F, hO, q1, q2, z⟩
    refine ⟨r, by omega, p, hp, ?_⟩
    rw [chR_v hA hO hp, if_pos ⟨q1, q2⟩, z]
theorem ld_v {S : aS} (h : iRu S) {A B : List Nat} (hA : okW A) (hB : okW B) : ldM S (v8 A) (v8 B) ↔ (A = B ∨ stL S A B ∨ ∃ C, okW C ∧ stL S A C ∧ stL S C B) := by
  have e14 := h.2.2.2.1
  unfold ldM
  rw [l1_v h hA hB]
  constructor
  · rintro (z | z | ⟨r, hr, p, hp, z1, z2⟩)
    · exact Or.inl (v8_inj hA.1 hB.1 z)
    · exact Or.inr (Or.inl z)
    · obtain ⟨O, F, hO⟩ := ruL_ex h (by omega : (r : Int) < S.1 11 2)
      rw [chR_v hA hO hp] at z1 z2
      by_cases q : chC A O F p ∧ (chL A O F p).length ≤ 8
      · rw [if_pos q] at z2
        have hC := chL_W hA hO.1.1 hO.1.2 q.1 q.2
        exact Or.inr (Or.inr ⟨_, hC, ⟨r, by omega, p, hp, O, F, hO, q.1, q.2, rfl⟩, (l1_v h hC hB).mp z2⟩)
      · rw [if_neg q] at z1; exact absurd rfl z1
  · rintro (z | z | ⟨C, hC, ⟨r, hr, p, hp, O, F, hO, q1, q2, z⟩, z2⟩)
    · rw [z]; exact Or.inl rfl
    · exact Or.inr (Or.inl z)
    · refine Or.inr (Or.inr ⟨r, by omega, p, hp, ?_⟩)
      unfold l2P
      rw [chR_v hA hO hp, if_pos ⟨q1, q2⟩, ← z]
      exact ⟨v8_0 hC.1 hC.2.1, (l1_v h hC hB).mpr z2⟩
theorem mt_ld {S : aS} (ru : iRu S) (ws : iWs S) (wf : iWf S) {s k : Nat} (hs : (s : Int) < S.1 81 4) (hs2 : s < 120) (hk : exK S k) (hk2 : k < 60) : mtP S (k : Int) (s : Int) ↔ ldM S (S.2 263 k) (S.2 258 s) := by
  obtain ⟨⟨Lf, a1, a2, a3⟩, a4, a5⟩ := (wf k hk2).1 hk
  obtain ⟨⟨Ls, b1, b2, b3⟩, b4, b5⟩ := (ws s hs2).1 hs
  have hA : okW Lf := ⟨a1.2, a1.1⟩
  have hB : okW Ls := ⟨b1.2, b1.1⟩
  rw [a3, b3, ld_v ru hA hB]
  unfold mtP
  simp only [Int.toNat_natCast]
  have key : (∃ i m : Nat, (i : Int) < S.1 80 k ∧ (m : Int) < S.1 207 s ∧ S.2 (20 + k) i = S.2 (87 + s) m) ↔ ∃ x, nb S (v5 Lf) (S.2 12) (S.2 13) x ∧ nb S (v5 Ls) (S.2 13) (S.2 12) x := by
    constructor
    · rintro ⟨i, m, i1, m1, e⟩
      refine ⟨S.2 (20 + k) i, ?_, ?_⟩
      · rw [← a2]; exact (a5 _).mp ⟨i, i1, rfl⟩
      · rw [← b2]; exact (b5 _).mp ⟨m, m1, e.symm⟩
    · rintro ⟨x, x1, x2⟩
      rw [← a2] at x1
      rw [← b2] at x2
      obtain ⟨i, i1, i2⟩ := (a5 x).mpr x1
      obtain ⟨m, m1, m2⟩ := (b5 x).mpr x2
      exact ⟨i, m, i1, m1, i2.trans m2.symm⟩
  rw [key]
  constructor
  · rintro ⟨_, x, x1, x2⟩
    obtain ⟨B, hB1, e1, z1⟩ := (nb_f ru hA).mp x1
    obtain ⟨C, hC1, e2, z2⟩ := (nb_b ru hB).mp x2
    have e : B = C := v5_inj hB1.1 hC1.1 (e1.symm.trans e2)
    subst e
    rcases z1 with z1 | z1
    · rcases z2 with z2 | z2
      · exact Or.inl (z1.symm.trans z2)
      · rw [z1] at z2; exact Or.inr (Or.inl z2)
    · rcases z2 with z2 | z2
      · rw [z2] at z1; exact Or.inr (Or.inl z1)
      · exact Or.inr (Or.inr ⟨B, hB1, z1, z2⟩)
  · intro z
    refine ⟨⟨⟨by omega, by omega, by omega⟩, by omega, by omega, by omega⟩, ?_⟩
    rcases z with z | z | ⟨C, hC, z1, z2⟩
    · exact ⟨v5 Lf, (nb_f ru hA).mpr ⟨Lf, hA, rfl, Or.inl rfl⟩, (nb_b ru hB).mpr ⟨Lf, hA, rfl, Or.inl z⟩⟩
    · exact ⟨v5 Lf, (nb_f ru hA).mpr ⟨Lf, hA, rfl, Or.inl rfl⟩, (nb_b ru hB).mpr ⟨Lf, hA, rfl, Or.inr z⟩⟩
    · exact ⟨v5 C, (nb_f ru hA).mpr ⟨C, hC, rfl, Or.inr z1⟩, (nb_b ru hB).mpr ⟨C, hC, rfl, Or.inr z2⟩⟩
theorem ex_F {S : aS} (en : iEn S) {k : Nat} : (k < 60 ∧ exK S k) ↔ exF S k := by
  obtain ⟨e1, e2, e3, e4⟩ := en
  unfold exK exF
  constructor
  · rintro ⟨h1, h2⟩
    have hk : k / 5 < 12 := by omega
    obtain ⟨z1, z2, z3⟩ := e3 (k / 5) hk
    have h3 : ((k / 5 : Nat) : Int) < S.1 14 4 := by
      by_cases q : ((k / 5 : Nat) : Int) < S.1 14 4
      · exact q
      · have := z3 (by omega); omega
    exact ⟨h1, by omega, by have := (z2 h3).2; omega⟩
  · rintro ⟨h1, h2, h3⟩
    have hk : k / 5 < 12 := by omega
    obtain ⟨z1, z2, z3⟩ := e3 (k / 5) hk
    exact ⟨h1, by have := (z2 (by omega)).2; omega⟩
theorem fit_eq {S : aS} (h : Inv S) {s e : Nat} (hs : (s : Int) < S.1 81 4) (he : (e : Int) < S.1 14 4) : fitP S s e ↔ ftM S s e := by
  obtain ⟨tp, bk, bh, sl, se, po, ed, pr, en, ru, ws, wf, kn⟩ := h
  have s1 := sl.1
  have n1 := en.1
  obtain ⟨⟨c1, c2, c3⟩, c4, c5⟩ := sl.2.2 s hs
  obtain ⟨z1, z2, z3⟩ := en.2.2.1 e (by omega)
  obtain ⟨y1, y2⟩ := z2 he
  have hb := (bk.2.2.2.2.1 (S.1 82 s).toNat (by omega)).1
  unfold fitP ftM
  simp only [Int.toNat_natCast]
  have pt : ∀ i : Nat, (i : Int) < S.1 15 e → (fiP S (s : Int) (e : Int) (S.1 82 s) (i : Int) ↔ ftP S s (5 * e + i)) := fun i hi => by
    have ek : (e : Int) * 5 + (i : Int) = ((5 * e + i : Nat) : Int) := by omega
    have hx : exK S (5 * e + i) := by
      unfold exK
      rw [show (5 * e + i) / 5 = e from by omega, show (5 * e + i) % 5 = i from by omega]
      exact hi
    obtain ⟨f1, f2⟩ := en.2.2.2 (5 * e + i) (by omega) hx
    unfold fiP ftP
    rw [ek, mt_ld ru ws wf hs (by omega) hx (by omega)]
    simp only [Int.toNat_natCast]
    rw [f1, f2, c1, hb.2.2.1, hb.2.2.2]
    constructor
    · rintro ⟨⟨_, _, k3, k4⟩, k5⟩; exact ⟨k3, k4, k5⟩
    · rintro ⟨k3, k4, k5⟩; exact ⟨⟨by omega, by omega, k3, k4⟩, k5⟩
  constructor
  · rintro ⟨_, i, hi, hf⟩
    exact ⟨5 * e + i, by omega, by rw [y2]; omega, (pt i hi).mp hf⟩
  · rintro ⟨k, k1, k2, k3⟩
    rw [y2] at k2
    refine ⟨c4, k - 5 * e, by omega, (pt (k - 5 * e) (by omega)).mpr ?_⟩
    rw [show 5 * e + (k - 5 * e) = k from by omega]
    exact k3
