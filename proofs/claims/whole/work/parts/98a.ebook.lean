/-! EQUAL ANSWERS: book, before -/
def FeC (X : aS) (F L : Nat → Int) : Prop := (∀ b : Nat, (b : Int) < X.1 3 7 → X.1 4 b ≤ F b ∧ F b ≤ L b ∧ L b ≤ X.1 5 b) ∧ ∀ k : Nat, (k : Int) < X.1 3 8 → F (X.1 9 k).toNat < F (X.1 10 k).toNat ∧ L (X.1 9 k).toNat < L (X.1 10 k).toNat
def FeD (X : aS) (f l : Nat → Int) : Prop := FeC X f l ∧ ∀ F L, FeC X F L → ∀ b : Nat, (b : Int) < X.1 3 7 → f b ≤ F b ∧ L b ≤ l b
theorem tld_b {X : aS} {b : Nat} (hb : (b : Int) < X.1 3 7) : (tld X).1 b = X.1 4 b ∧ (tld X).2 b = X.1 5 b := ⟨if_pos hb, if_pos hb⟩
theorem tgO_y {X : aS} (hb : bfr X) {F L : Nat → Int} (h : FeC X F L) : tgO X := by
  obtain ⟨b1, b2, b3, b4, b5⟩ := hb
  have hr : ∀ k, k < (X.1 3 8).toNat → (X.1 9 k).toNat < (X.1 3 7).toNat ∧ (X.1 10 k).toNat < (X.1 3 7).toNat := fun k hk => by have := b5 k (by omega); omega
  refine ⟨tg_end (nb := (X.1 3 7).toNat) (F := F) (L := L) (by omega) hr (fun k hk => (h.2 k (by omega)).1) (fun k hk => (h.2 k (by omega)).2), fun k hk => ?_⟩
  have lo := tgX_lo (ea := X.1 9) (la := X.1 10) (m := (X.1 3 8).toNat) (nb := (X.1 3 7).toNat) (F := F) (L := L) hr (fun k hk => h.2 k (by omega)) (n := 30) (p := True) (x := tld X) (fun b hb => by
    obtain ⟨e1, e2⟩ := tld_b (X := X) (b := b) (by omega)
    have := h.1 b (by omega)
    omega) k (by omega)
  have := h.1 k hk
  have e : tgF X = tgX (X.1 9) (X.1 10) (X.1 3 8).toNat 30 True (tld X) := rfl
  rw [e]
  omega
theorem tgO_D {X : aS} (hb : bfr X) (h : tgO X) : FeD X (tgF X).1 (tgF X).2 := by
  obtain ⟨b1, b2, b3, b4, b5⟩ := hb
  have hr : ∀ k, k < (X.1 3 8).toNat → (X.1 9 k).toNat < (X.1 3 7).toNat ∧ (X.1 10 k).toNat < (X.1 3 7).toNat := fun k hk => by have := b5 k (by omega); omega
  have e : tgF X = tgX (X.1 9) (X.1 10) (X.1 3 8).toNat 30 True (tld X) := rfl
  refine ⟨⟨fun b hb => ?_, fun k hk => ?_⟩, fun F L hF b hb => ?_⟩
  · have m := tgX_m (ea := X.1 9) (la := X.1 10) (m := (X.1 3 8).toNat) (n := 30) (p := True) (x := tld X) (j := b)
    obtain ⟨e1, e2⟩ := tld_b (X := X) hb
    have := h.2 b hb
    rw [e] at this ⊢
    omega
  · rw [e]
    exact tgX_ok h.1 (Or.inl trivial) k (by omega)
  · rw [e]
    exact tgX_lo (ea := X.1 9) (la := X.1 10) (m := (X.1 3 8).toNat) (nb := (X.1 3 7).toNat) (F := F) (L := L) hr (fun k hk => hF.2 k (by omega)) (n := 30) (p := True) (x := tld X) (fun b hb => by
      obtain ⟨e1, e2⟩ := tld_b (X := X) (b := b) (by omega)
      have := hF.1 b (by omega)
      omega) b (by omega)
/-- the two sides' systems of befores are one -/
def syE (C M : aS) : Prop := M.1 245 3 = C.1 3 7 ∧ M.1 245 4 = C.1 3 8 ∧ (∀ b : Nat, (b : Int) < C.1 3 7 → M.1 248 b = C.1 4 b ∧ M.1 249 b = C.1 5 b) ∧ ∀ k : Nat, (k : Int) < C.1 3 8 → M.1 252 k = C.1 9 k ∧ M.1 253 k = C.1 10 k
theorem sy_Fe {C M : aS} (h : syE C M) {F L : Nat → Int} : Fe M F L ↔ FeC C F L := by
  obtain ⟨h1, h2, h3, h4⟩ := h
  unfold Fe FeC
  rw [h1, h2]
  constructor
  · rintro ⟨a, b⟩
    exact ⟨fun j hj => by have := a j hj; rw [(h3 j hj).1, (h3 j hj).2] at this; exact this, fun k hk => by have := b k hk; rw [(h4 k hk).1, (h4 k hk).2] at this; exact this⟩
  · rintro ⟨a, b⟩
    exact ⟨fun j hj => by rw [(h3 j hj).1, (h3 j hj).2]; exact a j hj, fun k hk => by rw [(h4 k hk).1, (h4 k hk).2]; exact b k hk⟩
theorem sy_un {C M : aS} (h : syE C M) {f l f2 l2 : Nat → Int} (h1 : FeL M f l) (h2 : FeD C f2 l2) : ∀ b : Nat, (b : Int) < C.1 3 7 → f b = f2 b ∧ l b = l2 b := fun b hb => by
  have a1 := h1.2 f2 l2 ((sy_Fe h).mpr h2.1) b (by rw [h.1]; exact hb)
  have a2 := h2.2 f l ((sy_Fe h).mp h1.1) b hb
  omega
theorem sy_tgS {C M : aS} (h : syE C M) (hb : bfr C) (ht : ∀ b : Nat, (b : Int) < C.1 3 7 → 1 ≤ C.1 4 b ∧ C.1 4 b ≤ C.1 5 b ∧ C.1 5 b ≤ 2000) : tgS M := by
  obtain ⟨h1, h2, h3, h4⟩ := h
  obtain ⟨b1, b2, b3, b4, b5⟩ := hb
  refine ⟨by omega, by omega, fun k hk => ?_, fun b hb => ?_⟩
  · rw [(h4 k (by omega)).1, (h4 k (by omega)).2, h1]; exact b5 k (by omega)
  · rw [(h3 b (by omega)).1, (h3 b (by omega)).2]; exact ht b (by omega)
theorem st2_o {S : aS} {f l : Nat → Int} {a : Nat} (h : ¬ a = 250) (h2 : ¬ a = 251) : (st2 S f l).1 a = S.1 a := s2_o h h2
set_option maxHeartbeats 4000000 in
theorem eq_book {S : aS} {a b : Int} (h : Inv S) : spX11_book [.inr (.inr 0), .inl a, .inl b] S (fun r T => spX12_book [.inr (.inr 245), .inl a, .inl b] T (Eqv r)) := by
  have h' := h
  obtain ⟨tp, bk, bh, sl, se, po, ed, pr, en, ru, ws, wf, kn⟩ := h'
  obtain ⟨b1, b2, b3, b4, b5, b6, b7⟩ := bk
  refine ⟨b1.1, b1.2, fun q => ⟨by omega, fun _ => ⟨rfl, h⟩, fun z => absurd q (by omega)⟩, fun q => ?_⟩
  have eC : ∀ (X : aS), X = upI (upI (upI (upI (upI S 4 (S.1 3 7).toNat a) 5 (S.1 3 7).toNat b) 6 (S.1 3 7).toNat a) 7 (S.1 3 7).toNat b) 3 7 (S.1 3 7 + 1) → (X.1 3 7 = S.1 3 7 + 1 ∧ X.1 3 8 = S.1 3 8 ∧ X.1 245 3 = S.1 3 7 ∧ X.1 245 4 = S.1 245 4) ∧ (∀ j, ¬ j = (S.1 3 7).toNat → X.1 4 j = S.1 4 j ∧ X.1 5 j = S.1 5 j ∧ X.1 6 j = S.1 6 j ∧ X.1 7 j = S.1 7 j) ∧ (X.1 4 (S.1 3 7).toNat = a ∧ X.1 5 (S.1 3 7).toNat = b ∧ X.1 6 (S.1 3 7).toNat = a ∧ X.1 7 (S.1 3 7).toNat = b) := fun X e => by
    subst e
    refine ⟨⟨up_hit, rfl, by rw [← b3]; rfl, rfl⟩, fun j hj => ⟨?_, ?_, ?_, ?_⟩, ?_, ?_, ?_, ?_⟩ <;> simp (disch := first | assumption | decide) only [up_obj, up_cell, up_hit]
  generalize hX : upI (upI (upI (upI (upI S 4 (S.1 3 7).toNat a) 5 (S.1 3 7).toNat b) 6 (S.1 3 7).toNat a) 7 (S.1 3 7).toNat b) 3 7 (S.1 3 7 + 1) = X
  obtain ⟨⟨x1, x2, x3, x4⟩, x5, x6, x7, x8, x9⟩ := eC X hX.symm
  have fr : ∀ y, ¬ y = 3 → ¬ y = 4 → ¬ y = 5 → ¬ y = 6 → ¬ y = 7 → X.1 y = S.1 y := fun y z1 z2 z3 z4 z5 => by
    rw [← hX]
    rw [up_f z1, up_f z5, up_f z4, up_f z3, up_f z2]
  have x9' : X.1 9 = S.1 9 := fr 9 (by decide) (by decide) (by decide) (by decide) (by decide)
  have x10 : X.1 10 = S.1 10 := fr 10 (by decide) (by decide) (by decide) (by decide) (by decide)
  have hbf : bfr X := ⟨by omega, by omega, by omega, by omega, fun k hk => by rw [x9', x10]; have := (b6 k (by omega)).2; omega⟩
  have hM : (boM X a b).1 245 3 = S.1 3 7 + 1 ∧ (boM X a b).1 245 4 = S.1 3 8 ∧ (∀ j, (boM X a b).1 248 j = if j = (S.1 3 7).toNat then a else S.1 248 j) ∧ (∀ j, (boM X a b).1 249 j = if j = (S.1 3 7).toNat then b else S.1 249 j) := by
    unfold boM
    rw [x3]
    refine ⟨up_hit, ?_, fun j => ?_, fun j => ?_⟩
    · rw [up_cell (by decide), up_obj (by decide), up_obj (by decide), x4]; exact b4
    · rw [up_obj (by decide), up_obj (by decide)]
      by_cases e : j = (S.1 3 7).toNat
      · rw [if_pos e, e, up_hit]
      · rw [if_neg e, up_cell e, fr 248 (by decide) (by decide) (by decide) (by decide) (by decide)]
    · rw [up_obj (by decide)]
      by_cases e : j = (S.1 3 7).toNat
      · rw [if_pos e, e, up_hit]
      · rw [if_neg e, up_cell e, up_obj (by decide), fr 249 (by decide) (by decide) (by decide) (by decide) (by decide)]
  obtain ⟨m1, m2, m3, m4⟩ := hM
  have fM : ∀ y, ¬ y = 245 → ¬ y = 248 → ¬ y = 249 → (boM X a b).1 y = X.1 y := fun y z1 z2 z3 => by
    unfold boM
    rw [up_f z1, up_f z3, up_f z2]
  have sy : syE X (boM X a b) := by
    refine ⟨by rw [m1, x1], by rw [m2, x2], fun j hj => ?_, fun k hk => ?_⟩
    · rw [m3, m4]
      by_cases e : j = (S.1 3 7).toNat
      · rw [if_pos e, if_pos e, e, x6, x7]; exact ⟨rfl, rfl⟩
      · obtain ⟨y1, y2, _, _⟩ := x5 j e
        rw [if_neg e, if_neg e, y1, y2]
        have := (b5 j (by omega)).1
        exact ⟨this.1, this.2.1⟩
    · rw [fM 252 (by decide) (by decide) (by decide), fM 253 (by decide) (by decide) (by decide), x9', x10, fr 252 (by decide) (by decide) (by decide) (by decide) (by decide), fr 253 (by decide) (by decide) (by decide) (by decide) (by decide)]
      exact (b6 k (by omega)).1
  have ht : ∀ j : Nat, (j : Int) < X.1 3 7 → 1 ≤ X.1 4 j ∧ X.1 4 j ≤ X.1 5 j ∧ X.1 5 j ≤ 2000 := fun j hj => by
    by_cases e : j = (S.1 3 7).toNat
    · rw [e, x6, x7]; omega
    · obtain ⟨y1, y2, _, _⟩ := x5 j e
      rw [y1, y2]
      exact (b5 j (by omega)).2
  have hD : FeD X (X.1 6) (X.1 7) := by
    have base := b7
    refine ⟨⟨fun j hj => ?_, fun k hk => ?_⟩, fun F L hF j hj => ?_⟩
    · by_cases e : j = (S.1 3 7).toNat
      · rw [e, x6, x7, x8, x9]; omega
      · obtain ⟨y1, y2, y3, y4⟩ := x5 j e
        have hj' : (j : Int) < S.1 3 7 := by omega
        have := (b5 j hj').1
        have := base.1.1 j (by omega)
        rw [y1, y2, y3, y4]
        omega
    · have hk' : (k : Int) < S.1 3 8 := by omega
      obtain ⟨⟨e1, e2⟩, e3, e4⟩ := b6 k hk'
      have := base.1.2 k (by omega)
      rw [e1, e2] at this
      rw [x9', x10]
      obtain ⟨_, _, y3, y4⟩ := x5 (S.1 9 k).toNat (by omega)
      obtain ⟨_, _, z3, z4⟩ := x5 (S.1 10 k).toNat (by omega)
      have c1 := (b5 (S.1 9 k).toNat (by omega)).1
      have c2 := (b5 (S.1 10 k).toNat (by omega)).1
      rw [y3, y4, z3, z4]
      omega
    · by_cases e : j = (S.1 3 7).toNat
      · have := hF.1 j hj
        rw [e, x6, x7] at this
        rw [e, x8, x9]
        omega
      · have hj' : (j : Int) < S.1 3 7 := by omega
        obtain ⟨_, _, y3, y4⟩ := x5 j e
        have c1 := (b5 j hj').1
        have := base.2 F L ⟨fun i hi => by
            have hi' : (i : Int) < S.1 3 7 := by omega
            have w := hF.1 i (by omega)
            obtain ⟨w1, w2, _, _⟩ := x5 i (by omega)
            rw [w1, w2] at w
            have w3 := (b5 i hi').1
            omega, fun k hk => by
            have w := hF.2 k (by omega)
            rw [x9', x10] at w
            obtain ⟨⟨e1, e2⟩, _⟩ := b6 k (by omega)
            rw [e1, e2]; exact w⟩ j (by omega)
        rw [y3, y4]
        omega
  have hgo : ∀ f l, FeL (boM X a b) f l → Inv (st2 (boM X a b) f l) := fun f l hf => by
    have un := sy_un sy hf hD
    have f2 : ∀ y, ¬ y = 250 → ¬ y = 251 → ¬ y = 245 → ¬ y = 248 → ¬ y = 249 → (st2 (boM X a b) f l).1 y = X.1 y := fun y z1 z2 z3 z4 z5 => by rw [st2_o z1 z2, fM y z3 z4 z5]
    have frU : ∀ y z, (decide (y = 3) || (decide (y = 4) || (decide (y = 5) || (decide (y = 6) || (decide (y = 7) || (decide (y = 248) || (decide (y = 249) || (decide (y = 250) || (decide (y = 251) || (decide (y = 245) && decide (z = 3))))))))))) = false → (st2 (boM X a b) f l).1 y z = S.1 y z := fun y z hc => by
      simp at hc
      rw [st2_o (by omega) (by omega)]
      by_cases e : y = 245
      · subst e
        unfold boM
        rw [up_cell (by omega), up_obj (by decide), up_obj (by decide), fr 245 (by decide) (by decide) (by decide) (by decide) (by decide)]
      · rw [fM y e (by omega) (by omega), fr y (by omega) (by omega) (by omega) (by omega) (by omega)]
    have e3 : (st2 (boM X a b) f l).1 3 7 = S.1 3 7 + 1 := by rw [f2 3 (by decide) (by decide) (by decide) (by decide) (by decide), x1]
    have e38 : (st2 (boM X a b) f l).1 3 8 = S.1 3 8 := by rw [f2 3 (by decide) (by decide) (by decide) (by decide) (by decide), x2]
    have vbk : iBk (st2 (boM X a b) f l) := by
      refine ⟨by rw [e3]; omega, by rw [e38]; exact b2, ?_, ?_, fun j hj => ?_, fun k hk => ?_, ?_⟩
      · rw [e3, st2_o (by decide) (by decide), m1]
      · rw [e38, st2_o (by decide) (by decide), m2]
      · rw [e3] at hj
        have u := un j (by omega)
        have s := sy.2.2.1 j (by omega)
        have t := ht j (by omega)
        rw [s2_f, s2_l, st2_o (a := 248) (by decide) (by decide), st2_o (a := 249) (by decide) (by decide), f2 4 (by decide) (by decide) (by decide) (by decide) (by decide), f2 5 (by decide) (by decide) (by decide) (by decide) (by decide), f2 6 (by decide) (by decide) (by decide) (by decide) (by decide), f2 7 (by decide) (by decide) (by decide) (by decide) (by decide)]
        exact ⟨⟨s.1, s.2, u.1, u.2⟩, t⟩
      · rw [e38] at hk
        rw [e3, frU 252 k (by simp), frU 253 k (by simp), frU 9 k (by simp), frU 10 k (by simp)]
        have := b6 k hk
        exact ⟨this.1, by omega, by omega⟩
      · exact hf
    have vbh : iBh (st2 (boM X a b) f l) := by
      unfold iBh at bh ⊢
      rw [e3, e38, funext (fun z => frU 8 z (by simp)), funext (fun z => frU 254 z (by simp)), funext (fun z => frU 9 z (by simp)), funext (fun z => frU 10 z (by simp))]
      exact ⟨bh.1, fun x y hx hy hz => bh.2.1 x y hx hy (by omega), bh.2.2⟩
    have vsl : iSl (st2 (boM X a b) f l) := by
      have z81 := frU 81 4 (by decide)
      refine ⟨by rw [z81]; exact sl.1, by rw [z81, frU 245 12 (by decide)]; exact sl.2.1, fun s hs => ?_⟩
      rw [z81] at hs
      obtain ⟨c1, c2, c3⟩ := sl.2.2 s hs
      have u9 : ∀ t, uS (st2 (boM X a b) f l) t ↔ uS S t := fun t => by
        unfold uS
        rw [frU 209 t.toNat (by simp)]
      rw [frU 255 s (by simp), frU 256 s (by simp), frU 257 s (by simp), frU 82 s (by simp), frU 83 s (by simp), frU 84 s (by simp), e3, frU 14 4 (by decide)]
      refine ⟨c1, by omega, c3.imp id fun z => ⟨z.1, z.2.imp id fun y => ⟨(u9 _).mpr y.1, ?_⟩⟩⟩
      rw [frU 209 _ (by simp)]
      exact y.2
    have ved : iEd (st2 (boM X a b) f l) := iEd_c (frU 222 4 (by decide)) (frU 245 37 (by decide)) (funext fun b => frU 223 b (by simp)) (funext fun b => frU 271 b (by simp)) (funext fun b => frU 272 b (by simp)) (funext fun b => frU 273 b (by simp)) (fun e he => ⟨funext fun b => frU _ b (by simp; omega), funext fun b => frU _ b (by simp; omega)⟩) ed
    have f22 : (st2 (boM X a b) f l).2 = S.2 := by
      show X.2 = S.2
      rw [← hX]; rfl
    rw [pat_e frU f22] at vbk vbh vsl ved ⊢
    exact ⟨tp, vbk, vbh, vsl, se, po, ved, pr, en, ru, ws, wf, kn⟩
  refine ⟨by rw [x3]; exact b1, fun z => absurd (by rw [x3]; omega) z, fun _ => ⟨sy_tgS sy hbf ht, fun f l hf => ⟨by rw [x3], hgo f l hf⟩, fun hn => absurd ⟨_, _, (sy_Fe sy).mpr hD.1⟩ hn⟩⟩
