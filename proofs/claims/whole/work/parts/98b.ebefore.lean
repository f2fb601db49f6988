/-! EQUAL ANSWERS: before -/
theorem bfA_f {S : aS} {a b : Int} {x : Nat} (h : ¬ x = 9) (h2 : ¬ x = 10) (h3 : ¬ x = 3) : (bfA S a b).1 x = S.1 x := by
  unfold bfA
  rw [up_f h3, up_f h2, up_f h]
theorem bfT_f {S : aS} {x : Nat} (h : ¬ x = 6) (h2 : ¬ x = 7) : (bfT S).1 x = S.1 x := by
  funext y
  unfold bfT stFL
  simp only [stA]
  rw [if_neg h2, if_neg h]
theorem bfT_67 {S : aS} : (bfT S).1 6 = (tgF S).1 ∧ (bfT S).1 7 = (tgF S).2 := ⟨rfl, rfl⟩
theorem bhA_f {S : aS} {a b : Int} {x : Nat} (h : ¬ x = 8) : (bhA S a b).1 x = S.1 x := by
  funext y
  unfold bhA
  simp only [stA]
  rw [if_neg h]
theorem bfA_v {S : aS} {a b : Int} : (bfA S a b).1 3 8 = S.1 3 8 + 1 ∧ (bfA S a b).1 3 7 = S.1 3 7 ∧ (bfA S a b).1 9 (S.1 3 8).toNat = a ∧ (bfA S a b).1 10 (S.1 3 8).toNat = b ∧ ∀ k, ¬ k = (S.1 3 8).toNat → (bfA S a b).1 9 k = S.1 9 k ∧ (bfA S a b).1 10 k = S.1 10 k := by
  unfold bfA
  refine ⟨up_hit, rfl, ?_, ?_, fun k hk => ⟨?_, ?_⟩⟩
  · rw [up_obj (by decide), up_obj (by decide), up_hit]
  · rw [up_obj (by decide), up_hit]
  · rw [up_obj (by decide), up_obj (by decide), up_cell hk]
  · rw [up_obj (by decide), up_cell hk, up_obj (by decide)]
/-- the new relation: through the new before, or not -/
def nwR (E : Nat → Int) (a b x y : Nat) : Prop := zz E x y ∨ ((x = a ∨ zz E x a) ∧ (y = b ∨ zz E b y))
theorem cl_nw {S X : aS} {a b : Nat} {e : Nat → Int} (h : iBh S) (h3 : (S.1 3 7 ≤ 30)) (ha : (a : Int) < S.1 3 7) (hb : (b : Int) < S.1 3 7) (k3 : X.1 245 3 = S.1 3 7) (k254 : X.1 254 = S.1 254) {m : Nat} (hm : X.1 245 4 = (m : Int) + 1) (hm2 : (m : Int) = S.1 3 8) (hk : ∀ k, k < m → X.1 252 k = S.1 9 k ∧ X.1 253 k = S.1 10 k) (hn : X.1 252 m = a ∧ X.1 253 m = b) (he : clS X e) : (∀ x y : Nat, x < 30 → y < 30 → (zz e x y ↔ nwR (S.1 254) a b x y)) ∧ (∀ x y : Nat, x < 30 → y < 30 → (S.1 3 7 ≤ x ∨ S.1 3 7 ≤ y) → ¬ zz e x y) ∧ (∀ x z y : Nat, x < 30 → z < 30 → y < 30 → zz e x z → zz e z y → zz e x y) ∧ (∀ k, k < m + 1 → zz e (X.1 252 k).toNat (X.1 253 k).toNat) := by
  obtain ⟨h1, h2, h4, h5⟩ := h
  obtain ⟨c1, c2, c3, c4⟩ := he
  rw [hm] at c2
  rw [k3] at c4
  have inb : ∀ x : Nat, inB X x ↔ (x : Int) < S.1 3 7 := fun x => by unfold inB; rw [k3]
  have outE : ∀ x y : Nat, x < 30 → y < 30 → (S.1 3 7 ≤ x ∨ S.1 3 7 ≤ y) → e (30 * x + y) = S.1 254 (30 * x + y) := fun x y hx hy ho => by
    rcases c1 (30 * x + y) with z | ⟨z, a', b', w1, w2, w3⟩
    · rw [z, k254]
    · rw [inb] at w1 w2
      exfalso
      omega
  have out : ∀ x y : Nat, x < 30 → y < 30 → (S.1 3 7 ≤ x ∨ S.1 3 7 ≤ y) → ¬ zz e x y := fun x y hx hy ho z => by
    unfold zz at z
    rw [outE x y hx hy ho] at z
    exact h2 x y hx hy ho z
  have mono : ∀ x y : Nat, zz (S.1 254) x y → zz e x y := fun x y z => by
    unfold zz at z ⊢
    rcases c1 (30 * x + y) with w | ⟨w, _⟩
    · rw [w, k254]; exact z
    · rw [w]; decide
  have ab : zz e a b := by
    have := c2 m (by omega)
    rw [hn.1, hn.2] at this
    simpa using this
  have tr : ∀ x z y : Nat, (x : Int) < S.1 3 7 → (z : Int) < S.1 3 7 → (y : Int) < S.1 3 7 → zz e x z → zz e z y → zz e x y := fun x z y hx hz hy p q => c4 z (by omega) x y ((inb x).mpr hx) ((inb y).mpr hy) p q
  have key : ∀ x y : Nat, x < 30 → y < 30 → (zz e x y ↔ nwR (S.1 254) a b x y) := fun x y hx hy => by
    constructor
    · intro z
      by_cases ho : S.1 3 7 ≤ x ∨ S.1 3 7 ≤ y
      · exact absurd z (out x y hx hy ho)
      · refine c3 (nwR (S.1 254) a b) ⟨fun x y _ _ w => by rw [k254] at w; exact Or.inl w, fun k hk' => ?_, fun x z y ix iz iy p q => ?_⟩ x y ((inb x).mpr (by omega)) ((inb y).mpr (by omega)) z
        · by_cases e2 : k = m
          · rw [e2, hn.1, hn.2]
            exact Or.inr ⟨Or.inl (by omega), Or.inl (by omega)⟩
          · obtain ⟨w1, w2⟩ := hk k (by omega)
            rw [w1, w2]
            exact Or.inl (h5 k (by omega))
        · rw [inb] at ix iz iy
          rcases p with p | ⟨p1, p2⟩
          · rcases q with q | ⟨q1, q2⟩
            · exact Or.inl (h4 x z y (by omega) (by omega) (by omega) p q)
            · refine Or.inr ⟨Or.inr ?_, q2⟩
              rcases q1 with q1 | q1
              · rw [← q1]; exact p
              · exact h4 x z a (by omega) (by omega) (by omega) p q1
          · rcases q with q | ⟨q1, q2⟩
            · refine Or.inr ⟨p1, Or.inr ?_⟩
              rcases p2 with p2 | p2
              · rw [← p2]; exact q
              · exact h4 b z y (by omega) (by omega) (by omega) p2 q
            · exact Or.inr ⟨p1, q2⟩
    · rintro (z | ⟨z1, z2⟩)
      · exact mono x y z
      · have hxn : (x : Int) < S.1 3 7 := by
          rcases z1 with z1 | z1
          · omega
          · by_cases q : (x : Int) < S.1 3 7
            · exact q
            · exact absurd z1 (h2 x a hx (by omega) (by omega))
        have hyn : (y : Int) < S.1 3 7 := by
          rcases z2 with z2 | z2
          · omega
          · by_cases q : (y : Int) < S.1 3 7
            · exact q
            · exact absurd z2 (h2 b y (by omega) hy (by omega))
        have xb : zz e x b := by
          rcases z1 with z1 | z1
          · rw [z1]; exact ab
          · exact tr x a b hxn ha hb (mono _ _ z1) ab
        rcases z2 with z2 | z2
        · rw [z2]; exact xb
        · exact tr x b y hxn hb hyn xb (mono _ _ z2)
  refine ⟨key, out, fun x z y hx hz hy p q => ?_, fun k hk' => c2 k (by omega)⟩
  by_cases o1 : S.1 3 7 ≤ x ∨ S.1 3 7 ≤ z
  · exact absurd p (out x z hx hz o1)
  · by_cases o2 : S.1 3 7 ≤ y
    · exact absurd q (out z y hz hy (Or.inr o2))
    · exact tr x z y (by omega) (by omega) (by omega) p q
/-- COMMIT: the books' part changes alone -/
def cBk (y z : Nat) : Bool := (decide (3 ≤ y) && decide (y ≤ 10)) || ((decide (248 ≤ y) && decide (y ≤ 254)) || (decide (y = 245) && (decide (z = 3) || decide (z = 4))))
theorem inv_bk {S U : aS} (h : Inv S) (fr : ∀ y z, cBk y z = false → U.1 y z = S.1 y z) (f22 : U.2 = S.2) (vbk : iBk U) (vbh : iBh U) (h3 : S.1 3 7 ≤ U.1 3 7) : Inv U := by
  obtain ⟨tp, bk, bh, sl, se, po, ed, pr, en, ru, ws, wf, kn⟩ := h
  have vsl : iSl U := by
    have z81 := fr 81 4 (by decide)
    refine ⟨by rw [z81]; exact sl.1, by rw [z81, fr 245 12 (by decide)]; exact sl.2.1, fun s hs => ?_⟩
    rw [z81] at hs
    obtain ⟨c1, c2, c3⟩ := sl.2.2 s hs
    have u9 : ∀ t, uS U t ↔ uS S t := fun t => by
      unfold uS
      rw [fr 209 t.toNat (by simp [cBk])]
    rw [fr 255 s (by simp [cBk]), fr 256 s (by simp [cBk]), fr 257 s (by simp [cBk]), fr 82 s (by simp [cBk]), fr 83 s (by simp [cBk]), fr 84 s (by simp [cBk]), fr 14 4 (by decide)]
    refine ⟨c1, by omega, c3.imp id fun z => ⟨z.1, z.2.imp id fun y => ⟨(u9 _).mpr y.1, ?_⟩⟩⟩
    rw [fr 209 _ (by simp [cBk])]
    exact y.2
  have ved : iEd U := iEd_c (fr 222 4 (by decide)) (fr 245 37 (by decide)) (funext fun b => fr 223 b (by simp [cBk])) (funext fun b => fr 271 b (by simp [cBk])) (funext fun b => fr 272 b (by simp [cBk])) (funext fun b => fr 273 b (by simp [cBk])) (fun e he => ⟨funext fun b => fr _ b (by simp [cBk]; omega), funext fun b => fr _ b (by simp [cBk]; omega)⟩) ed
  have hp := pat_e fr f22
  rw [hp] at vbk vbh vsl ved ⊢
  exact ⟨tp, vbk, vbh, vsl, se, po, ved, pr, en, ru, ws, wf, kn⟩
theorem bhA_in {S : aS} (h : iBh S) {a b : Nat} (ha : (a : Int) < S.1 3 7) (hb : (b : Int) < S.1 3 7) (h30 : S.1 3 7 ≤ 30) {x y : Nat} (hx : x < 30) (hy : y < 30) {T : aS} (k3 : T.1 3 7 = S.1 3 7) (k8 : T.1 8 = S.1 8) : inS y ((bhA T a b).1 8 x) ↔ nwR (S.1 254) a b x y := by
  obtain ⟨h1, h2, h4, h5⟩ := h
  have e : (bhA T a b).1 8 x = if (x : Int) < S.1 3 7 ∧ ((x : Int) = a ∨ bAnd (bUshr (S.1 8 x) a) 1 = 1) then bOr (S.1 8 x) (bOr (bShl 1 b) (S.1 8 b)) else S.1 8 x := by
    unfold bhA
    simp only [stA]
    rw [if_pos trivial, k3, k8, Int.toNat_natCast]
  have hh : bAnd (bUshr (S.1 8 x) a) 1 = 1 ↔ zz (S.1 254) x a := h1 x a hx (by omega)
  unfold nwR
  by_cases q : (x : Int) < S.1 3 7 ∧ ((x : Int) = a ∨ zz (S.1 254) x a)
  · rw [e, if_pos ⟨q.1, q.2.imp id hh.mpr⟩, inS_or2 hy, inS_or2 hy, inS_sh hy (by omega), h1 x y hx hy, h1 b y (by omega) hy]
    have q2 : x = a ∨ zz (S.1 254) x a := q.2.imp (fun z => by omega) id
    exact ⟨fun z => z.imp id fun w => ⟨q2, w⟩, fun z => z.imp id fun w => w.2⟩
  · rw [e, if_neg (fun z => q ⟨z.1, z.2.imp id hh.mp⟩), h1 x y hx hy]
    refine ⟨Or.inl, fun z => z.resolve_right fun w => q ⟨?_, w.1.imp (fun v => by omega) id⟩⟩
    rcases w.1 with v | v
    · omega
    · by_cases q3 : (x : Int) < S.1 3 7
      · exact q3
      · exact absurd v (h2 x a hx (by omega) (Or.inl (by omega)))
theorem bf_tgP {C : aS} (hb : bfr C) (ht : ∀ b : Nat, (b : Int) < C.1 3 7 → 1 ≤ C.1 4 b ∧ C.1 4 b ≤ C.1 5 b ∧ C.1 5 b ≤ 2000) : tgP C := by
  refine ⟨hb, fun j hj => ?_⟩
  obtain ⟨e1, e2⟩ := tld_b (X := C) (b := j) (by omega)
  have := ht j (by omega)
  omega
theorem beM_v {X : aS} {a b : Int} : (beM X a b).1 245 3 = X.1 245 3 ∧ (beM X a b).1 245 4 = X.1 245 4 + 1 ∧ (beM X a b).1 252 (X.1 245 4).toNat = a ∧ (beM X a b).1 253 (X.1 245 4).toNat = b ∧ ∀ k, ¬ k = (X.1 245 4).toNat → (beM X a b).1 252 k = X.1 252 k ∧ (beM X a b).1 253 k = X.1 253 k := by
  unfold beM
  refine ⟨rfl, up_hit, ?_, ?_, fun k hk => ⟨?_, ?_⟩⟩
  · rw [up_obj (by decide), up_obj (by decide), up_hit]
  · rw [up_obj (by decide), up_hit]
  · rw [up_obj (by decide), up_obj (by decide), up_cell hk]
  · rw [up_obj (by decide), up_cell hk, up_obj (by decide)]
theorem beM_f {X : aS} {a b : Int} {y z : Nat} (h : ¬ y = 252) (h2 : ¬ y = 253) (h3 : ¬ (y = 245 ∧ z = 4)) : (beM X a b).1 y z = X.1 y z := by
  unfold beM
  by_cases e : y = 245
  · subst e
    rw [up_cell (fun w => h3 ⟨rfl, w⟩), up_obj h2, up_obj h]
  · rw [up_obj e, up_obj h2, up_obj h]
set_option maxHeartbeats 4000000 in
theorem eq_before {S : aS} {a b : Int} (h : Inv S) : spX11_before [.inr (.inr 0), .inl a, .inl b] S (fun r T => spX12_before [.inr (.inr 245), .inl a, .inl b] T (Eqv r)) := by
  have h' := h
  obtain ⟨tp, bk, bh, sl, se, po, ed, pr, en, ru, ws, wf, kn⟩ := h'
  obtain ⟨b1, b2, b3, b4, b5, b6, b7⟩ := bk
  have eT : teM S a b ↔ ∃ k : Nat, (k : Int) < S.1 3 8 ∧ S.1 9 k = a ∧ S.1 10 k = b := by
    unfold teM
    rw [b4]
    exact ⟨fun ⟨k, k1, k2, k3⟩ => ⟨k, k1, by rw [← k2, (b6 k k1).1.1], by rw [← k3, (b6 k k1).1.2]⟩, fun ⟨k, k1, k2, k3⟩ => ⟨k, k1, by rw [← k2, (b6 k k1).1.1], by rw [← k3, (b6 k k1).1.2]⟩⟩
  obtain ⟨v1, v2, v3, v4, v5⟩ := bfA_v (S := S) (a := a) (b := b)
  have hbf : ((0 ≤ a ∧ a < S.1 3 7) ∧ (0 ≤ b ∧ b < S.1 3 7) ∧ ¬ a = b) → S.1 3 8 < 60 → bfr (bfA S a b) := fun q q2 => by
    refine ⟨by omega, by omega, by omega, by omega, fun k hk => ?_⟩
    by_cases e : k = (S.1 3 8).toNat
    · rw [e, v3, v4]; omega
    · obtain ⟨w1, w2⟩ := v5 k e
      rw [w1, w2]
      have := (b6 k (by omega)).2
      omega
  have ht : ∀ j : Nat, (j : Int) < (bfA S a b).1 3 7 → 1 ≤ (bfA S a b).1 4 j ∧ (bfA S a b).1 4 j ≤ (bfA S a b).1 5 j ∧ (bfA S a b).1 5 j ≤ 2000 := fun j hj => by
    rw [bfA_f (x := 4) (by decide) (by decide) (by decide), bfA_f (x := 5) (by decide) (by decide) (by decide)]
    exact (b5 j (by omega)).2
  have w7 : (upI (bfT (bfA S a b)) 3 8 (S.1 3 8)).1 3 7 = S.1 3 7 := rfl
  have w8 : (upI (bfT (bfA S a b)) 3 8 (S.1 3 8)).1 3 8 = S.1 3 8 := up_hit
  have w4 : (upI (bfT (bfA S a b)) 3 8 (S.1 3 8)).1 4 = S.1 4 := by rw [up_f (by decide), bfT_f (by decide) (by decide), bfA_f (by decide) (by decide) (by decide)]
  have w5 : (upI (bfT (bfA S a b)) 3 8 (S.1 3 8)).1 5 = S.1 5 := by rw [up_f (by decide), bfT_f (by decide) (by decide), bfA_f (by decide) (by decide) (by decide)]
  have w9 : ∀ k : Nat, (k : Int) < S.1 3 8 → (upI (bfT (bfA S a b)) 3 8 (S.1 3 8)).1 9 k = S.1 9 k ∧ (upI (bfT (bfA S a b)) 3 8 (S.1 3 8)).1 10 k = S.1 10 k := fun k hk => by
    rw [up_f (by decide), up_f (by decide), bfT_f (by decide) (by decide), bfT_f (by decide) (by decide)]
    exact v5 k (by omega)
  have hbW : bfr (upI (bfT (bfA S a b)) 3 8 (S.1 3 8)) := by
    refine ⟨by rw [w7]; omega, by rw [w7]; omega, by rw [w8]; omega, by rw [w8]; omega, fun k hk => ?_⟩
    rw [w8] at hk
    rw [(w9 k hk).1, (w9 k hk).2, w7]
    exact (b6 k hk).2
  have htW : ∀ j : Nat, (j : Int) < (upI (bfT (bfA S a b)) 3 8 (S.1 3 8)).1 3 7 → 1 ≤ (upI (bfT (bfA S a b)) 3 8 (S.1 3 8)).1 4 j ∧ (upI (bfT (bfA S a b)) 3 8 (S.1 3 8)).1 4 j ≤ (upI (bfT (bfA S a b)) 3 8 (S.1 3 8)).1 5 j ∧ (upI (bfT (bfA S a b)) 3 8 (S.1 3 8)).1 5 j ≤ 2000 := fun j hj => by
    rw [w4, w5]
    exact (b5 j (by rw [← w7]; exact hj)).2
  -- the reference's state with the before told, over the class's state X
  have syC : ∀ X : aS, (∀ y z, (decide (y = 3) || (decide (y = 6) || (decide (y = 7) || (decide (y = 8) || (decide (y = 9) || decide (y = 10)))))) = false → X.1 y z = S.1 y z) → syE (bfA S a b) (beM X a b) := fun X fX => by
    obtain ⟨m1, m2, m3, m4, m5⟩ := beM_v (X := X) (a := a) (b := b)
    rw [fX 245 4 (by decide), b4] at m2 m3 m4 m5
    rw [fX 245 3 (by decide), b3] at m1
    refine ⟨by rw [m1, v2], by rw [m2, v1], fun j hj => ?_, fun k hk => ?_⟩
    · rw [beM_f (by decide) (by decide) (by simp), beM_f (by decide) (by decide) (by simp), fX 248 j (by simp), fX 249 j (by simp), bfA_f (by decide) (by decide) (by decide), bfA_f (by decide) (by decide) (by decide)]
      have := (b5 j (by omega)).1
      exact ⟨this.1, this.2.1⟩
    · by_cases e : k = (S.1 3 8).toNat
      · rw [e, m3, m4, v3, v4]; exact ⟨rfl, rfl⟩
      · rw [(m5 k e).1, (m5 k e).2, (v5 k e).1, (v5 k e).2, fX 252 k (by simp), fX 253 k (by simp)]
        exact (b6 k (by omega)).1
  refine ⟨b2.1, b2.2, b1.1, b1.2, fun q q2 => ⟨bf_tgP (hbf q q2) ht, bf_tgP hbW htW⟩, fun q => ?_, fun q q2 q3 => ⟨fun hO => ?_, fun hO => ?_⟩⟩
  · refine ⟨by omega, by omega, fun _ => ⟨rfl, h⟩, fun z z2 => ?_⟩
    exfalso
    rcases q with q | q | q
    · omega
    · omega
    · exact z2 (eT.mpr q)
  · obtain ⟨⟨a1, a2⟩, ⟨a3, a4⟩, a5⟩ := q
    obtain ⟨x, rfl⟩ : ∃ x : Nat, a = x := ⟨a.toNat, by omega⟩
    obtain ⟨y, rfl⟩ : ∃ y : Nat, b = y := ⟨b.toNat, by omega⟩
    have fX : ∀ y' z, (decide (y' = 3) || (decide (y' = 6) || (decide (y' = 7) || (decide (y' = 8) || (decide (y' = 9) || decide (y' = 10)))))) = false → (bhA (bfT (bfA S x y)) x y).1 y' z = S.1 y' z := fun y' z hc => by
      simp at hc
      rw [bhA_f (by omega), bfT_f (by omega) (by omega), bfA_f (by omega) (by omega) (by omega)]
    have sy := syC _ fX
    have hD := tgO_D (hbf ⟨⟨a1, a2⟩, ⟨a3, a4⟩, a5⟩ q2) hO
    have g6 : (bhA (bfT (bfA S x y)) x y).1 6 = (tgF (bfA S x y)).1 := by rw [bhA_f (by decide)]; rfl
    have g7 : (bhA (bfT (bfA S x y)) x y).1 7 = (tgF (bfA S x y)).2 := by rw [bhA_f (by decide)]; rfl
    have g37 : (bhA (bfT (bfA S x y)) x y).1 3 7 = S.1 3 7 := rfl
    have g38 : (bhA (bfT (bfA S x y)) x y).1 3 8 = S.1 3 8 + 1 := by rw [bhA_f (by decide), bfT_f (by decide) (by decide), v1]
    have g9 : (bhA (bfT (bfA S x y)) x y).1 9 = (bfA S x y).1 9 := by rw [bhA_f (by decide), bfT_f (by decide) (by decide)]
    have g10 : (bhA (bfT (bfA S x y)) x y).1 10 = (bfA S x y).1 10 := by rw [bhA_f (by decide), bfT_f (by decide) (by decide)]
    have g8 : ∀ x' y' : Nat, x' < 30 → y' < 30 → (inS y' ((bhA (bfT (bfA S x y)) x y).1 8 x') ↔ nwR (S.1 254) x y x' y') := fun x' y' hx hy => bhA_in bh a2 a4 b1.2 hx hy rfl (by rw [bfT_f (by decide) (by decide), bfA_f (by decide) (by decide) (by decide)])
    have g22 : (bhA (bfT (bfA S x y)) x y).2 = S.2 := rfl
    generalize bhA (bfT (bfA S x y)) x y = X at fX sy g6 g7 g37 g38 g8 g9 g10 g22 ⊢
    have x3 := fX 245 3 (by decide)
    have x4 := fX 245 4 (by decide)
    obtain ⟨m1, m2, m3, m4, m5⟩ := beM_v (X := X) (a := x) (b := y)
    rw [x4, b4] at m2 m3 m4 m5
    rw [x3, b3] at m1
    have eTX : teM X x y ↔ teM S x y := by
      unfold teM
      rw [x4, funext (fun z => fX 252 z (by simp)), funext (fun z => fX 253 z (by simp))]
    refine ⟨by omega, by omega, fun z => absurd (z.resolve_left (by omega)) (fun w => q3 (eT.mp (eTX.mp w))), fun _ _ => ⟨sy_tgS sy (hbf ⟨⟨a1, a2⟩, ⟨a3, a4⟩, a5⟩ q2) ht, fun f l hf => ?_, fun hn => absurd ⟨_, _, (sy_Fe sy).mpr hD.1⟩ hn⟩⟩
    have un := sy_un sy hf hD
    have tS := sy_tgS sy (hbf ⟨⟨a1, a2⟩, ⟨a3, a4⟩, a5⟩ q2) ht
    refine ⟨⟨tS.1, tS.2.1, tS.2.2.1⟩, fun e he => ⟨rfl, ?_⟩⟩
    have f254 : (st2 (beM X x y) f l).1 254 = S.1 254 := funext fun z => by rw [st2_o (by decide) (by decide), beM_f (by decide) (by decide) (by simp), fX 254 z (by simp)]
    obtain ⟨n1, n2, n3, n4⟩ := cl_nw (S := S) (X := st2 (beM X x y) f l) (a := x) (b := y) (e := e) bh b1.2 a2 a4 (by rw [st2_o (by decide) (by decide), m1]) f254 (m := (S.1 3 8).toNat) (by rw [st2_o (by decide) (by decide), m2]; omega) (by omega) (fun k hk => by
      rw [st2_o (by decide) (by decide), st2_o (by decide) (by decide), (m5 k (by omega)).1, (m5 k (by omega)).2, fX 252 k (by simp), fX 253 k (by simp)]
      exact (b6 k (by omega)).1) (by rw [st2_o (by decide) (by decide), st2_o (by decide) (by decide)]; exact ⟨m3, m4⟩) he
    have oU : ∀ y', ¬ y' = 250 → ¬ y' = 251 → ¬ y' = 254 → ∀ z, ¬ y' = 252 → ¬ y' = 253 → ¬ (y' = 245 ∧ z = 4) → (stA (st2 (beM X x y) f l) 254 e).1 y' z = X.1 y' z := fun y' h1 h2 h3 z h4 h5 h6 => by
      have e1 : (stA (st2 (beM X x y) f l) 254 e).1 y' z = (st2 (beM X x y) f l).1 y' z := by
        simp only [stA]
        rw [if_neg h3]
      rw [e1, st2_o h1 h2, beM_f h4 h5 h6]
    have u52 : ∀ k, (stA (st2 (beM X x y) f l) 254 e).1 252 k = (beM X x y).1 252 k := fun k => rfl
    have u53 : ∀ k, (stA (st2 (beM X x y) f l) 254 e).1 253 k = (beM X x y).1 253 k := fun k => rfl
    have u54 : (stA (st2 (beM X x y) f l) 254 e).1 254 = e := rfl
    refine inv_bk h (fun y' z hc => ?_) g22 ?_ ?_ ?_
    · unfold cBk at hc
      simp at hc
      rw [oU y' (by omega) (by omega) (by omega) z (by omega) (by omega) (by omega), fX y' z (by simp; omega)]
    · refine ⟨?_, ?_, ?_, ?_, fun j hj => ?_, fun k hk => ?_, hf⟩
      · rw [oU 3 (by decide) (by decide) (by decide) 7 (by decide) (by decide) (by decide), g37]; exact b1
      · rw [oU 3 (by decide) (by decide) (by decide) 8 (by decide) (by decide) (by decide), g38]; omega
      · rw [oU 3 (by decide) (by decide) (by decide) 7 (by decide) (by decide) (by decide), oU 245 (by decide) (by decide) (by decide) 3 (by decide) (by decide) (by decide), g37, x3, b3]
      · rw [oU 3 (by decide) (by decide) (by decide) 8 (by decide) (by decide) (by decide), g38]
        exact m2
      · rw [oU 3 (by decide) (by decide) (by decide) 7 (by decide) (by decide) (by decide), g37] at hj
        have b5' := b5 j hj
        have un' := un j (by rw [v2]; exact hj)
        rw [oU 248 (by decide) (by decide) (by decide) j (by decide) (by decide) (by omega), oU 249 (by decide) (by decide) (by decide) j (by decide) (by decide) (by omega), oU 4 (by decide) (by decide) (by decide) j (by decide) (by decide) (by omega), oU 5 (by decide) (by decide) (by decide) j (by decide) (by decide) (by omega), oU 6 (by decide) (by decide) (by decide) j (by decide) (by decide) (by omega), oU 7 (by decide) (by decide) (by decide) j (by decide) (by decide) (by omega), fX 248 j (by simp), fX 249 j (by simp), fX 4 j (by simp), fX 5 j (by simp), g6, g7]
        exact ⟨⟨b5'.1.1, b5'.1.2.1, un'.1, un'.2⟩, b5'.2⟩
      · rw [oU 3 (by decide) (by decide) (by decide) 8 (by decide) (by decide) (by decide), g38] at hk
        rw [u52, u53, oU 9 (by decide) (by decide) (by decide) k (by decide) (by decide) (by omega), oU 10 (by decide) (by decide) (by decide) k (by decide) (by decide) (by omega), oU 3 (by decide) (by decide) (by decide) 7 (by decide) (by decide) (by decide), g37, g9, g10]
        by_cases e' : k = (S.1 3 8).toNat
        · rw [e', m3, m4, v3, v4]; omega
        · rw [(m5 k e').1, (m5 k e').2, (v5 k e').1, (v5 k e').2, fX 252 k (by simp), fX 253 k (by simp)]
          exact b6 k (by omega)
    · have o37 := oU 3 (by decide) (by decide) (by decide) 7 (by decide) (by decide) (by decide)
      have o38 := oU 3 (by decide) (by decide) (by decide) 8 (by decide) (by decide) (by decide)
      refine ⟨fun p q' hp hq => ?_, fun p q' hp hq ho => ?_, ?_, fun k hk => ?_⟩
      · rw [u54, oU 8 (by decide) (by decide) (by decide) p (by decide) (by decide) (by omega), g8 p q' hp hq, n1 p q' hp hq]
      · rw [u54]
        rw [o37, g37] at ho
        exact n2 p q' hp hq ho
      · rw [u54]; exact n3
      · rw [o38, g38] at hk
        rw [u54, oU 9 (by decide) (by decide) (by decide) k (by decide) (by decide) (by omega), oU 10 (by decide) (by decide) (by decide) k (by decide) (by decide) (by omega), g9, g10]
        have := n4 k (by omega)
        rw [st2_o (by decide) (by decide), st2_o (by decide) (by decide)] at this
        have s4 := sy.2.2.2 k (by rw [v1]; exact hk)
        rw [s4.1, s4.2] at this
        exact this
    · rw [oU 3 (by decide) (by decide) (by decide) 7 (by decide) (by decide) (by decide), g37]
      exact Int.le_refl _
  · skip
    have fX : ∀ y' z, (decide (y' = 3) || (decide (y' = 6) || (decide (y' = 7) || (decide (y' = 8) || (decide (y' = 9) || decide (y' = 10)))))) = false → (bfT (upI (bfT (bfA S a b)) 3 8 (S.1 3 8))).1 y' z = S.1 y' z := fun y' z hc => by
      simp at hc
      rw [bfT_f (by omega) (by omega), up_f (by omega), bfT_f (by omega) (by omega), bfA_f (by omega) (by omega) (by omega)]
    have sy := syC _ fX
    have g6 : (bfT (upI (bfT (bfA S a b)) 3 8 (S.1 3 8))).1 6 = (tgF (upI (bfT (bfA S a b)) 3 8 (S.1 3 8))).1 := rfl
    have g7 : (bfT (upI (bfT (bfA S a b)) 3 8 (S.1 3 8))).1 7 = (tgF (upI (bfT (bfA S a b)) 3 8 (S.1 3 8))).2 := rfl
    have g37 : (bfT (upI (bfT (bfA S a b)) 3 8 (S.1 3 8))).1 3 7 = S.1 3 7 := rfl
    have g38 : (bfT (upI (bfT (bfA S a b)) 3 8 (S.1 3 8))).1 3 8 = S.1 3 8 := by rw [bfT_f (by decide) (by decide), up_hit]
    have g9 : ∀ k : Nat, (k : Int) < S.1 3 8 → (bfT (upI (bfT (bfA S a b)) 3 8 (S.1 3 8))).1 9 k = S.1 9 k ∧ (bfT (upI (bfT (bfA S a b)) 3 8 (S.1 3 8))).1 10 k = S.1 10 k := fun k hk => by
      rw [bfT_f (by decide) (by decide), bfT_f (by decide) (by decide)]
      exact w9 k hk
    have g8 : (bfT (upI (bfT (bfA S a b)) 3 8 (S.1 3 8))).1 8 = S.1 8 := by
      rw [bfT_f (by decide) (by decide), up_f (by decide), bfT_f (by decide) (by decide), bfA_f (by decide) (by decide) (by decide)]
    have g22 : (bfT (upI (bfT (bfA S a b)) 3 8 (S.1 3 8))).2 = S.2 := rfl
    generalize bfT (upI (bfT (bfA S a b)) 3 8 (S.1 3 8)) = X at fX sy g6 g7 g37 g38 g8 g9 g22 ⊢
    generalize upI (bfT (bfA S a b)) 3 8 (S.1 3 8) = W at hbW htW w4 w5 w7 w8 w9 g6 g7
    have x3 := fX 245 3 (by decide)
    have x4 := fX 245 4 (by decide)
    obtain ⟨m1, m2, m3, m4, m5⟩ := beM_v (X := X) (a := a) (b := b)
    rw [x4, b4] at m2 m3 m4 m5
    rw [x3, b3] at m1
    have eTX : teM X a b ↔ teM S a b := by
      unfold teM
      rw [x4, funext (fun z => fX 252 z (by simp)), funext (fun z => fX 253 z (by simp))]
    have nS : ¬ ∃ F L, Fe (beM X a b) F L := fun ⟨F, L, hF⟩ => hO (tgO_y (hbf q q2) ((sy_Fe sy).mp hF))
    refine ⟨by omega, by omega, fun z => absurd (z.resolve_left (by omega)) (fun w => q3 (eT.mp (eTX.mp w))), fun _ _ => ⟨sy_tgS sy (hbf q q2) ht, fun f l hf => absurd ⟨_, _, hf.1⟩ nS, fun _ f l => ?_⟩⟩
    have oU : ∀ F L y' z, ¬ y' = 250 → ¬ y' = 251 → ¬ y' = 252 → ¬ y' = 253 → ¬ (y' = 245 ∧ z = 4) → (st2 (unB (st2 (beM X a b) f l) (X.1 245 4)) F L).1 y' z = X.1 y' z := fun F L y' z h1 h2 h4 h5 h6 => by
      rw [st2_o h1 h2]
      unfold unB
      by_cases e : y' = 245
      · subst e
        rw [up_cell (by omega), st2_o h1 h2, beM_f h4 h5 h6]
      · rw [up_obj e, st2_o h1 h2, beM_f h4 h5 h6]
    have oN : ∀ y' z, ¬ y' = 250 → ¬ y' = 251 → ¬ y' = 252 → ¬ y' = 253 → ¬ (y' = 245 ∧ z = 4) → (unB (st2 (beM X a b) f l) (X.1 245 4)).1 y' z = X.1 y' z := fun y' z h1 h2 h4 h5 h6 => by
      have := oU (fun _ => 0) (fun _ => 0) y' z h1 h2 h4 h5 h6
      rw [st2_o h1 h2] at this
      exact this
    have n4 : (unB (st2 (beM X a b) f l) (X.1 245 4)).1 245 4 = S.1 3 8 := by
      unfold unB
      rw [up_hit, x4, b4]
    have n52 : ∀ k : Nat, (k : Int) < S.1 3 8 → (unB (st2 (beM X a b) f l) (X.1 245 4)).1 252 k = S.1 9 k ∧ (unB (st2 (beM X a b) f l) (X.1 245 4)).1 253 k = S.1 10 k := fun k hk => by
      unfold unB
      rw [up_obj (by decide), up_obj (by decide), st2_o (by decide) (by decide), st2_o (by decide) (by decide), (m5 k (by omega)).1, (m5 k (by omega)).2, fX 252 k (by simp), fX 253 k (by simp)]
      exact (b6 k hk).1
    have n22 : (unB (st2 (beM X a b) f l) (X.1 245 4)).2 = S.2 := g22
    generalize unB (st2 (beM X a b) f l) (X.1 245 4) = N at oU oN n4 n52 n22 ⊢
    have syW : syE W N := by
      refine ⟨?_, ?_, fun j hj => ?_, fun k hk => ?_⟩
      · rw [oN 245 3 (by decide) (by decide) (by decide) (by decide) (by decide), x3, b3, w7]
      · rw [n4, w8]
      · rw [w7] at hj
        rw [oN 248 j (by decide) (by decide) (by decide) (by decide) (by omega), oN 249 j (by decide) (by decide) (by decide) (by decide) (by omega), fX 248 j (by simp), fX 249 j (by simp), w4, w5]
        have := (b5 j hj).1
        exact ⟨this.1, this.2.1⟩
      · rw [w8] at hk
        rw [(n52 k hk).1, (n52 k hk).2, (w9 k hk).1, (w9 k hk).2]
        exact ⟨rfl, rfl⟩
    have fW : FeC W (S.1 250) (S.1 251) := by
      refine ⟨fun j hj => ?_, fun k hk => ?_⟩
      · rw [w7] at hj
        have := b7.1.1 j (by omega)
        have z := (b5 j hj).1
        rw [w4, w5]
        omega
      · rw [w8] at hk
        have := b7.1.2 k (by omega)
        rw [(b6 k hk).1.1, (b6 k hk).1.2] at this
        rw [(w9 k hk).1, (w9 k hk).2]
        exact this
    have hDW := tgO_D hbW (tgO_y hbW fW)
    refine ⟨sy_tgS syW hbW htW, fun f2 l2 hf => ⟨rfl, ?_⟩, fun hn => absurd ⟨_, _, (sy_Fe syW).mpr fW⟩ hn⟩
    have un := sy_un syW hf hDW
    have u52 : ∀ k, (st2 N f2 l2).1 252 k = N.1 252 k := fun k => rfl
    have u53 : ∀ k, (st2 N f2 l2).1 253 k = N.1 253 k := fun k => rfl
    have u37 : (st2 N f2 l2).1 3 7 = S.1 3 7 := by rw [oU f2 l2 3 7 (by decide) (by decide) (by decide) (by decide) (by decide), g37]
    have u38 : (st2 N f2 l2).1 3 8 = S.1 3 8 := by rw [oU f2 l2 3 8 (by decide) (by decide) (by decide) (by decide) (by decide), g38]
    refine inv_bk h (fun y' z hc => ?_) n22 ?_ ?_ (by rw [u37]; exact Int.le_refl _)
    · unfold cBk at hc
      simp at hc
      rw [oU f2 l2 y' z (by omega) (by omega) (by omega) (by omega) (by omega), fX y' z (by simp; omega)]
    · refine ⟨by rw [u37]; exact b1, by rw [u38]; exact b2, ?_, ?_, fun j hj => ?_, fun k hk => ?_, hf⟩
      · rw [u37, oU f2 l2 245 3 (by decide) (by decide) (by decide) (by decide) (by decide), x3, b3]
      · rw [u38, st2_o (by decide) (by decide), n4]
      · rw [u37] at hj
        have b5' := b5 j hj
        have un' := un j (by rw [w7]; exact hj)
        rw [oU f2 l2 248 j (by decide) (by decide) (by decide) (by decide) (by omega), oU f2 l2 249 j (by decide) (by decide) (by decide) (by decide) (by omega), oU f2 l2 4 j (by decide) (by decide) (by decide) (by decide) (by omega), oU f2 l2 5 j (by decide) (by decide) (by decide) (by decide) (by omega), oU f2 l2 6 j (by decide) (by decide) (by decide) (by decide) (by omega), oU f2 l2 7 j (by decide) (by decide) (by decide) (by decide) (by omega), fX 248 j (by simp), fX 249 j (by simp), fX 4 j (by simp), fX 5 j (by simp), g6, g7]
        exact ⟨⟨b5'.1.1, b5'.1.2.1, un'.1, un'.2⟩, b5'.2⟩
      · rw [u38] at hk
        rw [u52, u53, (n52 k hk).1, (n52 k hk).2, oU f2 l2 9 k (by decide) (by decide) (by decide) (by decide) (by omega), oU f2 l2 10 k (by decide) (by decide) (by decide) (by decide) (by omega), (g9 k hk).1, (g9 k hk).2, u37]
        exact ⟨⟨rfl, rfl⟩, (b6 k hk).2⟩
    · refine ⟨fun p q' hp hq => ?_, fun p q' hp hq ho => ?_, ?_, fun k hk => ?_⟩
      · rw [oU f2 l2 8 p (by decide) (by decide) (by decide) (by decide) (by omega), g8, funext (fun z => (oU f2 l2 254 z (by decide) (by decide) (by decide) (by decide) (by omega)).trans (fX 254 z (by simp)))]
        exact bh.1 p q' hp hq
      · rw [u37] at ho
        rw [funext (fun z => (oU f2 l2 254 z (by decide) (by decide) (by decide) (by decide) (by omega)).trans (fX 254 z (by simp)))]
        exact bh.2.1 p q' hp hq ho
      · rw [funext (fun z => (oU f2 l2 254 z (by decide) (by decide) (by decide) (by decide) (by omega)).trans (fX 254 z (by simp)))]
        exact bh.2.2.1
      · rw [u38] at hk
        rw [funext (fun z => (oU f2 l2 254 z (by decide) (by decide) (by decide) (by decide) (by omega)).trans (fX 254 z (by simp))), oU f2 l2 9 k (by decide) (by decide) (by decide) (by decide) (by omega), oU f2 l2 10 k (by decide) (by decide) (by decide) (by decide) (by omega), (g9 k hk).1, (g9 k hk).2]
        exact bh.2.2.2 k hk
