/-! EQUAL ANSWERS: before -/
theorem bfA_f {S : aS} {a b : Int} {x : Nat} (h : ¬ x = 9) (h2 : ¬ x = 10) (h3 : ¬ x = 3) : (bfA S a b).1 x = S.1 x := by
  unfold bfA
  rw [up_f h3, up_f h2, up_f h]
theorem bfT_f {S : aS} {x : Nat} (h : ¬ x = 6) (h2 : ¬ x = 7) : (bfT S).1 x = S.1 x := by
  funext y
  unfold bfT stFL
  simp only [stA]
  rw [if_neg h2, if_neg h]
theorem bfT_67 {S : aS} : (bfT S).1 6 = (tgF S).1 ∧ (bfT S).1 7 = (tgF S).2 := ⟨rfl, rfl⟩
theorem bhA_f {S : aS} {a b : Int} {x : Nat} (h : ¬ x = 8) : (bhA S a b).1 x = S.1 x := by
  funext y
  unfold bhA
  simp only [stA]
  rw [if_neg h]
theorem bfA_v {S : aS} {a b : Int} : (bfA S a b).1 3 8 = S.1 3 8 + 1 ∧ (bfA S a b).1 3 7 = S.1 3 7 ∧ (bfA S a b).1 9 (S.1 3 8).toNat = a ∧ (bfA S a b).1 10 (S.1 3 8).toNat = b ∧ ∀ k, ¬ k = (S.1 3 8).toNat → (bfA S a b).1 9 k = S.1 9 k ∧ (bfA S a b).1 10 k = S.1 10 k := by
  unfold bfA
  refine ⟨up_hit, rfl, ?_, ?_, fun k hk => ⟨?_, ?_⟩⟩
  · rw [up_obj (by decide), up_obj (by decide), up_hit]
  · rw [up_obj (by decide), up_hit]
  · rw [up_obj (by decide), up_obj (by decide), up_cell hk]
  · rw [up_obj (by decide), up_cell hk, up_obj (by decide)]
/-- the new relation: through the new before, or not -/
def nwR (E : Nat → Int) (a b x y : Nat) : Prop := zz E x y ∨ ((x = a ∨ zz E x a) ∧ (y = b ∨ zz E b y))
theorem cl_nw {S X : aS} {a b : Nat} {e : Nat → Int} (h : iBh S) (h3 : (S.1 3 7 ≤ 30)) (ha : (a : Int) < S.1 3 7) (hb : (b : Int) < S.1 3 7) (k3 : X.1 245 3 = S.1 3 7) (k254 : X.1 254 = S.1 254) {m : Nat} (hm : X.1 245 4 = (m : Int) + 1) (hm2 : (m : Int) = S.1 3 8) (hk : ∀ k, k < m → X.1 252 k = S.1 9 k ∧ X.1 253 k = S.1 10 k) (hn : X.1 252 m = a ∧ X.1 253 m = b) (he : clS X e) : (∀ x y, x < 30 → y < 30 → (zz e x y ↔ nwR (S.1 254) a b x y)) ∧ (∀ x y, x < 30 → y < 30 → (S.1 3 7 ≤ x ∨ S.1 3 7 ≤ y) → ¬ zz e x y) ∧ (∀ x z y, x < 30 → z < 30 → y < 30 → zz e x z → zz e z y → zz e x y) ∧ (∀ k, k < m + 1 → zz e (X.1 252 k).toNat (X.1 253 k).toNat) := by
  obtain ⟨h1, h2, h4, h5⟩ := h
  obtain ⟨c1, c2, c3, c4⟩ := he
  rw [hm] at c2
  rw [k3] at c4
  have inb : ∀ x : Nat, inB X x ↔ (x : Int) < S.1 3 7 := fun x => by unfold inB; rw [k3]
  have outE : ∀ x y, x < 30 → y < 30 → (S.1 3 7 ≤ x ∨ S.1 3 7 ≤ y) → e (30 * x + y) = S.1 254 (30 * x + y) := fun x y hx hy ho => by
    rcases c1 (30 * x + y) with z | ⟨z, a', b', w1, w2, w3⟩
    · rw [z, k254]
    · rw [inb] at w1 w2
      exfalso
      omega
  have out : ∀ x y, x < 30 → y < 30 → (S.1 3 7 ≤ x ∨ S.1 3 7 ≤ y) → ¬ zz e x y := fun x y hx hy ho z => by
    unfold zz at z
    rw [outE x y hx hy ho] at z
    exact h2 x y hx hy ho z
  have mono : ∀ x y, zz (S.1 254) x y → zz e x y := fun x y z => by
    unfold zz at z ⊢
    rcases c1 (30 * x + y) with w | ⟨w, _⟩
    · rw [w, k254]; exact z
    · rw [w]; decide
  have ab : zz e a b := by
    have := c2 m (by omega)
    rw [hn.1, hn.2] at this
    simpa using this
  have tr : ∀ x z y, (x : Int) < S.1 3 7 → (z : Int) < S.1 3 7 → (y : Int) < S.1 3 7 → zz e x z → zz e z y → zz e x y := fun x z y hx hz hy p q => c4 z (by omega) x y ((inb x).mpr hx) ((inb y).mpr hy) p q
  have key : ∀ x y, x < 30 → y < 30 → (zz e x y ↔ nwR (S.1 254) a b x y) := fun x y hx hy => by
    constructor
    · intro z
      by_cases ho : S.1 3 7 ≤ x ∨ S.1 3 7 ≤ y
      · exact absurd z (out x y hx hy ho)
      · refine c3 (nwR (S.1 254) a b) ⟨fun x y _ _ w => by rw [k254] at w; exact Or.inl w, fun k hk' => ?_, fun x z y ix iz iy p q => ?_⟩ x y ((inb x).mpr (by omega)) ((inb y).mpr (by omega)) z
        · by_cases e2 : k = m
          · rw [e2, hn.1, hn.2]
            exact Or.inr ⟨Or.inl (by omega), Or.inl (by omega)⟩
          · obtain ⟨w1, w2⟩ := hk k (by omega)
            rw [w1, w2]
            exact Or.inl (h5 k (by omega))
        · rw [inb] at ix iz iy
          rcases p with p | ⟨p1, p2⟩
          · rcases q with q | ⟨q1, q2⟩
            · exact Or.inl (h4 x z y (by omega) (by omega) (by omega) p q)
            · refine Or.inr ⟨Or.inr ?_, q2⟩
              rcases q1 with q1 | q1
              · rw [← q1]; exact p
              · exact h4 x z a (by omega) (by omega) (by omega) p q1
          · rcases q with q | ⟨q1, q2⟩
            · refine Or.inr ⟨p1, Or.inr ?_⟩
              rcases p2 with p2 | p2
              · rw [← p2]; exact q
              · exact h4 b z y (by omega) (by omega) (by omega) p2 q
            · exact Or.inr ⟨p1, q2⟩
    · rintro (z | ⟨z1, z2⟩)
      · exact mono x y z
      · have hxn : (x : Int) < S.1 3 7 := by
          rcases z1 with z1 | z1
          · omega
          · by_cases q : (x : Int) < S.1 3 7
            · exact q
            · exact absurd z1 (h2 x a hx (by omega) (by omega))
        have hyn : (y : Int) < S.1 3 7 := by
          rcases z2 with z2 | z2
          · omega
          · by_cases q : (y : Int) < S.1 3 7
            · exact q
            · exact absurd z2 (h2 b y (by omega) hy (by omega))
        have xb : zz e x b := by
          rcases z1 with z1 | z1
          · rw [z1]; exact ab
          · exact tr x a b hxn ha hb (mono _ _ z1) ab
        rcases z2 with z2 | z2
        · rw [z2]; exact xb
        · exact tr x b y hxn hb hyn xb (mono _ _ z2)
  refine ⟨key, out, fun x z y hx hz hy p q => ?_, fun k hk' => c2 k (by omega)⟩
  by_cases o1 : S.1 3 7 ≤ x ∨ S.1 3 7 ≤ z
  · exact absurd p (out x z hx hz o1)
  · by_cases o2 : S.1 3 7 ≤ y
    · exact absurd q (out z y hz hy (Or.inr o2))
    · exact tr x z y (by omega) (by omega) (by omega) p q
