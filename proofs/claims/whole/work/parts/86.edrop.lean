/-! EQUAL ANSWERS: drop, join -/
theorem cnt_z {p : Nat → Bool} : ∀ {n : Nat}, cnt p n ≤ 0 ↔ ∀ j, j < n → p j = false
  | 0 => ⟨fun _ j hj => absurd hj (by omega), fun _ => Int.le_refl _⟩
  | n + 1 => by
    have hb := cnt_b p n
    have ih := cnt_z (p := p) (n := n)
    cases q : p n with
    | true =>
      rw [cnt_t q]
      exact ⟨fun z => by omega, fun z => by have := z n (by omega); rw [q] at this; exact absurd this (by decide)⟩
    | false =>
      rw [cnt_f q, ih]
      refine ⟨fun z j hj => ?_, fun z j hj => z j (by omega)⟩
      by_cases e : j = n
      · subst e; exact q
      · exact z j (by omega)
/-- the states behind drop and join, out of that in which the sense's own and its fellows' cells are changed -/
def gnS (S : aS) (a : Int) : aS := upI (upI S 209 a.toNat (-1)) 210 a.toNat (-1)
noncomputable def gnT (S : aS) (a : Int) (n : Nat) : aS := fgP a n (gnS S a)
theorem gnT_f {S : aS} {a : Int} {n x y : Nat} (h : ¬ x = 220) (h2 : ¬ x = 221) (h3 : ¬ (x = 219 ∧ y = 2)) (h4 : ¬ x = 209) (h5 : ¬ x = 210) : (gnT S a n).1 x y = S.1 x y := by
  unfold gnT gnS
  rw [fgP_f h h2 h3, up_obj h5, up_obj h4]
theorem gnT_ff {S : aS} {a : Int} {n x : Nat} (h : ¬ x = 220) (h2 : ¬ x = 221) (h3 : ¬ x = 219) (h4 : ¬ x = 209) (h5 : ¬ x = 210) : (gnT S a n).1 x = S.1 x := funext fun y => gnT_f h h2 (fun z => h3 z.1) h4 h5
theorem gnT_9 {S : aS} {a : Int} {n j : Nat} : (gnT S a n).1 209 j = if j = a.toNat then -1 else S.1 209 j := by
  unfold gnT gnS
  rw [fgP_f (by decide) (by decide) (by omega), up_obj (by decide)]
  by_cases e : j = a.toNat
  · rw [if_pos e, e, up_hit]
  · rw [if_neg e, up_cell e]
theorem gnT_10 {S : aS} {a : Int} {n j : Nat} (e : ¬ j = a.toNat) : (gnT S a n).1 210 j = S.1 210 j := by
  unfold gnT gnS
  rw [fgP_f (by decide) (by decide) (by omega), up_cell e, up_obj (by decide)]
/-- pointers behind both -/
theorem gn_po {S M : aS} {a : Int} (hpo : poR S S) (hG : poG S (fun x y => uS S x ∧ (y = -1 ∨ uS S y))) (ha : uS S a) (hS2 : ∀ X : aS, True) (C : aS) (hC : ∀ p : Nat, C.1 220 p = S.1 220 p ∧ C.1 221 p = S.1 221 p) (hC2 : C.1 219 2 = S.1 219 2) (hM : M.1 245 29 = S.1 245 29 ∧ ∀ p : Nat, M.1 269 p = S.1 269 p ∧ M.1 270 p = S.1 270 p) : poR (gnT C a (S.1 219 2).toNat) (ggP a (S.1 219 2).toNat M) ∧ poG (gnT C a (S.1 219 2).toNat) (fun x y => (uS S x ∧ (y = -1 ∨ uS S y)) ∧ ¬ x = a ∧ ¬ y = a) := by
  obtain ⟨p1, p2, p3⟩ := hpo
  have e2 : (gnS C a).1 219 2 = S.1 219 2 := by unfold gnS; rw [up_obj (by decide), up_obj (by decide)]; exact hC2
  have e20 : ∀ p, (gnS C a).1 220 p = S.1 220 p := fun p => by unfold gnS; rw [up_obj (by decide), up_obj (by decide)]; exact (hC p).1
  have e21 : ∀ p, (gnS C a).1 221 p = S.1 221 p := fun p => by unfold gnS; rw [up_obj (by decide), up_obj (by decide)]; exact (hC p).2
  constructor
  · refine fgP_R (by rw [e2]; omega) ⟨by rw [e2, hM.1]; exact p1, by rw [e2]; exact p2, fun p hp => ?_⟩
    rw [e2] at hp
    rw [e20, e21, (hM.2 p).1, (hM.2 p).2]
    exact p3 p hp
  · refine fgP_G (by have := ha.1; omega) (fun x y z => ⟨z.1, Or.inl rfl⟩) (fun p hp => ?_) (fun p hp hp2 => ?_)
    · rw [e2] at hp
      rw [e20, e21]
      exact hG p hp
    · rw [e2] at hp2
      omega
theorem poG_I {S : aS} (h : iPo S) : poG S (fun x y => uS S x ∧ (y = -1 ∨ uS S y)) := fun p hp => ⟨(h.2.2 p hp).2.2.1, (h.2.2 p hp).2.2.2⟩
set_option maxHeartbeats 4000000 in
theorem eq_drop {S : aS} {a : Int} (h : Inv S) : spX11_drop [.inr (.inr 0), .inl a] S (fun r T => spX12_drop [.inr (.inr 245), .inl a] T (Eqv r)) := by
  have h' := h
  obtain ⟨tp, bk, bh, sl, se, po, ed, pr, en, ru, ws, wf, kn⟩ := h'
  have ea := us_eq se (t := a)
  have s1 := sl.1
  have s2 := sl.2.1
  have p1 := po.1
  have p2 := po.2.1
  have hcv : (uS S a ∧ cnt (fun j => S.1 209 j != -1 && S.1 210 j == a) 40 ≤ 0 ∧ cnt (fun j => S.1 83 j == S.1 209 a.toNat && S.1 84 j == a) (S.1 81 4).toNat ≤ 0) ↔ ((0 ≤ a ∧ a < 40 ∧ ¬ S.1 266 a.toNat = 0) ∧ cnt (fun j => S.1 257 j == a) (S.1 245 12).toNat ≤ 0 ∧ cnt (fun j => S.1 266 j != 0 && S.1 268 j == a) 40 ≤ 0) := by
    rw [ea, s2]
    have c1 : cnt (fun j => S.1 209 j != -1 && S.1 210 j == a) 40 = cnt (fun j => S.1 266 j != 0 && S.1 268 j == a) 40 := by
      refine cnt_c (fun j hj => ?_)
      obtain ⟨x1, x2⟩ := se.1 j hj
      by_cases q : S.1 209 j = -1
      · rw [q, x1.mpr q]; rfl
      · obtain ⟨_, _, x3, _⟩ := x2 q
        have q' : ¬ S.1 266 j = 0 := fun z => q (x1.mp z)
        rw [x3, bne_iff_ne.mpr q, bne_iff_ne.mpr q']
    have c2 : uS S a → cnt (fun j => S.1 83 j == S.1 209 a.toNat && S.1 84 j == a) (S.1 81 4).toNat = cnt (fun j => S.1 257 j == a) (S.1 81 4).toNat := fun z => by
      refine cnt_c (fun j hj => ?_)
      obtain ⟨⟨_, _, y1⟩, _, y2⟩ := sl.2.2 j (by omega)
      rw [y1]
      by_cases q : S.1 84 j = a
      · have y3 : S.1 83 j = S.1 209 a.toNat := by
          rcases y2 with y2 | ⟨_, y2⟩
          · have := z.1; omega
          · rcases y2 with y2 | y2
            · have := z.1; omega
            · rw [← q]; exact y2.2.symm
        rw [y3, q]
        simp
      · simp [q]
    constructor
    · rintro ⟨z1, z2, z3⟩; exact ⟨z1, by rw [← c2 z1]; exact z3, by rw [← c1]; exact z2⟩
    · rintro ⟨z1, z2, z3⟩; exact ⟨z1, by rw [c1]; exact z3, by rw [c2 z1]; exact z2⟩
  refine ⟨s1, p1, fun q => ⟨by omega, by omega, fun _ => ⟨rfl, h⟩, fun z => absurd (hcv.mpr z) q⟩, fun q => ?_⟩
  have hm := hcv.mp q
  obtain ⟨q1, q2, q3⟩ := q
  have eT : fgP a (S.1 219 2).toNat (upI (upI S 209 a.toNat (-1)) 210 a.toNat (-1)) = gnT S a (S.1 219 2).toNat := rfl
  rw [eT]
  have e12 : (gnT S a (S.1 219 2).toNat).1 245 12 = S.1 245 12 := gnT_f (by decide) (by decide) (by omega) (by decide) (by decide)
  have e29 : (gnT S a (S.1 219 2).toNat).1 245 29 = S.1 245 29 := gnT_f (by decide) (by decide) (by omega) (by decide) (by decide)
  have f66 : (gnT S a (S.1 219 2).toNat).1 266 = S.1 266 := gnT_ff (by decide) (by decide) (by decide) (by decide) (by decide)
  have f68 : (gnT S a (S.1 219 2).toNat).1 268 = S.1 268 := gnT_ff (by decide) (by decide) (by decide) (by decide) (by decide)
  have f57 : (gnT S a (S.1 219 2).toNat).1 257 = S.1 257 := gnT_ff (by decide) (by decide) (by decide) (by decide) (by decide)
  refine ⟨by rw [e12]; omega, by rw [e29]; omega, fun z => ?_, fun _ => ⟨rfl, ?_⟩⟩
  · rw [e12, f66, f68, f57] at z
    exact absurd hm z
  rw [e29, p2]
  have hM : (upI (gnT S a (S.1 219 2).toNat) 266 a.toNat 0).1 245 29 = S.1 245 29 ∧ ∀ p : Nat, (upI (gnT S a (S.1 219 2).toNat) 266 a.toNat 0).1 269 p = S.1 269 p ∧ (upI (gnT S a (S.1 219 2).toNat) 266 a.toNat 0).1 270 p = S.1 270 p := ⟨by rw [up_obj (by decide)]; exact e29, fun p => by rw [up_obj (by decide), up_obj (by decide)]; exact ⟨gnT_f (by decide) (by decide) (by omega) (by decide) (by decide), gnT_f (by decide) (by decide) (by omega) (by decide) (by decide)⟩⟩
  obtain ⟨g1, g2⟩ := gn_po (poR_I po) (poG_I po) q1 (fun _ => trivial) S (fun p => ⟨rfl, rfl⟩) rfl hM
  have fu : ∀ x y, ¬ x = 269 → ¬ x = 270 → ¬ x = 245 → ¬ x = 266 → (ggP a (S.1 219 2).toNat (upI (gnT S a (S.1 219 2).toNat) 266 a.toNat 0)).1 x y = (gnT S a (S.1 219 2).toNat).1 x y := fun x y z1 z2 z3 z4 => by
    rw [ggP_f z1 z2 (fun z => z3 z.1), up_obj z4]
  have noc := cnt_z.mp q2
  have nos := cnt_z.mp q3
  refine fgtI (f4 := S.1 84) (fp := S.1 210) h q1 (fun x y hc => ?_) (by rw [ggP_2]; exact fgP_2) (fun s hs => ?_) (fun s hs => ?_) (fun j hj => ?_) (fun j hj hja hju => ?_) ?_ ?_ ?_
  · have hc' := hc
    unfold cJ at hc
    simp at hc
    rw [ggP_f (by omega) (by omega) (by omega), up_obj (by omega)]
    exact gnT_f (by omega) (by omega) (by omega) (by omega) (by omega)
  · rw [fu 84 s (by decide) (by decide) (by decide) (by decide), fu 257 s (by decide) (by decide) (by decide) (by decide), gnT_f (by decide) (by decide) (by omega) (by decide) (by decide), gnT_f (by decide) (by decide) (by omega) (by decide) (by decide)]
    exact ⟨rfl, (sl.2.2 s hs).1.2.2⟩
  · refine (sl.2.2 s hs).2.2.imp id fun z => ⟨z.1, z.2.imp id fun y => ⟨y.1, y.2, fun e => ?_⟩⟩
    have := nos s (by omega)
    rw [e] at y
    rw [e, y.2] at this
    simp at this
  · rw [fu 209 j (by decide) (by decide) (by decide) (by decide), gnT_9]
    refine ⟨rfl, ?_⟩
    rw [ggP_f (by decide) (by decide) (by omega)]
    by_cases e : j = a.toNat
    · rw [if_pos e, e, up_hit]
    · rw [if_neg e, up_cell e, f66]
  · rw [fu 210 j (by decide) (by decide) (by decide) (by decide), gnT_10 hja, fu 268 j (by decide) (by decide) (by decide) (by decide), f68]
    obtain ⟨_, _, x3, x4⟩ := (se.1 j hj).2 hju
    refine ⟨rfl, x3, x4.imp id fun y => ⟨y.1, y.2, fun e => ?_⟩⟩
    have := noc j hj
    rw [e] at this
    simp [hju] at this
  · obtain ⟨rk, hrk⟩ := se.2
    refine ⟨rk, fun t ht hu1 hu2 => ?_⟩
    rw [fu 209 t (by decide) (by decide) (by decide) (by decide), gnT_9] at hu1
    by_cases e : t = a.toNat
    · rw [if_pos e] at hu1; exact absurd rfl hu1
    · rw [if_neg e] at hu1
      rw [fu 210 t (by decide) (by decide) (by decide) (by decide), gnT_10 e] at hu2 ⊢
      exact hrk t ht hu1 hu2
  · obtain ⟨k1, k2, k3⟩ := g1
    have z2 := fu 219 2 (by decide) (by decide) (by decide) (by decide)
    refine ⟨by rw [z2]; exact k1, by rw [z2]; exact k2, fun p hp => ?_⟩
    rw [z2] at hp
    rw [fu 220 p (by decide) (by decide) (by decide) (by decide), fu 221 p (by decide) (by decide) (by decide) (by decide)]
    exact k3 p hp
  · intro p hp
    rw [fu 219 2 (by decide) (by decide) (by decide) (by decide)] at hp
    rw [fu 220 p (by decide) (by decide) (by decide) (by decide), fu 221 p (by decide) (by decide) (by decide) (by decide)]
    exact g2 p hp
