/-! EQUAL ANSWERS: pointers -/
def poX (C M : aS) (b : Nat) : Prop := M.1 245 29 = C.1 219 2 ∧ (0 ≤ C.1 219 2 ∧ C.1 219 2 ≤ 20) ∧ ∀ p : Nat, (p : Int) < C.1 219 2 → ¬ p = b → M.1 269 p = C.1 220 p ∧ M.1 270 p = C.1 221 p
def poR (C M : aS) : Prop := M.1 245 29 = C.1 219 2 ∧ (0 ≤ C.1 219 2 ∧ C.1 219 2 ≤ 20) ∧ ∀ p : Nat, (p : Int) < C.1 219 2 → M.1 269 p = C.1 220 p ∧ M.1 270 p = C.1 221 p
section RM
variable {S C M : aS} {b : Nat} {j : Nat}
theorem rmP_20 : (rmP S b).1 220 j = if (b : Int) ≤ j ∧ (j : Int) < S.1 219 2 - 1 then S.1 220 (j + 1) else S.1 220 j := by
  unfold rmP
  rw [up_obj (by decide)]
  simp [stA]
theorem rmP_21 : (rmP S b).1 221 j = if (b : Int) ≤ j ∧ (j : Int) < S.1 219 2 - 1 then S.1 221 (j + 1) else S.1 221 j := by
  unfold rmP
  rw [up_obj (by decide)]
  simp [stA]
theorem rmM_69 : (rmM S b).1 269 j = if (b : Int) ≤ j ∧ (j : Int) < S.1 245 29 - 1 then S.1 269 (j + 1) else S.1 269 j := by
  unfold rmM
  rw [up_obj (by decide)]
  simp [stA]
theorem rmM_70 : (rmM S b).1 270 j = if (b : Int) ≤ j ∧ (j : Int) < S.1 245 29 - 1 then S.1 270 (j + 1) else S.1 270 j := by
  unfold rmM
  rw [up_obj (by decide)]
  simp [stA]
theorem rm_R (h : poX C M b) (hb : (b : Int) < C.1 219 2) : poR (rmP C b) (rmM M b) := by
  obtain ⟨h1, h2, h3⟩ := h
  refine ⟨by rw [rmM_sz, rm_sz, h1], by rw [rm_sz]; omega, fun p hp => ?_⟩
  rw [rm_sz] at hp
  rw [rmP_20, rmP_21, rmM_69, rmM_70, h1]
  by_cases q : (b : Int) ≤ p ∧ (p : Int) < C.1 219 2 - 1
  · rw [if_pos q, if_pos q, if_pos q, if_pos q]
    exact h3 (p + 1) (by omega) (by omega)
  · rw [if_neg q, if_neg q, if_neg q, if_neg q]
    exact h3 p (by omega) (by omega)
end RM
/-- all pointers' ends have G -/
def poG (C : aS) (G : Int → Int → Prop) : Prop := ∀ p : Nat, (p : Int) < C.1 219 2 → G (C.1 220 p) (C.1 221 p)
theorem rm_G {C : aS} {G : Int → Int → Prop} {b : Nat} (h : poG C G) : poG (rmP C b) G := by
  intro p hp
  rw [rm_sz] at hp
  rw [rmP_20, rmP_21]
  by_cases q : (b : Int) ≤ p ∧ (p : Int) < C.1 219 2 - 1
  · rw [if_pos q, if_pos q]; exact h (p + 1) (by omega)
  · rw [if_neg q, if_neg q]; exact h p (by omega)
theorem fg_R {C M : aS} {a : Int} {k : Nat} (h : poR C M) (hk : (k : Int) < C.1 219 2) : poR (fg1 a k C) (gg1 a k M) := by
  obtain ⟨h1, h2, h3⟩ := h
  obtain ⟨k1, k2⟩ := h3 k hk
  have u29 : (upI M 270 k (-1)).1 245 29 = M.1 245 29 := up_obj (by decide)
  unfold fg1 gg1 gg0
  rw [k1, k2]
  by_cases q : C.1 220 k = a
  · rw [if_pos q, if_pos q]
    refine rm_R ?_ hk
    by_cases q2 : C.1 221 k = a
    · rw [if_pos q2]
      refine ⟨u29.trans h1, h2, fun p hp hpk => ?_⟩
      rw [up_obj (by decide), up_cell hpk]
      exact h3 p hp
    · rw [if_neg q2]; exact ⟨h1, h2, fun p hp _ => h3 p hp⟩
  · rw [if_neg q, if_neg q]
    by_cases q2 : C.1 221 k = a
    · rw [if_pos q2, if_pos q2]
      have e2 : (upI C 221 k (-1)).1 219 2 = C.1 219 2 := up_obj (by decide)
      refine ⟨by rw [u29, e2, h1], by rw [e2]; exact h2, fun p hp => ?_⟩
      rw [e2] at hp
      rw [up_obj (by decide), up_obj (by decide)]
      by_cases e : p = k
      · subst e; rw [up_hit, up_hit]; exact ⟨k1, rfl⟩
      · rw [up_cell e, up_cell e]; exact h3 p hp
    · rw [if_neg q2, if_neg q2]; exact ⟨h1, h2, h3⟩
theorem fg_sz {C : aS} {a : Int} {k : Nat} : C.1 219 2 - 1 ≤ (fg1 a k C).1 219 2 ∧ (fg1 a k C).1 219 2 ≤ C.1 219 2 := by
  unfold fg1
  split
  · rw [rm_sz]; omega
  · split
    · rw [up_obj (by decide)]; omega
    · omega
theorem fgP_R {a : Int} : ∀ {n : Nat} {C M : aS}, (n : Int) ≤ C.1 219 2 → poR C M → poR (fgP a n C) (ggP a n M)
  | 0, _, _, _, h => h
  | n + 1, C, M, hn, h => fgP_R (n := n) (by have := fg_sz (C := C) (a := a) (k := n); omega) (fg_R h (by omega))
theorem fg_G {C : aS} {a : Int} {k : Nat} {G : Int → Int → Prop} (hG : ∀ x y, G x y → G x (-1)) (h : poG C G) : poG (fg1 a k C) G := by
  unfold fg1
  split
  · exact rm_G h
  · split
    · intro p hp
      rw [up_obj (by decide)] at hp
      rw [up_obj (by decide)]
      by_cases e : p = k
      · subst e; rw [up_hit]; exact hG _ _ (h p hp)
      · rw [up_cell e]; exact h p hp
    · exact h
theorem fg_no {C : aS} {a : Int} {k : Nat} (ha : ¬ a = -1) (h : ∀ p : Nat, k + 1 ≤ p → (p : Int) < C.1 219 2 → ¬ C.1 220 p = a ∧ ¬ C.1 221 p = a) : ∀ p : Nat, k ≤ p → (p : Int) < (fg1 a k C).1 219 2 → ¬ (fg1 a k C).1 220 p = a ∧ ¬ (fg1 a k C).1 221 p = a := by
  intro p hp hs
  unfold fg1 at hs ⊢
  by_cases q : C.1 220 k = a
  · rw [if_pos q] at hs ⊢
    rw [rm_sz] at hs
    rw [rmP_20, rmP_21, if_pos (by omega), if_pos (by omega)]
    exact h (p + 1) (by omega) (by omega)
  · rw [if_neg q] at hs ⊢
    by_cases q2 : C.1 221 k = a
    · rw [if_pos q2] at hs ⊢
      rw [up_obj (by decide)] at hs
      rw [up_obj (by decide)]
      by_cases e : p = k
      · subst e; rw [up_hit]; exact ⟨q, fun z => ha z.symm⟩
      · rw [up_cell e]; exact h p (by omega) hs
    · rw [if_neg q2] at hs ⊢
      by_cases e : p = k
      · subst e; exact ⟨q, q2⟩
      · exact h p (by omega) hs
theorem fgP_G {a : Int} (ha : ¬ a = -1) {G : Int → Int → Prop} (hG : ∀ x y, G x y → G x (-1)) : ∀ {n : Nat} {C : aS}, poG C G → (∀ p : Nat, n ≤ p → (p : Int) < C.1 219 2 → ¬ C.1 220 p = a ∧ ¬ C.1 221 p = a) → poG (fgP a n C) (fun x y => G x y ∧ ¬ x = a ∧ ¬ y = a)
  | 0, C, h, h2 => fun p hp => ⟨h p hp, h2 p (Nat.zero_le _) hp⟩
  | n + 1, C, h, h2 => fgP_G ha hG (n := n) (fg_G hG h) (fg_no ha h2)
theorem fg1_f {C : aS} {a : Int} {k x y : Nat} (h : ¬ x = 220) (h2 : ¬ x = 221) (h3 : ¬ (x = 219 ∧ y = 2)) : (fg1 a k C).1 x y = C.1 x y := by
  have r : (rmP C k).1 x y = C.1 x y := by
    unfold rmP
    simp only [upI, up2, stA]
    rw [if_neg h3, if_neg h2, if_neg h]
  unfold fg1
  split
  · exact r
  · split
    · exact up_obj h2
    · rfl
theorem fgP_f {a : Int} {x y : Nat} (h : ¬ x = 220) (h2 : ¬ x = 221) (h3 : ¬ (x = 219 ∧ y = 2)) : ∀ {n : Nat} {C : aS}, (fgP a n C).1 x y = C.1 x y
  | 0, _ => rfl
  | n + 1, C => (fgP_f h h2 h3 (n := n)).trans (fg1_f h h2 h3)
theorem fg1_2 {C : aS} {a : Int} {k : Nat} : (fg1 a k C).2 = C.2 := by
  unfold fg1
  split
  · rfl
  · split <;> rfl
theorem fgP_2 {a : Int} : ∀ {n : Nat} {C : aS}, (fgP a n C).2 = C.2
  | 0, _ => rfl
  | n + 1, C => (fgP_2 (n := n)).trans fg1_2
theorem gg1_f {C : aS} {a : Int} {k x y : Nat} (h : ¬ x = 269) (h2 : ¬ x = 270) (h3 : ¬ (x = 245 ∧ y = 29)) : (gg1 a k C).1 x y = C.1 x y := by
  have r : ∀ X : aS, (rmM X k).1 x y = X.1 x y := fun X => by
    unfold rmM
    simp only [upI, up2, stA]
    rw [if_neg h3, if_neg h2, if_neg h]
  have g : (gg0 a k C).1 x y = C.1 x y := by
    unfold gg0
    split
    · exact up_obj h2
    · rfl
  unfold gg1
  split
  · exact (r _).trans g
  · exact g
theorem ggP_f {a : Int} {x y : Nat} (h : ¬ x = 269) (h2 : ¬ x = 270) (h3 : ¬ (x = 245 ∧ y = 29)) : ∀ {n : Nat} {C : aS}, (ggP a n C).1 x y = C.1 x y
  | 0, _ => rfl
  | n + 1, C => (ggP_f h h2 h3 (n := n)).trans (gg1_f h h2 h3)
theorem gg1_2 {C : aS} {a : Int} {k : Nat} : (gg1 a k C).2 = C.2 := by
  have g : (gg0 a k C).2 = C.2 := by
    unfold gg0
    split <;> rfl
  unfold gg1
  split
  · exact g
  · exact g
theorem ggP_2 {a : Int} : ∀ {n : Nat} {C : aS}, (ggP a n C).2 = C.2
  | 0, _ => rfl
  | n + 1, C => (ggP_2 (n := n)).trans gg1_2
def cJ (a b : Nat) : Bool := decide (a = 84) || (decide (a = 209) || (decide (a = 210) || (decide (a = 220) || (decide (a = 221) || (decide (a = 257) || (decide (a = 266) || (decide (a = 268) || (decide (a = 269) || (decide (a = 270) || ((decide (a = 245) && decide (b = 29)) || (decide (a = 219) && decide (b = 2))))))))))))
/-- a sense is gone: what is left to show -/
theorem fgtI {S U : aS} {a : Int} {f4 fp : Nat → Int} (h : Inv S) (ha : uS S a) (fr : ∀ x y, cJ x y = false → U.1 x y = S.1 x y) (h2 : U.2 = S.2) (hs : ∀ s : Nat, (s : Int) < S.1 81 4 → U.1 84 s = f4 s ∧ U.1 257 s = f4 s)
    (hf : ∀ s : Nat, (s : Int) < S.1 81 4 → (S.1 83 s = -1 ∧ f4 s = -1) ∨ ((0 ≤ S.1 83 s ∧ S.1 83 s < S.1 14 4) ∧ (f4 s = -1 ∨ (uS S (f4 s) ∧ S.1 209 (f4 s).toNat = S.1 83 s ∧ ¬ f4 s = a))))
    (h9 : ∀ j : Nat, j < 40 → U.1 209 j = (if j = a.toNat then -1 else S.1 209 j) ∧ U.1 266 j = (if j = a.toNat then 0 else S.1 266 j))
    (h10 : ∀ j : Nat, j < 40 → ¬ j = a.toNat → ¬ S.1 209 j = -1 → U.1 210 j = fp j ∧ U.1 268 j = fp j ∧ (fp j = -1 ∨ (uS S (fp j) ∧ S.1 209 (fp j).toNat = S.1 209 j ∧ ¬ fp j = a)))
    (hrk : ∃ rk : Nat → Nat, ∀ t : Nat, t < 40 → ¬ U.1 209 t = -1 → ¬ U.1 210 t = -1 → rk (U.1 210 t).toNat < rk t)
    (hR : poR U U) (hG : poG U (fun x y => (uS S x ∧ (y = -1 ∨ uS S y)) ∧ ¬ x = a ∧ ¬ y = a)) : Inv U := by
  obtain ⟨tp, bk, bh, sl, se, po, ed, pr, en, ru, ws, wf, kn⟩ := h
  have us : ∀ t, uS S t → ¬ t = a → uS U t ∧ U.1 209 t.toNat = S.1 209 t.toNat := fun t ht hta => by
    have e := (h9 t.toNat (by have := ht.1; have := ht.2.1; omega)).1
    rw [if_neg (by have := ht.1; have := ha.1; omega)] at e
    exact ⟨⟨ht.1, ht.2.1, by rw [e]; exact ht.2.2⟩, e⟩
  have e81 : U.1 81 4 = S.1 81 4 := fr 81 4 (by decide)
  have e14 : U.1 14 4 = S.1 14 4 := fr 14 4 (by decide)
  have e12 : U.1 245 12 = S.1 245 12 := fr 245 12 (by decide)
  have e37 : U.1 3 7 = S.1 3 7 := fr 3 7 (by decide)
  have vsl : iSl U := by
    refine ⟨by rw [e81]; exact sl.1, by rw [e81, e12]; exact sl.2.1, fun s hsn => ?_⟩
    rw [e81] at hsn
    obtain ⟨⟨a1, a2, a3⟩, a4, a5⟩ := sl.2.2 s hsn
    obtain ⟨b1, b2⟩ := hs s hsn
    rw [fr 255 s (by simp [cJ]), fr 82 s (by simp [cJ]), fr 256 s (by simp [cJ]), fr 83 s (by simp [cJ]), b1, b2, e37, e14]
    refine ⟨⟨a1, a2, rfl⟩, a4, (hf s hsn).imp id fun z => ⟨z.1, z.2.imp id fun y => ?_⟩⟩
    obtain ⟨c1, c2⟩ := us _ y.1 y.2.2
    exact ⟨c1, c2.trans y.2.1⟩
  have vse : iSe U := by
    refine ⟨fun t ht => ?_, hrk⟩
    obtain ⟨b1, b2⟩ := h9 t ht
    by_cases e : t = a.toNat
    · rw [if_pos e] at b1 b2
      rw [b1, b2]
      exact ⟨⟨fun _ => rfl, fun _ => rfl⟩, fun z => absurd rfl z⟩
    · rw [if_neg e] at b1 b2
      obtain ⟨c1, c2⟩ := se.1 t ht
      rw [b1, b2]
      refine ⟨c1, fun z => ?_⟩
      obtain ⟨d1, d2, d3, d4⟩ := c2 z
      obtain ⟨g1, g2, g3⟩ := h10 t ht e z
      rw [g1, g2, fr 267 t (by simp [cJ]), e14]
      refine ⟨d1, d2, rfl, g3.imp id fun y => ?_⟩
      obtain ⟨k1, k2⟩ := us _ y.1 y.2.2
      exact ⟨k1, k2.trans y.2.1⟩
  have vpo : iPo U := ⟨hR.2.1, hR.1, fun p hp => by
    obtain ⟨g1, g2⟩ := hR.2.2 p hp
    obtain ⟨⟨k1, k2⟩, k3, k4⟩ := hG p hp
    exact ⟨g1, g2, (us _ k1 k3).1, k2.imp id fun z => (us _ z k4).1⟩⟩
  have ved : iEd U := iEd_c (fr 222 4 (by decide)) (fr 245 37 (by decide)) (funext fun b => fr 223 b (by simp [cJ])) (funext fun b => fr 271 b (by simp [cJ])) (funext fun b => fr 272 b (by simp [cJ])) (funext fun b => fr 273 b (by simp [cJ])) (fun e he => ⟨funext fun b => fr _ b (by simp [cJ]; omega), funext fun b => fr _ b (by simp [cJ]; omega)⟩) ed
  rw [pat_e fr h2] at vsl vse vpo ved ⊢
  exact ⟨tp, bk, bh, vsl, vse, vpo, ved, pr, en, ru, ws, wf, kn⟩
theorem poR_I {S : aS} (h : iPo S) : poR S S := ⟨h.2.1, h.1, fun p hp => ⟨(h.2.2 p hp).1, (h.2.2 p hp).2.1⟩⟩
set_option maxHeartbeats 4000000 in
theorem eq_lead {S : aS} {p b : Int} (h : Inv S) : spX11_lead [.inr (.inr 0), .inl p, .inl b] S (fun r T => spX12_lead [.inr (.inr 245), .inl p, .inl b] T (Eqv r)) := by
  have h' := h
  obtain ⟨tp, bk, bh, sl, se, po, ed, pr, en, ru, ws, wf, kn⟩ := h'
  have eb := us_eq se (t := b)
  obtain ⟨p1, p2, p3⟩ := po
  have e70 : 0 ≤ p → p < S.1 219 2 → S.1 270 p.toNat = S.1 221 p.toNat ∧ S.1 269 p.toNat = S.1 220 p.toNat := fun x y => ⟨(p3 p.toNat (by omega)).2.1, (p3 p.toNat (by omega)).1⟩
  have hx : (0 ≤ p ∧ p < S.1 219 2 ∧ S.1 221 p.toNat = -1) ↔ (0 ≤ p ∧ p < S.1 245 29 ∧ S.1 270 p.toNat = -1) := by
    rw [p2]
    exact ⟨fun z => ⟨z.1, z.2.1, by rw [(e70 z.1 z.2.1).1]; exact z.2.2⟩, fun z => ⟨z.1, z.2.1, by rw [← (e70 z.1 z.2.1).1]; exact z.2.2⟩⟩
  refine ⟨p1, fun q => ⟨by omega, fun _ => ⟨rfl, h⟩, fun z => absurd (hx.mpr z) q, fun z => absurd (hx.mpr z) q⟩, fun q qb => ?_, fun q qb => ?_⟩
  · have hpN : ((p.toNat : Nat) : Int) = p := by have := q.1; omega
    have fr0 : ∀ x y, ¬ x = 219 → ¬ x = 220 → ¬ x = 221 → (rmP S p).1 x y = S.1 x y := fun x y z1 z2 z3 => by
      unfold rmP
      simp only [upI, up2, stA]
      rw [if_neg (by omega), if_neg z3, if_neg z2]
    have e29 := fr0 245 29 (by decide) (by decide) (by decide)
    have f70 : (rmP S p).1 270 p.toNat = S.1 270 p.toNat := fr0 270 _ (by decide) (by decide) (by decide)
    have hx2 := hx.mp q
    refine ⟨by rw [e29]; omega, fun z => absurd (by rw [e29, f70]; exact hx2) z, fun _ _ => ⟨rfl, ?_⟩, fun _ z => absurd qb z⟩
    have r0 : poX S (rmP S p) p.toNat := ⟨by rw [e29]; exact p2, p1, fun j hj _ => by rw [fr0 269 j (by decide) (by decide) (by decide), fr0 270 j (by decide) (by decide) (by decide)]; exact ⟨(p3 j hj).1, (p3 j hj).2.1⟩⟩
    have r1 := rm_R r0 (by omega)
    have g1 : poG (rmP S p.toNat) (fun x y => uS S x ∧ (y = -1 ∨ uS S y)) := rm_G (fun j hj => (p3 j hj).2.2)
    rw [hpN] at r1 g1
    have fr1 : ∀ x y, ¬ x = 245 → ¬ x = 269 → ¬ x = 270 → (rmM (rmP S p) p).1 x y = (rmP S p).1 x y := fun x y z1 z2 z3 => by
      unfold rmM
      simp only [upI, up2, stA]
      rw [if_neg (by omega), if_neg z3, if_neg z2]
    have vpo : iPo (rmM (rmP S p) p) := by
      have s1 := fr1 219 2 (by decide) (by decide) (by decide)
      refine ⟨by rw [s1]; exact r1.2.1, by rw [s1]; exact r1.1, fun j hj => ?_⟩
      rw [s1] at hj
      rw [fr1 220 j (by decide) (by decide) (by decide), fr1 221 j (by decide) (by decide) (by decide)]
      exact ⟨(r1.2.2 j hj).1, (r1.2.2 j hj).2, g1 j hj⟩
    exact ⟨tp, bk, bh, sl, se, vpo, iEd_f (by decide) (iEd_a (edX_d (by decide)) (iEd_a (edX_d (by decide)) (iEd_u (edX_d (by decide)) (iEd_a (edX_d (by decide)) (iEd_a (edX_d (by decide)) ed))))), pr, en, ru, ws, wf, kn⟩
  · have hx2 := hx.mp q
    obtain ⟨e1, e2⟩ := e70 q.1 q.2.1
    refine ⟨fun q2 => ⟨by omega, fun z => absurd hx2 z, fun _ z => absurd z qb, fun _ _ => ⟨fun _ => ⟨rfl, h⟩, fun z => absurd ⟨eb.mp z.1, fun y => z.2 (by rw [e2]; exact y.symm)⟩ q2⟩⟩, fun q2 => ?_⟩
    have e29 : (upI S 221 p.toNat b).1 245 29 = S.1 245 29 := rfl
    refine ⟨by rw [e29]; omega, fun z => absurd hx2 z, fun _ z => absurd z qb, fun _ _ => ⟨fun z => absurd ⟨eb.mpr q2.1, fun y => q2.2 (by rw [← e2]; exact y.symm)⟩ z, fun _ => ⟨rfl, ?_⟩⟩⟩
    refine ⟨tp, bk, bh, sl, se, ⟨p1, p2, fun j hj => ?_⟩, iEd_u (edX_d (by decide)) (iEd_u (edX_d (by decide)) ed), pr, en, ru, ws, wf, kn⟩
    obtain ⟨c1, c2, c3, c4⟩ := p3 j hj
    by_cases e : j = p.toNat
    · subst e
      have r1 : (upI (upI S 221 p.toNat b) 270 p.toNat b).1 221 p.toNat = b := by rw [up_obj (by decide), up_hit]
      rw [r1, up_hit]
      exact ⟨c1, rfl, c3, Or.inr q2.1⟩
    · have r1 : (upI (upI S 221 p.toNat b) 270 p.toNat b).1 221 j = S.1 221 j := by rw [up_obj (by decide), up_cell e]
      have r2 : (upI (upI S 221 p.toNat b) 270 p.toNat b).1 270 j = S.1 270 j := by rw [up_cell e, up_obj (by decide)]
      rw [r1, r2]
      exact ⟨c1, c2, c3, c4⟩
