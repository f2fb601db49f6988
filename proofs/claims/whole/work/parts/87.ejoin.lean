/-! EQUAL ANSWERS: join -/
theorem jnS_f {S : aS} {a b : Int} {x : Nat} (h : ¬ x = 84) (h2 : ¬ x = 210) : (jnS S a b).1 x = S.1 x := by
  funext y
  unfold jnS
  simp only [stA]
  rw [if_neg h2, if_neg h]
theorem jnS_4 {S : aS} {a b : Int} {j : Nat} : (jnS S a b).1 84 j = if (j : Int) < S.1 81 4 ∧ S.1 84 j = a then b else S.1 84 j := by
  unfold jnS
  simp [stA]
theorem jnS_10 {S : aS} {a b : Int} {j : Nat} : (jnS S a b).1 210 j = if j < 40 ∧ ¬ S.1 209 j = -1 ∧ S.1 210 j = a then b else S.1 210 j := by
  unfold jnS
  simp [stA]
theorem jmS_f {S : aS} {a b : Int} {x : Nat} (h : ¬ x = 257) (h2 : ¬ x = 268) : (jmS S a b).1 x = S.1 x := by
  funext y
  unfold jmS jmB jmA
  simp only [stA]
  rw [if_neg h2, if_neg h]
theorem jmS_57 {S : aS} {a b : Int} {j : Nat} : (jmS S a b).1 257 j = if (j : Int) < S.1 245 12 ∧ S.1 257 j = a then b else S.1 257 j := by
  unfold jmS jmB jmA
  simp [stA]
theorem jmS_68 {S : aS} {a b : Int} {j : Nat} : (jmS S a b).1 268 j = if j < 40 ∧ ¬ S.1 266 j = 0 ∧ S.1 268 j = a then b else S.1 268 j := by
  unfold jmS jmB jmA
  simp [stA]
set_option maxHeartbeats 4000000 in
theorem eq_join {S : aS} {a b : Int} (h : Inv S) : spX11_join [.inr (.inr 0), .inl a, .inl b] S (fun r T => spX12_join [.inr (.inr 245), .inl a, .inl b] T (Eqv r)) := by
  have h' := h
  obtain ⟨tp, bk, bh, sl, se, po, ed, pr, en, ru, ws, wf, kn⟩ := h'
  have ea := us_eq se (t := a)
  have eb := us_eq se (t := b)
  have s1 := sl.1
  have s2 := sl.2.1
  have p1 := po.1
  have p2 := po.2.1
  have wq : uS S b → (wth (S.1 209) (S.1 210) a 40 b ↔ wtM (S.1 268) a 40 b) := fun hb => wt_eq se 40 b (Or.inr hb)
  have hcv : (uS S a ∧ uS S b ∧ S.1 209 a.toNat = S.1 209 b.toNat ∧ ¬ wth (S.1 209) (S.1 210) a 40 b) ↔ ((0 ≤ a ∧ a < 40 ∧ ¬ S.1 266 a.toNat = 0) ∧ (0 ≤ b ∧ b < 40 ∧ ¬ S.1 266 b.toNat = 0) ∧ ¬ a = b ∧ S.1 267 a.toNat = S.1 267 b.toNat ∧ ¬ wtM (S.1 268) a 40 b) := by
    rw [ea, eb]
    constructor
    · rintro ⟨z1, z2, z3, z4⟩
      exact ⟨z1, z2, fun y => z4 ⟨z2, Or.inl y.symm⟩, by rw [(us_e se z1).1, (us_e se z2).1]; exact z3, fun y => z4 ((wq z2).mpr y)⟩
    · rintro ⟨z1, z2, z3, z4, z5⟩
      exact ⟨z1, z2, by rw [← (us_e se z1).1, ← (us_e se z2).1]; exact z4, fun y => z5 ((wq z2).mp y)⟩
  refine ⟨s1, p1, fun q => ⟨fun z => chn_I se (Or.inr (eb.mp z)), by omega, by omega, fun _ => ⟨rfl, h⟩, fun z => absurd (hcv.mpr z) q⟩, fun q => ?_⟩
  have hm := hcv.mp q
  obtain ⟨q1, q2, q3, q4⟩ := q
  have q4' : ¬ wtM (S.1 268) a 40 b := hm.2.2.2.2
  have qab : ¬ b = a := fun z => hm.2.2.1 z.symm
  have eT : fgP a (S.1 219 2).toNat (upI (upI (jnS S a b) 209 a.toNat (-1)) 210 a.toNat (-1)) = gnT (jnS S a b) a (S.1 219 2).toNat := rfl
  rw [eT]
  have gf : ∀ x y, ¬ x = 220 → ¬ x = 221 → ¬ (x = 219 ∧ y = 2) → ¬ x = 209 → ¬ x = 210 → ¬ x = 84 → (gnT (jnS S a b) a (S.1 219 2).toNat).1 x y = S.1 x y := fun x y z1 z2 z3 z4 z5 z6 => by rw [gnT_f z1 z2 z3 z4 z5, jnS_f z6 z5]
  have gff : ∀ x, ¬ x = 220 → ¬ x = 221 → ¬ x = 219 → ¬ x = 209 → ¬ x = 210 → ¬ x = 84 → (gnT (jnS S a b) a (S.1 219 2).toNat).1 x = S.1 x := fun x z1 z2 z3 z4 z5 z6 => funext fun y => gf x y z1 z2 (fun z => z3 z.1) z4 z5 z6
  have e12 := gf 245 12 (by decide) (by decide) (by decide) (by decide) (by decide) (by decide)
  have e29 := gf 245 29 (by decide) (by decide) (by decide) (by decide) (by decide) (by decide)
  have f66 := gff 266 (by decide) (by decide) (by decide) (by decide) (by decide) (by decide)
  have f67 := gff 267 (by decide) (by decide) (by decide) (by decide) (by decide) (by decide)
  have f68 := gff 268 (by decide) (by decide) (by decide) (by decide) (by decide) (by decide)
  have f57 := gff 257 (by decide) (by decide) (by decide) (by decide) (by decide) (by decide)
  have hcb : chn (S.1 268) 40 b := chn_I se (Or.inr q2)
  refine ⟨fun z => by rw [f68]; exact hcb, by rw [e12]; omega, by rw [e29]; omega, fun z => ?_, fun _ => ⟨rfl, ?_⟩⟩
  · rw [f66, f68, f67] at z
    exact absurd hm z
  rw [e29, p2]
  have jf : ∀ x y, ¬ x = 257 → ¬ x = 268 → ¬ x = 266 → (upI (jmS (gnT (jnS S a b) a (S.1 219 2).toNat) a b) 266 a.toNat 0).1 x y = (gnT (jnS S a b) a (S.1 219 2).toNat).1 x y := fun x y z1 z2 z3 => by rw [up_obj z3, jmS_f z1 z2]
  have hM : (upI (jmS (gnT (jnS S a b) a (S.1 219 2).toNat) a b) 266 a.toNat 0).1 245 29 = S.1 245 29 ∧ ∀ p : Nat, (upI (jmS (gnT (jnS S a b) a (S.1 219 2).toNat) a b) 266 a.toNat 0).1 269 p = S.1 269 p ∧ (upI (jmS (gnT (jnS S a b) a (S.1 219 2).toNat) a b) 266 a.toNat 0).1 270 p = S.1 270 p := ⟨by rw [jf 245 29 (by decide) (by decide) (by decide)]; exact e29, fun p => ⟨by rw [jf 269 p (by decide) (by decide) (by decide)]; exact gf 269 p (by decide) (by decide) (by omega) (by decide) (by decide) (by decide), by rw [jf 270 p (by decide) (by decide) (by decide)]; exact gf 270 p (by decide) (by decide) (by omega) (by decide) (by decide) (by decide)⟩⟩
  obtain ⟨g1, g2⟩ := gn_po (poR_I po) (poG_I po) q1 (fun _ => trivial) (jnS S a b) (fun p => ⟨congrFun (jnS_f (by decide) (by decide)) p, congrFun (jnS_f (by decide) (by decide)) p⟩) (congrFun (jnS_f (by decide) (by decide)) 2) hM
  have fu : ∀ x y, ¬ x = 269 → ¬ x = 270 → ¬ x = 245 → ¬ x = 266 → ¬ x = 257 → ¬ x = 268 → (ggP a (S.1 219 2).toNat (upI (jmS (gnT (jnS S a b) a (S.1 219 2).toNat) a b) 266 a.toNat 0)).1 x y = (gnT (jnS S a b) a (S.1 219 2).toNat).1 x y := fun x y z1 z2 z3 z4 z5 z6 => by
    rw [ggP_f z1 z2 (fun z => z3 z.1), jf x y z5 z6 z4]
  have u9 : ∀ j, (ggP a (S.1 219 2).toNat (upI (jmS (gnT (jnS S a b) a (S.1 219 2).toNat) a b) 266 a.toNat 0)).1 209 j = if j = a.toNat then -1 else S.1 209 j := fun j => by
    rw [fu 209 j (by decide) (by decide) (by decide) (by decide) (by decide) (by decide), gnT_9, jnS_f (by decide) (by decide)]
  have u10 : ∀ j, ¬ j = a.toNat → (ggP a (S.1 219 2).toNat (upI (jmS (gnT (jnS S a b) a (S.1 219 2).toNat) a b) 266 a.toNat 0)).1 210 j = if j < 40 ∧ ¬ S.1 209 j = -1 ∧ S.1 210 j = a then b else S.1 210 j := fun j hj => by
    rw [fu 210 j (by decide) (by decide) (by decide) (by decide) (by decide) (by decide), gnT_10 hj, jnS_10]
  refine fgtI (f4 := fun s => if S.1 84 s = a then b else S.1 84 s) (fp := fun j => if S.1 210 j = a then b else S.1 210 j) h q1 (fun x y hc => ?_) (by rw [ggP_2]; exact fgP_2) (fun s hs => ?_) (fun s hs => ?_) (fun j hj => ⟨u9 j, ?_⟩) (fun j hj hja hju => ?_) ?_ ?_ ?_
  · unfold cJ at hc
    simp at hc
    rw [ggP_f (by omega) (by omega) (by omega), jf x y (by omega) (by omega) (by omega)]
    exact gf x y (by omega) (by omega) (by omega) (by omega) (by omega) (by omega)
  · constructor
    · rw [fu 84 s (by decide) (by decide) (by decide) (by decide) (by decide) (by decide), gnT_f (by decide) (by decide) (by omega) (by decide) (by decide), jnS_4]
      by_cases e : S.1 84 s = a
      · rw [if_pos ⟨hs, e⟩, if_pos e]
      · rw [if_neg (fun z => e z.2), if_neg e]
    · rw [ggP_f (by decide) (by decide) (by omega), up_obj (by decide), jmS_57, e12, f57, (sl.2.2 s hs).1.2.2]
      by_cases e : S.1 84 s = a
      · rw [if_pos ⟨by omega, e⟩, if_pos e]
      · rw [if_neg (fun z => e z.2), if_neg e]
  · refine (sl.2.2 s hs).2.2.imp (fun z => ⟨z.1, ?_⟩) fun z => ⟨z.1, ?_⟩
    · rw [if_neg (by have := q1.1; omega)]; exact z.2
    · by_cases e : S.1 84 s = a
      · rw [if_pos e]
        refine Or.inr ⟨q2, ?_, qab⟩
        rcases z.2 with y | y
        · have := q1.1; omega
        · rw [← y.2, e]; exact q3.symm
      · rw [if_neg e]
        exact z.2.imp id fun y => ⟨y.1, y.2, e⟩
  · rw [ggP_f (by decide) (by decide) (by omega)]
    by_cases e : j = a.toNat
    · rw [if_pos e, e, up_hit]
    · rw [if_neg e, up_cell e, jmS_f (by decide) (by decide), f66]
  · obtain ⟨_, _, x3, x4⟩ := (se.1 j hj).2 hju
    have hju' : ¬ S.1 266 j = 0 := fun z => hju ((se.1 j hj).1.mp z)
    refine ⟨?_, ?_, ?_⟩
    · rw [u10 j hja]
      by_cases e : S.1 210 j = a
      · rw [if_pos ⟨hj, hju, e⟩, if_pos e]
      · rw [if_neg (fun z => e z.2.2), if_neg e]
    · rw [ggP_f (by decide) (by decide) (by omega), up_obj (by decide), jmS_68, f66, f68, x3]
      by_cases e : S.1 210 j = a
      · rw [if_pos ⟨hj, hju', e⟩, if_pos e]
      · rw [if_neg (fun z => e z.2.2), if_neg e]
    · by_cases e : S.1 210 j = a
      · rw [if_pos e]
        refine Or.inr ⟨q2, ?_, qab⟩
        rcases x4 with y | y
        · have := q1.1; omega
        · rw [← y.2, e]; exact q3.symm
      · rw [if_neg e]
        exact x4.imp id fun y => ⟨y.1, y.2, e⟩
  · refine rk_mv se q1 (Or.inr q2) q4' (fun t ht z => ?_) (fun t ht z => ?_)
    · rw [u9] at z
      by_cases e : t = a.toNat
      · rw [if_pos e] at z; exact absurd rfl z
      · rw [if_neg e] at z; exact z
    · rw [u9] at z
      by_cases e : t = a.toNat
      · rw [if_pos e] at z; exact absurd rfl z
      · rw [if_neg e] at z
        rw [u10 t e]
        have ht' : uS S (t : Int) := ⟨by omega, by omega, by rw [Int.toNat_natCast]; exact z⟩
        by_cases e2 : S.1 210 t = a
        · rw [if_pos ⟨ht, z, e2⟩]
          refine Or.inr ⟨rfl, ?_⟩
          have ha1 : ¬ a = -1 := by have := q1.1; omega
          refine (wtM_s ha1 ⟨by omega, by omega⟩ (chn_I se (Or.inr ht'))).mpr (Or.inr ?_)
          rw [Int.toNat_natCast, ((se.1 t ht).2 z).2.2.1, e2]
          exact wt_self ha1
        · rw [if_neg (fun y => e2 y.2.2)]
          exact Or.inl ⟨rfl, by have := q1.1; omega⟩
  · obtain ⟨k1, k2, k3⟩ := g1
    have z2 := fu 219 2 (by decide) (by decide) (by decide) (by decide) (by decide) (by decide)
    refine ⟨by rw [z2]; exact k1, by rw [z2]; exact k2, fun p hp => ?_⟩
    rw [z2] at hp
    rw [fu 220 p (by decide) (by decide) (by decide) (by decide) (by decide) (by decide), fu 221 p (by decide) (by decide) (by decide) (by decide) (by decide) (by decide)]
    exact k3 p hp
  · intro p hp
    rw [fu 219 2 (by decide) (by decide) (by decide) (by decide) (by decide) (by decide)] at hp
    rw [fu 220 p (by decide) (by decide) (by decide) (by decide) (by decide) (by decide), fu 221 p (by decide) (by decide) (by decide) (by decide) (by decide) (by decide)]
    exact g2 p hp
