/-! EQUAL ANSWERS: move, lead, drop, join -/
theorem wtM_f {P : Nat → Int} {a : Int} (ha : ¬ a = -1) : ∀ {n : Nat} {x : Int}, chn P n x → (wtM P a (n + 1) x ↔ wtM P a n x)
  | 0, x, h => by
    have h' : x = -1 := h
    subst h'
    exact ⟨fun z => absurd rfl z.1, fun z => z.elim⟩
  | n + 1, x, h => by
    show (¬ x = -1 ∧ (x = a ∨ wtM P a (n + 1) (P x.toNat))) ↔ (¬ x = -1 ∧ (x = a ∨ wtM P a n (P x.toNat)))
    rcases h with h | ⟨_, _, h⟩
    · subst h; exact ⟨fun z => absurd rfl z.1, fun z => absurd rfl z.1⟩
    · rw [wtM_f ha h]
/-- being under a, one step up -/
theorem wtM_s {P : Nat → Int} {a x : Int} (ha : ¬ a = -1) (hx : 0 ≤ x ∧ x < 40) (h : chn P 40 x) : wtM P a 40 x ↔ (x = a ∨ wtM P a 40 (P x.toNat)) := by
  obtain ⟨_, _, hc⟩ := h.resolve_left (by omega)
  have e := wtM_f ha hc
  show (¬ x = -1 ∧ (x = a ∨ wtM P a 39 (P x.toNat))) ↔ _
  rw [← e]
  exact ⟨fun z => z.2, fun z => ⟨by omega, z⟩⟩
theorem chn_I {S : aS} (h : iSe S) {t : Int} (ht : t = -1 ∨ uS S t) : chn (S.1 268) 40 t := by
  rcases ht with ht | ht
  · rw [ht]; exact chn_1
  · have z := chA_I h t.toNat (by have := ht.1; have := ht.2.1; omega) ((us_eq h).mpr ht).2.2
    rw [show ((t.toNat : Nat) : Int) = t from by have := ht.1; omega] at z
    exact z
/-- a new rank when everything under a goes under b -/
theorem rk_mv {S : aS} (h : iSe S) {a b : Int} (ha : uS S a) (hb : b = -1 ∨ uS S b) (hw : ¬ wtM (S.1 268) a 40 b) {E P : Nat → Int} (hE : ∀ t : Nat, t < 40 → ¬ E t = -1 → ¬ S.1 209 t = -1) (hP : ∀ t : Nat, t < 40 → ¬ E t = -1 → (P t = S.1 210 t ∧ (t : Int) ≠ a) ∨ (P t = b ∧ wtM (S.1 268) a 40 t)) : ∃ rk : Nat → Nat, ∀ t : Nat, t < 40 → ¬ E t = -1 → ¬ P t = -1 → rk (P t).toNat < rk t := by
  obtain ⟨rk, hrk⟩ := h.2
  have ha1 : ¬ a = -1 := by have := ha.1; omega
  refine ⟨fun j => @ite _ (wtM (S.1 268) a 40 (j : Int)) (Classical.propDecidable _) (rk j + rk b.toNat + 1) (rk j), fun t ht hu hp => ?_⟩
  have hus := hE t ht hu
  have ht' : uS S (t : Int) := ⟨by omega, by omega, by rw [Int.toNat_natCast]; exact hus⟩
  rcases hP t ht hu with ⟨e1, e2⟩ | ⟨e1, e2⟩
  · rw [e1] at hp ⊢
    have hpu := ((us_e h ht').2.2.2)
    rw [Int.toNat_natCast] at hpu
    have hpu' := (hpu.resolve_left hp).1
    have r1 := hrk t ht hus hp
    have e68 : S.1 268 t = S.1 210 t := by have := (us_e h ht').2.1; rw [Int.toNat_natCast] at this; exact this
    have w1 := wtM_s (P := S.1 268) ha1 (x := (t : Int)) ⟨by omega, by omega⟩ (chn_I h (Or.inr ht'))
    rw [Int.toNat_natCast, e68] at w1
    have e3 : (((S.1 210 t).toNat : Nat) : Int) = S.1 210 t := by have := hpu'.1; omega
    by_cases w : wtM (S.1 268) a 40 (S.1 210 t)
    · have w2 : wtM (S.1 268) a 40 (t : Int) := w1.mpr (Or.inr w)
      have w' : wtM (S.1 268) a 40 (((S.1 210 t).toNat : Nat) : Int) := by rw [e3]; exact w
      simp only [if_pos w', if_pos w2]
      omega
    · have w2 : ¬ wtM (S.1 268) a 40 (t : Int) := fun z => (w1.mp z).elim e2 w
      have w' : ¬ wtM (S.1 268) a 40 (((S.1 210 t).toNat : Nat) : Int) := by rw [e3]; exact w
      simp only [if_neg w', if_neg w2]
      exact r1
  · rw [e1] at hp ⊢
    have hbu := hb.resolve_left hp
    have e3 : ((b.toNat : Nat) : Int) = b := by have := hbu.1; omega
    have w' : ¬ wtM (S.1 268) a 40 ((b.toNat : Nat) : Int) := by rw [e3]; exact hw
    simp only [if_neg w', if_pos e2]
    omega
theorem wt_self {P : Nat → Int} {a : Int} (ha : ¬ a = -1) : wtM P a 40 a := ⟨ha, Or.inl rfl⟩
set_option maxHeartbeats 4000000 in
theorem eq_move {S : aS} {a b : Int} (h : Inv S) : spX11_move [.inr (.inr 0), .inl a, .inl b] S (fun r T => spX12_move [.inr (.inr 245), .inl a, .inl b] T (Eqv r)) := by
  have h' := h
  obtain ⟨tp, bk, bh, sl, se, po, ed, pr, en, ru, ws, wf, kn⟩ := h'
  have ea := us_eq se (t := a)
  have eb := us_eq se (t := b)
  have wq : uS S a → (b = -1 ∨ uS S b) → (wth (S.1 209) (S.1 210) a 40 b ↔ wtM (S.1 268) a 40 b) := fun _ hb => wt_eq se 40 b hb
  have hcv : (uS S a ∧ (b = -1 ∨ (uS S b ∧ S.1 209 b.toNat = S.1 209 a.toNat)) ∧ ¬ S.1 210 a.toNat = b ∧ ¬ wth (S.1 209) (S.1 210) a 40 b) ↔ ((0 ≤ a ∧ a < 40 ∧ ¬ S.1 266 a.toNat = 0) ∧ (b = -1 ∨ ((0 ≤ b ∧ b < 40 ∧ ¬ S.1 266 b.toNat = 0) ∧ S.1 267 b.toNat = S.1 267 a.toNat ∧ ¬ wtM (S.1 268) a 40 b)) ∧ ¬ S.1 268 a.toNat = b) := by
    rw [ea, eb]
    constructor
    · rintro ⟨z1, z2, z3, z4⟩
      refine ⟨z1, ?_, by rw [(us_e se z1).2.1]; exact z3⟩
      rcases z2 with z2 | z2
      · exact Or.inl z2
      · exact Or.inr ⟨z2.1, by rw [(us_e se z2.1).1, (us_e se z1).1]; exact z2.2, fun y => z4 ((wq z1 (Or.inr z2.1)).mpr y)⟩
    · rintro ⟨z1, z2, z3⟩
      refine ⟨z1, ?_, by rw [← (us_e se z1).2.1]; exact z3, ?_⟩
      · rcases z2 with z2 | z2
        · exact Or.inl z2
        · exact Or.inr ⟨z2.1, by rw [← (us_e se z2.1).1, ← (us_e se z1).1]; exact z2.2.1⟩
      · rcases z2 with z2 | z2
        · subst z2; exact fun y => absurd y.1.1 (by decide)
        · exact fun y => z2.2.2 ((wq z1 (Or.inr z2.1)).mp y)
  refine ⟨fun q => ⟨fun z => chn_I se (Or.inr (eb.mp z)), fun _ => ⟨rfl, h⟩, fun z => absurd (hcv.mpr z) q⟩, fun q => ⟨fun z => chn_I se (Or.inr (eb.mp z)), fun z => absurd (hcv.mp q) z, fun z => ⟨rfl, ?_⟩⟩⟩
  obtain ⟨q1, q2, q3, q4⟩ := q
  have hb : b = -1 ∨ uS S b := q2.imp id fun z => z.1
  have q4' : ¬ wtM (S.1 268) a 40 b := fun y => q4 ((wq q1 hb).mpr y)
  have haN : ((a.toNat : Nat) : Int) = a := by have := q1.1; omega
  refine ⟨tp, bk, bh, sl, ⟨fun t ht => ?_, ?_⟩, po, iEd_u (edX_d (by decide)) (iEd_u (edX_d (by decide)) ed), pr, en, ru, ws, wf, kn⟩
  · obtain ⟨a1, a2⟩ := se.1 t ht
    refine ⟨a1, fun z => ?_⟩
    obtain ⟨b1, b2, b3, b4⟩ := a2 z
    by_cases e : t = a.toNat
    · subst e
      have r1 : (upI (upI S 210 a.toNat b) 268 a.toNat b).1 210 a.toNat = b := by rw [up_obj (by decide), up_hit]
      rw [r1, up_hit]
      exact ⟨b1, b2, rfl, q2⟩
    · have r1 : (upI (upI S 210 a.toNat b) 268 a.toNat b).1 210 t = S.1 210 t := by rw [up_obj (by decide), up_cell e]
      have r2 : (upI (upI S 210 a.toNat b) 268 a.toNat b).1 268 t = S.1 268 t := by rw [up_cell e, up_obj (by decide)]
      rw [r1, r2]
      exact ⟨b1, b2, b3, b4⟩
  · refine rk_mv se q1 hb q4' (fun t ht z => z) (fun t ht z => ?_)
    by_cases e : t = a.toNat
    · subst e
      refine Or.inr ⟨by rw [up_obj (by decide), up_hit], ?_⟩
      rw [haN]
      exact wt_self (by have := q1.1; omega)
    · exact Or.inl ⟨by rw [up_obj (by decide), up_cell e], by omega⟩
