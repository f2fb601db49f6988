/-! EQUAL ANSWERS: senses -/
def seU (S : aS) (r : Nat) (e u : Int) : aS := upI (upI (upI (upI (upI S 209 r e) 210 r u) 266 r 1) 267 r e) 268 r u
section SU
variable {S : aS} {r j : Nat} {e u : Int}
theorem seU_9 : (seU S r e u).1 209 j = if j = r then e else S.1 209 j := by
  unfold seU
  rw [up_obj (by decide), up_obj (by decide), up_obj (by decide), up_obj (by decide)]
  by_cases q : j = r
  · subst q; rw [up_hit, if_pos rfl]
  · rw [up_cell q, if_neg q]
theorem seU_10 : (seU S r e u).1 210 j = if j = r then u else S.1 210 j := by
  unfold seU
  rw [up_obj (by decide), up_obj (by decide), up_obj (by decide)]
  by_cases q : j = r
  · subst q; rw [up_hit, if_pos rfl]
  · rw [up_cell q, if_neg q, up_obj (by decide)]
theorem seU_66 : (seU S r e u).1 266 j = if j = r then 1 else S.1 266 j := by
  unfold seU
  rw [up_obj (by decide), up_obj (by decide)]
  by_cases q : j = r
  · subst q; rw [up_hit, if_pos rfl]
  · rw [up_cell q, if_neg q, up_obj (by decide), up_obj (by decide)]
theorem seU_67 : (seU S r e u).1 267 j = if j = r then e else S.1 267 j := by
  unfold seU
  rw [up_obj (by decide)]
  by_cases q : j = r
  · subst q; rw [up_hit, if_pos rfl]
  · rw [up_cell q, if_neg q, up_obj (by decide), up_obj (by decide), up_obj (by decide)]
theorem seU_68 : (seU S r e u).1 268 j = if j = r then u else S.1 268 j := by
  unfold seU
  by_cases q : j = r
  · subst q; rw [up_hit, if_pos rfl]
  · rw [up_cell q, if_neg q, up_obj (by decide), up_obj (by decide), up_obj (by decide), up_obj (by decide)]
theorem uS_U {t : Int} (hr : S.1 209 r = -1) (h : uS S t) : uS (seU S r e u) t ∧ (seU S r e u).1 209 t.toNat = S.1 209 t.toNat ∧ ¬ t.toNat = r := by
  have q : ¬ t.toNat = r := fun z => h.2.2 (by rw [z]; exact hr)
  have e9 : (seU S r e u).1 209 t.toNat = S.1 209 t.toNat := by rw [seU_9, if_neg q]
  exact ⟨⟨h.1, h.2.1, by rw [e9]; exact h.2.2⟩, e9, q⟩
theorem seU_I (h : Inv S) (hr : r < 40) (hf : S.1 209 r = -1) (he : 0 ≤ e ∧ e < S.1 14 4) (hu : u = -1 ∨ (uS S u ∧ S.1 209 u.toNat = e)) : Inv (seU S r e u) := by
  obtain ⟨tp, bk, bh, sl, se, po, ed, pr, en, ru, ws, wf, kn⟩ := h
  refine ⟨tp, bk, bh, ⟨sl.1, sl.2.1, fun s hs => ?_⟩, ⟨fun t ht => ?_, ?_⟩, ⟨po.1, po.2.1, fun p hp => ?_⟩, iEd_u (edX_d (by decide)) (iEd_u (edX_d (by decide)) (iEd_u (edX_d (by decide)) (iEd_u (edX_d (by decide)) (iEd_u (edX_d (by decide)) ed)))), pr, en, ru, ws, wf, kn⟩
  · obtain ⟨a, b, c⟩ := sl.2.2 s hs
    refine ⟨a, b, c.imp id fun z => ⟨z.1, z.2.imp id fun y => ?_⟩⟩
    obtain ⟨k1, k2, k3⟩ := uS_U (e := e) (u := u) hf y.1
    exact ⟨k1, k2.trans y.2⟩
  · rw [seU_9, seU_66, seU_67, seU_68, seU_10]
    by_cases q : t = r
    · subst q
      rw [if_pos rfl, if_pos rfl, if_pos rfl, if_pos rfl, if_pos rfl]
      refine ⟨⟨fun z => absurd z (by decide), fun z => by omega⟩, fun _ => ⟨he, rfl, rfl, hu.imp id fun z => ?_⟩⟩
      obtain ⟨k1, k2, k3⟩ := uS_U (e := e) (u := u) hf z.1
      exact ⟨k1, k2.trans z.2⟩
    · rw [if_neg q, if_neg q, if_neg q, if_neg q, if_neg q]
      obtain ⟨a, b⟩ := se.1 t ht
      refine ⟨a, fun z => ?_⟩
      obtain ⟨b1, b2, b3, b4⟩ := b z
      refine ⟨b1, b2, b3, b4.imp id fun y => ?_⟩
      obtain ⟨k1, k2, k3⟩ := uS_U (e := e) (u := u) hf y.1
      exact ⟨k1, k2.trans y.2⟩
  · obtain ⟨rk, hrk⟩ := se.2
    refine ⟨fun j => if j = r then (if u = -1 then 0 else rk u.toNat + 1) else rk j, fun t ht hu1 hu2 => ?_⟩
    rw [seU_10] at hu2 ⊢
    rw [seU_9] at hu1
    by_cases q : t = r
    · subst q
      rw [if_pos rfl] at hu2 ⊢
      have hz := hu.resolve_left hu2
      have q2 : ¬ u.toNat = t := fun z => hz.1.2.2 (by rw [z]; exact hf)
      simp only [if_neg q2, if_pos, if_neg hu2]
      omega
    · rw [if_neg q] at hu1 hu2
      rw [if_neg q]
      have hz := (((se.1 t ht).2 hu1).2.2.2).resolve_left hu2
      have q2 : ¬ (S.1 210 t).toNat = r := fun z => hz.1.2.2 (by rw [z]; exact hf)
      simp only [if_neg q, if_neg q2]
      exact hrk t ht hu1 hu2
  · obtain ⟨a, b, c, d⟩ := po.2.2 p hp
    exact ⟨a, b, (uS_U hf c).1, d.imp id fun z => (uS_U hf z).1⟩
end SU
theorem ff_eq {S : aS} (h : iSe S) : ff (fun j => S.1 209 j == -1) 40 0 = ff (fun j => S.1 266 j == 0) 40 0 := by
  refine ff_c (fun j _ hj => ?_)
  have := (h.1 j (by omega)).1
  by_cases q : S.1 209 j = -1
  · rw [q, this.mpr q]; rfl
  · rw [beq_false_of_ne q, beq_false_of_ne (fun z => q (this.mp z))]
theorem ff_free {S : aS} {r : Nat} (h : ff (fun j => S.1 209 j == -1) 40 0 = r) : S.1 209 r = -1 := by
  rcases ff_val (p := fun j => S.1 209 j == -1) (n := 40) (i := 0) with z | ⟨j, a, b, c, d⟩
  · rw [h] at z; omega
  · rw [h] at d
    have : j = r := by omega
    subst this
    simpa using c
set_option maxHeartbeats 4000000 in
theorem eq_sense {S : aS} {e u : Int} (h : Inv S) : spX11_sense [.inr (.inr 0), .inl e, .inl u] S (fun r T => spX12_sense [.inr (.inr 245), .inl e, .inl u] T (Eqv r)) := by
  have h' := h
  obtain ⟨tp, bk, bh, sl, se, po, ed, pr, en, ru, ws, wf, kn⟩ := h'
  have ef := ff_eq se
  have en2 := en.2.1
  have ev := us_eq se (t := u)
  have e67 : uS S u → S.1 267 u.toNat = S.1 209 u.toNat := fun z => (us_e se z).1
  have hcv : ((0 ≤ e ∧ e < S.1 14 4) ∧ (u = -1 ∨ (uS S u ∧ S.1 209 u.toNat = e))) ↔ ((0 ≤ e ∧ e < S.1 245 13) ∧ (u = -1 ∨ ((0 ≤ u ∧ u < 40 ∧ ¬ S.1 266 u.toNat = 0) ∧ S.1 267 u.toNat = e))) := by
    rw [en2, ev]
    exact ⟨fun z => ⟨z.1, z.2.imp id fun y => ⟨y.1, (e67 y.1).trans y.2⟩⟩, fun z => ⟨z.1, z.2.imp id fun y => ⟨y.1, (e67 y.1).symm.trans y.2⟩⟩⟩
  refine ⟨fun q => ⟨fun _ => ⟨rfl, h⟩, fun z => absurd (hcv.mpr z) q⟩, fun q => ⟨fun q2 => ⟨fun z => absurd (hcv.mp q) z, fun _ => ⟨fun _ => ⟨rfl, h⟩, fun r hr z => ?_⟩⟩, fun r hr q2 => ?_⟩⟩
  · rw [ef] at q2
    omega
  · refine ⟨fun z => absurd (hcv.mp q) z, fun _ => ⟨fun z => ?_, fun r' hr' z => ?_⟩⟩
    · have z' : ff (fun j => S.1 266 j == 0) 40 0 = -1 := z
      omega
    · have z' : ff (fun j => S.1 266 j == 0) 40 0 = r' := z
      have : r' = r := by omega
      subst this
      exact ⟨rfl, seU_I h hr (ff_free q2) q.1 q.2⟩
set_option maxHeartbeats 4000000 in
theorem eq_part {S : aS} {a : Int} (h : Inv S) : spX11_part [.inr (.inr 0), .inl a] S (fun r T => spX12_part [.inr (.inr 245), .inl a] T (Eqv r)) := by
  have h' := h
  obtain ⟨tp, bk, bh, sl, se, po, ed, pr, en, ru, ws, wf, kn⟩ := h'
  have ef := ff_eq se
  have en2 := en.2.1
  have ev := us_eq se (t := a)
  refine ⟨fun q => ⟨fun _ => ⟨rfl, h⟩, fun z => absurd (ev.mp z) q⟩, fun q => ⟨fun q2 => ⟨fun z => absurd (ev.mpr q) z, fun _ => ⟨fun _ => ⟨rfl, h⟩, fun r hr z => ?_⟩⟩, fun r hr q2 => ?_⟩⟩
  · rw [ef] at q2
    omega
  · obtain ⟨c1, c2, c3, c4⟩ := us_e se q
    have hf := ff_free q2
    have qa : ¬ a.toNat = r := fun z => q.2.2 (by rw [z]; exact hf)
    refine ⟨fun z => absurd (ev.mpr q) z, fun _ => ⟨fun z => ?_, fun r' hr' z => ?_⟩⟩
    · have z' : ff (fun j => S.1 266 j == 0) 40 0 = -1 := z
      omega
    · have z' : ff (fun j => S.1 266 j == 0) 40 0 = r' := z
      have : r' = r := by omega
      subst this
      refine ⟨rfl, ?_⟩
      have e7 : (upI (upI S 209 r' (S.1 209 a.toNat)) 210 r' (S.1 210 a.toNat)).1 267 a.toNat = S.1 209 a.toNat := c1
      have e8 : (upI (upI S 209 r' (S.1 209 a.toNat)) 210 r' (S.1 210 a.toNat)).1 268 a.toNat = S.1 210 a.toNat := c2
      rw [e7, e8]
      exact seU_I h hr hf c3 c4
set_option maxHeartbeats 4000000 in
theorem eq_point {S : aS} {a b : Int} (h : Inv S) : spX11_point [.inr (.inr 0), .inl a, .inl b] S (fun r T => spX12_point [.inr (.inr 245), .inl a, .inl b] T (Eqv r)) := by
  have h' := h
  obtain ⟨tp, bk, bh, sl, se, po, ed, pr, en, ru, ws, wf, kn⟩ := h'
  have ea := us_eq se (t := a)
  have eb := us_eq se (t := b)
  obtain ⟨p1, p2, p3⟩ := po
  refine ⟨p1.1, fun q => ⟨by omega, fun _ => ⟨rfl, h⟩, fun z => absurd ⟨ea.mp z.1, eb.mp z.2.1, z.2.2.1, by omega⟩ q⟩, fun q => ?_⟩
  have e29 : (upI (upI (upI S 220 (S.1 219 2).toNat a) 221 (S.1 219 2).toNat b) 219 2 (S.1 219 2 + 1)).1 245 29 = S.1 245 29 := rfl
  refine ⟨by rw [e29]; omega, fun z => absurd ⟨ea.mpr q.1, eb.mpr q.2.1, q.2.2.1, by rw [e29]; omega⟩ z, fun _ => ⟨by rw [e29, p2], ?_⟩⟩
  rw [e29, p2]
  refine ⟨tp, bk, bh, sl, se, ⟨by show 0 ≤ S.1 219 2 + 1 ∧ S.1 219 2 + 1 ≤ 20; omega, rfl, fun p hp => ?_⟩, iEd_f (by decide) (iEd_u (edX_d (by decide)) (iEd_u (edX_d (by decide)) (iEd_u (edX_d (by decide)) (iEd_u (edX_d (by decide)) (iEd_u (edX_d (by decide)) ed))))), pr, en, ru, ws, wf, kn⟩
  have hp' : (p : Int) < S.1 219 2 + 1 := hp
  by_cases e : p = (S.1 219 2).toNat
  · have r1 : ∀ (X : aS), (upI (upI (upI (upI (upI (upI S 220 (S.1 219 2).toNat a) 221 (S.1 219 2).toNat b) 219 2 (S.1 219 2 + 1)) 269 (S.1 219 2).toNat a) 270 (S.1 219 2).toNat b) 245 29 (S.1 219 2 + 1)).1 220 (S.1 219 2).toNat = a ∧ (upI (upI (upI (upI (upI (upI S 220 (S.1 219 2).toNat a) 221 (S.1 219 2).toNat b) 219 2 (S.1 219 2 + 1)) 269 (S.1 219 2).toNat a) 270 (S.1 219 2).toNat b) 245 29 (S.1 219 2 + 1)).1 221 (S.1 219 2).toNat = b := fun X => by simp (disch := decide) only [up_obj, up_hit, and_self]
    have r2 := r1 S
    rw [e, r2.1, r2.2]
    refine ⟨?_, ?_, q.1, Or.inr q.2.1⟩ <;> simp (disch := decide) only [up_obj, up_hit]
  · have r2 := p3 p (by omega)
    have a1 : (upI (upI (upI (upI (upI (upI S 220 (S.1 219 2).toNat a) 221 (S.1 219 2).toNat b) 219 2 (S.1 219 2 + 1)) 269 (S.1 219 2).toNat a) 270 (S.1 219 2).toNat b) 245 29 (S.1 219 2 + 1)).1 220 p = S.1 220 p := by
      rw [up_obj (by decide), up_obj (by decide), up_obj (by decide), up_obj (by decide), up_obj (by decide), up_cell e]
    have a2 : (upI (upI (upI (upI (upI (upI S 220 (S.1 219 2).toNat a) 221 (S.1 219 2).toNat b) 219 2 (S.1 219 2 + 1)) 269 (S.1 219 2).toNat a) 270 (S.1 219 2).toNat b) 245 29 (S.1 219 2 + 1)).1 221 p = S.1 221 p := by
      rw [up_obj (by decide), up_obj (by decide), up_obj (by decide), up_obj (by decide), up_cell e, up_obj (by decide)]
    have a3 : (upI (upI (upI (upI (upI (upI S 220 (S.1 219 2).toNat a) 221 (S.1 219 2).toNat b) 219 2 (S.1 219 2 + 1)) 269 (S.1 219 2).toNat a) 270 (S.1 219 2).toNat b) 245 29 (S.1 219 2 + 1)).1 269 p = S.1 269 p := by
      rw [up_obj (by decide), up_obj (by decide), up_cell e, up_obj (by decide), up_obj (by decide), up_obj (by decide)]
    have a4 : (upI (upI (upI (upI (upI (upI S 220 (S.1 219 2).toNat a) 221 (S.1 219 2).toNat b) 219 2 (S.1 219 2 + 1)) 269 (S.1 219 2).toNat a) 270 (S.1 219 2).toNat b) 245 29 (S.1 219 2 + 1)).1 270 p = S.1 270 p := by
      rw [up_obj (by decide), up_cell e, up_obj (by decide), up_obj (by decide), up_obj (by decide), up_obj (by decide)]
    rw [a1, a2, a3, a4]
    exact r2
