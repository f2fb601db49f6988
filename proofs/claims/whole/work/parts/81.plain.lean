/-! EQUAL ANSWERS: the plain calls -/
theorem iEd_c {S T : aS} (h1 : T.1 222 4 = S.1 222 4) (h2 : T.1 245 37 = S.1 245 37) (h3 : T.1 223 = S.1 223) (h4 : T.1 271 = S.1 271) (h5 : T.1 272 = S.1 272) (h6 : T.1 273 = S.1 273) (h7 : ∀ e : Nat, e < 8 → T.1 (225 + e) = S.1 (225 + e) ∧ T.1 (234 + e) = S.1 (234 + e)) (h : iEd S) : iEd T := by
  unfold iEd at *
  rw [h1, h2, h3, h4, h5, h6]
  refine ⟨h.1, h.2.1, fun e he => ?_⟩
  have := h7 e (by have := h.1; omega)
  rw [this.1, this.2]
  exact h.2.2 e he
def edX (a : Nat) : Prop := a < 222 ∨ (241 < a ∧ a < 245) ∨ (245 < a ∧ a < 271) ∨ 273 < a
theorem edX_d {a : Nat} (h : (decide (a < 222) || (decide (241 < a) && decide (a < 245)) || (decide (245 < a) && decide (a < 271)) || decide (273 < a)) = true) : edX a := by
  unfold edX
  simp at h
  omega
theorem iEd_u {S : aS} {a i : Nat} {x : Int} (ha : edX a) (h : iEd S) : iEd (upI S a i x) := by
  unfold edX at ha
  exact iEd_c (up_obj (by omega)) (up_obj (by omega)) (up_f (by omega)) (up_f (by omega)) (up_f (by omega)) (up_f (by omega)) (fun e he => ⟨up_f (by omega), up_f (by omega)⟩) h
theorem iEd_a {S : aS} {a : Nat} {f : Nat → Int} (ha : edX a) (h : iEd S) : iEd (stA S a f) := by
  unfold edX at ha
  have q : ∀ b : Nat, ¬ b = a → (stA S a f).1 b = S.1 b := fun b hb => funext fun _ => if_neg hb
  exact iEd_c (by rw [q 222 (by omega)]) (by rw [q 245 (by omega)]) (q _ (by omega)) (q _ (by omega)) (q _ (by omega)) (q _ (by omega)) (fun e he => ⟨q _ (by omega), q _ (by omega)⟩) h
theorem iEd_f {S : aS} {k : Nat} {x : Int} (hk : ¬ 37 = k) (h : iEd S) : iEd (upI S 245 k x) :=
  iEd_c (up_obj (by decide)) (up_cell hk) (up_f (by decide)) (up_f (by decide)) (up_f (by decide)) (up_f (by decide)) (fun e he => ⟨up_f (by omega), up_f (by omega)⟩) h
theorem iEd_L {S : aS} {a i : Nat} {x : Int} (h : iEd S) : iEd (upL S a i x) := h
set_option maxHeartbeats 4000000 in
theorem eq_octet {S : aS} {i : Int} (h : Inv S) : spX11_octet [.inr (.inr 0), .inl i] S (fun r T => spX12_octet [.inr (.inr 245), .inl i] T (Eqv r)) := by
  have pr := h.2.2.2.2.2.2.2.1
  have e := pr.2.1
  have b := pr.1
  refine ⟨b.2, fun q => ⟨by omega, fun q2 => ⟨oi ?_, h⟩, fun q2 => absurd (by omega) q2⟩, fun q => ⟨by omega, fun q2 => absurd (by omega) q, fun q2 => ⟨rfl, h⟩⟩⟩
  have := pr.2.2 i.toNat (by omega)
  exact this.symm
set_option maxHeartbeats 4000000 in
theorem eq_span {S : aS} {b w : Int} (h : Inv S) : spX11_span [.inr (.inr 0), .inl b, .inl w] S (fun r T => spX12_span [.inr (.inr 245), .inl b, .inl w] T (Eqv r)) := by
  have h' := h
  obtain ⟨tp, bk, bh, sl, se, po, ed, pr, en, ru, ws, wf, kn⟩ := h'
  obtain ⟨b1, b2, b3, b4, b5, b6, b7⟩ := bk
  obtain ⟨s1, s2, s3⟩ := sl
  have e4 : cnt (fun j => S.1 82 j == b) (S.1 81 4).toNat = cnt (fun j => S.1 255 j == b) (S.1 245 12).toNat := by
    rw [s2]
    refine cnt_c (fun j hj => ?_)
    rw [((s3 j (by omega)).1).1]
  have hb : 0 ≤ b → b < S.1 3 7 → S.1 248 b.toNat = S.1 4 b.toNat ∧ S.1 249 b.toNat = S.1 5 b.toNat ∧ S.1 250 b.toNat = S.1 6 b.toNat ∧ S.1 251 b.toNat = S.1 7 b.toNat := fun q1 q2 => (b5 b.toNat (by omega)).1
  refine ⟨b1, s1, fun q => ⟨by omega, by omega, fun _ => ⟨rfl, h⟩, fun q2 => ⟨fun z => absurd z (by omega), fun z => absurd z (by omega), fun z => absurd z (by omega), fun z => absurd z (by omega), fun z => absurd z (by omega)⟩⟩, fun q => ?_⟩
  obtain ⟨c1, c2, c3, c4⟩ := hb q.1 q.2
  refine ⟨fun z => ⟨by omega, by omega, fun y => absurd y (by omega), fun y => ⟨fun _ => ⟨oi c3.symm, h⟩, fun x => absurd x (by omega), fun x => absurd x (by omega), fun x => absurd x (by omega), fun x => absurd x (by omega)⟩⟩, fun z => ⟨by omega, by omega, fun y => absurd y (by omega), fun y => ⟨fun x => absurd x (by omega), fun _ => ⟨oi c4.symm, h⟩, fun x => absurd x (by omega), fun x => absurd x (by omega), fun x => absurd x (by omega)⟩⟩, fun z => ⟨by omega, by omega, fun y => absurd y (by omega), fun y => ⟨fun x => absurd x (by omega), fun x => absurd x (by omega), fun _ => ⟨oi c1.symm, h⟩, fun x => absurd x (by omega), fun x => absurd x (by omega)⟩⟩, fun z => ⟨by omega, by omega, fun y => absurd y (by omega), fun y => ⟨fun x => absurd x (by omega), fun x => absurd x (by omega), fun x => absurd x (by omega), fun _ => ⟨oi c2.symm, h⟩, fun x => absurd x (by omega)⟩⟩, fun z => ⟨by omega, by omega, fun y => absurd y (by omega), fun y => ⟨fun x => absurd x (by omega), fun x => absurd x (by omega), fun x => absurd x (by omega), fun x => absurd x (by omega), fun _ => ⟨oi e4, h⟩⟩⟩⟩
set_option maxHeartbeats 4000000 in
theorem eq_put {S : aS} {s e t : Int} (h : Inv S) : spX11_put [.inr (.inr 0), .inl s, .inl e, .inl t] S (fun r T => spX12_put [.inr (.inr 245), .inl s, .inl e, .inl t] T (Eqv r)) := by
  have h' := h
  obtain ⟨tp, bk, bh, sl, se, po, ed, pr, en, ru, ws, wf, kn⟩ := h'
  obtain ⟨s1, s2, s3⟩ := sl
  have en1 := en.1
  have en2 := en.2.1
  have ev := us_eq se (t := t)
  have e67 : uS S t → S.1 267 t.toNat = S.1 209 t.toNat := fun z => (us_e se z).1
  unfold uS at ev e67
  refine ⟨s1.2, fun q => ?_, fun q => ?_⟩
  · refine ⟨by omega, fun _ => ⟨rfl, h⟩, fun z => absurd ?_ q⟩
    have hs := s3 s.toNat (by omega)
    obtain ⟨z1, z2, z3, z4⟩ := z
    have hh : (e = -1 ∧ t = -1) ∨ ((0 ≤ e ∧ e < S.1 14 4) ∧ (t = -1 ∨ ((0 ≤ t ∧ t < 40 ∧ ¬ S.1 209 t.toNat = -1) ∧ S.1 209 t.toNat = e))) := by
      rcases z3 with z3 | ⟨z3, z5⟩
      · rcases z2 with z2 | z2
        · exact Or.inl ⟨z2, z3⟩
        · exact Or.inr ⟨by omega, Or.inl z3⟩
      · have z6 := ev.mp z3
        have z7 := e67 z6
        have z8 := (se.1 t.toNat (by omega)).2 z6.2.2
        exact Or.inr ⟨by omega, Or.inr ⟨z6, by omega⟩⟩
    exact ⟨⟨z1.1, by omega⟩, fun y => z4 ⟨by rw [hs.1.2.1]; exact y.1, by rw [hs.1.2.2]; exact y.2⟩, hh⟩
  · obtain ⟨q1, q2, q3⟩ := q
    have hs := s3 s.toNat (by omega)
    have u12 : (upI (upI S 83 s.toNat e) 84 s.toNat t).1 245 12 = S.1 245 12 := rfl
    refine ⟨by rw [u12]; omega, fun z => absurd ?_ z, fun z => ⟨rfl, ?_⟩⟩
    · refine ⟨⟨q1.1, by rw [u12]; omega⟩, ?_, ?_, ?_⟩
      · rcases q3 with q3 | q3
        · exact Or.inl q3.1
        · exact Or.inr ⟨q3.1.1, by show e < S.1 245 13; omega⟩
      · rcases q3 with q3 | q3
        · exact Or.inl q3.2
        · rcases q3.2 with q4 | q4
          · exact Or.inl q4
          · exact Or.inr ⟨ev.mpr q4.1, by show S.1 267 t.toNat = e; rw [e67 q4.1]; exact q4.2⟩
      · intro y
        exact q2 ⟨by rw [← hs.1.2.1]; exact y.1, by rw [← hs.1.2.2]; exact y.2⟩
    · refine ⟨tp, bk, bh, ⟨s1, s2, fun j hj => ?_⟩, se, po, iEd_u (edX_d (by decide)) (iEd_u (edX_d (by decide)) (iEd_u (edX_d (by decide)) (iEd_u (edX_d (by decide)) ed))), pr, en, ru, ws, wf, kn⟩
      have hj' := s3 j hj
      have key : ∀ (A B : Nat → Int) (i : Nat) (x : Int) (f : Nat → Int), True := fun _ _ _ _ _ => trivial
      by_cases e1 : j = s.toNat
      · subst e1
        refine ⟨⟨hj'.1.1, ?_, ?_⟩, hj'.2.1, ?_⟩
        · rw [up_obj (by decide), up_hit, up_obj (by decide), up_obj (by decide), up_obj (by decide), up_hit]
        · rw [up_hit, up_obj (by decide), up_obj (by decide), up_hit]
        · have a1 : (upI (upI (upI (upI S 83 s.toNat e) 84 s.toNat t) 256 s.toNat e) 257 s.toNat t).1 83 s.toNat = e := by rw [up_obj (by decide), up_obj (by decide), up_obj (by decide), up_hit]
          have a2 : (upI (upI (upI (upI S 83 s.toNat e) 84 s.toNat t) 256 s.toNat e) 257 s.toNat t).1 84 s.toNat = t := by rw [up_obj (by decide), up_obj (by decide), up_hit]
          rw [a1, a2]
          exact q3
      · have a1 : (upI (upI (upI (upI S 83 s.toNat e) 84 s.toNat t) 256 s.toNat e) 257 s.toNat t).1 83 j = S.1 83 j := by rw [up_obj (by decide), up_obj (by decide), up_obj (by decide), up_cell e1]
        have a2 : (upI (upI (upI (upI S 83 s.toNat e) 84 s.toNat t) 256 s.toNat e) 257 s.toNat t).1 84 j = S.1 84 j := by rw [up_obj (by decide), up_obj (by decide), up_cell e1, up_obj (by decide)]
        have a3 : (upI (upI (upI (upI S 83 s.toNat e) 84 s.toNat t) 256 s.toNat e) 257 s.toNat t).1 256 j = S.1 256 j := by rw [up_obj (by decide), up_cell e1, up_obj (by decide), up_obj (by decide)]
        have a4 : (upI (upI (upI (upI S 83 s.toNat e) 84 s.toNat t) 256 s.toNat e) 257 s.toNat t).1 257 j = S.1 257 j := by rw [up_cell e1, up_obj (by decide), up_obj (by decide), up_obj (by decide)]
        rw [a1, a2, a3, a4]
        exact hj'
