/-! EQUAL ANSWERS: editions, move -/
/-- a state that differs from S in the cells that c names alone -/
def patG (S : aS) (c : Nat → Nat → Bool) (w : Nat → Nat → Int) : aS := (fun a b => if c a b = true then w a b else S.1 a b, S.2)
theorem pat_e {S T : aS} {c : Nat → Nat → Bool} (h1 : ∀ a b, c a b = false → T.1 a b = S.1 a b) (h2 : T.2 = S.2) : T = patG S c T.1 := by
  refine st_ext (fun a b => ?_) (fun a b => ?_)
  · show T.1 a b = if c a b = true then T.1 a b else S.1 a b
    by_cases q : c a b = true
    · rw [if_pos q]
    · rw [if_neg q]; exact h1 a b (by simpa using q)
  · show T.2 a b = S.2 a b
    rw [h2]
def cEd (a b : Nat) : Bool := (decide (222 ≤ a) && decide (a ≤ 241)) || ((decide (271 ≤ a) && decide (a ≤ 273)) || (decide (a = 245) && decide (b = 37)))
theorem edE_in {S : aS} (h : iEd S) {e s : Int} (he : 0 ≤ e ∧ e < S.1 222 4) (hs : 0 ≤ s) : (s < S.1 223 e.toNat → edE S 225 e s = S.1 272 (120 * e + s).toNat ∧ edE S 234 e s = S.1 273 (120 * e + s).toNat ∧ -1 ≤ edE S 225 e s) ∧ (¬ s < S.1 223 e.toNat → edE S 225 e s = -2 ∧ edE S 234 e s = -2) := by
  constructor
  · intro q
    obtain ⟨a, b, c⟩ := h.2.2 e.toNat (by omega)
    obtain ⟨c1, c2, c3⟩ := c s.toNat (by omega)
    have e1 : edE S 225 e s = S.1 (225 + e.toNat) s.toNat := if_pos ⟨he.1, he.2, hs, q⟩
    have e2 : edE S 234 e s = S.1 (234 + e.toNat) s.toNat := if_pos ⟨he.1, he.2, hs, q⟩
    rw [e1, e2, show (120 * e + s).toNat = 120 * e.toNat + s.toNat from by omega]
    exact ⟨c1.symm, c2.symm, c3⟩
  · intro q
    exact ⟨if_neg (fun z => q z.2.2.2), if_neg (fun z => q z.2.2.2)⟩
theorem edP_I {S : aS} (h : iEd S) : edP S := ⟨h.1.2, fun j hj => (h.2.2 j hj).2.1.2⟩
theorem nthE_neg {p : Nat → Bool} {x : Int} (hx : x < -1) : ∀ {n i : Nat} {c : Int}, 0 ≤ c → nthE p x n i c = -1
  | 0, i, c, _ => by unfold nthE; rw [if_neg (by omega)]
  | n + 1, i, c, hc => by
    unfold nthE
    rw [if_neg (show ¬ c = x by omega), nthE_neg hx (by omega), nthE_neg hx hc]
    split <;> rfl
theorem nthE_c {p q : Nat → Bool} {x : Int} : ∀ {n i : Nat} {c : Int}, (∀ j, i ≤ j → j < i + n → p j = q j) → nthE p x n i c = nthE q x n i c
  | 0, i, c, _ => rfl
  | n + 1, i, c, h => by
    unfold nthE
    rw [h i (by omega) (by omega), nthE_c (fun j h1 h2 => h j (by omega) (by omega)), nthE_c (fun j h1 h2 => h j (by omega) (by omega))]
set_option maxHeartbeats 4000000 in
theorem eq_as {S : aS} {e s w : Int} (h : Inv S) : spX11_as [.inr (.inr 0), .inl e, .inl s, .inl w] S (fun r T => spX12_as [.inr (.inr 245), .inl e, .inl s, .inl w] T (Eqv r)) := by
  have h' := h
  obtain ⟨tp, bk, bh, sl, se, po, ed, pr, en, ru, ws, wf, kn⟩ := h'
  have ep := edP_I ed
  have d2 := ed.2.1
  have s2 := sl.2.1
  have s1 := sl.1
  have d1 := ed.1
  refine ⟨ep, fun q => ⟨by omega, by omega, fun _ => ⟨rfl, h⟩, fun z => absurd (by omega) q⟩, fun q => ?_⟩
  have hx := edE_in ed (e := e) (s := s) q.1 q.2.1
  have h71 : S.1 271 e.toNat = S.1 223 e.toNat := (ed.2.2 e.toNat (by omega)).1
  refine ⟨fun w0 => ⟨by omega, by omega, fun z => absurd (by omega) z, fun _ => ⟨fun z => ⟨oi (hx.2 (by omega)).1, h⟩, fun z => ⟨fun _ => ⟨oi (hx.1 (by omega)).1, h⟩, fun y => absurd y (by omega)⟩⟩⟩, fun w1 => ⟨by omega, by omega, fun z => absurd (by omega) z, fun _ => ⟨fun z => ⟨oi (hx.2 (by omega)).2, h⟩, fun z => ⟨fun y => absurd y (by omega), fun _ => ⟨oi (hx.1 (by omega)).2.1, h⟩⟩⟩⟩⟩
set_option maxHeartbeats 4000000 in
theorem eq_differ {S : aS} {a b x : Int} (h : Inv S) : spX11_differ [.inr (.inr 0), .inl a, .inl b, .inl x] S (fun r T => spX12_differ [.inr (.inr 245), .inl a, .inl b, .inl x] T (Eqv r)) := by
  have h' := h
  obtain ⟨tp, bk, bh, sl, se, po, ed, pr, en, ru, ws, wf, kn⟩ := h'
  have ep := edP_I ed
  have d2 := ed.2.1
  have s2 := sl.2.1
  have s1 := sl.1
  have d1 := ed.1
  refine ⟨ep, s1.1, s1.2, fun q => ⟨by omega, by omega, fun _ => ⟨rfl, h⟩, fun z => absurd (by omega) q⟩, fun q => ⟨by omega, by omega, fun z => ⟨oi (nthE_neg (by omega) (Int.le_refl _)), h⟩, fun z => ⟨oi ?_, h⟩⟩⟩
  rw [s2]
  refine nthE_c (fun j _ hj => cb_c ?_)
  have ha := edE_in ed (e := a) (s := (j : Int)) q.1 (by omega)
  have hb := edE_in ed (e := b) (s := (j : Int)) q.2 (by omega)
  have ha71 : S.1 271 a.toNat = S.1 223 a.toNat := (ed.2.2 a.toNat (by omega)).1
  have hb71 : S.1 271 b.toNat = S.1 223 b.toNat := (ed.2.2 b.toNat (by omega)).1
  unfold othW othM
  rw [ha71, hb71]
  by_cases ca : (j : Int) < S.1 223 a.toNat
  · obtain ⟨a1, a2, a3⟩ := ha.1 ca
    by_cases cb : (j : Int) < S.1 223 b.toNat
    · obtain ⟨b1, b2, b3⟩ := hb.1 cb
      rw [a1, a2, b1, b2]
      exact ⟨fun z y => z (y.2 ca), fun z y => z ⟨⟨fun _ => cb, fun _ => ca⟩, fun _ => y⟩⟩
    · obtain ⟨b1, b2⟩ := hb.2 cb
      exact ⟨fun z y => cb (y.1.mp ca), fun z y => by omega⟩
  · obtain ⟨a1, a2⟩ := ha.2 ca
    by_cases cb : (j : Int) < S.1 223 b.toNat
    · obtain ⟨b1, b2, b3⟩ := hb.1 cb
      exact ⟨fun z y => ca (y.1.mpr cb), fun z y => by omega⟩
    · obtain ⟨b1, b2⟩ := hb.2 cb
      rw [a1, a2, b1, b2]
      exact ⟨fun z => absurd ⟨rfl, rfl⟩ z, fun z => absurd ⟨⟨fun y => absurd y ca, fun y => absurd y cb⟩, fun y => absurd y ca⟩ z⟩
set_option maxHeartbeats 4000000 in
theorem eq_edition {S : aS} (h : Inv S) : spX11_edition [.inr (.inr 0)] S (fun r T => spX12_edition [.inr (.inr 245)] T (Eqv r)) := by
  have h' := h
  obtain ⟨tp, bk, bh, sl, se, po, ed, pr, en, ru, ws, wf, kn⟩ := h'
  have p1 := po.1
  have p2 := po.2.1
  have d2 := ed.2.1
  have s2 := sl.2.1
  have s1 := sl.1
  have d1 := ed.1
  have ec : cnt (fun j => S.1 270 j == -1) (S.1 245 29).toNat = cnt (fun j => S.1 221 j == -1) (S.1 219 2).toNat := by
    rw [p2]
    exact cnt_c (fun j hj => by rw [(po.2.2 j (by omega)).2.1])
  refine ⟨p1, d1.1, s1.1, s1.2, fun q => ⟨by omega, by omega, by omega, fun _ => ⟨rfl, h⟩, fun z y => ?_⟩, fun q q8 => ?_⟩
  · rw [ec] at z
    omega
  · have hn : (S.1 222 4).toNat < 8 := by omega
    have hnn : (((S.1 222 4).toNat : Nat) : Int) = S.1 222 4 := by omega
    have fr : ∀ a b, cEd a b = false → (edA S (S.1 222 4)).1 a b = S.1 a b := fun a b hc => by
      unfold cEd at hc
      simp at hc
      unfold edA
      simp only [upI, up2, stA]
      rw [if_neg (by omega), if_neg (by omega), if_neg (by omega), if_neg (by omega)]
    have k81 := fr 81 4 (by decide)
    have e29 := fr 245 29 (by decide)
    have k270 : (edA S (S.1 222 4)).1 270 = S.1 270 := funext fun b => fr 270 b (by simp [cEd])
    have e37 : (edA S (S.1 222 4)).1 245 37 = S.1 245 37 := by
      unfold edA
      simp only [upI, up2, stA]
      rw [if_neg (by omega), if_neg (by omega), if_neg (by omega), if_neg (by omega)]
    have e12 := fr 245 12 (by decide)
    refine ⟨by rw [e29]; omega, by rw [e37]; omega, by rw [e12]; omega, fun z => ?_, fun z z2 => ?_⟩
    · rw [e29, e37, k270, ec] at z
      omega
    · rw [e37, d2]
      refine ⟨rfl, ?_⟩
      have fr2 : ∀ a b, cEd a b = false → (edN (edA S (S.1 222 4)) (S.1 222 4).toNat 0).1 a b = S.1 a b := fun a b hc => by
        have hc' := hc
        unfold cEd at hc
        simp at hc
        rw [← fr a b hc']
        unfold edN edM
        simp only [upI, up2, stA]
        rw [if_neg (by omega), if_neg (by omega), if_neg (by omega), if_neg (by omega)]
      have e2 : (edN (edA S (S.1 222 4)) (S.1 222 4).toNat 0).2 = S.2 := rfl
      have hp := pat_e fr2 e2
      have hed : iEd (edN (edA S (S.1 222 4)) (S.1 222 4).toNat 0) := by
        have n4 : (edN (edA S (S.1 222 4)) (S.1 222 4).toNat 0).1 222 4 = S.1 222 4 + 1 := rfl
        have n37 : (edN (edA S (S.1 222 4)) (S.1 222 4).toNat 0).1 245 37 = S.1 222 4 + 1 := by
          unfold edN
          rw [up_hit, hnn]
        refine ⟨by rw [n4]; omega, by rw [n37, n4], fun e he => ?_⟩
        rw [n4] at he
        have hcl : ∀ b j : Nat, (222 ≤ b ∧ b ≤ 241) → (edN (edA S (S.1 222 4)) (S.1 222 4).toNat 0).1 b j = (edA S (S.1 222 4)).1 b j := fun b j hb => by
          unfold edN edM
          simp only [upI, up2, stA]
          rw [if_neg (by omega), if_neg (by omega), if_neg (by omega), if_neg (by omega)]
        by_cases q : (e : Int) = S.1 222 4
        · have qe : e = (S.1 222 4).toNat := by omega
          have a71 : (edN (edA S (S.1 222 4)) (S.1 222 4).toNat 0).1 271 e = S.1 81 4 := by
            unfold edN
            rw [up_obj (by decide), qe, up_hit, e12]; exact s2
          have a23 : (edN (edA S (S.1 222 4)) (S.1 222 4).toNat 0).1 223 e = S.1 81 4 := by
            rw [hcl 223 e (by omega), qe]
            unfold edA
            rw [up_obj (by decide), up_hit]
          rw [a71, a23]
          refine ⟨rfl, s1, fun s hs => ?_⟩
          have sv := (sl.2.2 s hs)
          have c1 : (edA S (S.1 222 4)).1 (225 + e) s = S.1 83 s := by
            unfold edA
            rw [up_obj (by omega), up_obj (by omega)]
            simp only [stA]
            rw [if_neg (by omega), if_pos (by omega), if_pos (by omega)]
          have c2 : (edA S (S.1 222 4)).1 (234 + e) s = S.1 84 s := by
            unfold edA
            rw [up_obj (by omega), up_obj (by omega)]
            simp only [stA]
            rw [if_pos (by omega)]
            rw [if_pos (by omega)]
          have f6 : (edA S (S.1 222 4)).1 256 s = S.1 256 s := fr 256 s (by simp [cEd])
          have f7 : (edA S (S.1 222 4)).1 257 s = S.1 257 s := fr 257 s (by simp [cEd])
          have m1 : (edN (edA S (S.1 222 4)) (S.1 222 4).toNat 0).1 272 (120 * e + s) = S.1 256 s := by
            unfold edN edM
            rw [up_obj (by decide), up_obj (by decide)]
            simp only [stA]
            rw [if_neg (by decide), if_pos trivial, if_pos (by rw [e12, s2]; omega), show 120 * e + s - 120 * (S.1 222 4).toNat = s from by omega]
            exact f6
          have m2 : (edN (edA S (S.1 222 4)) (S.1 222 4).toNat 0).1 273 (120 * e + s) = S.1 257 s := by
            unfold edN edM
            rw [up_obj (by decide), up_obj (by decide)]
            simp only [stA]
            rw [if_pos trivial, if_pos (by rw [e12, s2]; omega), show 120 * e + s - 120 * (S.1 222 4).toNat = s from by omega]
            exact f7
          rw [m1, m2, hcl _ s (by omega), hcl _ s (by omega), c1, c2, sv.1.2.1, sv.1.2.2]
          refine ⟨rfl, rfl, ?_⟩
          rcases sv.2.2 with y | y <;> omega
        · have he' : (e : Int) < S.1 222 4 := by omega
          obtain ⟨x1, x2, x3⟩ := ed.2.2 e he'
          have a71 : (edN (edA S (S.1 222 4)) (S.1 222 4).toNat 0).1 271 e = S.1 271 e := by
            unfold edN edM
            rw [up_obj (by decide), up_cell (by omega)]
            simp only [stA]
            rw [if_neg (by decide), if_neg (by decide)]
            unfold edA
            simp only [upI, up2, stA]
            rw [if_neg (by omega), if_neg (by omega), if_neg (by omega), if_neg (by omega)]
          have ac : ∀ b j : Nat, (b = 225 + e ∨ b = 234 + e) → (edA S (S.1 222 4)).1 b j = S.1 b j := fun b j hb => by
            unfold edA
            simp only [upI, up2, stA]
            rw [if_neg (by omega), if_neg (by omega), if_neg (by omega), if_neg (by omega)]
          have a23 : (edN (edA S (S.1 222 4)) (S.1 222 4).toNat 0).1 223 e = S.1 223 e := by
            rw [hcl 223 e (by omega)]
            unfold edA
            rw [up_obj (by decide), up_cell (by omega)]
            simp only [stA]
            rw [if_neg (by omega), if_neg (by omega)]
          rw [a71, a23]
          refine ⟨x1, x2, fun s hs => ?_⟩
          obtain ⟨y1, y2, y3⟩ := x3 s hs
          have g2 : ∀ j : Nat, (edA S (S.1 222 4)).1 272 j = S.1 272 j := fun j => by
            unfold edA
            simp only [upI, up2, stA]
            rw [if_neg (by omega), if_neg (by omega), if_neg (by omega), if_neg (by omega)]
          have g3 : ∀ j : Nat, (edA S (S.1 222 4)).1 273 j = S.1 273 j := fun j => by
            unfold edA
            simp only [upI, up2, stA]
            rw [if_neg (by omega), if_neg (by omega), if_neg (by omega), if_neg (by omega)]
          have m1 : (edN (edA S (S.1 222 4)) (S.1 222 4).toNat 0).1 272 (120 * e + s) = S.1 272 (120 * e + s) := by
            unfold edN edM
            rw [up_obj (by decide), up_obj (by decide)]
            simp only [stA]
            rw [if_neg (by decide), if_pos trivial, if_neg (by omega), g2]
          have m2 : (edN (edA S (S.1 222 4)) (S.1 222 4).toNat 0).1 273 (120 * e + s) = S.1 273 (120 * e + s) := by
            unfold edN edM
            rw [up_obj (by decide), up_obj (by decide)]
            simp only [stA]
            rw [if_pos trivial, if_neg (by omega), g3]
          rw [m1, m2, hcl _ s (by omega), hcl _ s (by omega), ac _ s (Or.inl rfl), ac _ s (Or.inr rfl)]
          exact ⟨y1, y2, y3⟩
      rw [hp] at hed ⊢
      exact ⟨tp, bk, bh, sl, se, po, hed, pr, en, ru, ws, wf, kn⟩
