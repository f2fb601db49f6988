/-! EQUAL ANSWERS: rule -/
theorem adS_1v {S : aS} {b0 N le i a b : Nat} {o f : Int} (h : ¬ (a = le ∧ i ≤ b ∧ b < N ∧ 0 < S.1 le b)) : (adS S b0 N le i o f).1 a b = S.1 a b := if_neg h
theorem adS_1y {S : aS} {b0 N le b : Nat} {o f : Int} (h : b < N) (h2 : 0 < S.1 le b) : (adS S b0 N le 0 o f).1 le b = (adn (S.2 (b0 + b) 0) o f 8 0 (S.2 (b0 + b), S.1 le b)).2 := if_pos ⟨rfl, by omega, h, h2⟩
theorem adS_2y {S : aS} {b0 N le b : Nat} {o f : Int} (h : b < N) (h2 : 0 < S.1 le b) : (adS S b0 N le 0 o f).2 (b0 + b) = (adn (S.2 (b0 + b) 0) o f 8 0 (S.2 (b0 + b), S.1 le b)).1 := funext fun x => by
  have e : b0 + b - b0 = b := by omega
  have c : b0 + 0 ≤ b0 + b ∧ b0 + b < b0 + N ∧ 0 < S.1 le (b0 + b - b0) := ⟨by omega, by omega, by rw [e]; exact h2⟩
  have := (if_pos c : (if b0 + 0 ≤ b0 + b ∧ b0 + b < b0 + N ∧ 0 < S.1 le (b0 + b - b0) then (adn (S.2 (b0 + b) 0) o f 8 0 (S.2 (b0 + b), S.1 le (b0 + b - b0))).1 x else S.2 (b0 + b) x) = _)
  rw [e] at this
  have z : (adS S b0 N le 0 o f).2 (b0 + b) x = (if b0 + 0 ≤ b0 + b ∧ b0 + b < b0 + N ∧ 0 < S.1 le (b0 + b - b0) then (adn (S.2 (b0 + b) 0) o f 8 0 (S.2 (b0 + b), S.1 le (b0 + b - b0))).1 x else S.2 (b0 + b) x) := rfl
  rw [z, e]
  exact this
theorem adS_2n {S : aS} {b0 N le a : Nat} {o f : Int} (h : ¬ (b0 ≤ a ∧ a < b0 + N ∧ 0 < S.1 le (a - b0))) : (adS S b0 N le 0 o f).2 a = S.2 a := funext fun x => if_neg h
section RUT
variable {S : aS} {o r : Int} {x y k : Nat}
theorem ruT_o1 (h1 : ¬ (x = 1 ∧ y = 1)) (h2 : ¬ (x = 11 ∧ y = 2)) (h3 : ¬ x = 80) (h4 : ¬ x = 207) : (ruT S o r).1 x y = S.1 x y := by
  unfold ruT
  rw [adS_1v (fun z => h4 z.1), adS_1v (fun z => h3 z.1)]
  unfold ruA
  simp only [upI, up2, upL]
  rw [if_neg h2, if_neg h1]
theorem ruT_v : (ruT S o r).1 1 1 = 0 ∧ (ruT S o r).1 11 2 = S.1 11 2 + 1 := by
  unfold ruT
  rw [adS_1v (fun z => absurd z.1 (by decide)), adS_1v (fun z => absurd z.1 (by decide)), adS_1v (fun z => absurd z.1 (by decide)), adS_1v (fun z => absurd z.1 (by decide))]
  exact ⟨rfl, rfl⟩
theorem ruT_80 (hk : k < 60) : (0 < S.1 80 k → (ruT S o r).1 80 k = (adn (S.2 (20 + k) 0) o r 8 0 (S.2 (20 + k), S.1 80 k)).2 ∧ (ruT S o r).2 (20 + k) = (adn (S.2 (20 + k) 0) o r 8 0 (S.2 (20 + k), S.1 80 k)).1) ∧ (¬ 0 < S.1 80 k → (ruT S o r).1 80 k = S.1 80 k ∧ (ruT S o r).2 (20 + k) = S.2 (20 + k)) := by
  have e1 : (ruA S o r).1 80 k = S.1 80 k := ruA_1 (by decide) (by decide)
  have e2 : (ruA S o r).2 (20 + k) = S.2 (20 + k) := funext fun z => ruA_2 (by omega) (by omega)
  unfold ruT
  rw [adS_1v (fun z => absurd z.1 (by decide)), adS_2n (a := 20 + k) (fun z => by omega)]
  refine ⟨fun z => ?_, fun z => ?_⟩
  · rw [adS_1y hk (by rw [e1]; exact z), adS_2y hk (by rw [e1]; exact z), e1, e2]
    exact ⟨rfl, rfl⟩
  · rw [adS_1v (fun w => z (by rw [← e1]; exact w.2.2.2)), adS_2n (fun w => z (by have := w.2.2; rw [show 20 + k - 20 = k from by omega, e1] at this; exact this)), e1, e2]
    exact ⟨rfl, rfl⟩
theorem ruT_207 (hk : k < 120) : (0 < S.1 207 k → (ruT S o r).1 207 k = (adn (S.2 (87 + k) 0) r o 8 0 (S.2 (87 + k), S.1 207 k)).2 ∧ (ruT S o r).2 (87 + k) = (adn (S.2 (87 + k) 0) r o 8 0 (S.2 (87 + k), S.1 207 k)).1) ∧ (¬ 0 < S.1 207 k → (ruT S o r).1 207 k = S.1 207 k ∧ (ruT S o r).2 (87 + k) = S.2 (87 + k)) := by
  have e1 : (adS (ruA S o r) 20 60 80 0 o r).1 207 k = S.1 207 k := by
    rw [adS_1v (fun z => absurd z.1 (by decide))]
    exact ruA_1 (by decide) (by decide)
  have e2 : (adS (ruA S o r) 20 60 80 0 o r).2 (87 + k) = S.2 (87 + k) := by
    rw [adS_2n (a := 87 + k) (fun z => by omega)]
    exact funext fun z => ruA_2 (by omega) (by omega)
  unfold ruT
  refine ⟨fun z => ?_, fun z => ?_⟩
  · rw [adS_1y hk (by rw [e1]; exact z), adS_2y hk (by rw [e1]; exact z), e1, e2]
    exact ⟨rfl, rfl⟩
  · rw [adS_1v (fun w => z (by rw [← e1]; exact w.2.2.2)), adS_2n (fun w => z (by have := w.2.2; rw [show 87 + k - 87 = k from by omega, e1] at this; exact this)), e1, e2]
    exact ⟨rfl, rfl⟩
theorem ruT_o2 (h1 : ¬ (20 ≤ x ∧ x < 80)) (h2 : ¬ (87 ≤ x ∧ x < 207)) : (ruT S o r).2 x = (ruA S o r).2 x := by
  unfold ruT
  rw [adS_2n (by omega), adS_2n (by omega)]
theorem ruA_12 : (ruA S o r).2 12 y = (if y = (S.1 11 2).toNat then o else S.2 12 y) ∧ (ruA S o r).2 13 y = (if y = (S.1 11 2).toNat then r else S.2 13 y) := by
  unfold ruA
  simp only [upI, up2, upL]
  refine ⟨?_, ?_⟩
  · rw [if_neg (by omega)]
    by_cases e : y = (S.1 11 2).toNat
    · rw [if_pos ⟨trivial, e⟩, if_pos e]
    · rw [if_neg (fun z => e z.2), if_neg e]
  · by_cases e : y = (S.1 11 2).toNat
    · rw [if_pos ⟨trivial, e⟩, if_pos e]
    · rw [if_neg (fun z => e z.2), if_neg e, if_neg (by omega)]
theorem ruZ_o (h : ¬ x = 259) (h2 : ¬ (x = 245 ∧ y = 14)) : (ruZ S o r).1 x y = S.1 x y := by
  unfold ruZ zkM ruM
  simp only [stA, upI, up2, upL]
  rw [if_neg h, if_neg h2]
theorem ruZ_v : (ruZ S o r).1 245 14 = S.1 245 14 + 1 ∧ (y < 7200 → (ruZ S o r).1 259 y = 0) := by
  unfold ruZ zkM
  simp only [stA]
  refine ⟨?_, fun z => ?_⟩
  · rw [if_neg (by decide)]
    unfold ruM
    exact up_hit
  · rw [if_pos trivial, if_pos ⟨by omega, z⟩]
theorem ruZ_2 (h : ¬ x = 264) (h2 : ¬ x = 265) : (ruZ S o r).2 x = S.2 x := funext fun y => by
  unfold ruZ zkM ruM
  simp only [stA, upI, up2, upL]
  rw [if_neg (fun z => h2 z.1), if_neg (fun z => h z.1)]
theorem ruZ_26 : (ruZ S o r).2 264 y = (if y = (S.1 245 14).toNat then o else S.2 264 y) ∧ (ruZ S o r).2 265 y = (if y = (S.1 245 14).toNat then r else S.2 265 y) := by
  unfold ruZ zkM ruM
  simp only [stA, upI, up2, upL]
  refine ⟨?_, ?_⟩
  · rw [if_neg (by omega)]
    by_cases e : y = (S.1 245 14).toNat
    · rw [if_pos ⟨trivial, e⟩, if_pos e]
    · rw [if_neg (fun z => e z.2), if_neg e]
  · by_cases e : y = (S.1 245 14).toNat
    · rw [if_pos ⟨trivial, e⟩, if_pos e]
    · rw [if_neg (fun z => e z.2), if_neg e, if_neg (by omega)]
end RUT
/-- a row with the neighbours that a new rule makes -/
theorem rwP_add {S U : aS} {R : Nat} {len len' a b : Int} {o f o' f' : Nat → Int} {n : Nat} (hn : S.1 11 2 = n) (hn10 : n < 10) (hU : U.1 11 2 = n + 1) (old : rwP S R len o f) (e1 : U.2 R = (adn (S.2 R 0) a b 8 0 (S.2 R, len)).1) (e2 : len' = (adn (S.2 R 0) a b 8 0 (S.2 R, len)).2) (ho : ∀ r, r < n → o' r = o r ∧ f' r = f r) (hN : o' n = a ∧ f' n = b) : U.2 R 0 = S.2 R 0 ∧ rwP U R len' o' f' := by
  obtain ⟨l1, l2⟩ := old
  rw [hn] at l1
  have z0 : U.2 R 0 = S.2 R 0 := by rw [e1, adn_z (x := (S.2 R, len)) l1.1]
  have hb := fun v => adn_in (w := S.2 R 0) (o := a) (f := b) (v := v) (n := 8) (a := 0) (x := (S.2 R, len)) (by show 0 ≤ len; omega) (by show len + 8 ≤ 81; omega)
  have b1 := (hb 0).1
  have q1 : (((S.2 R, len) : aX)).2 = len := rfl
  rw [q1] at b1
  refine ⟨z0, ⟨by omega, by rw [hU]; omega⟩, fun x => ?_⟩
  have b2 := (hb x).2
  have i1 : inX (S.2 R, len) x ↔ nb S (S.2 R 0) o f x := l2 x
  rw [i1] at b2
  have i2 : (∃ k : Nat, (k : Int) < len' ∧ U.2 R k = x) ↔ inX (adn (S.2 R 0) a b 8 0 (S.2 R, len)) x := by
    rw [e1, e2]; exact Iff.rfl
  rw [i2, b2, z0]
  unfold nb
  rw [hn, hU]
  constructor
  · rintro ((z | ⟨r, hr, p, y⟩) | ⟨p, hp, y⟩)
    · exact Or.inl z
    · have := ho r (by omega)
      exact Or.inr ⟨r, by omega, p, by rw [this.1, this.2]; exact y⟩
    · exact Or.inr ⟨n, by omega, p, by omega, by rw [hN.1, hN.2]; exact y⟩
  · rintro (z | ⟨r, hr, p, hp, y⟩)
    · exact Or.inl (Or.inl z)
    · by_cases e : r = n
      · subst e
        rw [hN.1, hN.2] at y
        exact Or.inr ⟨p, by omega, y⟩
      · have := ho r (by omega)
        rw [this.1, this.2] at y
        exact Or.inl (Or.inr ⟨r, by omega, p, hp, y⟩)
def cRu (a b : Nat) : Bool := (decide (a = 1) && decide (b = 1)) || ((decide (a = 245) && (decide (b = 2) || decide (b = 14))) || (decide (a = 247) || ((decide (a = 11) && decide (b = 2)) || (decide (a = 80) || (decide (a = 207) || decide (a = 259))))))
def dRu (a _b : Nat) : Bool := (decide (20 ≤ a) && decide (a ≤ 79)) || ((decide (87 ≤ a) && decide (a ≤ 206)) || (decide (a = 12) || (decide (a = 13) || (decide (a = 264) || decide (a = 265)))))
set_option maxHeartbeats 4000000 in
theorem inv_rule {S : aS} (h : Inv S) {u v u8 v8' c : Int} (hn : S.1 11 2 < 10) (hu : wE 2 u u8) (hv : wE 2 v v8') : Inv (ruZ (tkS (ruT S u v) c) u8 v8') := by
  obtain ⟨tp, bk, bh, sl, se, po, ed, pr, en, ru, ws, wf, kn⟩ := h
  obtain ⟨r1, r2, r3, r4, r5⟩ := ru
  obtain ⟨n, hN⟩ : ∃ n : Nat, S.1 11 2 = n := ⟨(S.1 11 2).toNat, by omega⟩
  have T14 : (tkS (ruT S u v) c).1 245 14 = n := by rw [tkS_o (by decide) (by decide), ruT_o1 (by decide) (by decide) (by decide) (by decide), r4, hN]
  have fr : ∀ x y, cRu x y = false → (ruZ (tkS (ruT S u v) c) u8 v8').1 x y = S.1 x y := fun x y hc => by
    unfold cRu at hc
    simp at hc
    rw [ruZ_o (by omega) (by omega), tkS_o (by omega) (by omega), ruT_o1 (by omega) (by omega) (by omega) (by omega)]
  have fr2 : ∀ x y, dRu x y = false → (ruZ (tkS (ruT S u v) c) u8 v8').2 x y = S.2 x y := fun x y hc => by
    unfold dRu at hc
    simp at hc
    rw [ruZ_2 (by omega) (by omega), tkS_2, ruT_o2 (by omega) (by omega), ruA_2 (by omega) (by omega)]
  have u11 : (ruZ (tkS (ruT S u v) c) u8 v8').1 1 1 = 0 := by rw [ruZ_o (by decide) (by decide), tkS_o (by decide) (by decide), ruT_v.1]
  have u2452 : (ruZ (tkS (ruT S u v) c) u8 v8').1 245 2 = 0 := by rw [ruZ_o (by decide) (by decide), tkS_t]
  have u112 : (ruZ (tkS (ruT S u v) c) u8 v8').1 11 2 = n + 1 := by rw [ruZ_o (by decide) (by decide), tkS_o (by decide) (by decide), ruT_v.2, hN]
  have u24514 : (ruZ (tkS (ruT S u v) c) u8 v8').1 245 14 = n + 1 := by rw [ruZ_v.1, T14]; exact 0
  have u259 : ∀ j, j < 7200 → (ruZ (tkS (ruT S u v) c) u8 v8').1 259 j = 0 := fun j hj => ruZ_v.2 hj
  have u80 : ∀ k, (ruZ (tkS (ruT S u v) c) u8 v8').1 80 k = (ruT S u v).1 80 k := fun k => by rw [ruZ_o (by decide) (by simp), tkS_o (by decide) (by simp)]
  have u207 : ∀ k, (ruZ (tkS (ruT S u v) c) u8 v8').1 207 k = (ruT S u v).1 207 k := fun k => by rw [ruZ_o (by decide) (by simp), tkS_o (by decide) (by simp)]
  have ur : ∀ x, ¬ x = 264 → ¬ x = 265 → (ruZ (tkS (ruT S u v) c) u8 v8').2 x = (ruT S u v).2 x := fun x h1 h2 => by rw [ruZ_2 h1 h2, tkS_2]
  have u12 : ∀ y, (ruZ (tkS (ruT S u v) c) u8 v8').2 12 y = (if y = n then u else S.2 12 y) := fun y => by
    rw [ur 12 (by decide) (by decide), ruT_o2 (by decide) (by decide), ruA_12.1, hN]; rfl
  have u13 : ∀ y, (ruZ (tkS (ruT S u v) c) u8 v8').2 13 y = (if y = n then v else S.2 13 y) := fun y => by
    rw [ur 13 (by decide) (by decide), ruT_o2 (by decide) (by decide), ruA_12.2, hN]; rfl
  have t264 : ∀ y, (tkS (ruT S u v) c).2 264 y = S.2 264 y ∧ (tkS (ruT S u v) c).2 265 y = S.2 265 y := fun y => by
    rw [tkS_2, ruT_o2 (by decide) (by decide), ruT_o2 (by decide) (by decide), ruA_2 (by decide) (by decide), ruA_2 (by decide) (by decide)]
    exact ⟨rfl, rfl⟩
  have u264 : ∀ y, (ruZ (tkS (ruT S u v) c) u8 v8').2 264 y = (if y = n then u8 else S.2 264 y) := fun y => by
    rw [ruZ_26.1, T14, (t264 y).1]; rfl
  have u265 : ∀ y, (ruZ (tkS (ruT S u v) c) u8 v8').2 265 y = (if y = n then v8' else S.2 265 y) := fun y => by
    rw [ruZ_26.2, T14, (t264 y).2]; rfl
  generalize ruZ (tkS (ruT S u v) c) u8 v8' = U at *
  have vtp : iTp U := ⟨by omega, by omega, fun j hj => by omega⟩
  have ved : iEd U := iEd_c (fr 222 4 (by simp [cRu])) (fr 245 37 (by simp [cRu])) (funext fun b => fr 223 b (by simp [cRu])) (funext fun b => fr 271 b (by simp [cRu])) (funext fun b => fr 272 b (by simp [cRu])) (funext fun b => fr 273 b (by simp [cRu])) (fun i hi => ⟨funext fun b => fr _ b (by simp [cRu]; omega), funext fun b => fr _ b (by simp [cRu]; omega)⟩) ed
  have vru : iRu U := by
    refine ⟨by rw [fr 18 1 (by simp [cRu])]; exact r1, by rw [fr 85 1 (by simp [cRu])]; exact r2, by omega, by omega, fun r hr => ?_⟩
    rw [u12, u13, u264, u265]
    by_cases e : r = n
    · rw [if_pos e, if_pos e, if_pos e, if_pos e]; exact ⟨hu, hv⟩
    · rw [if_neg e, if_neg e, if_neg e, if_neg e]; exact r5 r (by omega)
  have vws : iWs U := fun s hs => by
    rw [u207, ur (87 + s) (by omega) (by omega), fr2 258 s (by simp [dRu]), fr 81 4 (by simp [cRu])]
    obtain ⟨w1, w2⟩ := ws s hs
    obtain ⟨k1, k2⟩ := ruT_207 (S := S) (o := u) (r := v) hs
    refine ⟨fun z => ?_, fun z => ?_⟩
    · obtain ⟨w3, w4⟩ := w1 z
      obtain ⟨k3, k4⟩ := k1 (by have := w4.1; omega)
      have := rwP_add (S := S) (U := U) (R := 87 + s) (len := S.1 207 s) (len' := (ruT S u v).1 207 s) (a := v) (b := u) (o := S.2 13) (f := S.2 12) (o' := U.2 13) (f' := U.2 12) (n := n) hN (by omega) u112 w4 (by rw [ur (87 + s) (by omega) (by omega), k4]) k3 (fun r hr => by rw [u12, u13, if_neg (by omega), if_neg (by omega)]; exact ⟨rfl, rfl⟩) (by rw [u12, u13, if_pos rfl, if_pos rfl]; exact ⟨rfl, rfl⟩)
      have t0 := this.1
      rw [ur (87 + s) (by omega) (by omega)] at t0
      rw [t0]
      exact ⟨w3, this.2⟩
    · rw [(k2 (by rw [w2 z]; omega)).1]; exact w2 z
  have hx : ∀ k, exK U k ↔ exK S k := fun k => by
    unfold exK
    rw [fr 15 (k / 5) (by simp [cRu])]
  have vwf : iWf U := fun k hk => by
    rw [u80, ur (20 + k) (by omega) (by omega), fr2 263 k (by simp [dRu]), hx]
    obtain ⟨w1, w2⟩ := wf k hk
    obtain ⟨k1, k2⟩ := ruT_80 (S := S) (o := u) (r := v) hk
    refine ⟨fun z => ?_, fun z => ?_⟩
    · obtain ⟨w3, w4⟩ := w1 z
      obtain ⟨k3, k4⟩ := k1 (by have := w4.1; omega)
      have := rwP_add (S := S) (U := U) (R := 20 + k) (len := S.1 80 k) (len' := (ruT S u v).1 80 k) (a := u) (b := v) (o := S.2 12) (f := S.2 13) (o' := U.2 12) (f' := U.2 13) (n := n) hN (by omega) u112 w4 (by rw [ur (20 + k) (by omega) (by omega), k4]) k3 (fun r hr => by rw [u12, u13, if_neg (by omega), if_neg (by omega)]; exact ⟨rfl, rfl⟩) (by rw [u12, u13, if_pos rfl, if_pos rfl]; exact ⟨rfl, rfl⟩)
      have t0 := this.1
      rw [ur (20 + k) (by omega) (by omega)] at t0
      rw [t0]
      exact ⟨w3, this.2⟩
    · rw [(k2 (by rw [w2 z]; omega)).1]; exact w2 z
  have vkn : iKn U := fun s k hs hk => Or.inl (u259 _ (by omega))
  rw [patH_e fr fr2] at vtp ved vru vws vwf vkn ⊢
  exact ⟨vtp, bk, bh, sl, se, po, ved, pr, en, vru, vws, vwf, vkn⟩
theorem ruC_I {S : aS} (ru : iRu S) (ws : iWs S) (wf : iWf S) {u v u8 v8' : Int} (hn : S.1 11 2 < 10) (hu : wE 2 u u8) (hv : wE 2 v v8') : ruC S u v := by
  obtain ⟨O, hO, rfl, _⟩ := hu
  obtain ⟨F, hF, rfl, _⟩ := hv
  refine ⟨fun i hi => ?_, fun i hi => ?_⟩
  · obtain ⟨w1, w2⟩ := wf i hi
    by_cases q : exK S i
    · obtain ⟨⟨A, hA, e, _⟩, w4⟩ := w1 q
      refine ⟨by have := w4.1; omega, fun _ => ?_⟩
      rw [e]; exact chOK_v (okW_8 hA) hO hF
    · rw [w2 q]
      exact ⟨by omega, fun z => absurd z (by omega)⟩
  · obtain ⟨w1, w2⟩ := ws i hi
    by_cases q : (i : Int) < S.1 81 4
    · obtain ⟨⟨A, hA, e, _⟩, w4⟩ := w1 q
      refine ⟨by have := w4.1; omega, fun _ => ?_⟩
      rw [e]; exact chOK_v (okW_8 hA) hF hO
    · rw [w2 (by omega)]
      exact ⟨by omega, fun z => absurd z (by omega)⟩
set_option maxHeartbeats 4000000 in
theorem eq_rule {S : aS} {n m : Int} (h : Inv S) : spX11_rule [.inr (.inr 0), .inl n, .inl m] S (fun r T => spX12_rule [.inr (.inr 245), .inl n, .inl m] T (Eqv r)) := by
  have h' := h
  obtain ⟨tp, bk, bh, sl, se, po, ed, pr, en, ru, ws, wf, kn⟩ := h'
  have hru := ru
  obtain ⟨t1, t2, t3⟩ := tp
  obtain ⟨r1, r2, r3, r4, r5⟩ := ru
  refine ⟨t1, r3, r1, r2, fun q => ⟨by omega, by omega, fun _ => ⟨rfl, h⟩, fun z => absurd (by omega) q⟩, fun q => ?_⟩
  have a1 := tk_w (S := S) ⟨t1, t2, t3⟩ (n := n.toNat) (i := 0) (c := n + m) (by omega) (by omega) (by omega)
  have a2 := tk_w (S := S) ⟨t1, t2, t3⟩ (n := m.toNat) (i := n.toNat) (c := n + m) (by omega) (by omega) (by omega)
  rw [show (((n.toNat : Nat) : Int)) = n from by omega, show ((0 : Nat) : Int) = 0 from rfl] at a1
  rw [show (((m.toNat : Nat) : Int)) = m from by omega, show (((n.toNat : Nat) : Int)) = n from by omega] at a2
  have hcv : (tpW (S.1 2) (S.1 1 1) n.toNat 0 0 = 0 ∨ tpW (S.1 2) (S.1 1 1) m.toNat n.toNat 0 = 0 ∨ tpW (S.1 2) (S.1 1 1) n.toNat 0 0 = tpW (S.1 2) (S.1 1 1) m.toNat n.toNat 0) ↔ (tkW S (n + m) n 0 = 0 ∨ tkW S (n + m) m n = 0 ∨ tkW S (n + m) n 0 = tkW S (n + m) m n) := by
    rcases a1 with ⟨x1, x2⟩ | ⟨x1, x2, x3⟩
    · exact ⟨fun _ => Or.inl x2, fun _ => Or.inl x1⟩
    · rcases a2 with ⟨y1, y2⟩ | ⟨y1, y2, y3⟩
      · exact ⟨fun _ => Or.inr (Or.inl y2), fun _ => Or.inr (Or.inl y1)⟩
      · have := wE_eq (wE_m x3 (m := 2) (by omega)) (wE_m y3 (m := 2) (by omega))
        exact ⟨fun z => Or.inr (Or.inr (this.mp ((z.resolve_left x1).resolve_left y1))), fun z => Or.inr (Or.inr (this.mpr ((z.resolve_left x2).resolve_left y2)))⟩
  refine ⟨fun z => ?_, fun z => ?_⟩
  · have e1 : (upI S 1 1 0).1 245 14 = S.1 245 14 := rfl
    have e3 : (upI S 1 1 0).1 245 2 = S.1 245 2 := rfl
    have e5 : tkW (upI S 1 1 0) (n + m) n 0 = tkW S (n + m) n 0 := tkW_c (up_f (by decide)) (up_f (by decide))
    have e6 : tkW (upI S 1 1 0) (n + m) m n = tkW S (n + m) m n := tkW_c (up_f (by decide)) (up_f (by decide))
    refine ⟨by rw [e1]; omega, by rw [e3]; omega, fun y => absurd (by rw [e1, e3]; omega) y, fun _ => ⟨fun _ => ⟨rfl, tk_0 h⟩, fun y => absurd ?_ y⟩⟩
    rw [e5, e6]
    exact hcv.mp z
  · have x3 := a1.resolve_left (fun y => z (Or.inl y.1))
    have y3 := a2.resolve_left (fun y => z (Or.inr (Or.inl y.1)))
    have hu := wE_m x3.2.2 (m := 2) (by omega)
    have hv := wE_m y3.2.2 (m := 2) (by omega)
    refine ⟨ruC_I hru ws wf q.2.2.2 hu hv, ?_⟩
    generalize tpW (S.1 2) (S.1 1 1) n.toNat 0 0 = u at *
    generalize tpW (S.1 2) (S.1 1 1) m.toNat n.toNat 0 = v at *
    have e1 : (ruT S u v).1 245 14 = S.1 245 14 := ruT_o1 (by decide) (by decide) (by decide) (by decide)
    have e3 : (ruT S u v).1 245 2 = S.1 245 2 := ruT_o1 (by decide) (by decide) (by decide) (by decide)
    have e46 : (ruT S u v).1 246 = S.1 246 := funext fun y => ruT_o1 (by simp) (by simp) (by simp) (by simp)
    have e47 : (ruT S u v).1 247 = S.1 247 := funext fun y => ruT_o1 (by simp) (by simp) (by simp) (by simp)
    have e5 : tkW (ruT S u v) (n + m) n 0 = tkW S (n + m) n 0 := tkW_c e46 e47
    have e6 : tkW (ruT S u v) (n + m) m n = tkW S (n + m) m n := tkW_c e46 e47
    refine ⟨by rw [e1]; omega, by rw [e3]; omega, fun y => absurd (by rw [e1, e3]; omega) y, fun _ => ⟨fun y => absurd (hcv.mpr (by rw [e5, e6] at y; exact y)) z, fun _ => ⟨oi (by rw [e1, r4]), ?_⟩⟩⟩
    rw [e5, e6]
    exact inv_rule h q.2.2.2 hu hv

