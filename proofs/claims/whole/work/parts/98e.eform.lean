/-! EQUAL ANSWERS: entry, form -/
section FMA
variable {S : aS} {a b v : Int} {e c x y : Nat}
theorem fmA_k (hc : S.1 15 e = c) : fmA S e v a b = upI (upI (upI (stW S (20 + (5 * e + c)) 80 (5 * e + c) (S.2 12) (S.2 13) v) 16 (5 * e + c) a) 17 (5 * e + c) b) 15 e (c + 1) := by
  have hk : ((e : Int) * 5 + S.1 15 (e : Int).toNat).toNat = 5 * e + c := by rw [Int.toNat_natCast, hc]; omega
  unfold fmA
  rw [hk, Int.toNat_natCast, hc]
theorem fmA_o (hc : S.1 15 e = c) (h : ¬ (x = 15 ∧ y = e)) (h2 : (x = 80 ∨ x = 16 ∨ x = 17) → ¬ y = 5 * e + c) : (fmA S e v a b).1 x y = S.1 x y := by
  rw [fmA_k hc]
  unfold stW stN
  simp only [upI, up2]
  rw [if_neg (by omega), if_neg (by omega), if_neg (by omega), if_neg (by omega)]
theorem fmA_v (hc : S.1 15 e = c) : (fmA S e v a b).1 15 e = c + 1 ∧ (fmA S e v a b).1 16 (5 * e + c) = a ∧ (fmA S e v a b).1 17 (5 * e + c) = b := by
  rw [fmA_k hc]
  refine ⟨up_hit, ?_, ?_⟩
  · rw [up_obj (by decide), up_obj (by decide), up_hit]
  · rw [up_obj (by decide), up_hit]
theorem fmA_r (hc : S.1 15 e = c) : (fmA S e v a b).2 (20 + (5 * e + c)) = (adA v (S.2 12) (S.2 13) (S.1 11 2).toNat 0 (fu (S.2 (20 + (5 * e + c))) 0 v, 1)).1 ∧ (fmA S e v a b).1 80 (5 * e + c) = (adA v (S.2 12) (S.2 13) (S.1 11 2).toNat 0 (fu (S.2 (20 + (5 * e + c))) 0 v, 1)).2 := by
  rw [fmA_k hc]
  refine ⟨funext fun x => ?_, ?_⟩
  · exact stN_2 (i := 0) (le := 80)
  · unfold stW
    rw [up_obj (by decide), up_obj (by decide), up_obj (by decide), stN_l]
theorem fmA_2 (hc : S.1 15 e = c) (h : ¬ x = 20 + (5 * e + c)) : (fmA S e v a b).2 x = S.2 x := by
  rw [fmA_k hc]
  exact funext fun y => stN_o (i := 0) (le := 80) h
theorem lyM_k (hc : S.1 260 e = c) : lyM S e v a b = upI (upI (upI (upL S 263 (5 * e + c) v) 261 (5 * e + c) a) 262 (5 * e + c) b) 260 e (c + 1) := by
  have hk : (5 * (e : Int) + S.1 260 (e : Int).toNat).toNat = 5 * e + c := by rw [Int.toNat_natCast, hc]; omega
  unfold lyM
  rw [hk, Int.toNat_natCast, hc]
theorem lyM_o (hc : S.1 260 e = c) (h : ¬ (x = 260 ∧ y = e)) (h2 : (x = 261 ∨ x = 262) → ¬ y = 5 * e + c) : (lyM S e v a b).1 x y = S.1 x y := by
  rw [lyM_k hc]
  simp only [upI, up2, upL]
  rw [if_neg (by omega), if_neg (by omega), if_neg (by omega)]
theorem lyM_v (hc : S.1 260 e = c) : (lyM S e v a b).1 260 e = c + 1 ∧ (lyM S e v a b).1 261 (5 * e + c) = a ∧ (lyM S e v a b).1 262 (5 * e + c) = b ∧ (lyM S e v a b).2 263 (5 * e + c) = v := by
  rw [lyM_k hc]
  refine ⟨up_hit, ?_, ?_, ?_⟩
  · rw [up_obj (by decide), up_obj (by decide), up_hit]
  · rw [up_obj (by decide), up_hit]
  · simp [upI, upL, up2]
theorem lyM_2 (hc : S.1 260 e = c) (h : ¬ (x = 263 ∧ y = 5 * e + c)) : (lyM S e v a b).2 x y = S.2 x y := by
  rw [lyM_k hc]
  simp only [upI, up2, upL]
  rw [if_neg h]
end FMA
def cFo (e c a b : Nat) : Bool := (decide (a = 1) && decide (b = 1)) || ((decide (a = 245) && (decide (b = 2) || decide (b = 13))) || (decide (a = 247) || ((decide (a = 14) && decide (b = 4)) || (((decide (a = 15) || decide (a = 260)) && decide (b = e)) || ((decide (a = 16) || (decide (a = 17) || (decide (a = 80) || (decide (a = 261) || decide (a = 262))))) && decide (b = 5 * e + c))))))
def dFo (e c a b : Nat) : Bool := (decide (20 ≤ a) && (decide (a ≤ 79) && decide (a = 20 + (5 * e + c)))) || (decide (a = 263) && decide (b = 5 * e + c))
set_option maxHeartbeats 4000000 in
theorem inv_form {S U : aS} (h : Inv S) {e c : Nat} {a b : Int} (he : e < 12) (hc : S.1 15 e = c) (hc5 : c < 5) (E : (U.1 14 4 = S.1 14 4 ∧ (e : Int) < S.1 14 4) ∨ (U.1 14 4 = S.1 14 4 + 1 ∧ (e : Int) = S.1 14 4)) (u13 : U.1 245 13 = U.1 14 4) (t1 : U.1 1 1 = 0) (t2 : U.1 245 2 = 0) (u15 : U.1 15 e = c + 1) (u260 : U.1 260 e = c + 1) (uab : (U.1 16 (5 * e + c) = a ∧ U.1 17 (5 * e + c) = b) ∧ U.1 261 (5 * e + c) = a ∧ U.1 262 (5 * e + c) = b) (row : wE 8 (U.2 (20 + (5 * e + c)) 0) (U.2 263 (5 * e + c)) ∧ rwP U (20 + (5 * e + c)) (U.1 80 (5 * e + c)) (U.2 12) (U.2 13)) (fr : ∀ x y, cFo e c x y = false → U.1 x y = S.1 x y) (fr2 : ∀ x y, dFo e c x y = false → U.2 x y = S.2 x y) : Inv U := by
  obtain ⟨tp, bk, bh, sl, se, po, ed, pr, en, ru, ws, wf, kn⟩ := h
  have z14 : S.1 14 4 ≤ U.1 14 4 := by omega
  have f12 : U.2 12 = S.2 12 := funext fun y => fr2 12 y (by simp [dFo])
  have f13 : U.2 13 = S.2 13 := funext fun y => fr2 13 y (by simp [dFo])
  have f264 : U.2 264 = S.2 264 := funext fun y => fr2 264 y (by simp [dFo])
  have f265 : U.2 265 = S.2 265 := funext fun y => fr2 265 y (by simp [dFo])
  have f112 : U.1 11 2 = S.1 11 2 := fr 11 2 (by simp [cFo])
  have f24514 : U.1 245 14 = S.1 245 14 := fr 245 14 (by simp [cFo])
  have e9 : ∀ t, U.1 209 t = S.1 209 t := fun t => fr 209 t (by simp [cFo])
  have u9 : ∀ t, uS U t ↔ uS S t := fun t => by
    unfold uS
    rw [e9]
  have f15 : ∀ k, ¬ k = e → U.1 15 k = S.1 15 k ∧ U.1 260 k = S.1 260 k := fun k hk => ⟨fr 15 k (by simp [cFo, hk]), fr 260 k (by simp [cFo, hk])⟩
  have hx : ∀ k, exK U k ↔ (exK S k ∨ k = 5 * e + c) := fun k => by
    unfold exK
    by_cases q : k / 5 = e
    · rw [q, u15, hc]
      constructor
      · intro z
        by_cases q2 : k % 5 = c
        · exact Or.inr (by omega)
        · exact Or.inl (by omega)
      · rintro (z | z) <;> omega
    · rw [(f15 _ q).1]
      exact ⟨Or.inl, fun z => z.resolve_right (fun w => q (by omega))⟩
  have nx : ¬ exK S (5 * e + c) := by
    unfold exK
    rw [show (5 * e + c) / 5 = e from by omega, show (5 * e + c) % 5 = c from by omega, hc]
    omega
  have vtp : iTp U := ⟨by omega, by omega, fun j hj => by omega⟩
  have ved : iEd U := iEd_c (fr 222 4 (by simp [cFo])) (fr 245 37 (by simp [cFo])) (funext fun b => fr 223 b (by simp [cFo])) (funext fun b => fr 271 b (by simp [cFo])) (funext fun b => fr 272 b (by simp [cFo])) (funext fun b => fr 273 b (by simp [cFo])) (fun i hi => ⟨funext fun b => fr _ b (by simp [cFo]; omega), funext fun b => fr _ b (by simp [cFo]; omega)⟩) ed
  have vsl : iSl U := by
    refine ⟨by rw [fr 81 4 (by simp [cFo])]; exact sl.1, by rw [fr 81 4 (by simp [cFo]), fr 245 12 (by simp [cFo])]; exact sl.2.1, fun s hs => ?_⟩
    rw [fr 81 4 (by simp [cFo])] at hs
    obtain ⟨c1, c2, c3⟩ := sl.2.2 s hs
    rw [fr 255 s (by simp [cFo]), fr 256 s (by simp [cFo]), fr 257 s (by simp [cFo]), fr 82 s (by simp [cFo]), fr 83 s (by simp [cFo]), fr 84 s (by simp [cFo]), fr 3 7 (by simp [cFo]), u9, e9]
    exact ⟨c1, c2, c3.imp id fun z => ⟨by omega, z.2⟩⟩
  have vse : iSe U := by
    obtain ⟨q1, rk, q2⟩ := se
    refine ⟨fun t ht => ?_, rk, fun t ht => ?_⟩
    · rw [e9, e9, fr 266 t (by simp [cFo]), fr 267 t (by simp [cFo]), fr 268 t (by simp [cFo]), fr 210 t (by simp [cFo]), u9]
      obtain ⟨d1, d2⟩ := q1 t ht
      refine ⟨d1, fun z => ?_⟩
      obtain ⟨d3, d4⟩ := d2 z
      exact ⟨by omega, d4⟩
    · rw [e9, fr 210 t (by simp [cFo])]
      exact q2 t ht
  have ven : iEn U := by
    obtain ⟨n1, n2, n3, n4⟩ := en
    refine ⟨by omega, u13, fun i hi => ?_, fun k hk hk2 => ?_⟩
    · by_cases q : i = e
      · subst q
        rw [u15, u260]
        refine ⟨by omega, fun _ => ⟨by omega, rfl⟩, fun z => by omega⟩
      · rw [(f15 i q).1, (f15 i q).2]
        obtain ⟨m1, m2, m3⟩ := n3 i hi
        exact ⟨m1, fun z => m2 (by omega), fun z => m3 (by omega)⟩
    · rcases (hx k).mp hk2 with z | z
      · have q : ¬ k = 5 * e + c := fun w => nx (by rw [← w]; exact z)
        rw [fr 261 k (by simp [cFo, q]), fr 262 k (by simp [cFo, q]), fr 16 k (by simp [cFo, q]), fr 17 k (by simp [cFo, q])]
        exact n4 k hk z
      · rw [z, uab.1.1, uab.1.2, uab.2.1, uab.2.2]
        exact ⟨rfl, rfl⟩
  have vws : iWs U := fun s hs => by
    have hr : U.2 (87 + s) = S.2 (87 + s) := funext fun y => fr2 (87 + s) y (by simp [dFo]; omega)
    rw [hr, fr2 258 s (by simp [dFo]), fr 207 s (by simp [cFo]), f12, f13, fr 81 4 (by simp [cFo])]
    exact ⟨fun z => ⟨((ws s hs).1 z).1, rwP_c hr f112 ((ws s hs).1 z).2⟩, (ws s hs).2⟩
  have vwf : iWf U := fun k hk => by
    by_cases q : k = 5 * e + c
    · subst q
      exact ⟨fun _ => row, fun z => absurd ((hx _).mpr (Or.inr rfl)) z⟩
    · have hr : U.2 (20 + k) = S.2 (20 + k) := funext fun y => fr2 (20 + k) y (by simp [dFo]; omega)
      have hx2 : exK U k ↔ exK S k := (hx k).trans ⟨fun z => z.resolve_right q, Or.inl⟩
      rw [hr, fr2 263 k (by simp [dFo, q]), fr 80 k (by simp [cFo, q]), f12, f13, hx2]
      exact ⟨fun z => ⟨((wf k hk).1 z).1, rwP_c hr f112 ((wf k hk).1 z).2⟩, (wf k hk).2⟩
  have vkn : iKn U := fun s k hs hk => by
    rw [fr 259 _ (by simp [cFo]), fr 81 4 (by simp [cFo]), hx]
    rcases kn s k hs hk with z | ⟨z1, z2, z3⟩
    · exact Or.inl z
    · have q : ¬ k = 5 * e + c := fun w => nx (by rw [← w]; exact z2)
      exact Or.inr ⟨z1, Or.inl z2, by rw [z3, ldV_c f264 f265 f24514 (fr2 263 k (by simp [dFo, q])) (fr2 258 s (by simp [dFo]))]⟩
  rw [patH_e fr fr2] at vtp ved vsl vse ven vws vwf vkn ⊢
  exact ⟨vtp, bk, bh, vsl, vse, po, ved, pr, ven, ru, vws, vwf, vkn⟩
set_option maxHeartbeats 4000000 in
theorem eq_form {S : aS} {e n a b : Int} (h : Inv S) : spX11_form [.inr (.inr 0), .inl e, .inl n, .inl a, .inl b] S (fun r T => spX12_form [.inr (.inr 245), .inl e, .inl n, .inl a, .inl b] T (Eqv r)) := by
  have h' := h
  obtain ⟨tp, bk, bh, sl, se, po, ed, pr, en, ru, ws, wf, kn⟩ := h'
  obtain ⟨t1, t2, t3⟩ := tp
  obtain ⟨n1, n2, n3, n4⟩ := en
  have tw := fun (q : 1 ≤ n ∧ n ≤ 8 ∧ n ≤ S.1 1 1) => tk_w (S := S) ⟨t1, t2, t3⟩ (n := n.toNat) (i := 0) (c := n) (by omega) (by omega) (by omega)
  have n6 : ∀ j : Nat, j < 12 → 0 ≤ S.1 260 j ∧ S.1 260 j ≤ 5 := fun j hj => by
    obtain ⟨m1, m2, m3⟩ := n3 j hj
    by_cases q : (j : Int) < S.1 14 4
    · rw [(m2 q).2]; exact m1
    · rw [(m3 (by omega)).2]; omega
  have n7 : (0 ≤ e ∧ e < S.1 14 4) → S.1 260 e.toNat = S.1 15 e.toNat := fun q => ((n3 e.toNat (by omega)).2.1 (by omega)).2
  have hcv : ((1 ≤ a ∧ a ≤ b ∧ b ≤ 2000) ∧ (0 ≤ e ∧ e < S.1 14 4 ∧ S.1 15 e.toNat < 5) ∧ (1 ≤ n ∧ n ≤ 8 ∧ n ≤ S.1 1 1)) ↔ ((0 ≤ e ∧ e < S.1 245 13) ∧ (1 ≤ a ∧ b ≤ 2000 ∧ a ≤ b) ∧ ¬ S.1 260 e.toNat = 5 ∧ (1 ≤ n ∧ n ≤ 8 ∧ n ≤ S.1 245 2)) := by
    rw [n2, t2]
    constructor
    · intro z
      have := n7 ⟨z.2.1.1, z.2.1.2.1⟩
      exact ⟨by omega, by omega, by omega, by omega⟩
    · intro z
      have := n7 z.1
      have := (n6 e.toNat (by omega)).2
      exact ⟨by omega, by omega, by omega⟩
  refine ⟨t1, n1, ru.1, fun j hj => (n3 j hj).1.1, fun q => ⟨by omega, n6, fun _ => ⟨rfl, h⟩, fun z => absurd (hcv.mpr z) q⟩, fun q => ?_⟩
  have tw' := tw q.2.2
  rw [show (((n.toNat : Nat) : Int)) = n from by omega, show ((0 : Nat) : Int) = 0 from rfl] at tw'
  have q' := hcv.mp q
  refine ⟨fun z => ?_, fun z => ?_⟩
  · have e1 : (upI S 1 1 0).1 245 13 = S.1 245 13 := rfl
    have e3 : (upI S 1 1 0).1 245 2 = S.1 245 2 := rfl
    have e4 : (upI S 1 1 0).1 260 = S.1 260 := up_f (by decide)
    have e5 : tkW (upI S 1 1 0) n n 0 = tkW S n n 0 := tkW_c (up_f (by decide)) (up_f (by decide))
    refine ⟨by rw [e1]; omega, by rw [e4]; exact n6, fun y => absurd (by rw [e1, e3, e4]; exact q') y, fun _ => ⟨fun _ => ⟨rfl, tk_0 h⟩, fun y => absurd ?_ y⟩⟩
    rw [e5]
    exact (tw'.resolve_right (fun y => y.1 z)).2
  · obtain ⟨_, w1, w2⟩ := tw'.resolve_left (fun y => z y.1)
    have hw := wE_m w2 (m := 8) (by omega)
    refine ⟨(ruOK_w ru rfl hw).2, ?_⟩
    obtain ⟨⟨a1, a2, a3⟩, ⟨b1, b2, b3⟩, _⟩ := q
    obtain ⟨i, rfl⟩ : ∃ i : Nat, e = i := ⟨e.toNat, by omega⟩
    rw [Int.toNat_natCast] at b3 q' n7 ⊢
    obtain ⟨c, hc⟩ : ∃ c : Nat, S.1 15 i = c := ⟨(S.1 15 i).toNat, by have := (n3 i (by omega)).1; omega⟩
    have hc' : S.1 260 i = c := by rw [n7 ⟨b1, b2⟩]; exact hc
    have hS : (upI S 1 1 0).1 15 i = c := hc
    generalize tpW (S.1 2) (S.1 1 1) n.toNat 0 0 = v at *
    have fC : ∀ x y, ¬ (x = 15 ∧ y = i) → ((x = 80 ∨ x = 16 ∨ x = 17) → ¬ y = 5 * i + c) → ¬ (x = 1 ∧ y = 1) → (fmA (upI S 1 1 0) i v a b).1 x y = S.1 x y := fun x y h1 h2 h5 => by
      rw [fmA_o hS h1 h2]
      by_cases e : x = 1
      · subst e; rw [up_cell (by omega)]
      · rw [up_obj e]
    have e1 := fC 245 13 (by simp) (by simp) (by decide)
    have e3 := fC 245 2 (by simp) (by simp) (by decide)
    have e4 : (fmA (upI S 1 1 0) i v a b).1 260 = S.1 260 := funext fun y => fC 260 y (by simp) (by simp) (by simp)
    have e5 : tkW (fmA (upI S 1 1 0) i v a b) n n 0 = tkW S n n 0 := tkW_c (funext fun y => fC 246 y (by simp) (by simp) (by simp)) (funext fun y => fC 247 y (by simp) (by simp) (by simp))
    refine ⟨by rw [e1]; omega, by rw [e4]; exact n6, fun y => absurd (by rw [e1, e3, e4]; exact q') y, fun _ => ⟨fun y => absurd (e5 ▸ y) w1, fun _ => ⟨oi (by rw [e4, Int.toNat_natCast, hc, hc']), ?_⟩⟩⟩
    rw [e5]
    have hT : (tkS (fmA (upI S 1 1 0) i v a b) n).1 260 i = c := by
      rw [tkS_o (by decide) (by simp), e4]; exact hc'
    have v1 := fmA_v (v := v) (a := a) (b := b) hS
    have v2 := lyM_v (v := tkW S n n 0) (a := a) (b := b) hT
    have v3 := fmA_r (v := v) (a := a) (b := b) hS
    have g : ∀ x y, ¬ x = 260 → ¬ x = 261 → ¬ x = 262 → ¬ x = 247 → ¬ (x = 245 ∧ y = 2) → (lyM (tkS (fmA (upI S 1 1 0) i v a b) n) i (tkW S n n 0) a b).1 x y = (fmA (upI S 1 1 0) i v a b).1 x y := fun x y h1 h2 h3 h4 h5 => by
      rw [lyM_o hT (by omega) (by omega), tkS_o h4 h5]
    have fU : ∀ x y, cFo i c x y = false → (lyM (tkS (fmA (upI S 1 1 0) i v a b) n) i (tkW S n n 0) a b).1 x y = S.1 x y := fun x y hc => by
      unfold cFo at hc
      simp at hc
      rw [lyM_o hT (by omega) (by omega), tkS_o (by omega) (by omega), fC x y (by omega) (by omega) (by omega)]
    have fU2 : ∀ x y, dFo i c x y = false → (lyM (tkS (fmA (upI S 1 1 0) i v a b) n) i (tkW S n n 0) a b).2 x y = S.2 x y := fun x y hc => by
      unfold dFo at hc
      simp at hc
      rw [lyM_2 hT (by omega), tkS_2, fmA_2 hS (by omega)]
      rfl
    have u14 : (lyM (tkS (fmA (upI S 1 1 0) i v a b) n) i (tkW S n n 0) a b).1 14 4 = S.1 14 4 := by
      rw [g 14 4 (by decide) (by decide) (by decide) (by decide) (by decide), fC 14 4 (by simp) (by simp) (by simp)]
    have ur : (lyM (tkS (fmA (upI S 1 1 0) i v a b) n) i (tkW S n n 0) a b).2 (20 + (5 * i + c)) = (fmA (upI S 1 1 0) i v a b).2 (20 + (5 * i + c)) := funext fun y => by
      rw [lyM_2 hT (by omega), tkS_2]
    have f12 : (lyM (tkS (fmA (upI S 1 1 0) i v a b) n) i (tkW S n n 0) a b).2 12 = S.2 12 := funext fun y => fU2 12 y (by simp [dFo])
    have f13 : (lyM (tkS (fmA (upI S 1 1 0) i v a b) n) i (tkW S n n 0) a b).2 13 = S.2 13 := funext fun y => fU2 13 y (by simp [dFo])
    have f112 : (lyM (tkS (fmA (upI S 1 1 0) i v a b) n) i (tkW S n n 0) a b).1 11 2 = S.1 11 2 := fU 11 2 (by simp [cFo])
    have u80 : (lyM (tkS (fmA (upI S 1 1 0) i v a b) n) i (tkW S n n 0) a b).1 80 (5 * i + c) = (fmA (upI S 1 1 0) i v a b).1 80 (5 * i + c) := g 80 _ (by decide) (by decide) (by decide) (by decide) (by simp)
    have u15 : (lyM (tkS (fmA (upI S 1 1 0) i v a b) n) i (tkW S n n 0) a b).1 15 i = c + 1 := by
      rw [g 15 i (by decide) (by decide) (by decide) (by decide) (by simp)]; exact v1.1
    have u16 : (lyM (tkS (fmA (upI S 1 1 0) i v a b) n) i (tkW S n n 0) a b).1 16 (5 * i + c) = a := by
      rw [g 16 _ (by decide) (by decide) (by decide) (by decide) (by simp)]; exact v1.2.1
    have u17 : (lyM (tkS (fmA (upI S 1 1 0) i v a b) n) i (tkW S n n 0) a b).1 17 (5 * i + c) = b := by
      rw [g 17 _ (by decide) (by decide) (by decide) (by decide) (by simp)]; exact v1.2.2
    have u13 : (lyM (tkS (fmA (upI S 1 1 0) i v a b) n) i (tkW S n n 0) a b).1 245 13 = S.1 14 4 := by
      rw [g 245 13 (by decide) (by decide) (by decide) (by decide) (by decide), e1, n2]
    have t11 : (lyM (tkS (fmA (upI S 1 1 0) i v a b) n) i (tkW S n n 0) a b).1 1 1 = 0 := by
      rw [g 1 1 (by decide) (by decide) (by decide) (by decide) (by decide), fmA_o hS (by simp) (by simp), up_hit]
    have t22 : (lyM (tkS (fmA (upI S 1 1 0) i v a b) n) i (tkW S n n 0) a b).1 245 2 = 0 := by
      rw [lyM_o hT (by simp) (by simp), tkS_t]
    generalize lyM (tkS (fmA (upI S 1 1 0) i v a b) n) i (tkW S n n 0) a b = U at *
    obtain ⟨r1, r2⟩ := adA_row (T := U) (R := 20 + (5 * i + c)) (v := v) (o := S.2 12) (f := S.2 13) (g := S.2 (20 + (5 * i + c))) (len := U.1 80 (5 * i + c)) (by have := ru.2.2.1; omega) (by rw [ur, v3.1, f112]; rfl) (by rw [u80, v3.2, f112]; rfl)
    refine inv_form h (e := i) (c := c) (a := a) (b := b) (by omega) hc (by omega) (Or.inl ⟨u14, b2⟩) (by rw [u13, u14]) t11 t22 u15 v2.1 ⟨⟨u16, u17⟩, v2.2.1, v2.2.2.1⟩ ⟨?_, ?_⟩ fU fU2
    · rw [r1, v2.2.2.2]; exact hw
    · rw [f12, f13]; exact r2
set_option maxHeartbeats 4000000 in
theorem eq_entry {S : aS} {n a b : Int} (h : Inv S) : spX11_entry [.inr (.inr 0), .inl n, .inl a, .inl b] S (fun r T => spX12_entry [.inr (.inr 245), .inl n, .inl a, .inl b] T (Eqv r)) := by
  have h' := h
  obtain ⟨tp, bk, bh, sl, se, po, ed, pr, en, ru, ws, wf, kn⟩ := h'
  obtain ⟨t1, t2, t3⟩ := tp
  obtain ⟨n1, n2, n3, n4⟩ := en
  have tw := fun (q : 1 ≤ n ∧ n ≤ 8 ∧ n ≤ S.1 1 1) => tk_w (S := S) ⟨t1, t2, t3⟩ (n := n.toNat) (i := 0) (c := n) (by omega) (by omega) (by omega)
  refine ⟨t1, n1, ru.1, fun j hj => ⟨(n3 j hj).1.1, fun z => ((n3 j hj).2.2 z).1⟩, fun q => ⟨by omega, fun _ => ⟨rfl, h⟩, fun z => absurd (by omega) q⟩, fun q => ?_⟩
  have tw' := tw q.2.2
  rw [show (((n.toNat : Nat) : Int)) = n from by omega, show ((0 : Nat) : Int) = 0 from rfl] at tw'
  refine ⟨fun z => ?_, fun z => ?_⟩
  · have e1 : (upI S 1 1 0).1 245 13 = S.1 245 13 := rfl
    have e3 : (upI S 1 1 0).1 245 2 = S.1 245 2 := rfl
    have e5 : tkW (upI S 1 1 0) n n 0 = tkW S n n 0 := tkW_c (up_f (by decide)) (up_f (by decide))
    refine ⟨by rw [e1]; omega, fun y => absurd (by rw [e1, e3]; omega) y, fun _ => ⟨fun _ => ⟨rfl, tk_0 h⟩, fun y => absurd ?_ y⟩⟩
    rw [e5]
    exact (tw'.resolve_right (fun y => y.1 z)).2
  · obtain ⟨_, w1, w2⟩ := tw'.resolve_left (fun y => z y.1)
    have hw := wE_m w2 (m := 8) (by omega)
    refine ⟨(ruOK_w ru rfl hw).2, ?_⟩
    obtain ⟨⟨a1, a2, a3⟩, q2, q3⟩ := q
    obtain ⟨i, hi⟩ : ∃ i : Nat, S.1 14 4 = i := ⟨(S.1 14 4).toNat, by omega⟩
    have hi12 : i < 12 := by omega
    have c0 := (n3 i hi12).2.2 (by omega)
    generalize tpW (S.1 2) (S.1 1 1) n.toNat 0 0 = v at *
    have hZ : ∃ Z, Z = upI (upI S 1 1 0) 14 4 (S.1 14 4 + 1) := ⟨_, rfl⟩
    obtain ⟨Z, hZ⟩ := hZ
    have zo : ∀ x y, ¬ (x = 1 ∧ y = 1) → ¬ (x = 14 ∧ y = 4) → Z.1 x y = S.1 x y := fun x y h1 h2 => by
      rw [hZ]
      simp only [upI, up2]
      rw [if_neg h2, if_neg h1]
    have z11 : Z.1 1 1 = 0 := by rw [hZ, up_obj (by decide), up_hit]
    have z14 : Z.1 14 4 = S.1 14 4 + 1 := by rw [hZ, up_hit]
    have z22 : Z.2 = S.2 := by rw [hZ]; rfl
    rw [← hZ, hi]
    have hS : Z.1 15 i = ((0 : Nat) : Int) := by rw [zo 15 i (by simp) (by simp)]; exact c0.1
    have fC : ∀ x y, ¬ (x = 15 ∧ y = i) → ((x = 80 ∨ x = 16 ∨ x = 17) → ¬ y = 5 * i + 0) → ¬ (x = 1 ∧ y = 1) → ¬ (x = 14 ∧ y = 4) → (fmA Z i v a b).1 x y = S.1 x y := fun x y h1 h2 h5 h6 => by
      rw [fmA_o hS h1 h2, zo x y h5 h6]
    have e1 := fC 245 13 (by simp) (by simp) (by decide) (by decide)
    have e3 := fC 245 2 (by simp) (by simp) (by decide) (by decide)
    have e5 : tkW (fmA Z i v a b) n n 0 = tkW S n n 0 := tkW_c (funext fun y => fC 246 y (by simp) (by simp) (by simp) (by simp)) (funext fun y => fC 247 y (by simp) (by simp) (by simp) (by simp))
    refine ⟨by rw [e1]; omega, fun y => absurd (by rw [e1, e3]; omega) y, fun _ => ⟨fun y => absurd (e5 ▸ y) w1, fun _ => ⟨oi (by rw [e1, n2, hi]), ?_⟩⟩⟩
    rw [e5]
    have m13 : (tkS (fmA Z i v a b) n).1 245 13 = i := by rw [tkS_o (by decide) (by decide), e1, n2, hi]
    have hU : enM (tkS (fmA Z i v a b) n) (tkW S n n 0) a b = upI (lyM (upI (tkS (fmA Z i v a b) n) 260 i 0) i (tkW S n n 0) a b) 245 13 (i + 1) := by
      unfold enM
      rw [m13, Int.toNat_natCast]
    rw [hU]
    have hT : (upI (tkS (fmA Z i v a b) n) 260 i 0).1 260 i = ((0 : Nat) : Int) := up_hit
    have v1 := fmA_v (v := v) (a := a) (b := b) hS
    have v2 := lyM_v (v := tkW S n n 0) (a := a) (b := b) hT
    have v3 := fmA_r (v := v) (a := a) (b := b) hS
    have g : ∀ x y, ¬ x = 260 → ¬ x = 261 → ¬ x = 262 → ¬ x = 247 → ¬ (x = 245 ∧ (y = 2 ∨ y = 13)) → (upI (lyM (upI (tkS (fmA Z i v a b) n) 260 i 0) i (tkW S n n 0) a b) 245 13 (i + 1)).1 x y = (fmA Z i v a b).1 x y := fun x y h1 h2 h3 h4 h5 => by
      have e : (upI (lyM (upI (tkS (fmA Z i v a b) n) 260 i 0) i (tkW S n n 0) a b) 245 13 (i + 1)).1 x y = (lyM (upI (tkS (fmA Z i v a b) n) 260 i 0) i (tkW S n n 0) a b).1 x y := by
        simp only [upI, up2]
        rw [if_neg (by omega)]
      rw [e, lyM_o hT (by omega) (by omega), up_obj h1, tkS_o h4 (by omega)]
    have fU : ∀ x y, cFo i 0 x y = false → (upI (lyM (upI (tkS (fmA Z i v a b) n) 260 i 0) i (tkW S n n 0) a b) 245 13 (i + 1)).1 x y = S.1 x y := fun x y hc => by
      unfold cFo at hc
      simp at hc
      have e : (upI (lyM (upI (tkS (fmA Z i v a b) n) 260 i 0) i (tkW S n n 0) a b) 245 13 (i + 1)).1 x y = (lyM (upI (tkS (fmA Z i v a b) n) 260 i 0) i (tkW S n n 0) a b).1 x y := by
        simp only [upI, up2]
        rw [if_neg (by omega)]
      have e' : (upI (tkS (fmA Z i v a b) n) 260 i 0).1 x y = (tkS (fmA Z i v a b) n).1 x y := by
        simp only [upI, up2]
        rw [if_neg (by omega)]
      rw [e, lyM_o hT (by omega) (by omega), e', tkS_o (by omega) (by omega), fC x y (by omega) (by omega) (by omega) (by omega)]
    have fU2 : ∀ x y, dFo i 0 x y = false → (upI (lyM (upI (tkS (fmA Z i v a b) n) 260 i 0) i (tkW S n n 0) a b) 245 13 (i + 1)).2 x y = S.2 x y := fun x y hc => by
      unfold dFo at hc
      simp at hc
      have e : (upI (lyM (upI (tkS (fmA Z i v a b) n) 260 i 0) i (tkW S n n 0) a b) 245 13 (i + 1)).2 = (lyM (upI (tkS (fmA Z i v a b) n) 260 i 0) i (tkW S n n 0) a b).2 := rfl
      have e' : (upI (tkS (fmA Z i v a b) n) 260 i 0).2 = (tkS (fmA Z i v a b) n).2 := rfl
      rw [e, lyM_2 hT (by omega), e', tkS_2, fmA_2 hS (by omega), z22]
    have u14 : (upI (lyM (upI (tkS (fmA Z i v a b) n) 260 i 0) i (tkW S n n 0) a b) 245 13 (i + 1)).1 14 4 = S.1 14 4 + 1 := by
      rw [g 14 4 (by decide) (by decide) (by decide) (by decide) (by decide), fmA_o hS (by simp) (by simp), z14]
    have ur : (upI (lyM (upI (tkS (fmA Z i v a b) n) 260 i 0) i (tkW S n n 0) a b) 245 13 (i + 1)).2 (20 + (5 * i + 0)) = (fmA Z i v a b).2 (20 + (5 * i + 0)) := funext fun y => by
      have e : (upI (lyM (upI (tkS (fmA Z i v a b) n) 260 i 0) i (tkW S n n 0) a b) 245 13 (i + 1)).2 = (lyM (upI (tkS (fmA Z i v a b) n) 260 i 0) i (tkW S n n 0) a b).2 := rfl
      have e' : (upI (tkS (fmA Z i v a b) n) 260 i 0).2 = (tkS (fmA Z i v a b) n).2 := rfl
      rw [e, lyM_2 hT (by omega), e', tkS_2]
    have u80 := g 80 (5 * i + 0) (by decide) (by decide) (by decide) (by decide) (by simp)
    have u15 := g 15 i (by decide) (by decide) (by decide) (by decide) (by simp)
    have u16 := g 16 (5 * i + 0) (by decide) (by decide) (by decide) (by decide) (by simp)
    have u17 := g 17 (5 * i + 0) (by decide) (by decide) (by decide) (by decide) (by simp)
    have u13 : (upI (lyM (upI (tkS (fmA Z i v a b) n) 260 i 0) i (tkW S n n 0) a b) 245 13 (i + 1)).1 245 13 = i + 1 := up_hit
    have t11 : (upI (lyM (upI (tkS (fmA Z i v a b) n) 260 i 0) i (tkW S n n 0) a b) 245 13 (i + 1)).1 1 1 = 0 := by
      rw [g 1 1 (by decide) (by decide) (by decide) (by decide) (by decide), fmA_o hS (by simp) (by simp), z11]
    have t22 : (upI (lyM (upI (tkS (fmA Z i v a b) n) 260 i 0) i (tkW S n n 0) a b) 245 13 (i + 1)).1 245 2 = 0 := by
      rw [up_cell (by decide), lyM_o hT (by simp) (by simp), up_obj (by decide), tkS_t]
    have v4 : ∀ x y, ¬ x = 245 → (upI (lyM (upI (tkS (fmA Z i v a b) n) 260 i 0) i (tkW S n n 0) a b) 245 13 (i + 1)).1 x y = (lyM (upI (tkS (fmA Z i v a b) n) 260 i 0) i (tkW S n n 0) a b).1 x y := fun x y hx => up_obj hx
    have w260 := (v4 260 i (by decide)).trans v2.1
    have w261 := (v4 261 (5 * i + 0) (by decide)).trans v2.2.1
    have w262 := (v4 262 (5 * i + 0) (by decide)).trans v2.2.2.1
    have w263 : (upI (lyM (upI (tkS (fmA Z i v a b) n) 260 i 0) i (tkW S n n 0) a b) 245 13 (i + 1)).2 263 (5 * i + 0) = tkW S n n 0 := v2.2.2.2
    rw [v1.1] at u15
    rw [v1.2.1] at u16
    rw [v1.2.2] at u17
    generalize upI (lyM (upI (tkS (fmA Z i v a b) n) 260 i 0) i (tkW S n n 0) a b) 245 13 (i + 1) = U at *
    have f12 : U.2 12 = S.2 12 := funext fun y => fU2 12 y (by simp [dFo])
    have f13 : U.2 13 = S.2 13 := funext fun y => fU2 13 y (by simp [dFo])
    have f112 : U.1 11 2 = S.1 11 2 := fU 11 2 (by simp [cFo])
    have z112 : Z.1 11 2 = S.1 11 2 := zo 11 2 (by decide) (by decide)
    rw [z112, z22] at v3
    obtain ⟨r1, r2⟩ := adA_row (T := U) (R := 20 + (5 * i + 0)) (v := v) (o := S.2 12) (f := S.2 13) (g := S.2 (20 + (5 * i + 0))) (len := U.1 80 (5 * i + 0)) (by have := ru.2.2.1; omega) (by rw [ur, v3.1, f112]) (by rw [u80, v3.2, f112])
    refine inv_form h (e := i) (c := 0) (a := a) (b := b) (by omega) c0.1 (by omega) (Or.inr ⟨u14, hi.symm⟩) (by rw [u13, u14, hi]) t11 t22 u15 w260 ⟨⟨u16, u17⟩, w261, w262⟩ ⟨?_, ?_⟩ fU fU2
    · rw [r1, w263]; exact hw
    · rw [f12, f13]; exact r2

