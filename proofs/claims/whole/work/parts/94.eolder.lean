/-! EQUAL ANSWERS: older, flaw, told -/
theorem wit_0 {S : aS} (h : Inv S) {t s : Nat} (hs : (s : Int) < S.1 81 4) : allS S t s ↔ witP S t 0 s := by
  have se := h.2.2.2.2.1
  obtain ⟨⟨c1, c2, c3⟩, c4, c5⟩ := h.2.2.2.1.2.2 s hs
  have h84 : S.1 84 s = -1 ∨ uS S (S.1 84 s) := by
    rcases c5 with z | ⟨_, z⟩
    · exact Or.inl z.2
    · exact z.imp id fun y => y.1
  unfold allS witP
  rw [c3, wt_eq se 40 _ h84]
  constructor
  · intro z; exact ⟨z.1, Or.inr ⟨rfl, z⟩⟩
  · rintro ⟨_, z | z⟩
    · exact absurd rfl z.1
    · exact z.2
theorem wit_1 {S : aS} (h : Inv S) {t s : Nat} (hs : (s : Int) < S.1 81 4) : ownS S t s ↔ witP S t 1 s := by
  obtain ⟨⟨c1, c2, c3⟩, c4, c5⟩ := h.2.2.2.1.2.2 s hs
  unfold ownS witP
  rw [c3]
  constructor
  · intro z; exact ⟨by omega, Or.inl ⟨by decide, z⟩⟩
  · rintro ⟨_, z | z⟩
    · exact z.2
    · exact absurd z.1 (by decide)
theorem fF_e {S : aS} (h : Inv S) {s : Nat} (hs : (s : Int) < S.1 81 4) : fF S s = S.1 6 (S.1 82 s).toNat ∧ fL S s = S.1 7 (S.1 82 s).toNat := by
  obtain ⟨⟨c1, c2, c3⟩, c4, c5⟩ := h.2.2.2.1.2.2 s hs
  have hb := (h.2.1.2.2.2.2.1 (S.1 82 s).toNat (by omega)).1
  unfold fF fL
  rw [c1]
  exact ⟨hb.2.2.1, hb.2.2.2⟩
theorem yr_e {S : aS} (bk : iBk S) {b : Nat} (hb : (b : Int) < S.1 3 7) : 1 ≤ S.1 6 b ∧ S.1 6 b ≤ S.1 7 b ∧ S.1 7 b ≤ 2000 := by
  obtain ⟨⟨e1, e2, e3, e4⟩, e5, e6, e7⟩ := bk.2.2.2.2.1 b hb
  have := bk.2.2.2.2.2.2.1.1 b (by rw [bk.2.2.1]; exact hb)
  omega
theorem mnS {S : aS} (h : Inv S) {p : Nat → Prop} {f : Nat → Int} {g : Nat → Int} {x : Int} {q : Nat → Prop} (hx : setB S p (S.1 81 4).toNat x) (hpq : ∀ s : Nat, (s : Int) < S.1 81 4 → (p s ↔ q s)) (hfg : ∀ s : Nat, (s : Int) < S.1 81 4 → g s = f (S.1 82 s).toNat) : mn f (fun k => inS (k : Int) x) (S.1 3 7).toNat = mn g q (S.1 245 12).toNat ∧ mx f (fun k => inS (k : Int) x) (S.1 3 7).toNat = mx g q (S.1 245 12).toNat := by
  have s1 := h.2.2.2.1.1
  have s2 := h.2.2.2.1.2.1
  have b1 := h.2.1.1
  have a1 : ∀ k, k < (S.1 3 7).toNat → inS (k : Int) x → ∃ j, j < (S.1 245 12).toNat ∧ q j ∧ g j = f k := fun k hk hi => by
    obtain ⟨s, z1, z2, z3⟩ := (hx.1 k (by omega)).mp hi
    refine ⟨s, by omega, (hpq s (by omega)).mp z2, ?_⟩
    rw [hfg s (by omega), z3]
    simp
  have a2 : ∀ j, j < (S.1 245 12).toNat → q j → ∃ k, k < (S.1 3 7).toNat ∧ inS (k : Int) x ∧ f k = g j := fun j hj hq => by
    have c4 := (h.2.2.2.1.2.2 j (by omega)).2.1
    refine ⟨(S.1 82 j).toNat, by omega, (hx.1 _ (by omega)).mpr ⟨j, by omega, (hpq j (by omega)).mpr hq, by omega⟩, ?_⟩
    rw [hfg j (by omega)]
  exact ⟨mn_eq a1 a2, mx_eq a1 a2⟩
theorem wc_le {S : aS} (h : Inv S) {t al : Int} : 0 ≤ wcM S t al ∧ wcM S t al ≤ 120 := by
  have s1 := h.2.2.2.1.1
  have s2 := h.2.2.2.1.2.1
  have := cnt_b (fun j => cb (witP S t al j)) (S.1 245 12).toNat
  unfold wcM
  omega
theorem wok_I {S : aS} (h : Inv S) : wok S := by
  have s1 := h.2.2.2.1.1
  have s2 := h.2.2.2.1.2.1
  have b1 := h.2.1.1
  refine ⟨by omega, fun s hs => ?_⟩
  obtain ⟨⟨c1, c2, c3⟩, c4, c5⟩ := h.2.2.2.1.2.2 s (by omega)
  have y := yr_e h.2.1 (b := (S.1 82 s).toNat) (by omega)
  obtain ⟨e1, e2⟩ := fF_e h (s := s) (by omega)
  rw [e1, e2, c1, c3]
  refine ⟨by omega, by omega, by omega, chn_I h.2.2.2.2.1 ?_⟩
  rcases c5 with z | ⟨_, z⟩
  · exact Or.inl z.2
  · exact z.imp id fun y => y.1
def gaG (S T : aS) : Prop := ((∀ a, ¬ (212 ≤ a ∧ a ≤ 218) → T.1 a = S.1 a) ∧ T.2 = S.2) ∧ ∀ t : Nat, uS S t → T.1 212 t = wcM S t 1 ∧ T.1 214 t = wcM S t 0 ∧ setB S (witP S t 1) (S.1 81 4).toNat (T.1 213 t) ∧ setB S (witP S t 0) (S.1 81 4).toNat (T.1 215 t) ∧ T.1 216 t = wmF S t 0 ∧ T.1 217 t = wmL S t 0 ∧ T.1 218 t = paM S t
theorem setB_c {S : aS} {p q : Nat → Prop} {i : Nat} {x : Int} (hpq : ∀ s, s < i → (p s ↔ q s)) (h : setB S p i x) : setB S q i x := by
  refine ⟨fun b hb => (h.1 b hb).trans ?_, h.2⟩
  exact ⟨fun ⟨s, a, c, d⟩ => ⟨s, a, (hpq s a).mp c, d⟩, fun ⟨s, a, c, d⟩ => ⟨s, a, (hpq s a).mpr c, d⟩⟩
theorem wm_no {S : aS} {t al : Int} (h : wcM S t al = 0) : wmF S t al = 2001 ∧ wmL S t al = 2001 := ⟨mn_no (cnt_no h), mn_no (cnt_no h)⟩
theorem wm_ye {S : aS} (h : Inv S) {t al : Int} (hc : ¬ wcM S t al = 0) : wmF S t al ≤ 2000 ∧ wmL S t al ≤ 2000 := by
  have w := wok_I h
  obtain ⟨j, j1, j2⟩ := cnt_ex (p := fun j => cb (witP S t al j)) (n := (S.1 245 12).toNat) (by have := (wc_le h (t := t) (al := al)).1; unfold wcM at hc this; omega)
  have j3 := cb_e j2
  have := w.2 j (by omega)
  have a1 := mn_lb (f := fF S) (p := witP S t al) (n := (S.1 245 12).toNat) j j1 j3
  have a2 := mn_lb (f := fL S) (p := witP S t al) (n := (S.1 245 12).toNat) j j1 j3
  unfold wmF wmL
  omega
theorem ga_T {S : aS} (h : Inv S) : gaG S (gaT S) := by
  have s1 := h.2.2.2.1.1
  have s2 := h.2.2.2.1.2.1
  have b1 := h.2.1.1
  have se := h.2.2.2.2.1
  obtain ⟨⟨f1, f2⟩, f3⟩ := ga_gS h (n := (S.1 81 4).toNat) (i := 0) (Nat.zero_add _) (ga_gZ (S := S))
  have eT : gaT S = gP (gF (gS (S.1 81 4).toNat 0 (gZ S))) := rfl
  generalize gS (S.1 81 4).toNat 0 (gZ S) = G at *
  have e9 : G.1 209 = S.1 209 := f1 209 (by decide)
  have e10 : G.1 210 = S.1 210 := f1 210 (by decide)
  have e3 : G.1 3 = S.1 3 := f1 3 (by decide)
  have e6 : G.1 6 = S.1 6 := f1 6 (by decide)
  have e7 : G.1 7 = S.1 7 := f1 7 (by decide)
  have fr : ∀ a, ¬ (216 ≤ a ∧ a ≤ 218) → (gP (gF G)).1 a = G.1 a := fun a ha => by
    funext b
    unfold gP gF
    simp only [stA]
    rw [if_neg (by omega), if_neg (by omega), if_neg (by omega)]
  have hs0 : ∀ t : Nat, setB S (allS S t) (S.1 81 4).toNat (G.1 215 t) → setB S (witP S t 0) (S.1 81 4).toNat (G.1 215 t) := fun t => setB_c (fun s hs => wit_0 h (by omega))
  have k16 : ∀ t : Nat, uS S t → (gF G).1 216 t = wmF S t 0 ∧ (gF G).1 217 t = wmL S t 0 := fun t ht => by
    have ht' := ht
    unfold uS at ht'
    obtain ⟨_, _, _, g4⟩ := f3 t ht
    have hT : t < 40 ∧ hasT (G.1 209) (t : Int) := ⟨by omega, by rw [e9]; exact ht⟩
    have m1 := (mnS h (f := S.1 6) (g := fF S) (hs0 t g4) (fun s _ => Iff.rfl) (fun s hs => (fF_e h hs).1)).1
    have m2 := (mnS h (f := S.1 7) (g := fL S) (hs0 t g4) (fun s _ => Iff.rfl) (fun s hs => (fF_e h hs).2)).1
    constructor
    · unfold gF
      simp only [stA]
      rw [if_neg (by decide), if_pos trivial, if_pos hT, e6, e3]
      exact m1
    · unfold gF
      simp only [stA]
      rw [if_pos trivial, if_pos hT, e7, e3]
      exact m2
  rw [eT]
  refine ⟨⟨fun a ha => by rw [fr a (by omega), f1 a (by omega)], f2⟩, fun t ht => ?_⟩
  have ht' := ht
  unfold uS at ht'
  obtain ⟨g1, g2, g3, g4⟩ := f3 t ht
  obtain ⟨g5, g6⟩ := k16 t ht
  have hT : t < 40 ∧ hasT ((gF G).1 209) (t : Int) := ⟨by omega, by
    have : (gF G).1 209 = G.1 209 := rfl
    rw [this, e9]; exact ht⟩
  refine ⟨?_, ?_, ?_, ?_, ?_, ?_, ?_⟩
  · rw [fr 212 (by decide), g1]
    unfold wcM
    rw [s2]
    exact cnt_c (fun s hs => cb_c (wit_1 h (by omega)))
  · rw [fr 214 (by decide), g2]
    unfold wcM
    rw [s2]
    exact cnt_c (fun s hs => cb_c (wit_0 h (by omega)))
  · rw [fr 213 (by decide)]
    exact setB_c (fun s hs => wit_1 h (by omega)) g3
  · rw [fr 215 (by decide)]
    exact hs0 t g4
  · exact g5
  · exact g6
  · have e18 : (gP (gF G)).1 218 t = cnt (fun m => cb (bsd (gF G) m t ∧ ahd (gF G) m t)) 40 + 1 := by
      unfold gP
      simp only [stA]
      rw [if_pos trivial, if_pos hT]
    rw [e18]
    unfold paM
    congr 1
    refine cnt_c (fun m hm => cb_c ?_)
    have q9 : (gF G).1 209 = S.1 209 := e9
    have q10 : (gF G).1 210 = S.1 210 := e10
    have ut := us_e se ht
    simp only [Int.toNat_natCast] at ut
    have mt' := (us_eq se (t := (t : Int))).mpr ht
    simp only [Int.toNat_natCast] at mt'
    unfold bsd plM
    simp only [Int.toNat_natCast]
    rw [q9, q10]
    have core : uS S (m : Int) → (ahd (gF G) m t ↔ (¬ (m : Int) = (t : Int) ∧ ahM S (m : Int) (t : Int))) := fun hm' => by
      obtain ⟨m5, m6⟩ := k16 m hm'
      unfold ahd ahM
      rw [m5, m6, g5, g6]
      have c1 := wc_le h (t := (m : Int)) (al := 0)
      have c2 := wc_le h (t := (t : Int)) (al := 0)
      have d1 : wcM S m 0 = 0 → wmF S m 0 = 2001 ∧ wmL S m 0 = 2001 := fun z => wm_no z
      have d2 : wcM S t 0 = 0 → wmF S t 0 = 2001 ∧ wmL S t 0 = 2001 := fun z => wm_no z
      have d3 : ¬ wcM S m 0 = 0 → wmF S m 0 ≤ 2000 ∧ wmL S m 0 ≤ 2000 := fun z => wm_ye h z
      have d4 : ¬ wcM S t 0 = 0 → wmF S t 0 ≤ 2000 ∧ wmL S t 0 ≤ 2000 := fun z => wm_ye h z
      have d5 : m = t → wmF S m 0 = wmF S t 0 ∧ wmL S m 0 = wmL S t 0 := fun z => by rw [z]; exact ⟨rfl, rfl⟩
      generalize wcM S m 0 = cm at *
      generalize wcM S t 0 = ct at *
      generalize wmF S m 0 = fm at *
      generalize wmF S t 0 = ft at *
      generalize wmL S m 0 = lm at *
      generalize wmL S t 0 = lt at *
      omega
    by_cases hm' : uS S (m : Int)
    · have um := us_e se hm'
      simp only [Int.toNat_natCast] at um
      have mm := (us_eq se (t := (m : Int))).mpr hm'
      simp only [Int.toNat_natCast] at mm
      have hmu := hm'
      unfold uS at hmu
      simp only [Int.toNat_natCast] at hmu ht'
      rw [core hm', um.1, um.2.1, ut.1, ut.2.1]
      constructor
      · rintro ⟨⟨_, _, z3, z4⟩, z5, z6⟩; exact ⟨z5, mm.2.2, z3, z4, z6⟩
      · rintro ⟨z5, _, z3, z4, z6⟩; exact ⟨⟨hmu, ht', z3, z4⟩, z5, z6⟩
    · constructor
      · rintro ⟨⟨z1, _⟩, _⟩
        exact absurd (show uS S (m : Int) from ⟨by omega, by omega, by rw [Int.toNat_natCast]; exact z1.2.2⟩) hm'
      · rintro ⟨_, z2, _⟩
        exact absurd ((us_eq se (t := (m : Int))).mp ⟨by omega, by omega, by rw [Int.toNat_natCast]; exact z2⟩) hm'
def cGa (a _b : Nat) : Bool := decide (212 ≤ a) && decide (a ≤ 218)
theorem ga_fr {S T : aS} (h : gaG S T) : ∀ a b, cGa a b = false → T.1 a b = S.1 a b := fun a b hc => by
  unfold cGa at hc
  simp at hc
  rw [h.1.1 a (by omega)]
theorem ga_Inv {S T : aS} (h : Inv S) (hg : gaG S T) : Inv T := by
  have ved : iEd T := iEd_c (by rw [hg.1.1 222 (by decide)]) (by rw [hg.1.1 245 (by decide)]) (hg.1.1 223 (by decide)) (hg.1.1 271 (by decide)) (hg.1.1 272 (by decide)) (hg.1.1 273 (by decide)) (fun e he => ⟨hg.1.1 _ (by omega), hg.1.1 _ (by omega)⟩) h.2.2.2.2.2.2.1
  obtain ⟨tp, bk, bh, sl, se, po, ed, pr, en, ru, ws, wf, kn⟩ := h
  rw [pat_e (ga_fr hg) hg.1.2] at ved ⊢
  exact ⟨tp, bk, bh, sl, se, po, ved, pr, en, ru, ws, wf, kn⟩
theorem sv_Inv {S : aS} {v : Nat → Int} (h : Inv S) : Inv (stV S v) := by
  obtain ⟨tp, bk, bh, sl, se, po, ed, pr, en, ru, ws, wf, kn⟩ := h
  have ved : iEd (stV S v) := iEd_c (S := S) (T := stV S v) rfl rfl rfl rfl rfl rfl (fun e he => ⟨stV_a (by omega), stV_a (by omega)⟩) ed
  exact ⟨tp, bk, bh, sl, se, po, ved, pr, en, ru, ws, wf, kn⟩
theorem gaP_I {S : aS} (h : Inv S) : gaP S := by
  have s1 := h.2.2.2.1.1
  have b1 := h.2.1.1
  exact ⟨s1.1, s1.2, b1.1, b1.2⟩
theorem so_e {S T : aS} (h : Inv S) (hg : gaG S T) {a b : Nat} {al x y : Int} (hx : setB S (witP S a al) (S.1 81 4).toNat x) (hy : setB S (witP S b al) (S.1 81 4).toNat y) : sOld T x y ↔ (wmL S a al < wmF S b al ∨ aoM S a b al) := by
  have s1 := h.2.2.2.1.1
  have s2 := h.2.2.2.1.2.1
  have b1 := h.2.1.1
  have bh := h.2.2.1
  have m1 := (mnS h (f := S.1 7) (g := fL S) hx (fun s _ => Iff.rfl) (fun s hs => (fF_e h hs).2)).1
  have m2 := (mnS h (f := S.1 6) (g := fF S) hy (fun s _ => Iff.rfl) (fun s hs => (fF_e h hs).1)).1
  unfold sOld
  rw [hg.1.1 7 (by decide), hg.1.1 6 (by decide), hg.1.1 3 (by decide), hg.1.1 8 (by decide), m1, m2]
  show (wmL S a al < wmF S b al ∨ _) ↔ _
  have key : (∃ k : Nat, k < (S.1 3 7).toNat ∧ inS (k : Int) x ∧ bAnd y (bXor (S.1 8 k) (-1)) = 0) ↔ aoM S a b al := by
    constructor
    · rintro ⟨k, k1, k2, k3⟩
      obtain ⟨s, z1, z2, z3⟩ := (hx.1 k (by omega)).mp k2
      refine ⟨s, by omega, z2, fun t ht hw => ?_⟩
      have ct := h.2.2.2.1.2.2 t (by omega)
      have cs := h.2.2.2.1.2.2 s (by omega)
      have ib := (sub_t hy.2).mp k3 (S.1 82 t).toNat (by omega) ((hy.1 _ (by omega)).mpr ⟨t, by omega, hw, by omega⟩)
      have iz := (bh.1 k (S.1 82 t).toNat (by omega) (by omega)).mp ib
      unfold zz at iz
      rw [cs.1.1, ct.1.1, z3, show (30 * (k : Int) + S.1 82 t).toNat = 30 * k + (S.1 82 t).toNat from by omega]
      exact iz
    · rintro ⟨s, s3, z1, z2⟩
      have cs := h.2.2.2.1.2.2 s (by omega)
      refine ⟨(S.1 82 s).toNat, by omega, (hx.1 _ (by omega)).mpr ⟨s, by omega, z1, by omega⟩, (sub_t hy.2).mpr (fun b hb hi => ?_)⟩
      obtain ⟨t, t1, t2, t3⟩ := (hy.1 b hb).mp hi
      have ct := h.2.2.2.1.2.2 t (by omega)
      refine (bh.1 _ b (by omega) hb).mpr ?_
      have iz := z2 t (by omega) t2
      rw [cs.1.1, ct.1.1, t3, show (30 * S.1 82 s + (b : Int)).toNat = 30 * (S.1 82 s).toNat + b from by omega] at iz
      exact iz
  rw [key]
set_option maxHeartbeats 4000000 in
theorem eq_older {S : aS} {a b : Int} (h : Inv S) : spX11_older [.inr (.inr 0), .inl a, .inl b] S (fun r T => spX12_older [.inr (.inr 245), .inl a, .inl b] T (Eqv r)) := by
  have se := h.2.2.2.2.1
  have ea := us_eq se (t := a)
  have eb := us_eq se (t := b)
  have hg := ga_T h
  have hT := ga_Inv h hg
  refine ⟨gaP_I h, fun q => ⟨wok_I h, fun _ => ⟨rfl, h⟩, fun z => absurd ⟨ea.mp z.1, eb.mp z.2⟩ q⟩, fun q => ?_⟩
  obtain ⟨q1, q2⟩ := q
  have ca : ((a.toNat : Nat) : Int) = a := by have := q1.1; omega
  have cbb : ((b.toNat : Nat) : Int) = b := by have := q2.1; omega
  have ga := hg.2 a.toNat (by rw [ca]; exact q1)
  have gb := hg.2 b.toNat (by rw [cbb]; exact q2)
  obtain ⟨_, a14, _, a15, _⟩ := ga
  obtain ⟨_, b14, _, b15, _⟩ := gb
  have o1 := so_e h hg a15 b15
  have o2 := so_e h hg b15 a15
  rw [ca, cbb] at o1 o2
  rw [ca] at a14
  rw [cbb] at b14
  generalize gaT S = T at *
  have hp := pat_e (ga_fr hg) hg.1.2
  have mc : ∀ x al, wcM T x al = wcM S x al := fun x al => by rw [hp]; rfl
  have mo : ∀ x y al, odM T x y al ↔ odM S x y al := fun x y al => by rw [hp]; exact Iff.rfl
  have h66 : T.1 266 = S.1 266 := hg.1.1 266 (by decide)
  have hh : (0 ≤ a ∧ a < 40 ∧ ¬ T.1 266 a.toNat = 0) ∧ (0 ≤ b ∧ b < 40 ∧ ¬ T.1 266 b.toNat = 0) := by rw [h66]; exact ⟨ea.mpr q1, eb.mpr q2⟩
  have c1 := wc_le h (t := a) (al := 0)
  have c2 := wc_le h (t := b) (al := 0)
  have p1 : ¬ (wcM S a 0 = 0 ∨ wcM S b 0 = 0) → (odM T a b 0 ↔ sOld T (T.1 215 a.toNat) (T.1 215 b.toNat)) := fun z => by
    rw [mo, o1]
    unfold odM
    exact ⟨fun y => y.2.2, fun y => ⟨by omega, by omega, y⟩⟩
  have p2 : ¬ (wcM S a 0 = 0 ∨ wcM S b 0 = 0) → (odM T b a 0 ↔ sOld T (T.1 215 b.toNat) (T.1 215 a.toNat)) := fun z => by
    rw [mo, o2]
    unfold odM
    exact ⟨fun y => y.2.2, fun y => ⟨by omega, by omega, y⟩⟩
  rw [a14, b14]
  refine ⟨fun z => ⟨wok_I hT, fun y => absurd hh y, fun _ v => ⟨fun _ => ⟨rfl, sv_Inv hT⟩, fun y => absurd (by rw [mc, mc]; exact z) y⟩⟩, fun z => ⟨fun y => ⟨wok_I hT, fun x => absurd hh x, fun _ v => ⟨fun x => absurd (by rw [← mc, ← mc]; exact x) z, fun _ => ⟨fun _ => ⟨rfl, sv_Inv hT⟩, fun x => absurd ((p1 z).mpr y) x, fun x => absurd ((p1 z).mpr y) x⟩⟩⟩, fun y y2 => ⟨wok_I hT, fun x => absurd hh x, fun _ v => ⟨fun x => absurd (by rw [← mc, ← mc]; exact x) z, fun _ => ⟨fun x => absurd ((p1 z).mp x) y, fun _ _ => ⟨rfl, sv_Inv hT⟩, fun _ x => absurd ((p2 z).mpr y2) x⟩⟩⟩, fun y y2 => ⟨wok_I hT, fun x => absurd hh x, fun _ v => ⟨fun x => absurd (by rw [← mc, ← mc]; exact x) z, fun _ => ⟨fun x => absurd ((p1 z).mp x) y, fun _ x => absurd ((p2 z).mp x) y2, fun _ _ => ⟨rfl, sv_Inv hT⟩⟩⟩⟩⟩⟩
theorem fl_e {S T : aS} (h : Inv S) (hg : gaG S T) (k : Nat) : cb (flP T ((k : Int) / 64) ((k : Int) % 64)) = flB T k := by
  have se := h.2.2.2.2.1
  refine cb_c ?_
  have ka : ((k : Int) / 64) = ((k / 64 : Nat) : Int) := by omega
  have kb : ((k : Int) % 64) = ((k % 64 : Nat) : Int) := by omega
  rw [ka, kb]
  generalize k / 64 = a
  generalize k % 64 = b
  have hp := pat_e (ga_fr hg) hg.1.2
  have mo : odM T a b 1 ↔ odM S a b 1 := by rw [hp]; exact Iff.rfl
  unfold flP flM
  simp only [Int.toNat_natCast]
  rw [mo, hg.1.1 209 (by decide), hg.1.1 210 (by decide), hg.1.1 266 (by decide), hg.1.1 268 (by decide)]
  by_cases q1 : uS S (a : Int)
  · by_cases q2 : uS S (b : Int)
    · obtain ⟨a12, _, a13, _⟩ := hg.2 a q1
      obtain ⟨b12, _, b13, _⟩ := hg.2 b q2
      have o1 := so_e h hg a13 b13
      have e1 := (us_eq se).mpr q1
      have e2 := (us_eq se).mpr q2
      have u1 := q1
      have u2 := q2
      unfold uS at u1 u2
      simp only [Int.toNat_natCast] at e1 e2 u1 u2
      rw [o1, a12, b12, wt_eq se 40 _ (Or.inr q1)]
      unfold odM
      constructor
      · rintro ⟨z1, ⟨z2, z3⟩, ⟨z4, z5⟩, z6, z7⟩
        exact ⟨by omega, by omega, z1, e1.2.2, e2.2.2, z6, z3, z5, z7⟩
      · rintro ⟨z1, z2, z3, z4, z5, z6, z7, z8, z9⟩
        exact ⟨z3, ⟨u1, z7⟩, ⟨u2, z8⟩, z6, z9⟩
    · constructor
      · rintro ⟨_, _, ⟨z, _⟩, _⟩
        exact absurd (show uS S (b : Int) from ⟨z.1, z.2.1, by rw [Int.toNat_natCast]; exact z.2.2⟩) q2
      · rintro ⟨_, z2, _, _, z5, _⟩
        exact absurd ((us_eq se).mp ⟨z2.1, z2.2, by rw [Int.toNat_natCast]; exact z5⟩) q2
  · constructor
    · rintro ⟨_, ⟨z, _⟩, _⟩
      exact absurd (show uS S (a : Int) from ⟨z.1, z.2.1, by rw [Int.toNat_natCast]; exact z.2.2⟩) q1
    · rintro ⟨z1, _, _, z4, _⟩
      exact absurd ((us_eq se).mp ⟨z1.1, z1.2, by rw [Int.toNat_natCast]; exact z4⟩) q1
theorem nth_E {p q : Nat → Bool} {x : Int} (hx : 0 ≤ x) (hpq : ∀ k, p k = q k) : ∀ {n i : Nat} {c : Int}, nth p x n i c = nthE q x n i c
  | 0, i, c => by unfold nth nthE; rw [if_neg (by omega)]
  | n + 1, i, c => by
    unfold nth nthE
    rw [hpq i, nth_E hx hpq, nth_E hx hpq]
theorem nth_neg {p : Nat → Bool} {x : Int} (hx : x < 0) : ∀ {n i : Nat} {c : Int}, 0 ≤ c → nth p x n i c = -1
  | 0, i, c, _ => rfl
  | n + 1, i, c, hc => by
    unfold nth
    rw [if_neg (show ¬ c = x by omega), nth_neg hx (by omega), nth_neg hx hc]
    split <;> rfl
theorem nthE_cnt {p q : Nat → Bool} (hpq : ∀ k, p k = q k) : ∀ {n i : Nat} {c : Int}, 0 ≤ c → nthE q (-1) n i c = c + cf p n i
  | 0, i, c, _ => by unfold nthE cf; rw [if_pos rfl]; omega
  | n + 1, i, c, hc => by
    unfold nthE cf
    rw [if_neg (show ¬ c = -1 by omega), nthE_cnt hpq (by omega), nthE_cnt hpq hc, hpq i]
    split <;> omega
theorem cf_cnt {p : Nat → Bool} : ∀ {n i : Nat}, cnt p i + cf p n i = cnt p (i + n)
  | 0, i => by unfold cf; rw [Int.add_zero, Nat.add_zero]
  | n + 1, i => by
    have ih := cf_cnt (p := p) (n := n) (i := i + 1)
    rw [show i + (n + 1) = i + 1 + n from by omega, ← ih]
    have e : cnt p (i + 1) = cnt p i + (if p i = true then 1 else 0) := rfl
    have e2 : cf p (n + 1) i = (if p i = true then 1 else 0) + cf p n (i + 1) := rfl
    rw [e, e2]
    omega
set_option maxHeartbeats 4000000 in
theorem eq_flaw {S : aS} {x : Int} (h : Inv S) : spX11_flaw [.inr (.inr 0), .inl x] S (fun r T => spX12_flaw [.inr (.inr 245), .inl x] T (Eqv r)) := by
  have hg := ga_T h
  have hT := ga_Inv h hg
  have fe := fl_e h hg
  refine ⟨gaP_I h, ?_⟩
  generalize gaT S = T at *
  refine ⟨wok_I hT, chA_I hT.2.2.2.2.1, fun q => ⟨oi (nth_neg q (Int.le_refl _)), hT⟩, fun q v => ⟨oi (nth_E q fe), sv_Inv hT⟩⟩
