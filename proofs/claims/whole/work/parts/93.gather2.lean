/-! WHAT GATHER GATHERS, in the reference's words -/
def ownS (S : aS) (t s : Nat) : Prop := S.1 84 s = (t : Int)
def allS (S : aS) (t s : Nat) : Prop := wth (S.1 209) (S.1 210) t 40 (S.1 84 s)
def setB (S : aS) (p : Nat → Prop) (i : Nat) (x : Int) : Prop := (∀ b : Nat, b < 30 → (inS (b : Int) x ↔ ∃ s, s < i ∧ p s ∧ S.1 82 s = (b : Int))) ∧ ∀ b : Nat, 30 ≤ b → (nB x).testBit b = false
def gaI (S : aS) (i : Nat) (X : aS) : Prop := ((∀ a, ¬ (212 ≤ a ∧ a ≤ 215) → X.1 a = S.1 a) ∧ X.2 = S.2) ∧ ∀ t : Nat, uS S t → X.1 212 t = cnt (fun s => cb (ownS S t s)) i ∧ X.1 214 t = cnt (fun s => cb (allS S t s)) i ∧ setB S (ownS S t) i (X.1 213 t) ∧ setB S (allS S t) i (X.1 215 t)
theorem setB_no {S : aS} {p : Nat → Prop} {i : Nat} {x : Int} (h : setB S p i x) (hn : ¬ p i) : setB S p (i + 1) x := by
  refine ⟨fun b hb => (h.1 b hb).trans ?_, h.2⟩
  constructor
  · rintro ⟨s, a, c⟩; exact ⟨s, by omega, c⟩
  · rintro ⟨s, a, c, d⟩
    by_cases e : s = i
    · subst e; exact absurd c hn
    · exact ⟨s, by omega, c, d⟩
theorem setB_ye {S : aS} {p : Nat → Prop} {i : Nat} {x : Int} (h : setB S p i x) (hy : p i) (hr : 0 ≤ S.1 82 i ∧ S.1 82 i < 30) : setB S p (i + 1) (bOr x (bShl 1 (S.1 82 i))) := by
  have ec : S.1 82 i = (((S.1 82 i).toNat : Nat) : Int) := by omega
  refine ⟨fun b hb => ?_, fun b hb => ?_⟩
  · rw [ec, inS_or hb (by omega), h.1 b hb]
    constructor
    · rintro (⟨s, a, c⟩ | z)
      · exact ⟨s, by omega, c⟩
      · exact ⟨i, by omega, hy, by omega⟩
    · rintro ⟨s, a, c, d⟩
      by_cases e : s = i
      · subst e; exact Or.inr (by omega)
      · exact Or.inl ⟨s, by omega, c, d⟩
  · rw [ec, nB_or, shl_f ⟨(S.1 82 i).toNat, by omega⟩, Nat.testBit_or, h.2 b hb, Nat.testBit_two_pow]
    simp
    omega
theorem asl_o {S : aS} {t x : Int} {a : Nat} (h : ¬ (212 ≤ a ∧ a ≤ 215)) : (asl S t x).1 a = S.1 a := by
  funext b
  unfold asl
  split
  · unfold stC
    simp only [stA, upI, up2]
    rw [if_neg (by omega), if_neg (by omega), if_neg (by omega), if_neg (by omega)]
  · rfl
theorem asl_2 {S : aS} {t x : Int} : (asl S t x).2 = S.2 := by
  unfold asl
  split <;> rfl
theorem ga_st {S X : aS} (h : Inv S) {i : Nat} (hi : (i : Int) < S.1 81 4) (hX : gaI S i X) : gaI S (i + 1) (asl X (X.1 84 i) (bShl 1 (X.1 82 i))) := by
  obtain ⟨tp, bk, bh, sl, se, po, ed, pr, en, ru, ws, wf, kn⟩ := h
  obtain ⟨⟨f1, f2⟩, f3⟩ := hX
  obtain ⟨rk, hrk⟩ := se.2
  have s1 := sl.1
  have b1 := bk.1
  obtain ⟨c1, c2, c3⟩ := sl.2.2 i hi
  have e84 : X.1 84 i = S.1 84 i := by rw [f1 84 (by decide)]
  have e82 : X.1 82 i = S.1 82 i := by rw [f1 82 (by decide)]
  have e9 : X.1 209 = S.1 209 := f1 209 (by decide)
  have e10 : X.1 210 = S.1 210 := f1 210 (by decide)
  refine ⟨⟨fun a ha => by rw [asl_o ha, f1 a ha], by rw [asl_2, f2]⟩, fun t ht => ?_⟩
  obtain ⟨g1, g2, g3, g4⟩ := f3 t ht
  have ht' := ht
  unfold uS at ht'
  simp only [Int.toNat_natCast] at ht'
  have hb1 := cnt_b (fun s => cb (ownS S t s)) i
  have hb2 := cnt_b (fun s => cb (allS S t s)) i
  have hr : 0 ≤ S.1 82 i ∧ S.1 82 i < 30 := by omega
  rw [e84, e82]
  by_cases q : hasT (S.1 209) (S.1 84 i)
  · have q' : hasT (X.1 209) (S.1 84 i) := by rw [e9]; exact q
    have qq := q
    unfold hasT at qq
    have ea : asl X (S.1 84 i) (bShl 1 (S.1 82 i)) = stC (upI (upI X 212 (S.1 84 i).toNat (wI (X.1 212 (S.1 84 i).toNat + 1))) 213 (S.1 84 i).toNat (bOr (X.1 213 (S.1 84 i).toNat) (bShl 1 (S.1 82 i)))) (adU (X.1 209) (X.1 210) (bShl 1 (S.1 82 i)) 40 (S.1 84 i) (X.1 214, X.1 215)) := if_pos q'
    obtain ⟨u1, u2⟩ := adU_v hrk (x := bShl 1 (S.1 82 i)) (j := t) (n := 40) (u := S.1 84 i) (y := (X.1 214, X.1 215))
    rw [ea, e9, e10]
    have r12 : ∀ Y : aFL, (stC (upI (upI X 212 (S.1 84 i).toNat (wI (X.1 212 (S.1 84 i).toNat + 1))) 213 (S.1 84 i).toNat (bOr (X.1 213 (S.1 84 i).toNat) (bShl 1 (S.1 82 i)))) Y).1 212 t = (if t = (S.1 84 i).toNat then wI (X.1 212 (S.1 84 i).toNat + 1) else X.1 212 t) := fun Y => by
      unfold stC
      simp only [stA]
      rw [if_neg (by decide), if_neg (by decide), up_obj (by decide)]
      by_cases e : t = (S.1 84 i).toNat
      · rw [if_pos e, e, up_hit]
      · rw [if_neg e, up_cell e]
    have r13 : ∀ Y : aFL, (stC (upI (upI X 212 (S.1 84 i).toNat (wI (X.1 212 (S.1 84 i).toNat + 1))) 213 (S.1 84 i).toNat (bOr (X.1 213 (S.1 84 i).toNat) (bShl 1 (S.1 82 i)))) Y).1 213 t = (if t = (S.1 84 i).toNat then bOr (X.1 213 (S.1 84 i).toNat) (bShl 1 (S.1 82 i)) else X.1 213 t) := fun Y => by
      unfold stC
      simp only [stA]
      rw [if_neg (by decide), if_neg (by decide)]
      by_cases e : t = (S.1 84 i).toNat
      · rw [if_pos e, e, up_hit]
      · rw [if_neg e, up_cell e, up_obj (by decide)]
    have r14 : ∀ Y : aFL, (stC (upI (upI X 212 (S.1 84 i).toNat (wI (X.1 212 (S.1 84 i).toNat + 1))) 213 (S.1 84 i).toNat (bOr (X.1 213 (S.1 84 i).toNat) (bShl 1 (S.1 82 i)))) Y).1 214 t = Y.1 t := fun Y => by
      unfold stC
      simp only [stA]
      rw [if_neg (by decide), if_pos trivial]
    have r15 : ∀ Y : aFL, (stC (upI (upI X 212 (S.1 84 i).toNat (wI (X.1 212 (S.1 84 i).toNat + 1))) 213 (S.1 84 i).toNat (bOr (X.1 213 (S.1 84 i).toNat) (bShl 1 (S.1 82 i)))) Y).1 215 t = Y.2 t := fun Y => by
      unfold stC
      simp only [stA]
      rw [if_pos trivial]
    rw [r12, r13, r14, r15, u1, u2]
    refine ⟨?_, ?_, ?_, ?_⟩
    · by_cases e : t = (S.1 84 i).toNat
      · have w : ownS S t i := by unfold ownS; omega
        rw [if_pos e, ← e, g1, cnt_t (cb_t w)]
        exact wI_id (by omega) (by omega)
      · have w : ¬ ownS S t i := by unfold ownS; omega
        rw [if_neg e, g1, cnt_f (cb_f w)]
    · by_cases w : allS S t i
      · have w' := w
        unfold allS at w'
        rw [if_pos w', cnt_t (cb_t w)]
        show wI (X.1 214 t + 1) = _
        rw [g2]
        exact wI_id (by omega) (by omega)
      · have w' := w
        unfold allS at w'
        rw [if_neg w', cnt_f (cb_f w)]
        exact g2
    · by_cases e : t = (S.1 84 i).toNat
      · have w : ownS S t i := by unfold ownS; omega
        rw [if_pos e, ← e]
        exact setB_ye g3 w hr
      · have w : ¬ ownS S t i := by unfold ownS; omega
        rw [if_neg e]
        exact setB_no g3 w
    · by_cases w : allS S t i
      · have w' := w
        unfold allS at w'
        rw [if_pos w']
        exact setB_ye g4 w hr
      · have w' := w
        unfold allS at w'
        rw [if_neg w']
        exact setB_no g4 w
  · have q' : ¬ hasT (X.1 209) (S.1 84 i) := by rw [e9]; exact q
    have ea : asl X (S.1 84 i) (bShl 1 (S.1 82 i)) = X := if_neg q'
    have w1 : ¬ ownS S t i := fun z => by
      unfold ownS at z
      refine q ⟨by omega, by omega, ?_⟩
      rw [z, Int.toNat_natCast]
      exact ht'.2.2
    have w2 : ¬ allS S t i := fun z => q z.1
    rw [ea, cnt_f (cb_f w1), cnt_f (cb_f w2)]
    exact ⟨g1, g2, setB_no g3 w1, setB_no g4 w2⟩
theorem ga_gS {S : aS} (h : Inv S) : ∀ {n i : Nat} {X : aS}, i + n = (S.1 81 4).toNat → gaI S i X → gaI S (S.1 81 4).toNat (gS n i X)
  | 0, i, X, hi, hX => by
    have : i = (S.1 81 4).toNat := by omega
    rw [← this]; exact hX
  | n + 1, i, X, hi, hX => ga_gS h (n := n) (i := i + 1) (by omega) (ga_st h (by omega) hX)
theorem ga_gZ {S : aS} : gaI S 0 (gZ S) := by
  refine ⟨⟨fun a ha => ?_, rfl⟩, fun t ht => ?_⟩
  · funext b
    unfold gZ
    simp only [stA]
    rw [if_neg (by omega), if_neg (by omega), if_neg (by omega), if_neg (by omega)]
  · have ht' : t < 40 := by have := ht.2.1; omega
    have e : ∀ a, (a = 212 ∨ a = 213 ∨ a = 214 ∨ a = 215) → (gZ S).1 a t = 0 := fun a ha => by
      unfold gZ
      simp only [stA]
      rcases ha with rfl | rfl | rfl | rfl <;> simp [ht']
    rw [e 212 (by decide), e 213 (by decide), e 214 (by decide), e 215 (by decide)]
    have z : ∀ p : Nat → Prop, setB S p 0 0 := fun p => ⟨fun b hb => ⟨fun w => absurd w (inS_0 hb), fun ⟨s, a, _⟩ => absurd a (by omega)⟩, fun b _ => by show (0 : Nat).testBit b = false; simp⟩
    exact ⟨rfl, rfl, z _, z _⟩
/-! least and greatest over sets -/
theorem mn_lb {f : Nat → Int} {p : Nat → Prop} : ∀ {n : Nat}, (∀ j, j < n → p j → mn f p n ≤ f j)
  | 0, j, hj, _ => absurd hj (by omega)
  | n + 1, j, hj, hp => by
    by_cases e : j = n
    · subst e; rw [mn_t hp]; omega
    · have := mn_lb (f := f) (p := p) (n := n) j (by omega) hp
      by_cases q : p n
      · rw [mn_t q]; omega
      · rw [mn_f q]; exact this
theorem mn_at {f : Nat → Int} {p : Nat → Prop} : ∀ {n : Nat}, mn f p n = 2001 ∨ ∃ j, j < n ∧ p j ∧ mn f p n = f j
  | 0 => Or.inl rfl
  | n + 1 => by
    by_cases q : p n
    · rw [mn_t q]
      rcases mn_at (f := f) (p := p) (n := n) with z | ⟨j, a, b, c⟩
      · by_cases w : f n ≤ mn f p n
        · exact Or.inr ⟨n, by omega, q, by omega⟩
        · exact Or.inl (by omega)
      · by_cases w : f n ≤ mn f p n
        · exact Or.inr ⟨n, by omega, q, by omega⟩
        · exact Or.inr ⟨j, by omega, b, by omega⟩
    · rw [mn_f q]
      exact (mn_at (n := n)).imp id fun ⟨j, a, b, c⟩ => ⟨j, by omega, b, c⟩
theorem mn_eq {f g : Nat → Int} {p q : Nat → Prop} {n m : Nat} (h1 : ∀ k, k < n → p k → ∃ j, j < m ∧ q j ∧ g j = f k) (h2 : ∀ j, j < m → q j → ∃ k, k < n ∧ p k ∧ f k = g j) : mn f p n = mn g q m := by
  have a1 : mn f p n ≤ mn g q m := by
    rcases mn_at (f := g) (p := q) (n := m) with z | ⟨j, a, b, c⟩
    · rw [z]; exact mn_le
    · obtain ⟨k, k1, k2, k3⟩ := h2 j a b
      have := mn_lb (f := f) (p := p) (n := n) k k1 k2
      omega
  have a2 : mn g q m ≤ mn f p n := by
    rcases mn_at (f := f) (p := p) (n := n) with z | ⟨j, a, b, c⟩
    · rw [z]; exact mn_le
    · obtain ⟨k, k1, k2, k3⟩ := h1 j a b
      have := mn_lb (f := g) (p := q) (n := m) k k1 k2
      omega
  omega
theorem mx_ub {f : Nat → Int} {p : Nat → Prop} : ∀ {n : Nat}, (∀ j, j < n → p j → f j ≤ mx f p n)
  | 0, j, hj, _ => absurd hj (by omega)
  | n + 1, j, hj, hp => by
    by_cases e : j = n
    · subst e; rw [mx_t hp]; omega
    · have := mx_ub (f := f) (p := p) (n := n) j (by omega) hp
      by_cases q : p n
      · rw [mx_t q]; omega
      · rw [mx_f q]; exact this
theorem mx_at {f : Nat → Int} {p : Nat → Prop} : ∀ {n : Nat}, mx f p n = 0 ∨ ∃ j, j < n ∧ p j ∧ mx f p n = f j
  | 0 => Or.inl rfl
  | n + 1 => by
    by_cases q : p n
    · rw [mx_t q]
      rcases mx_at (f := f) (p := p) (n := n) with z | ⟨j, a, b, c⟩
      · by_cases w : mx f p n ≤ f n
        · exact Or.inr ⟨n, by omega, q, by omega⟩
        · exact Or.inl (by omega)
      · by_cases w : mx f p n ≤ f n
        · exact Or.inr ⟨n, by omega, q, by omega⟩
        · exact Or.inr ⟨j, by omega, b, by omega⟩
    · rw [mx_f q]
      exact (mx_at (n := n)).imp id fun ⟨j, a, b, c⟩ => ⟨j, by omega, b, c⟩
theorem mx_eq {f g : Nat → Int} {p q : Nat → Prop} {n m : Nat} (h1 : ∀ k, k < n → p k → ∃ j, j < m ∧ q j ∧ g j = f k) (h2 : ∀ j, j < m → q j → ∃ k, k < n ∧ p k ∧ f k = g j) : mx f p n = mx g q m := by
  have a1 : mx g q m ≤ mx f p n := by
    rcases mx_at (f := g) (p := q) (n := m) with z | ⟨j, a, b, c⟩
    · rw [z]; exact mx_ge
    · obtain ⟨k, k1, k2, k3⟩ := h2 j a b
      have := mx_ub (f := f) (p := p) (n := n) k k1 k2
      omega
  have a2 : mx f p n ≤ mx g q m := by
    rcases mx_at (f := f) (p := p) (n := n) with z | ⟨j, a, b, c⟩
    · rw [z]; exact mx_ge
    · obtain ⟨k, k1, k2, k3⟩ := h1 j a b
      have := mx_ub (f := g) (p := q) (n := m) k k1 k2
      omega
  omega
