/-! NEIGHBOURS: rows as sets; words off the tape on both sides -/
def inX (x : aX) (v : Int) : Prop := ∃ k : Nat, (k : Int) < x.2 ∧ x.1 k = v
theorem adn1_in {w o f a v : Int} {x : aX} (h0 : 0 ≤ x.2) (h : x.2 < 81) : (x.2 ≤ (adn1 w o f a x).2 ∧ (adn1 w o f a x).2 ≤ x.2 + 1) ∧ (inX (adn1 w o f a x) v ↔ (inX x v ∨ (¬ chg5 w a o f = 0 ∧ v = chg5 w a o f))) := by
  unfold adn1
  by_cases q : chg5 w a o f ≠ 0 ∧ x.2 < 81
  · rw [if_pos q]
    refine ⟨⟨by show x.2 ≤ x.2 + 1; omega, Int.le_refl _⟩, ?_⟩
    constructor
    · rintro ⟨k, hk, e⟩
      have hk' : (k : Int) < x.2 + 1 := hk
      have e' : fu x.1 x.2.toNat (chg5 w a o f) k = v := e
      unfold fu at e'
      by_cases c : k = x.2.toNat
      · rw [if_pos c] at e'
        exact Or.inr ⟨q.1, e'.symm⟩
      · rw [if_neg c] at e'
        exact Or.inl ⟨k, by omega, e'⟩
    · rintro (⟨k, hk, e⟩ | ⟨_, e⟩)
      · refine ⟨k, by show (k : Int) < x.2 + 1; omega, ?_⟩
        show fu x.1 x.2.toNat (chg5 w a o f) k = v
        unfold fu
        rw [if_neg (by omega)]; exact e
      · refine ⟨x.2.toNat, by show (x.2.toNat : Int) < x.2 + 1; omega, ?_⟩
        show fu x.1 x.2.toNat (chg5 w a o f) x.2.toNat = v
        unfold fu
        rw [if_pos rfl]; exact e.symm
  · rw [if_neg q]
    refine ⟨⟨Int.le_refl _, by omega⟩, Or.inl, fun z => z.elim id fun y => absurd ⟨y.1, h⟩ q⟩
theorem adn_in {w o f v : Int} : ∀ {n a : Nat} {x : aX}, 0 ≤ x.2 → x.2 + n ≤ 81 → (x.2 ≤ (adn w o f n a x).2 ∧ (adn w o f n a x).2 ≤ x.2 + n) ∧ (inX (adn w o f n a x) v ↔ (inX x v ∨ ∃ p : Nat, (a ≤ p ∧ p < a + n) ∧ ¬ chg5 w p o f = 0 ∧ v = chg5 w p o f))
  | 0, a, x, h0, h => ⟨⟨Int.le_refl _, by show x.2 ≤ x.2 + 0; omega⟩, Or.inl, fun z => z.elim id fun ⟨p, y, _⟩ => absurd y (by omega)⟩
  | n + 1, a, x, h0, h => by
    have h1 := adn1_in (w := w) (o := o) (f := f) (a := (a : Int)) (v := v) h0 (by omega)
    have h2 := adn_in (w := w) (o := o) (f := f) (v := v) (n := n) (a := a + 1) (x := adn1 w o f a x) (by omega) (by omega)
    refine ⟨by show x.2 ≤ (adn w o f n (a + 1) (adn1 w o f a x)).2 ∧ (adn w o f n (a + 1) (adn1 w o f a x)).2 ≤ _; omega, ?_⟩
    show inX (adn w o f n (a + 1) (adn1 w o f a x)) v ↔ _
    rw [h2.2, h1.2]
    constructor
    · rintro ((z | z) | ⟨p, y1, y2⟩)
      · exact Or.inl z
      · exact Or.inr ⟨a, by omega, z⟩
      · exact Or.inr ⟨p, by omega, y2⟩
    · rintro (z | ⟨p, y1, y2⟩)
      · exact Or.inl (Or.inl z)
      · by_cases e : p = a
        · subst e; exact Or.inl (Or.inr y2)
        · exact Or.inr ⟨p, by omega, y2⟩
theorem adn_z {w o f : Int} : ∀ {n a : Nat} {x : aX}, 1 ≤ x.2 → (adn w o f n a x).1 0 = x.1 0
  | 0, _, _, _ => rfl
  | n + 1, a, x, h => by
    have h1 := adn1_0 (w := w) (o := o) (f := f) (a := (a : Int)) h
    have h2 : 1 ≤ (adn1 w o f a x).2 := by
      unfold adn1
      split
      · show 1 ≤ x.2 + 1; omega
      · exact h
    show (adn w o f n (a + 1) (adn1 w o f a x)).1 0 = _
    rw [adn_z h2, h1]
theorem adA_in {w v : Int} {o f : Nat → Int} : ∀ {n r : Nat} {x : aX}, 0 ≤ x.2 → x.2 + 8 * n ≤ 81 → (x.2 ≤ (adA w o f n r x).2 ∧ (adA w o f n r x).2 ≤ x.2 + 8 * n) ∧ (inX (adA w o f n r x) v ↔ (inX x v ∨ ∃ s : Nat, (r ≤ s ∧ s < r + n) ∧ ∃ p : Nat, p < 8 ∧ ¬ chg5 w p (o s) (f s) = 0 ∧ v = chg5 w p (o s) (f s)))
  | 0, r, x, h0, h => ⟨⟨Int.le_refl _, by show x.2 ≤ x.2 + 8 * 0; omega⟩, Or.inl, fun z => z.elim id fun ⟨p, y, _⟩ => absurd y (by omega)⟩
  | n + 1, r, x, h0, h => by
    have h1 := adn_in (w := w) (o := o r) (f := f r) (v := v) (n := 8) (a := 0) (x := x) h0 (by omega)
    have h2 := adA_in (w := w) (o := o) (f := f) (v := v) (n := n) (r := r + 1) (x := adn w (o r) (f r) 8 0 x) (by omega) (by omega)
    refine ⟨by show x.2 ≤ (adA w o f n (r + 1) (adn w (o r) (f r) 8 0 x)).2 ∧ (adA w o f n (r + 1) (adn w (o r) (f r) 8 0 x)).2 ≤ _; omega, ?_⟩
    show inX (adA w o f n (r + 1) (adn w (o r) (f r) 8 0 x)) v ↔ _
    rw [h2.2, h1.2]
    constructor
    · rintro ((z | ⟨p, y1, y2⟩) | ⟨s, y1, y2⟩)
      · exact Or.inl z
      · exact Or.inr ⟨r, by omega, p, by omega, y2⟩
      · exact Or.inr ⟨s, by omega, y2⟩
    · rintro (z | ⟨s, y1, p, y2, y3⟩)
      · exact Or.inl (Or.inl z)
      · by_cases e : s = r
        · subst e; exact Or.inl (Or.inr ⟨p, by omega, y3⟩)
        · exact Or.inr ⟨s, by omega, p, y2, y3⟩
theorem adA_z {w : Int} {o f : Nat → Int} : ∀ {n r : Nat} {x : aX}, 1 ≤ x.2 → x.2 + 8 * n ≤ 81 → (adA w o f n r x).1 0 = x.1 0
  | 0, _, _, _, _ => rfl
  | n + 1, r, x, h, h8 => by
    have h1 := adn_in (w := w) (o := o r) (f := f r) (v := 0) (n := 8) (a := 0) (x := x) (by omega) (by omega)
    show (adA w o f n (r + 1) (adn w (o r) (f r) 8 0 x)).1 0 = _
    rw [adA_z (by omega) (by omega), adn_z h]
/-- the row of a word that is new -/
theorem adA_row {T : aS} {R : Nat} {v : Int} {o f : Nat → Int} {g : Nat → Int} {len : Int} (hr : 0 ≤ T.1 11 2 ∧ T.1 11 2 ≤ 10) (h1 : T.2 R = (adA v o f (T.1 11 2).toNat 0 (fu g 0 v, 1)).1) (h2 : len = (adA v o f (T.1 11 2).toNat 0 (fu g 0 v, 1)).2) : T.2 R 0 = v ∧ rwP T R len o f := by
  have z0 : T.2 R 0 = v := by
    rw [h1, adA_z (by show (1 : Int) ≤ 1; omega) (by show (1 : Int) + _ ≤ 81; omega)]
    show fu g 0 v 0 = v
    unfold fu; rw [if_pos rfl]
  have hb : ∀ x, _ := fun x => adA_in (w := v) (v := x) (o := o) (f := f) (n := (T.1 11 2).toNat) (r := 0) (x := (fu g 0 v, 1)) (by show (0 : Int) ≤ 1; omega) (by show (1 : Int) + _ ≤ 81; omega)
  have b1 := (hb 0).1
  have e1 : (((fu g 0 v, 1) : aX)).2 = 1 := rfl
  rw [e1] at b1
  refine ⟨z0, ⟨by omega, by omega⟩, fun x => ?_⟩
  have := (hb x).2
  rw [h1, h2]
  show inX _ x ↔ _
  rw [this]
  unfold nb
  rw [← h1, z0]
  constructor
  · rintro (⟨k, hk, e⟩ | ⟨s, y1, y2⟩)
    · have hk' : (k : Int) < 1 := hk
      have : k = 0 := by omega
      subst this
      have e' : fu g 0 v 0 = x := e
      unfold fu at e'; rw [if_pos rfl] at e'
      exact Or.inl e'.symm
    · exact Or.inr ⟨s, by omega, y2⟩
  · rintro (e | ⟨s, y1, y2⟩)
    · refine Or.inl ⟨0, by show ((0 : Nat) : Int) < 1; omega, ?_⟩
      show fu g 0 v 0 = x
      unfold fu; rw [if_pos rfl]; exact e.symm
    · exact Or.inr ⟨s, by omega, y2⟩
/-- a word of the tape, on both sides -/
theorem app5 {L : List Nat} {c : Nat} (h : okA L) (hl : L.length ≤ 7) (hc : 1 ≤ c ∧ c ≤ 26) : lOr (lShl (v5 L) 5) (c : Int) = v5 (c :: L) := by
  have b := vn5_b h hl
  rw [v5_n, show (5 : Int) = ((5 : Nat) : Int) from rfl, shl_n (by omega) (by omega), or_n (by omega) (by omega), v5_n]
  show ((vn 32 0 L * 2 ^ 5 + c : Nat) : Int) = ((c + 0 + 32 * vn 32 0 L : Nat) : Int)
  omega
theorem app8 {L : List Nat} {c : Nat} (h : okA L) (hl : L.length ≤ 7) (hc : 1 ≤ c ∧ c ≤ 26) : lOr (lShl (v8 L) 8) ((c : Int) + 96) = v8 (c :: L) := by
  have b : vn 256 96 L < 256 ^ 7 := Nat.lt_of_lt_of_le (vn_lt (okA_8 h)) (Nat.pow_le_pow_right (by decide) hl)
  have b2 := vn8_b (L := c :: L) (fun x hx => by
    rcases List.mem_cons.mp hx with e | e
    · subst e; exact hc
    · exact h x e) (by simp; omega)
  have e3 : vn 256 96 (c :: L) = c + 96 + 256 * vn 256 96 L := rfl
  rw [e3] at b2
  rw [v8_n, show (8 : Int) = ((8 : Nat) : Int) from rfl, show (c : Int) + 96 = ((c + 96 : Nat) : Int) from by omega, shl_n (by omega) (by omega), or_n (by omega) (by omega), v8_n, e3]
  congr 1
  omega
theorem tp_w {B D : Nat → Int} {sz : Int} (hE : ∀ j : Nat, (j : Int) < sz → tpE (B j) (D j)) : ∀ {n i : Nat} {L : List Nat}, okA L → L.length + n ≤ 8 → (i : Int) + n ≤ sz → (1 ≤ n ∧ tpW B sz n i (v5 L) = 0 ∧ wd8 D n i (v8 L) = 0) ∨ ∃ L', okA L' ∧ L'.length = L.length + n ∧ tpW B sz n i (v5 L) = v5 L' ∧ wd8 D n i (v8 L) = v8 L'
  | 0, i, L, h, _, _ => Or.inr ⟨L, h, rfl, rfl, rfl⟩
  | n + 1, i, L, h, hl, hs => by
    obtain ⟨e1, e2⟩ := hE i (by omega)
    show (_ ∧ (if (i : Int) < sz ∧ 97 ≤ B i ∧ B i ≤ 122 then tpW B sz n (i + 1) (lOr (lShl (v5 L) 5) (B i - 97 + 1)) else 0) = 0 ∧ (if 97 ≤ D i ∧ D i ≤ 122 then wd8 D n (i + 1) (lOr (lShl (v8 L) 8) (D i)) else 0) = 0) ∨ ∃ L', _ ∧ _ ∧ (if (i : Int) < sz ∧ 97 ≤ B i ∧ B i ≤ 122 then tpW B sz n (i + 1) (lOr (lShl (v5 L) 5) (B i - 97 + 1)) else 0) = v5 L' ∧ (if 97 ≤ D i ∧ D i ≤ 122 then wd8 D n (i + 1) (lOr (lShl (v8 L) 8) (D i)) else 0) = v8 L'
    by_cases q : 97 ≤ D i ∧ D i ≤ 122
    · rw [if_pos q, if_pos (show (i : Int) < sz ∧ 97 ≤ B i ∧ B i ≤ 122 from by omega)]
      obtain ⟨c, hc⟩ : ∃ c : Nat, D i = (c : Int) + 96 := ⟨(D i - 96).toNat, by omega⟩
      rw [show B i - 97 + 1 = (c : Int) from by omega, hc, app5 h (by omega) (by omega), app8 h (by omega) (by omega)]
      have hA : okA (c :: L) := fun x hx => by
        rcases List.mem_cons.mp hx with e | e
        · subst e; omega
        · exact h x e
      rcases tp_w hE (n := n) (i := i + 1) (L := c :: L) hA (by simp; omega) (by omega) with z | ⟨L', z1, z2, z3, z4⟩
      · exact Or.inl ⟨by omega, z.2⟩
      · exact Or.inr ⟨L', z1, by simp at z2; omega, z3, z4⟩
    · rw [if_neg q, if_neg (show ¬ ((i : Int) < sz ∧ 97 ≤ B i ∧ B i ≤ 122) from by omega)]
      exact Or.inl ⟨by omega, rfl, rfl⟩
theorem v5z {L : List Nat} (h : okA L) (hl : 1 ≤ L.length) : ¬ v5 L = 0 := v5_0 h hl
/-- both refuse, or both read one word -/
theorem tk_w {S : aS} (tp : iTp S) {n i : Nat} {c : Int} (hn : 1 ≤ n ∧ n ≤ 8) (hs : (i : Int) + n ≤ c) (hc : c ≤ S.1 1 1) : (tpW (S.1 2) (S.1 1 1) n i 0 = 0 ∧ tkW S c n i = 0) ∨ (¬ tpW (S.1 2) (S.1 1 1) n i 0 = 0 ∧ ¬ tkW S c n i = 0 ∧ wE n (tpW (S.1 2) (S.1 1 1) n i 0) (tkW S c n i)) := by
  have hw : ∀ {n' j : Nat} {w : Int}, (j : Int) + n' ≤ c → wd8 ((tkS S c).1 247) n' j w = wd8 (S.1 246) n' j w := by
    intro n'
    induction n' with
    | zero => intro j w _; rfl
    | succ n' ih =>
      intro j w hj
      have e : (tkS S c).1 247 j = S.1 246 j := by
        have : (tkS S c).1 247 j = narB (S.1 246 j) := by
          unfold tkS
          rw [up_obj (by decide)]
          simp only [stA]
          rw [if_pos trivial, if_pos (by omega)]
        rw [this, narB_id (tp.2.2 j (by omega)).1]
      show (if 97 ≤ (tkS S c).1 247 j ∧ (tkS S c).1 247 j ≤ 122 then wd8 ((tkS S c).1 247) n' (j + 1) _ else 0) = (if 97 ≤ S.1 246 j ∧ S.1 246 j ≤ 122 then wd8 (S.1 246) n' (j + 1) _ else 0)
      rw [e]
      split
      · exact ih (by omega)
      · rfl
  have e1 : tkW S c n i = wd8 (S.1 246) n i 0 := by
    unfold tkW
    rw [Int.toNat_natCast, Int.toNat_natCast, hw hs]
  rw [e1]
  rcases tp_w tp.2.2 (n := n) (i := i) (L := []) (fun x hx => absurd hx (by simp)) (by simp; omega) (by omega) with z | ⟨L', z1, z2, z3, z4⟩
  · exact Or.inl z.2
  · have z2' : L'.length = n := by simpa using z2
    have z3' : tpW (S.1 2) (S.1 1 1) n i 0 = v5 L' := z3
    have z4' : wd8 (S.1 246) n i 0 = v8 L' := z4
    rw [z3', z4']
    exact Or.inr ⟨v5_0 z1 (by omega), v8_0 z1 (by omega), L', ⟨⟨by omega, by omega⟩, z1⟩, rfl, rfl⟩
theorem wE_m {n m : Nat} {a b : Int} (h : wE n a b) (hm : n ≤ m) : wE m a b := by
  obtain ⟨L, hL, e⟩ := h
  exact ⟨L, ⟨by have := hL.1; omega, hL.2⟩, e⟩
theorem wE_eq {n : Nat} {a b c d : Int} (h : wE n a b) (h2 : wE n c d) : a = c ↔ b = d := by
  obtain ⟨L, hL, rfl, rfl⟩ := h
  obtain ⟨M, hM, rfl, rfl⟩ := h2
  exact ⟨fun e => by rw [v5_inj hL.2 hM.2 e], fun e => by rw [v8_inj hL.2 hM.2 e]⟩
theorem wrdC_v {L : List Nat} (h : okA L) (hl : L.length ≤ 12) : wrdC (v5 L) := by
  have b := vn5_b h hl
  rw [v5_n]
  unfold wrdC
  have : (32 : Nat) ^ 12 = 1152921504606846976 := by decide
  omega
theorem chOK_v {A O F : List Nat} (hA : okW A) (hO : okL 2 O) (hF : okL 2 F) : chOK (v5 A) (v5 O) (v5 F) := by
  refine ⟨v5_wrd hO.2 (by have := hO.1; omega), v5_wrd hF.2 (by have := hF.1; omega), fun a h0 h1 hc => ?_⟩
  obtain ⟨p, rfl⟩ : ∃ p : Nat, a = p := ⟨a.toNat, by omega⟩
  rw [v5_n, v5_n, cond5_v hA.1 hO.2 hA.2.2 (by omega) hO.1.2] at hc
  rw [v5_n, v5_n, v5_n, chgR_v hA.1 hO.2 hF.2 hA.2.2 hO.1 hF.1.2 hc, ← v5_n]
  refine wrdC_v (chL_ok hA.1 hF.2) ?_
  have := chL_l (F := F) hc hO.1.1
  have := hF.1
  have := hA.2
  omega
theorem okW_8 {L : List Nat} (h : okL 8 L) : okW L := ⟨h.2, h.1⟩

