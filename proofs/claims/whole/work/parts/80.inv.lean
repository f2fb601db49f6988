/-! THE INVARIANT between the class's cells and the reference's -/
def tpE (x y : Int) : Prop := (-128 ≤ y ∧ y ≤ 127) ∧ x = y % 256
def iTp (S : aS) : Prop := (0 ≤ S.1 1 1 ∧ S.1 1 1 ≤ 40) ∧ S.1 245 2 = S.1 1 1 ∧ ∀ j : Nat, (j : Int) < S.1 1 1 → tpE (S.1 2 j) (S.1 246 j)
def iBk (S : aS) : Prop := (0 ≤ S.1 3 7 ∧ S.1 3 7 ≤ 30) ∧ (0 ≤ S.1 3 8 ∧ S.1 3 8 ≤ 60) ∧ S.1 245 3 = S.1 3 7 ∧ S.1 245 4 = S.1 3 8 ∧ (∀ b : Nat, (b : Int) < S.1 3 7 → (S.1 248 b = S.1 4 b ∧ S.1 249 b = S.1 5 b ∧ S.1 250 b = S.1 6 b ∧ S.1 251 b = S.1 7 b) ∧ 1 ≤ S.1 4 b ∧ S.1 4 b ≤ S.1 5 b ∧ S.1 5 b ≤ 2000) ∧ (∀ k : Nat, (k : Int) < S.1 3 8 → (S.1 252 k = S.1 9 k ∧ S.1 253 k = S.1 10 k) ∧ (0 ≤ S.1 9 k ∧ S.1 9 k < S.1 3 7) ∧ (0 ≤ S.1 10 k ∧ S.1 10 k < S.1 3 7)) ∧ FeL S (S.1 250) (S.1 251)
def iBh (S : aS) : Prop := (∀ a b : Nat, a < 30 → b < 30 → (inS b (S.1 8 a) ↔ zz (S.1 254) a b)) ∧ (∀ a b : Nat, a < 30 → b < 30 → (S.1 3 7 ≤ a ∨ S.1 3 7 ≤ b) → ¬ zz (S.1 254) a b) ∧ (∀ a m b : Nat, a < 30 → m < 30 → b < 30 → zz (S.1 254) a m → zz (S.1 254) m b → zz (S.1 254) a b) ∧ ∀ k : Nat, (k : Int) < S.1 3 8 → zz (S.1 254) (S.1 9 k).toNat (S.1 10 k).toNat
/-- a sense that is there -/
def uS (S : aS) (t : Int) : Prop := 0 ≤ t ∧ t < 40 ∧ ¬ S.1 209 t.toNat = -1
def iSl (S : aS) : Prop := (0 ≤ S.1 81 4 ∧ S.1 81 4 ≤ 120) ∧ S.1 245 12 = S.1 81 4 ∧ ∀ s : Nat, (s : Int) < S.1 81 4 → (S.1 255 s = S.1 82 s ∧ S.1 256 s = S.1 83 s ∧ S.1 257 s = S.1 84 s) ∧ (0 ≤ S.1 82 s ∧ S.1 82 s < S.1 3 7) ∧ ((S.1 83 s = -1 ∧ S.1 84 s = -1) ∨ ((0 ≤ S.1 83 s ∧ S.1 83 s < S.1 14 4) ∧ (S.1 84 s = -1 ∨ (uS S (S.1 84 s) ∧ S.1 209 (S.1 84 s).toNat = S.1 83 s))))
def iSe (S : aS) : Prop := (∀ t : Nat, t < 40 → (S.1 266 t = 0 ↔ S.1 209 t = -1) ∧ (¬ S.1 209 t = -1 → (0 ≤ S.1 209 t ∧ S.1 209 t < S.1 14 4) ∧ S.1 267 t = S.1 209 t ∧ S.1 268 t = S.1 210 t ∧ (S.1 210 t = -1 ∨ (uS S (S.1 210 t) ∧ S.1 209 (S.1 210 t).toNat = S.1 209 t)))) ∧ ∃ rk : Nat → Nat, ∀ t : Nat, t < 40 → ¬ S.1 209 t = -1 → ¬ S.1 210 t = -1 → rk (S.1 210 t).toNat < rk t
def iPo (S : aS) : Prop := (0 ≤ S.1 219 2 ∧ S.1 219 2 ≤ 20) ∧ S.1 245 29 = S.1 219 2 ∧ ∀ p : Nat, (p : Int) < S.1 219 2 → S.1 269 p = S.1 220 p ∧ S.1 270 p = S.1 221 p ∧ uS S (S.1 220 p) ∧ (S.1 221 p = -1 ∨ uS S (S.1 221 p))
def iEd (S : aS) : Prop := (0 ≤ S.1 222 4 ∧ S.1 222 4 ≤ 8) ∧ S.1 245 37 = S.1 222 4 ∧ ∀ e : Nat, (e : Int) < S.1 222 4 → S.1 271 e = S.1 223 e ∧ (0 ≤ S.1 223 e ∧ S.1 223 e ≤ 120) ∧ ∀ s : Nat, (s : Int) < S.1 223 e → S.1 272 (120 * e + s) = S.1 (225 + e) s ∧ S.1 273 (120 * e + s) = S.1 (234 + e) s ∧ -1 ≤ S.1 (225 + e) s
def iPr (S : aS) : Prop := (0 ≤ S.1 242 7 ∧ S.1 242 7 ≤ 8000) ∧ S.1 245 42 = S.1 242 7 ∧ ∀ i : Nat, (i : Int) < S.1 242 7 → S.1 274 i = S.1 243 i
def iEn (S : aS) : Prop := (0 ≤ S.1 14 4 ∧ S.1 14 4 ≤ 12) ∧ S.1 245 13 = S.1 14 4 ∧ (∀ e : Nat, e < 12 → (0 ≤ S.1 15 e ∧ S.1 15 e ≤ 5) ∧ ((e : Int) < S.1 14 4 → 1 ≤ S.1 15 e ∧ S.1 260 e = S.1 15 e) ∧ (S.1 14 4 ≤ e → S.1 15 e = 0 ∧ S.1 260 e = 0)) ∧ ∀ k : Nat, k < 60 → ((k % 5 : Nat) : Int) < S.1 15 (k / 5) → S.1 261 k = S.1 16 k ∧ S.1 262 k = S.1 17 k
def v5 : List Nat → Int
  | [] => 0
  | x :: L => (x : Int) + 32 * v5 L
def v8 : List Nat → Int
  | [] => 0
  | x :: L => ((x : Int) + 96) + 256 * v8 L
/-- letters, the last first -/
def okL (n : Nat) (L : List Nat) : Prop := (1 ≤ L.length ∧ L.length ≤ n) ∧ ∀ x, x ∈ L → 1 ≤ x ∧ x ≤ 26
def wE (n : Nat) (a b : Int) : Prop := ∃ L, okL n L ∧ a = v5 L ∧ b = v8 L
def nb (S : aS) (w : Int) (o f : Nat → Int) (x : Int) : Prop := x = w ∨ ∃ r : Nat, (r : Int) < S.1 11 2 ∧ ∃ p : Nat, p < 8 ∧ ¬ chg5 w p (o r) (f r) = 0 ∧ x = chg5 w p (o r) (f r)
def rwP (S : aS) (R : Nat) (len : Int) (o f : Nat → Int) : Prop := (1 ≤ len ∧ len ≤ 1 + 8 * S.1 11 2) ∧ ∀ x, (∃ k : Nat, (k : Int) < len ∧ S.2 R k = x) ↔ nb S (S.2 R 0) o f x
def exK (S : aS) (k : Nat) : Prop := ((k % 5 : Nat) : Int) < S.1 15 (k / 5)
def iRu (S : aS) : Prop := S.1 18 1 = 0 ∧ ¬ S.1 85 1 = 0 ∧ (0 ≤ S.1 11 2 ∧ S.1 11 2 ≤ 10) ∧ S.1 245 14 = S.1 11 2 ∧ ∀ r : Nat, (r : Int) < S.1 11 2 → wE 2 (S.2 12 r) (S.2 264 r) ∧ wE 2 (S.2 13 r) (S.2 265 r)
def iWs (S : aS) : Prop := ∀ s : Nat, s < 120 → ((s : Int) < S.1 81 4 → wE 8 (S.2 (87 + s) 0) (S.2 258 s) ∧ rwP S (87 + s) (S.1 207 s) (S.2 13) (S.2 12)) ∧ (S.1 81 4 ≤ s → S.1 207 s = 0)
def iWf (S : aS) : Prop := ∀ k : Nat, k < 60 → (exK S k → wE 8 (S.2 (20 + k) 0) (S.2 263 k) ∧ rwP S (20 + k) (S.1 80 k) (S.2 12) (S.2 13)) ∧ (¬ exK S k → S.1 80 k = 0)
def iKn (S : aS) : Prop := ∀ s k : Nat, s < 120 → k < 60 → (S.1 259 (60 * s + k) = 0 ∨ ((s : Int) < S.1 81 4 ∧ exK S k ∧ S.1 259 (60 * s + k) = ldV S s k))
def Inv (S : aS) : Prop := iTp S ∧ iBk S ∧ iBh S ∧ iSl S ∧ iSe S ∧ iPo S ∧ iEd S ∧ iPr S ∧ iEn S ∧ iRu S ∧ iWs S ∧ iWf S ∧ iKn S
/-- the two answers agree, and the invariant holds behind them -/
def Eqv (r : Option aV) : Option aV → aS → Prop := fun r' U => r = r' ∧ Inv U
theorem oi {x y : Int} (h : x = y) : (some (Sum.inl x) : Option aV) = some (Sum.inl y) := by rw [h]
/-! chains -/
theorem cnt_le {p q : Nat → Bool} : ∀ {n : Nat}, (∀ j, j < n → p j = true → q j = true) → cnt p n ≤ cnt q n
  | 0, _ => Int.le_refl _
  | n + 1, h => by
    have ih := cnt_le (fun j hj => h j (by omega)) (n := n)
    unfold cnt
    by_cases a : p n = true
    · rw [if_pos a, if_pos (h n (by omega) a)]; omega
    · rw [if_neg a]; split <;> omega
theorem cnt_lt {p q : Nat → Bool} {j0 : Nat} : ∀ {n : Nat}, (∀ j, j < n → p j = true → q j = true) → j0 < n → p j0 = false → q j0 = true → cnt p n < cnt q n
  | 0, _, h, _, _ => absurd h (by omega)
  | n + 1, h, h0, h1, h2 => by
    unfold cnt
    by_cases e : j0 = n
    · subst e
      have ih := cnt_le (fun j hj => h j (by omega)) (n := j0)
      rw [if_neg (by rw [h1]; decide), if_pos h2]; omega
    · have ih := cnt_lt (fun j hj => h j (by omega)) (by omega) h1 h2 (n := n)
      by_cases a : p n = true
      · rw [if_pos a, if_pos (h n (by omega) a)]; omega
      · rw [if_neg a]; split <;> omega
theorem chn_1 {P : Nat → Int} : ∀ {n : Nat}, chn P n (-1)
  | 0 => rfl
  | _ + 1 => Or.inl rfl
theorem chn_rk {P : Nat → Int} {us : Nat → Prop} {rk : Nat → Nat} (h : ∀ t, t < 40 → us t → P t = -1 ∨ ((0 ≤ P t ∧ P t < 40) ∧ us (P t).toNat ∧ rk (P t).toNat < rk t)) : ∀ (n : Nat) (t : Nat), t < 40 → us t → cnt (fun u => decide (rk u < rk t)) 40 < n → chn P n t
  | 0, t, _, _, hc => absurd hc (by have := cnt_b (fun u => decide (rk u < rk t)) 40; omega)
  | n + 1, t, ht, hu, hc => by
    refine Or.inr ⟨by omega, by omega, ?_⟩
    rw [Int.toNat_natCast]
    rcases h t ht hu with e | ⟨a, b, c⟩
    · rw [e]; exact chn_1
    · have hp := chn_rk h n (P t).toNat (by omega) b (by
        have : cnt (fun u => decide (rk u < rk (P t).toNat)) 40 < cnt (fun u => decide (rk u < rk t)) 40 := cnt_lt (j0 := (P t).toNat) (fun j hj q => by simp at q ⊢; omega) (by omega) (by simp) (by simpa using c)
        omega)
      rw [show (((P t).toNat : Nat) : Int) = P t from by omega] at hp
      exact hp
theorem chA_I {S : aS} (h : iSe S) : chA S := by
  intro t ht hu
  obtain ⟨h1, rk, h2⟩ := h
  have e : ∀ t, t < 40 → ¬ S.1 266 t = 0 → ¬ S.1 209 t = -1 := fun t ht z y => z (((h1 t ht).1).mpr y)
  have e' : ∀ t, t < 40 → ¬ S.1 209 t = -1 → ¬ S.1 266 t = 0 := fun t ht z y => z (((h1 t ht).1).mp y)
  refine chn_rk (us := fun t => ¬ S.1 266 t = 0) (rk := rk) (fun t ht hu => ?_) 40 t ht hu ?_
  · obtain ⟨_, _, e3, e4⟩ := (h1 t ht).2 (e t ht hu)
    rw [e3]
    rcases e4 with z | ⟨z, _⟩
    · exact Or.inl z
    · refine Or.inr ⟨⟨z.1, z.2.1⟩, e' _ (by have := z.2.1; have := z.1; omega) z.2.2, h2 t ht (e t ht hu) (fun y => ?_)⟩
      have := z.1; omega
  · have hb : cnt (fun u => decide (rk u < rk t)) 40 < cnt (fun _ => true) 40 := cnt_lt (j0 := t) (fun j _ _ => rfl) ht (by simp) rfl
    have := (cnt_b (fun _ => true) 40).2
    omega
theorem wt_eq {S : aS} (h : iSe S) {a : Int} : ∀ (n : Nat) (t : Int), (t = -1 ∨ uS S t) → (wth (S.1 209) (S.1 210) a n t ↔ wtM (S.1 268) a n t)
  | 0, _, _ => Iff.rfl
  | n + 1, t, ht => by
    show (hasT (S.1 209) t ∧ (t = a ∨ wth (S.1 209) (S.1 210) a n (S.1 210 t.toNat))) ↔ (¬ t = -1 ∧ (t = a ∨ wtM (S.1 268) a n (S.1 268 t.toNat)))
    rcases ht with ht | ht
    · subst ht
      exact ⟨fun z => absurd z.1.1 (by decide), fun z => absurd rfl z.1⟩
    · have hl : t.toNat < 40 := by have := ht.1; have := ht.2.1; omega
      obtain ⟨_, _, e3, e4⟩ := (h.1 t.toNat hl).2 ht.2.2
      have ih := wt_eq h (a := a) n (S.1 210 t.toNat) (e4.imp id fun z => z.1)
      rw [e3, ih]
      exact ⟨fun z => ⟨by have := ht.1; omega, z.2⟩, fun z => ⟨ht, z.2⟩⟩
theorem dp_eq {S : aS} (h : iSe S) : ∀ (n : Nat) (t : Int), (t = -1 ∨ uS S t) → dpt (S.1 209) (S.1 210) n t = dpM (S.1 268) n t
  | 0, _, _ => rfl
  | n + 1, t, ht => by
    rcases ht with ht | ht
    · subst ht
      rw [dpt_f (fun z => absurd z.1 (by decide)), dpM_no]
    · have hl : t.toNat < 40 := by have := ht.1; have := ht.2.1; omega
      obtain ⟨_, _, e3, e4⟩ := (h.1 t.toNat hl).2 ht.2.2
      have ih := dp_eq h n (S.1 210 t.toNat) (e4.imp id fun z => z.1)
      rw [dpt_t ht, ih]
      show _ = (if t = -1 then 0 else 1 + dpM (S.1 268) n (S.1 268 t.toNat))
      rw [if_neg (by have := ht.1; omega), e3]
theorem us_eq {S : aS} (h : iSe S) {t : Int} : (0 ≤ t ∧ t < 40 ∧ ¬ S.1 266 t.toNat = 0) ↔ uS S t := by
  constructor
  · exact fun z => ⟨z.1, z.2.1, fun y => z.2.2 ((h.1 t.toNat (by omega)).1.mpr y)⟩
  · exact fun z => ⟨z.1, z.2.1, fun y => z.2.2 ((h.1 t.toNat (by have := z.1; have := z.2.1; omega)).1.mp y)⟩
theorem us_e {S : aS} (h : iSe S) {t : Int} (ht : uS S t) : S.1 267 t.toNat = S.1 209 t.toNat ∧ S.1 268 t.toNat = S.1 210 t.toNat ∧ (0 ≤ S.1 209 t.toNat ∧ S.1 209 t.toNat < S.1 14 4) ∧ (S.1 210 t.toNat = -1 ∨ (uS S (S.1 210 t.toNat) ∧ S.1 209 (S.1 210 t.toNat).toNat = S.1 209 t.toNat)) := by
  obtain ⟨a, b, c, d⟩ := (h.1 t.toNat (by have := ht.1; have := ht.2.1; omega)).2 ht.2.2
  exact ⟨b, c, a, d⟩
