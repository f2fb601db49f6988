/-! BEFORES: tightening ends, and gives the widest spans -/
section TI
variable {ea la : Nat → Int}
theorem swE_m {a b j : Nat} {x : aFL} : x.1 j ≤ (swE a b x).1 j ∧ (swE a b x).2 j ≤ x.2 j := by
  unfold swE
  constructor
  · show _ ≤ (if x.1 b ≤ x.1 a then fu x.1 b (x.1 a + 1) else x.1) j
    split
    · simp only [fu]
      split
      · rename_i e; rw [e]; omega
      · omega
    · omega
  · show (if x.2 b ≤ x.2 a then fu x.2 a (x.2 b - 1) else x.2) j ≤ _
    split
    · simp only [fu]
      split
      · rename_i e; rw [e]; omega
      · omega
    · omega
theorem swp_m : ∀ {n k j : Nat} {x : aFL}, x.1 j ≤ (swp ea la n k x).1 j ∧ (swp ea la n k x).2 j ≤ x.2 j
  | 0, _, _, _ => ⟨Int.le_refl _, Int.le_refl _⟩
  | n + 1, k, j, x => by
    have a := swE_m (a := (ea k).toNat) (b := (la k).toNat) (j := j) (x := x)
    have b := swp_m (n := n) (k := k + 1) (j := j) (x := swE (ea k).toNat (la k).toNat x)
    show x.1 j ≤ (swp ea la n (k + 1) (swE (ea k).toNat (la k).toNat x)).1 j ∧ (swp ea la n (k + 1) (swE (ea k).toNat (la k).toNat x)).2 j ≤ x.2 j
    omega
theorem swE_b {a b : Nat} {x : aFL} : x.1 a < (swE a b x).1 b ∧ (swE a b x).2 a < x.2 b := by
  unfold swE
  constructor
  · show _ < (if x.1 b ≤ x.1 a then fu x.1 b (x.1 a + 1) else x.1) b
    split
    · simp only [fu, if_true]; omega
    · omega
  · show (if x.2 b ≤ x.2 a then fu x.2 a (x.2 b - 1) else x.2) a < _
    split
    · simp only [fu, if_true]; omega
    · omega
theorem swp_b : ∀ {n k j : Nat} {x : aFL}, k ≤ j → j < k + n → x.1 (ea j).toNat < (swp ea la n k x).1 (la j).toNat ∧ (swp ea la n k x).2 (ea j).toNat < x.2 (la j).toNat
  | 0, _, _, _, h, h2 => absurd h2 (by omega)
  | n + 1, k, j, x, h, h2 => by
    show x.1 (ea j).toNat < (swp ea la n (k + 1) (swE (ea k).toNat (la k).toNat x)).1 (la j).toNat ∧ (swp ea la n (k + 1) (swE (ea k).toNat (la k).toNat x)).2 (ea j).toNat < x.2 (la j).toNat
    by_cases e : j = k
    · subst e
      have a := swE_b (a := (ea j).toNat) (b := (la j).toNat) (x := x)
      have b1 := (swp_m (ea := ea) (la := la) (n := n) (k := j + 1) (j := (la j).toNat) (x := swE (ea j).toNat (la j).toNat x)).1
      have b2 := (swp_m (ea := ea) (la := la) (n := n) (k := j + 1) (j := (ea j).toNat) (x := swE (ea j).toNat (la j).toNat x)).2
      omega
    · have i := swp_b (n := n) (k := k + 1) (j := j) (x := swE (ea k).toNat (la k).toNat x) (by omega) (by omega)
      have a1 := (swE_m (a := (ea k).toNat) (b := (la k).toNat) (j := (ea j).toNat) (x := x)).1
      have a2 := (swE_m (a := (ea k).toNat) (b := (la k).toNat) (j := (la j).toNat) (x := x)).2
      omega
theorem swp_c1 {b : Nat} : ∀ {n k : Nat} {x : aFL}, (∀ j, k ≤ j → j < k + n → (la j).toNat = b → (swp ea la n k x).1 (ea j).toNat < x.1 b) → (swp ea la n k x).1 b = x.1 b
  | 0, _, _, _ => rfl
  | n + 1, k, x, h => by
    have e : (swE (ea k).toNat (la k).toNat x).1 b = x.1 b := by
      by_cases q : (la k).toNat = b
      · have h1 := h k (by omega) (by omega) q
        have h2 := (swp_m (ea := ea) (la := la) (n := n + 1) (k := k) (j := (ea k).toNat) (x := x)).1
        unfold swE
        show (if x.1 (la k).toNat ≤ x.1 (ea k).toNat then fu x.1 (la k).toNat (x.1 (ea k).toNat + 1) else x.1) b = _
        rw [if_neg (by rw [q]; omega)]
      · unfold swE
        show (if x.1 (la k).toNat ≤ x.1 (ea k).toNat then fu x.1 (la k).toNat (x.1 (ea k).toNat + 1) else x.1) b = _
        split
        · simp only [fu]; rw [if_neg (fun z => q z.symm)]
        · rfl
    have i := swp_c1 (b := b) (n := n) (k := k + 1) (x := swE (ea k).toNat (la k).toNat x) (fun j h1 h2 h3 => by
      rw [e]
      exact h j (by omega) (by omega) h3)
    show (swp ea la n (k + 1) (swE (ea k).toNat (la k).toNat x)).1 b = _
    rw [i, e]
theorem swp_c2 {a : Nat} : ∀ {n k : Nat} {x : aFL}, (∀ j, k ≤ j → j < k + n → (ea j).toNat = a → x.2 a < (swp ea la n k x).2 (la j).toNat) → (swp ea la n k x).2 a = x.2 a
  | 0, _, _, _ => rfl
  | n + 1, k, x, h => by
    have e : (swE (ea k).toNat (la k).toNat x).2 a = x.2 a := by
      by_cases q : (ea k).toNat = a
      · have h1 := h k (by omega) (by omega) q
        have h2 := (swp_m (ea := ea) (la := la) (n := n + 1) (k := k) (j := (la k).toNat) (x := x)).2
        unfold swE
        show (if x.2 (la k).toNat ≤ x.2 (ea k).toNat then fu x.2 (ea k).toNat (x.2 (la k).toNat - 1) else x.2) a = _
        rw [if_neg (by rw [q]; omega)]
      · unfold swE
        show (if x.2 (la k).toNat ≤ x.2 (ea k).toNat then fu x.2 (ea k).toNat (x.2 (la k).toNat - 1) else x.2) a = _
        split
        · simp only [fu]; rw [if_neg (fun z => q z.symm)]
        · rfl
    have i := swp_c2 (a := a) (n := n) (k := k + 1) (x := swE (ea k).toNat (la k).toNat x) (fun j h1 h2 h3 => by
      rw [e]
      exact h j (by omega) (by omega) h3)
    show (swp ea la n (k + 1) (swE (ea k).toNat (la k).toNat x)).2 a = _
    rw [i, e]
/-- no turn moves anything: nothing is moved, and all befores hold -/
theorem swv_no : ∀ {n k : Nat} {x : aFL}, ¬ swv ea la n k x → swp ea la n k x = x ∧ ∀ j, k ≤ j → j < k + n → x.1 (ea j).toNat < x.1 (la j).toNat ∧ x.2 (ea j).toNat < x.2 (la j).toNat
  | 0, _, _, _ => ⟨rfl, fun j h1 h2 => absurd h2 (by omega)⟩
  | n + 1, k, x, h => by
    have h1 : ¬ x.1 (la k).toNat ≤ x.1 (ea k).toNat := fun z => h (Or.inl z)
    have h2 : ¬ x.2 (la k).toNat ≤ x.2 (ea k).toNat := fun z => h (Or.inr (Or.inl z))
    have e : swE (ea k).toNat (la k).toNat x = x := by
      unfold swE
      rw [if_neg h1, if_neg h2]
    have h3 : ¬ swv ea la n (k + 1) x := fun z => h (Or.inr (Or.inr (by rw [e]; exact z)))
    obtain ⟨i1, i2⟩ := swv_no h3
    refine ⟨?_, fun j j1 j2 => ?_⟩
    · show swp ea la n (k + 1) (swE (ea k).toNat (la k).toNat x) = x
      rw [e, i1]
    · by_cases q : j = k
      · subst q; omega
      · exact i2 j (by omega) (by omega)
theorem swv_ye : ∀ {n k : Nat} {x : aFL}, swv ea la n k x → ∃ j, k ≤ j ∧ j < k + n ∧ (x.1 (la j).toNat < (swp ea la n k x).1 (la j).toNat ∨ (swp ea la n k x).2 (ea j).toNat < x.2 (ea j).toNat)
  | 0, _, _, h => h.elim
  | n + 1, k, x, h => by
    have b := swp_b (ea := ea) (la := la) (n := n + 1) (k := k) (j := k) (x := x) (Nat.le_refl _) (by omega)
    by_cases h1 : x.1 (la k).toNat ≤ x.1 (ea k).toNat
    · exact ⟨k, Nat.le_refl _, by omega, Or.inl (by omega)⟩
    · by_cases h2 : x.2 (la k).toNat ≤ x.2 (ea k).toNat
      · exact ⟨k, Nat.le_refl _, by omega, Or.inr (by omega)⟩
      · have e : swE (ea k).toNat (la k).toNat x = x := by
          unfold swE
          rw [if_neg h1, if_neg h2]
        have h3 : swv ea la n (k + 1) x := by
          have := (h.resolve_left h1).resolve_left h2
          rw [e] at this; exact this
        obtain ⟨j, j1, j2, j3⟩ := swv_ye h3
        have e2 : swp ea la (n + 1) k x = swp ea la n (k + 1) x := by
          show swp ea la n (k + 1) (swE (ea k).toNat (la k).toNat x) = _
          rw [e]
        rw [e2]
        exact ⟨j, by omega, by omega, j3⟩
/-- the state behind r rounds -/
def xr (ea la : Nat → Int) (m : Nat) (x : aFL) : Nat → aFL
  | 0 => x
  | r + 1 => swp ea la m 0 (xr ea la m x r)
theorem xr_s {m : Nat} {x : aFL} : ∀ {r : Nat}, xr ea la m (swp ea la m 0 x) r = xr ea la m x (r + 1)
  | 0 => rfl
  | r + 1 => by
    show swp ea la m 0 (xr ea la m (swp ea la m 0 x) r) = swp ea la m 0 (xr ea la m x (r + 1))
    rw [xr_s]
theorem tgM_r {m : Nat} : ∀ {n : Nat} {p : Prop} {x : aFL}, tgM ea la m (n + 1) p x → swv ea la m 0 (xr ea la m x n)
  | 0, p, x, h => h.2
  | n + 1, p, x, h => by
    have := tgM_r (n := n) h.2
    rw [xr_s] at this
    exact this
theorem st_1 {m nb : Nat} {F : Nat → Int} {x : aFL} (hr : ∀ k, k < m → (ea k).toNat < nb ∧ (la k).toNat < nb) (hF : ∀ k, k < m → F (ea k).toNat < F (la k).toNat) : ∀ (r r' : Nat), r ≤ r' → ∀ b, b < nb → cnt (fun c => decide (F c < F b)) nb ≤ r → (xr ea la m x (r' + 1)).1 b = (xr ea la m x r').1 b
  | 0, r', _, b, hb, hc => by
    refine swp_c1 (fun j _ j2 j3 => ?_)
    have h1 := hF j (by omega)
    have h2 := (hr j (by omega)).1
    have : cnt (fun c => decide (F c < F b)) nb ≤ 0 := hc
    have := cnt_z.mp this (ea j).toNat h2
    rw [j3] at h1
    simp at this
    omega
  | r + 1, r', hr', b, hb, hc => by
    obtain ⟨q, rfl⟩ : ∃ q, r' = q + 1 := ⟨r' - 1, by omega⟩
    refine swp_c1 (fun j _ j2 j3 => ?_)
    have h1 := hF j (by omega)
    obtain ⟨h2, _⟩ := hr j (by omega)
    rw [j3] at h1
    have hlt : cnt (fun c => decide (F c < F (ea j).toNat)) nb < cnt (fun c => decide (F c < F b)) nb := cnt_lt (j0 := (ea j).toNat) (fun i _ hi => by simp at hi ⊢; omega) h2 (by simp) (by simpa using h1)
    have i1 := st_1 (x := x) hr hF r q (by omega) (ea j).toNat h2 (by omega)
    have i2 := st_1 (x := x) hr hF r (q + 1) (by omega) (ea j).toNat h2 (by omega)
    have hb := (swp_b (ea := ea) (la := la) (n := m) (k := 0) (j := j) (x := xr ea la m x q) (by omega) (by omega)).1
    rw [j3] at hb
    show (xr ea la m x (q + 1 + 1)).1 (ea j).toNat < (xr ea la m x (q + 1)).1 b
    rw [i2, i1]
    exact hb
theorem st_2 {m nb : Nat} {L : Nat → Int} {x : aFL} (hr : ∀ k, k < m → (ea k).toNat < nb ∧ (la k).toNat < nb) (hL : ∀ k, k < m → L (ea k).toNat < L (la k).toNat) : ∀ (r r' : Nat), r ≤ r' → ∀ b, b < nb → cnt (fun c => decide (L b < L c)) nb ≤ r → (xr ea la m x (r' + 1)).2 b = (xr ea la m x r').2 b
  | 0, r', _, b, hb, hc => by
    refine swp_c2 (fun j _ j2 j3 => ?_)
    have h1 := hL j (by omega)
    have h2 := (hr j (by omega)).2
    have : cnt (fun c => decide (L b < L c)) nb ≤ 0 := hc
    have := cnt_z.mp this (la j).toNat h2
    rw [j3] at h1
    simp at this
    omega
  | r + 1, r', hr', b, hb, hc => by
    obtain ⟨q, rfl⟩ : ∃ q, r' = q + 1 := ⟨r' - 1, by omega⟩
    refine swp_c2 (fun j _ j2 j3 => ?_)
    have h1 := hL j (by omega)
    obtain ⟨_, h2⟩ := hr j (by omega)
    rw [j3] at h1
    have hlt : cnt (fun c => decide (L (la j).toNat < L c)) nb < cnt (fun c => decide (L b < L c)) nb := cnt_lt (j0 := (la j).toNat) (fun i _ hi => by simp at hi ⊢; omega) h2 (by simp) (by simpa using h1)
    have i1 := st_2 (x := x) hr hL r q (by omega) (la j).toNat h2 (by omega)
    have i2 := st_2 (x := x) hr hL r (q + 1) (by omega) (la j).toNat h2 (by omega)
    have hb := (swp_b (ea := ea) (la := la) (n := m) (k := 0) (j := j) (x := xr ea la m x q) (by omega) (by omega)).2
    rw [j3] at hb
    show (xr ea la m x (q + 1)).2 b < (xr ea la m x (q + 1 + 1)).2 (la j).toNat
    rw [i2, i1]
    exact hb
theorem tg_end {m nb : Nat} {F L : Nat → Int} {x : aFL} (hnb : nb ≤ 30) (hr : ∀ k, k < m → (ea k).toNat < nb ∧ (la k).toNat < nb) (hF : ∀ k, k < m → F (ea k).toNat < F (la k).toNat) (hL : ∀ k, k < m → L (ea k).toNat < L (la k).toNat) : ¬ tgM ea la m 30 True x := by
  intro h
  obtain ⟨j, _, j2, j3⟩ := swv_ye (tgM_r h)
  obtain ⟨r1, r2⟩ := hr j (by omega)
  have b1 : cnt (fun c => decide (F c < F (la j).toNat)) nb < cnt (fun _ => true) nb := cnt_lt (j0 := (la j).toNat) (fun i _ _ => rfl) r2 (by simp) rfl
  have b2 : cnt (fun c => decide (L (ea j).toNat < L c)) nb < cnt (fun _ => true) nb := cnt_lt (j0 := (ea j).toNat) (fun i _ _ => rfl) r1 (by simp) rfl
  have b3 := (cnt_b (fun _ => true) nb).2
  have e1 := st_1 (x := x) hr hF 29 29 (Nat.le_refl _) (la j).toNat r2 (by omega)
  have e2 := st_2 (x := x) hr hL 29 29 (Nat.le_refl _) (ea j).toNat r1 (by omega)
  have e1' : (swp ea la m 0 (xr ea la m x 29)).1 (la j).toNat = (xr ea la m x 29).1 (la j).toNat := e1
  have e2' : (swp ea la m 0 (xr ea la m x 29)).2 (ea j).toNat = (xr ea la m x 29).2 (ea j).toNat := e2
  omega
/-- what every solution bounds -/
theorem swp_lo {m nb : Nat} {F L : Nat → Int} (hr : ∀ k, k < m → (ea k).toNat < nb ∧ (la k).toNat < nb) (hF : ∀ k, k < m → F (ea k).toNat < F (la k).toNat ∧ L (ea k).toNat < L (la k).toNat) : ∀ {n k : Nat} {x : aFL}, k + n ≤ m → (∀ b, b < nb → x.1 b ≤ F b ∧ L b ≤ x.2 b) → ∀ b, b < nb → (swp ea la n k x).1 b ≤ F b ∧ L b ≤ (swp ea la n k x).2 b
  | 0, _, _, _, h => h
  | n + 1, k, x, hk, h => by
    refine swp_lo hr hF (n := n) (k := k + 1) (x := swE (ea k).toNat (la k).toNat x) (by omega) (fun b hb => ?_)
    obtain ⟨r1, r2⟩ := hr k (by omega)
    have f := hF k (by omega)
    have ha := h _ r1
    have hb' := h _ r2
    have hbb := h b hb
    unfold swE
    constructor
    · show (if x.1 (la k).toNat ≤ x.1 (ea k).toNat then fu x.1 (la k).toNat (x.1 (ea k).toNat + 1) else x.1) b ≤ _
      split
      · simp only [fu]
        split
        · rename_i e; rw [e]; omega
        · exact hbb.1
      · exact hbb.1
    · show _ ≤ (if x.2 (la k).toNat ≤ x.2 (ea k).toNat then fu x.2 (ea k).toNat (x.2 (la k).toNat - 1) else x.2) b
      split
      · simp only [fu]
        split
        · rename_i e; rw [e]; omega
        · exact hbb.2
      · exact hbb.2
theorem tgX_lo {m nb : Nat} {F L : Nat → Int} (hr : ∀ k, k < m → (ea k).toNat < nb ∧ (la k).toNat < nb) (hF : ∀ k, k < m → F (ea k).toNat < F (la k).toNat ∧ L (ea k).toNat < L (la k).toNat) : ∀ {n : Nat} {p : Prop} {x : aFL}, (∀ b, b < nb → x.1 b ≤ F b ∧ L b ≤ x.2 b) → ∀ b, b < nb → (tgX ea la m n p x).1 b ≤ F b ∧ L b ≤ (tgX ea la m n p x).2 b
  | 0, _, _, h => h
  | n + 1, p, x, h => by
    by_cases q : p
    · have e : tgX ea la m (n + 1) p x = tgX ea la m n (swv ea la m 0 x) (swp ea la m 0 x) := if_pos q
      rw [e]
      exact tgX_lo hr hF (swp_lo hr hF (by omega) h)
    · have e : tgX ea la m (n + 1) p x = x := if_neg q
      rw [e]; exact h
theorem tgX_m {m : Nat} : ∀ {n : Nat} {p : Prop} {x : aFL} {j : Nat}, x.1 j ≤ (tgX ea la m n p x).1 j ∧ (tgX ea la m n p x).2 j ≤ x.2 j
  | 0, _, _, _ => ⟨Int.le_refl _, Int.le_refl _⟩
  | n + 1, p, x, j => by
    by_cases q : p
    · have e : tgX ea la m (n + 1) p x = tgX ea la m n (swv ea la m 0 x) (swp ea la m 0 x) := if_pos q
      rw [e]
      have a := swp_m (ea := ea) (la := la) (n := m) (k := 0) (j := j) (x := x)
      have b := tgX_m (m := m) (n := n) (p := swv ea la m 0 x) (x := swp ea la m 0 x) (j := j)
      omega
    · have e : tgX ea la m (n + 1) p x = x := if_neg q
      rw [e]; exact ⟨Int.le_refl _, Int.le_refl _⟩
/-- where it ended, all befores hold -/
theorem tgX_ok {m : Nat} : ∀ {n : Nat} {p : Prop} {x : aFL}, ¬ tgM ea la m n p x → (p ∨ ∀ j, j < m → x.1 (ea j).toNat < x.1 (la j).toNat ∧ x.2 (ea j).toNat < x.2 (la j).toNat) → ∀ j, j < m → (tgX ea la m n p x).1 (ea j).toNat < (tgX ea la m n p x).1 (la j).toNat ∧ (tgX ea la m n p x).2 (ea j).toNat < (tgX ea la m n p x).2 (la j).toNat
  | 0, p, x, h, h2 => h2.resolve_left h
  | n + 1, p, x, h, h2 => by
    by_cases q : p
    · have e : tgX ea la m (n + 1) p x = tgX ea la m n (swv ea la m 0 x) (swp ea la m 0 x) := if_pos q
      rw [e]
      refine tgX_ok (n := n) (fun z => h ⟨q, z⟩) ?_
      by_cases w : swv ea la m 0 x
      · exact Or.inl w
      · obtain ⟨i1, i2⟩ := swv_no w
        rw [i1]
        exact Or.inr (fun j hj => i2 j (by omega) (by omega))
    · have e : tgX ea la m (n + 1) p x = x := if_neg q
      rw [e]
      exact h2.resolve_left q
end TI
