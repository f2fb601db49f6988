/-! EQUAL ANSWERS: told -/
theorem gpL_b {sN : Int → Prop} : ∀ {n : Nat} {y r b : Int}, b ≤ gpL sN n y r b
  | 0, _, _, _ => Int.le_refl _
  | n + 1, y, r, b => by
    have := gpL_b (sN := sN) (n := n) (y := y + 1) (r := @ite _ (sN y) (Classical.propDecidable _) 0 (r + 1)) (b := max b (@ite _ (sN y) (Classical.propDecidable _) 0 (r + 1)))
    unfold gpL
    omega
theorem gpL_s {sN : Int → Prop} {n : Nat} {y r b : Int} (h : sN y) : gpL sN (n + 1) y r b = gpL sN n (y + 1) 0 (max b 0) := by
  have e : (@ite Int (sN y) (Classical.propDecidable _) 0 (r + 1)) = 0 := if_pos h
  show gpL sN n (y + 1) (@ite _ (sN y) (Classical.propDecidable _) 0 (r + 1)) (max b (@ite _ (sN y) (Classical.propDecidable _) 0 (r + 1))) = _
  rw [e]
theorem gpL_n {sN : Int → Prop} {n : Nat} {y r b : Int} (h : ¬ sN y) : gpL sN (n + 1) y r b = gpL sN n (y + 1) (r + 1) (max b (r + 1)) := by
  have e : (@ite Int (sN y) (Classical.propDecidable _) 0 (r + 1)) = r + 1 := if_neg h
  show gpL sN n (y + 1) (@ite _ (sN y) (Classical.propDecidable _) 0 (r + 1)) (max b (@ite _ (sN y) (Classical.propDecidable _) 0 (r + 1))) = _
  rw [e]
theorem gpL_r {sN : Int → Prop} : ∀ {n : Nat} {y r b z : Int}, y ≤ z → z < y + n → (∀ w, y ≤ w → w ≤ z → ¬ sN w) → z - y + 1 + r ≤ gpL sN n y r b
  | 0, y, r, b, z, h1, h2, _ => absurd h2 (by omega)
  | n + 1, y, r, b, z, h1, h2, h3 => by
    rw [gpL_n (h3 y (Int.le_refl _) h1)]
    by_cases q : z = y
    · have := gpL_b (sN := sN) (n := n) (y := y + 1) (r := r + 1) (b := max b (r + 1))
      omega
    · have := gpL_r (sN := sN) (n := n) (y := y + 1) (r := r + 1) (b := max b (r + 1)) (z := z) (by omega) (by omega) (fun w a c => h3 w (by omega) c)
      omega
theorem gpL_u {sN : Int → Prop} : ∀ {n : Nat} {y r b u z : Int}, 0 ≤ r → y ≤ u → u ≤ z → z < y + n → (∀ w, u ≤ w → w ≤ z → ¬ sN w) → z - u + 1 ≤ gpL sN n y r b
  | 0, y, r, b, u, z, _, h0, h1, h2, _ => absurd h2 (by omega)
  | n + 1, y, r, b, u, z, hr, h0, h1, h2, h3 => by
    by_cases q : u = y
    · subst q
      have := gpL_r (sN := sN) (n := n + 1) (y := u) (r := r) (b := b) (z := z) h1 h2 h3
      omega
    · by_cases c : sN y
      · rw [gpL_s c]
        exact gpL_u (by omega) (by omega) h1 (by omega) h3
      · rw [gpL_n c]
        exact gpL_u (by omega) (by omega) h1 (by omega) h3
theorem gpL_l {sN : Int → Prop} : ∀ {n : Nat} {y r b : Int}, 0 ≤ r → 0 ≤ b → gpL sN n y r b = b ∨ (∃ u z, y ≤ u ∧ u ≤ z ∧ z < y + n ∧ (∀ w, u ≤ w → w ≤ z → ¬ sN w) ∧ gpL sN n y r b = z - u + 1) ∨ ∃ z, y ≤ z ∧ z < y + n ∧ (∀ w, y ≤ w → w ≤ z → ¬ sN w) ∧ gpL sN n y r b = z - y + 1 + r
  | 0, _, _, _, _, _ => Or.inl rfl
  | n + 1, y, r, b, hr, hb => by
    by_cases c : sN y
    · rw [gpL_s c]
      rcases gpL_l (sN := sN) (n := n) (y := y + 1) (r := 0) (b := max b 0) (by omega) (by omega) with e | ⟨u, z, a1, a2, a3, a4, a5⟩ | ⟨z, a1, a2, a3, a4⟩
      · exact Or.inl (by omega)
      · exact Or.inr (Or.inl ⟨u, z, by omega, a2, by omega, a4, a5⟩)
      · exact Or.inr (Or.inl ⟨y + 1, z, by omega, a1, by omega, a3, by omega⟩)
    · rw [gpL_n c]
      rcases gpL_l (sN := sN) (n := n) (y := y + 1) (r := r + 1) (b := max b (r + 1)) (by omega) (by omega) with e | ⟨u, z, a1, a2, a3, a4, a5⟩ | ⟨z, a1, a2, a3, a4⟩
      · by_cases q : max b (r + 1) = b
        · exact Or.inl (by omega)
        · refine Or.inr (Or.inr ⟨y, Int.le_refl _, by omega, fun w w1 w2 => ?_, by omega⟩)
          have : w = y := by omega
          rw [this]; exact c
      · exact Or.inr (Or.inl ⟨u, z, by omega, a2, by omega, a4, a5⟩)
      · refine Or.inr (Or.inr ⟨z, by omega, by omega, fun w w1 w2 => ?_, by omega⟩)
        by_cases q : w = y
        · rw [q]; exact c
        · exact a3 w (by omega) w2
theorem sn_c {F L : Nat → Int} {p : Nat → Prop} {fb : Int} : ∀ {n : Nat}, ((sn F L p fb n).2 = 1 ∧ (sn F L p fb n).1 = fb ∧ ∀ j, j < n → ¬ (p j ∧ F j < fb)) ∨ ((sn F L p fb n).2 = 0 ∧ (∃ j, j < n ∧ p j ∧ F j < fb ∧ (sn F L p fb n).1 = L j) ∧ ∀ j, j < n → p j → F j < fb → L j ≤ (sn F L p fb n).1)
  | 0 => Or.inl ⟨rfl, rfl, fun j hj => absurd hj (by omega)⟩
  | n + 1 => by
    by_cases q : p n ∧ F n < fb
    · rw [sn_t q]
      rcases sn_c (F := F) (L := L) (p := p) (fb := fb) (n := n) with ⟨a1, a2, a3⟩ | ⟨a1, ⟨j, j1, j2, j3, j4⟩, a3⟩
      · rw [if_pos a1]
        refine Or.inr ⟨rfl, ⟨n, by omega, q.1, q.2, rfl⟩, fun j hj hp hf => ?_⟩
        by_cases e : j = n
        · subst e; exact Int.le_refl _
        · exact absurd ⟨hp, hf⟩ (a3 j (by omega))
      · rw [if_neg (by omega)]
        refine Or.inr ⟨rfl, ?_, fun i hi hp hf => ?_⟩
        · by_cases w : L n ≤ (sn F L p fb n).1
          · exact ⟨j, by omega, j2, j3, by show max _ _ = _; omega⟩
          · exact ⟨n, by omega, q.1, q.2, by show max _ _ = _; omega⟩
        · show L i ≤ max _ _
          by_cases e : i = n
          · subst e; omega
          · have := a3 i (by omega) hp hf; omega
    · rw [sn_f q]
      rcases sn_c (F := F) (L := L) (p := p) (fb := fb) (n := n) with ⟨a1, a2, a3⟩ | ⟨a1, ⟨j, j1, j2, j3, j4⟩, a3⟩
      · refine Or.inl ⟨a1, a2, fun j hj => ?_⟩
        by_cases e : j = n
        · subst e; exact q
        · exact a3 j (by omega)
      · refine Or.inr ⟨a1, ⟨j, by omega, j2, j3, j4⟩, fun i hi hp hf => ?_⟩
        by_cases e : i = n
        · subst e; exact absurd ⟨hp, hf⟩ q
        · exact a3 i (by omega) hp hf
theorem gap_eq {F L : Nat → Int} {p : Nat → Prop} {n : Nat} (hFL : ∀ k, k < n → p k → 1 ≤ F k ∧ F k ≤ L k ∧ L k ≤ 2000) (hne : ∃ k, k < n ∧ p k) {sN : Int → Prop} (hs : ∀ y, sN y ↔ ∃ k, k < n ∧ p k ∧ F k ≤ y ∧ y ≤ L k) : mx (fun b => max 0 (F b - (sn F L p (F b) n).1 - 1)) p n = gpL sN (mx L p n - mn F p n + 1).toNat (mn F p n) 0 0 := by
  obtain ⟨k0, k1, k2⟩ := hne
  obtain ⟨x1, x2, x3⟩ := hFL k0 k1 k2
  have m1 := mn_lb (f := F) (p := p) (n := n) k0 k1 k2
  have m2 := mx_ub (f := L) (p := p) (n := n) k0 k1 k2
  obtain ⟨km, km1, km2, km3⟩ : ∃ k, k < n ∧ p k ∧ mn F p n = F k := by
    rcases mn_at (f := F) (p := p) (n := n) with z | z
    · omega
    · exact z
  obtain ⟨kx, kx1, kx2, kx3⟩ : ∃ k, k < n ∧ p k ∧ mx L p n = L k := by
    rcases mx_at (f := L) (p := p) (n := n) with z | z
    · omega
    · exact z
  have hx := hFL kx kx1 kx2
  have hm := hFL km km1 km2
  have hR := gpL_b (sN := sN) (n := (mx L p n - mn F p n + 1).toNat) (y := mn F p n) (r := 0) (b := 0)
  have up : mx (fun b => max 0 (F b - (sn F L p (F b) n).1 - 1)) p n ≤ gpL sN (mx L p n - mn F p n + 1).toNat (mn F p n) 0 0 := by
    rcases mx_at (f := fun b => max 0 (F b - (sn F L p (F b) n).1 - 1)) (p := p) (n := n) with z | ⟨b, b1, b2, b3⟩
    · rw [z]; exact hR
    · rw [b3]
      show max 0 (F b - (sn F L p (F b) n).1 - 1) ≤ _
      have hb := hFL b b1 b2
      have lb := mn_lb (f := F) (p := p) (n := n) b b1 b2
      have ub := mx_ub (f := L) (p := p) (n := n) b b1 b2
      rcases sn_c (F := F) (L := L) (p := p) (fb := F b) (n := n) with ⟨a1, a2, a3⟩ | ⟨a1, ⟨j, j1, j2, j3, j4⟩, a3⟩
      · rw [a2]; omega
      · have hj := hFL j j1 j2
        have lj := mn_lb (f := F) (p := p) (n := n) j j1 j2
        by_cases c : 0 < F b - (sn F L p (F b) n).1 - 1
        · have := gpL_u (sN := sN) (n := (mx L p n - mn F p n + 1).toNat) (y := mn F p n) (r := 0) (b := 0) (u := (sn F L p (F b) n).1 + 1) (z := F b - 1) (by omega) (by omega) (by omega) (by omega) (fun w w1 w2 hw => by
            obtain ⟨k, e1, e2, e3, e4⟩ := (hs w).mp hw
            have := a3 k e1 e2 (by omega)
            omega)
          omega
        · omega
  have lo : gpL sN (mx L p n - mn F p n + 1).toNat (mn F p n) 0 0 ≤ mx (fun b => max 0 (F b - (sn F L p (F b) n).1 - 1)) p n := by
    have win : ∀ u z, mn F p n ≤ u → u ≤ z → z < mn F p n + (mx L p n - mn F p n + 1).toNat → (∀ w, u ≤ w → w ≤ z → ¬ sN w) → z - u + 1 ≤ mx (fun b => max 0 (F b - (sn F L p (F b) n).1 - 1)) p n := by
      intro u z h0 h1 h2 h3
      have hxz : z < F kx := by
        by_cases c : z < F kx
        · exact c
        · exact absurd ((hs z).mpr ⟨kx, kx1, kx2, by omega, by omega⟩) (h3 z h1 (Int.le_refl _))
      obtain ⟨b, b1, ⟨b2, b4⟩, b3⟩ : ∃ k, k < n ∧ (p k ∧ z < F k) ∧ mn F (fun k => p k ∧ z < F k) n = F k := by
        rcases mn_at (f := F) (p := fun k => p k ∧ z < F k) (n := n) with y | y
        · have := mn_lb (f := F) (p := fun k => p k ∧ z < F k) (n := n) kx kx1 ⟨kx2, hxz⟩
          omega
        · exact y
      have ub := mx_ub (f := fun b => max 0 (F b - (sn F L p (F b) n).1 - 1)) (p := p) (n := n) b b1 b2
      have ub' : max 0 (F b - (sn F L p (F b) n).1 - 1) ≤ mx (fun b => max 0 (F b - (sn F L p (F b) n).1 - 1)) p n := ub
      rcases sn_c (F := F) (L := L) (p := p) (fb := F b) (n := n) with ⟨a1, a2, a3⟩ | ⟨a1, ⟨j, j1, j2, j3, j4⟩, a3⟩
      · exact absurd ⟨km2, by omega⟩ (a3 km km1)
      · have hj := hFL j j1 j2
        have hjz : F j ≤ z := by
          by_cases c : z < F j
          · have := mn_lb (f := F) (p := fun k => p k ∧ z < F k) (n := n) j j1 ⟨j2, c⟩
            omega
          · omega
        have hlu : L j < u := by
          by_cases c : L j < u
          · exact c
          · exact absurd ((hs (max (F j) u)).mpr ⟨j, j1, j2, by omega, by omega⟩) (h3 _ (by omega) (by omega))
        omega
    rcases gpL_l (sN := sN) (n := (mx L p n - mn F p n + 1).toNat) (y := mn F p n) (r := 0) (b := 0) (by omega) (by omega) with e | ⟨u, z, a1, a2, a3, a4, a5⟩ | ⟨z, a1, a2, a3, a4⟩
    · rw [e]; exact mx_ge
    · rw [a5]; exact win u z a1 a2 a3 a4
    · rw [a4]
      have := win (mn F p n) z (Int.le_refl _) a1 a2 a3
      omega
  omega
