/-! PRINT: the walk over the senses ends, and is short -/
noncomputable def kk (S : aS) : Nat → Int → Nat
  | 0, _ => 0
  | n + 1, t => if t = -1 then 0 else kk S n (S.1 268 t.toNat) + (paM S t).toNat * 64 ^ (40 - (dpM (S.1 268) (n + 1) t).toNat)
theorem kk_no {S : aS} : ∀ {n : Nat}, kk S n (-1) = 0
  | 0 => rfl
  | _ + 1 => if_pos rfl
theorem kk_st {S : aS} : ∀ {n m : Nat} {t : Int}, chn (S.1 268) n t → n ≤ m → dpM (S.1 268) m t = dpM (S.1 268) n t ∧ kk S m t = kk S n t
  | 0, m, t, h, _ => by
    have h' : t = -1 := h
    subst h'
    rw [dpM_no, dpM_no, kk_no, kk_no]
    exact ⟨rfl, rfl⟩
  | n + 1, m, t, h, hm => by
    by_cases q : t = -1
    · subst q
      rw [dpM_no, dpM_no, kk_no, kk_no]
      exact ⟨rfl, rfl⟩
    · obtain ⟨m', rfl⟩ : ∃ m', m = m' + 1 := ⟨m - 1, by omega⟩
      obtain ⟨_, _, c⟩ := h.resolve_left q
      obtain ⟨i1, i2⟩ := kk_st c (m := m') (by omega)
      have e1 : dpM (S.1 268) (m' + 1) t = dpM (S.1 268) (n + 1) t := by
        unfold dpM
        rw [if_neg q, if_neg q, i1]
      refine ⟨e1, ?_⟩
      unfold kk
      rw [if_neg q, if_neg q, i2, e1]
noncomputable def kM (S : aS) (t : Int) : Nat := kk S 40 t
def dM (S : aS) (t : Int) : Nat := (dpM (S.1 268) 40 t).toNat
theorem vs_us {S : aS} (h : iSe S) {t : Int} : vsM S t ↔ uS S t := us_eq h
theorem kM_s {S : aS} (h : iSe S) {t : Int} (ht : uS S t) : dM S t = 1 + dM S (S.1 268 t.toNat) ∧ kM S t = kM S (S.1 268 t.toNat) + (paM S t).toNat * 64 ^ (40 - dM S t) ∧ dM S t ≤ 40 := by
  have q : ¬ t = -1 := by have := ht.1; omega
  have c := chn_I h (Or.inr ht)
  obtain ⟨_, _, c2⟩ := c.resolve_left q
  obtain ⟨i1, i2⟩ := kk_st (n := 39) c2 (m := 40) (by decide)
  have b := dpM_b (P := S.1 268) 40 t
  have b2 := dpM_b (P := S.1 268) 39 (S.1 268 t.toNat)
  have e1 : dpM (S.1 268) 40 t = 1 + dpM (S.1 268) 39 (S.1 268 t.toNat) := if_neg q
  have e2 : kk S 40 t = kk S 39 (S.1 268 t.toNat) + (paM S t).toNat * 64 ^ (40 - (dpM (S.1 268) 40 t).toNat) := if_neg q
  refine ⟨?_, ?_, ?_⟩
  · unfold dM
    rw [i1]; omega
  · unfold kM dM
    rw [i2, e2]
  · unfold dM; omega
theorem nbM_k {S : aS} (h : iSe S) {e : Int} {a : Nat} : ∀ {n : Nat} {nx x : Int}, (nx = -1 ∨ (vsM S nx ∧ a < kM S nx)) → (x = -1 ∨ (uS S x ∧ a < kM S x + 64 ^ (40 - dM S x))) → nbM S e n nx x = -1 ∨ (vsM S (nbM S e n nx x) ∧ a < kM S (nbM S e n nx x))
  | 0, _, _, h1, _ => h1
  | n + 1, nx, x, h1, h2 => by
    by_cases q : nx = -1 ∧ ¬ x = -1
    · rw [nbM_yes q]
      obtain ⟨x1, x2⟩ := h2.resolve_left q.2
      obtain ⟨s1, s2, s3⟩ := kM_s h x1
      have pb := paM_b (S := S) (a := x)
      refine nbM_k h ?_ ?_
      · rcases atM_v (S := S) (e := e) (u := S.1 268 x.toNat) (p := paM S x + 1) with z | ⟨z1, z2, z3, z4⟩
        · exact Or.inl z
        · refine Or.inr ⟨z1, ?_⟩
          obtain ⟨t1, t2, t3⟩ := kM_s h ((vs_us h).mp z1)
          rw [z3] at t1 t2
          have ed : dM S (atM S e (S.1 268 x.toNat) (paM S x + 1)) = dM S x := by omega
          rw [ed, z4, show (paM S x + 1).toNat = (paM S x).toNat + 1 from by omega, Nat.succ_mul] at t2
          omega
      · obtain ⟨_, p2, _, p4⟩ := us_e h x1
        rcases p4 with z | z
        · rw [p2, z]; exact Or.inl rfl
        · rw [p2]
          refine Or.inr ⟨z.1, ?_⟩
          rw [p2] at s1 s2
          have ex : 40 - dM S (S.1 210 x.toNat) = (40 - dM S x) + 1 := by omega
          rw [ex, Nat.pow_succ]
          have : (paM S x).toNat * 64 ^ (40 - dM S x) + 64 ^ (40 - dM S x) ≤ 64 ^ (40 - dM S x) * 64 := by
            rw [← Nat.succ_mul, Nat.mul_comm]
            exact Nat.mul_le_mul_left _ (by omega)
          omega
    · rw [nbM_no q]; exact h1
theorem nxM_k {S : aS} (h : iSe S) {e : Int} {a : Int} (ha : uS S a) : nxM S e a = -1 ∨ (vsM S (nxM S e a) ∧ kM S a < kM S (nxM S e a)) := by
  have hp : ∀ m, 0 < 64 ^ m := fun m => Nat.pow_pos (by decide)
  refine nbM_k h ?_ (Or.inr ⟨ha, by have := hp (40 - dM S a); omega⟩)
  rcases atM_v (S := S) (e := e) (u := a) (p := 1) with z | ⟨z1, z2, z3, z4⟩
  · exact Or.inl z
  · refine Or.inr ⟨z1, ?_⟩
    obtain ⟨t1, t2, t3⟩ := kM_s h ((vs_us h).mp z1)
    rw [z3, z4] at t2
    have := hp (40 - dM S (atM S e a 1))
    rw [t2]
    simp
    exact hp _
theorem enT_k {S : aS} (h : iSe S) {e : Int} : ∀ {n : Nat} {a : Int}, (a = -1 ∨ (uS S a ∧ cnt (fun j => cb (uS S (j : Int) ∧ kM S a ≤ kM S (j : Int))) 40 ≤ n)) → enT S e n a
  | 0, a, ha => by
    rcases ha with z | ⟨z1, z2⟩
    · exact z
    · exfalso
      have := cnt_z.mp z2 a.toNat (by have := z1.1; have := z1.2.1; omega)
      rw [cb_t ⟨by rw [show ((a.toNat : Nat) : Int) = a from by have := z1.1; omega]; exact z1, by rw [show ((a.toNat : Nat) : Int) = a from by have := z1.1; omega]; exact Nat.le_refl _⟩] at this
      exact absurd this (by decide)
  | n + 1, a, ha => by
    rcases ha with z | ⟨z1, z2⟩
    · exact Or.inl z
    · refine Or.inr (enT_k h ?_)
      rcases nxM_k h (e := e) z1 with y | ⟨y1, y2⟩
      · exact Or.inl y
      · refine Or.inr ⟨(vs_us h).mp y1, ?_⟩
        have ea : ((a.toNat : Nat) : Int) = a := by have := z1.1; omega
        have : cnt (fun j => cb (uS S (j : Int) ∧ kM S (nxM S e a) ≤ kM S (j : Int))) 40 < cnt (fun j => cb (uS S (j : Int) ∧ kM S a ≤ kM S (j : Int))) 40 := cnt_lt (j0 := a.toNat) (fun j _ hj => by
          have := cb_e hj
          exact cb_t ⟨this.1, by omega⟩) (by have := z1.1; have := z1.2.1; omega) (by
          rw [ea]
          exact cb_f (fun w => by omega)) (by
          rw [ea]
          exact cb_t ⟨z1, Nat.le_refl _⟩)
        omega
theorem enT_I {S : aS} (h : iSe S) {e : Int} : enT S e 40 (atM S e (-1) 1) := by
  refine enT_k h ?_
  rcases atM_v (S := S) (e := e) (u := -1) (p := 1) with z | ⟨z1, _⟩
  · exact Or.inl z
  · exact Or.inr ⟨(vs_us h).mp z1, (cnt_b _ 40).2⟩
/-! sums -/
def sumN (f : Nat → Nat) : Nat → Nat
  | 0 => 0
  | n + 1 => sumN f n + f n
theorem sumN_le {f g : Nat → Nat} : ∀ {n : Nat}, (∀ j, j < n → f j ≤ g j) → sumN f n ≤ sumN g n
  | 0, _ => Nat.le_refl _
  | n + 1, h => by
    have := sumN_le (f := f) (g := g) (n := n) (fun j hj => h j (by omega))
    have := h n (by omega)
    show sumN f n + f n ≤ sumN g n + g n
    omega
theorem sumN_lt {f g : Nat → Nat} {j0 d : Nat} : ∀ {n : Nat}, (∀ j, j < n → f j ≤ g j) → j0 < n → f j0 + d ≤ g j0 → sumN f n + d ≤ sumN g n
  | 0, _, h, _ => absurd h (by omega)
  | n + 1, h, h0, h1 => by
    show sumN f n + f n + d ≤ sumN g n + g n
    by_cases e : j0 = n
    · subst e
      have := sumN_le (f := f) (g := g) (n := j0) (fun j hj => h j (by omega))
      omega
    · have := sumN_lt (f := f) (g := g) (d := d) (n := n) (fun j hj => h j (by omega)) (by omega) h1
      have := h n (by omega)
      omega
theorem sumN_add {f g : Nat → Nat} : ∀ {n : Nat}, sumN (fun j => f j + g j) n = sumN f n + sumN g n
  | 0 => rfl
  | n + 1 => by
    show sumN (fun j => f j + g j) n + (f n + g n) = _
    rw [sumN_add]
    show _ = sumN f n + f n + (sumN g n + g n)
    omega
theorem sumN_k {k : Nat} : ∀ {n : Nat}, sumN (fun _ => k) n = k * n
  | 0 => rfl
  | n + 1 => by
    show sumN (fun _ => k) n + k = k * (n + 1)
    rw [sumN_k, Nat.mul_succ]
theorem sumN_1 {f : Nat → Nat} {k : Nat} {x : Int} (hk : ∀ j, f j ≤ k) (hx : ∀ j : Nat, ¬ x = (j : Int) → f j = 0) : ∀ {n : Nat}, sumN f n ≤ k ∧ ((n : Int) ≤ x → sumN f n = 0)
  | 0 => ⟨Nat.zero_le _, fun _ => rfl⟩
  | n + 1 => by
    obtain ⟨a, b⟩ := sumN_1 hk hx (n := n)
    have h1 := hk n
    have h2 := hx n
    show sumN f n + f n ≤ k ∧ (_ → sumN f n + f n = 0)
    by_cases q : x = (n : Int)
    · have := b (by omega)
      exact ⟨by omega, fun z => by omega⟩
    · have := h2 q
      exact ⟨by omega, fun z => by have := b (by omega); omega⟩
/-! lengths -/
theorem dgt_4 {n : Int} : (dgt n).length ≤ 4 := by
  unfold dgt
  simp only [List.length_append]
  split <;> split <;> split <;> simp
theorem dgt_3 {n : Int} (h : n < 1000) : (dgt n).length ≤ 3 := by
  unfold dgt
  simp only [List.length_append]
  rw [if_neg (by omega)]
  split <;> split <;> simp
theorem dgt_2 {n : Int} (h : n < 100) : (dgt n).length ≤ 2 := by
  unfold dgt
  simp only [List.length_append]
  rw [if_neg (by omega), if_neg (by omega)]
  split <;> simp
theorem pbM_len {S : aS} {g : Nat → Int} : ∀ {k : Nat}, (pbM S g k).length ≤ 3 * k - 1
  | 0 => Nat.zero_le _
  | k + 1 => by
    have i := pbM_len (S := S) (g := g) (k := k)
    have d := dgt_2 (n := paM S (g k)) (by have := paM_b (S := S) (a := g k); omega)
    unfold pbM
    simp only [List.length_append]
    by_cases q : 0 < k
    · rw [if_pos q]
      simp
      omega
    · rw [if_neg q]
      simp
      omega
theorem mkM_len {S : aS} {a : Int} : (mkM S a).length ≤ 119 := by
  have h := upA_d (P := S.1 268) (n := 40) (x := a) (d := 0) (g := fun _ => 0)
  have i := pbM_len (S := S) (g := (upA (S.1 268) 40 a 0 (fun _ => 0)).1) (k := (upA (S.1 268) 40 a 0 (fun _ => 0)).2)
  unfold mkM
  omega
theorem wd8L_8 {w : Int} : (wd8L w).length ≤ 8 := by
  have := wd8L_len (w := w)
  have := sz8_b 8 w
  omega
theorem wiL_len {n a b : Int} (h : n < 1000) : (wiL n a b).length ≤ 15 := by
  have d1 := dgt_4 (n := a)
  have d2 := dgt_4 (n := b)
  have d3 := dgt_3 h
  unfold wiL
  simp only [List.length_append, List.length_cons]
  split
  · simp only [List.length_append, List.length_cons]
    split
    · simp; omega
    · simp; omega
  · simp; omega
theorem ptE_len {S : aS} {a : Int} {p : Nat} : (ptE S a p).length ≤ 129 ∧ (¬ S.1 269 p = a → (ptE S a p).length = 0) := by
  have m := mkM_len (S := S) (a := S.1 270 p)
  have w := wd8L_8 (w := S.2 263 (5 * S.1 267 (S.1 270 p).toNat).toNat)
  unfold ptE
  by_cases q : S.1 269 p = a ∧ ¬ S.1 270 p = -1
  · rw [if_pos q]
    refine ⟨?_, fun z => absurd q.1 z⟩
    simp only [List.length_append, List.length_cons]
    omega
  · rw [if_neg q]
    exact ⟨by simp, fun _ => rfl⟩
theorem ptM_len {S : aS} : ∀ {n p : Nat}, sumN (fun j => (ptM S (j : Int) n p).length) 40 ≤ 129 * n
  | 0, p => by
    have : sumN (fun j => (ptM S (j : Int) 0 p).length) 40 = sumN (fun _ => 0) 40 := rfl
    rw [this, sumN_k]
    omega
  | n + 1, p => by
    have i := ptM_len (S := S) (n := n) (p := p + 1)
    have e : (fun j : Nat => (ptM S (j : Int) (n + 1) p).length) = (fun j : Nat => (ptE S (j : Int) p).length + (ptM S (j : Int) n (p + 1)).length) := funext fun j => by
      show (ptE S (j : Int) p ++ ptM S (j : Int) n (p + 1)).length = _
      rw [List.length_append]
    rw [e, sumN_add]
    have o := (sumN_1 (f := fun j => (ptE S (j : Int) p).length) (k := 129) (x := S.1 269 p) (fun j => ptE_len.1) (fun j hj => ptE_len.2 hj) (n := 40)).1
    omega
theorem clL_len {S : aS} (h : iSe S) {e : Int} : ∀ {n : Nat} {a : Int}, uS S a → (clL S e n a).length ≤ sumN (fun j => if kM S a ≤ kM S (j : Int) then (prL S (j : Int)).length else 0) 40
  | 0, a, _ => Nat.zero_le _
  | n + 1, a, ha => by
    have ea : ((a.toNat : Nat) : Int) = a := by have := ha.1; omega
    have hl : a.toNat < 40 := by have := ha.1; have := ha.2.1; omega
    rw [clL_yes (by have := ha.1; omega), List.length_append]
    rcases nxM_k h (e := e) ha with z | ⟨z1, z2⟩
    · rw [z, clL_no]
      have := sumN_lt (f := fun _ => 0) (g := fun j => if kM S a ≤ kM S (j : Int) then (prL S (j : Int)).length else 0) (j0 := a.toNat) (d := (prL S a).length) (n := 40) (fun j _ => Nat.zero_le _) hl (by
        show 0 + _ ≤ (if kM S a ≤ kM S ((a.toNat : Nat) : Int) then (prL S ((a.toNat : Nat) : Int)).length else 0)
        rw [ea, if_pos (Nat.le_refl _)]; omega)
      show (prL S a).length + 0 ≤ _
      omega
    · have i := clL_len h (e := e) (n := n) ((vs_us h).mp z1)
      have := sumN_lt (f := fun j => if kM S (nxM S e a) ≤ kM S (j : Int) then (prL S (j : Int)).length else 0) (g := fun j => if kM S a ≤ kM S (j : Int) then (prL S (j : Int)).length else 0) (j0 := a.toNat) (d := (prL S a).length) (n := 40) (fun j _ => by
        show (if kM S (nxM S e a) ≤ kM S (j : Int) then (prL S (j : Int)).length else 0) ≤ (if kM S a ≤ kM S (j : Int) then (prL S (j : Int)).length else 0)
        by_cases q : kM S (nxM S e a) ≤ kM S (j : Int)
        · rw [if_pos q, if_pos (by omega)]; exact Nat.le_refl _
        · rw [if_neg q]; exact Nat.zero_le _) hl (by
        show (if kM S (nxM S e a) ≤ kM S ((a.toNat : Nat) : Int) then (prL S ((a.toNat : Nat) : Int)).length else 0) + _ ≤ (if kM S a ≤ kM S ((a.toNat : Nat) : Int) then (prL S ((a.toNat : Nat) : Int)).length else 0)
        rw [ea, if_pos (Nat.le_refl _), if_neg (by omega)]; omega)
      omega
theorem pnL_len {S : aS} (h : Inv S) {e : Int} : (pnL S e).length ≤ 7994 := by
  have se := h.2.2.2.2.1
  have po := h.2.2.2.2.2.1
  have w := wd8L_8 (w := S.2 263 (5 * e).toNat)
  have s1 := h.2.2.2.1.1
  have s2 := h.2.2.2.1.2.1
  have hp : (hpL (hpM S e)).length ≤ 5 := by
    have hb := cnt_b (fun j => S.1 256 j == e && S.1 257 j == -1) (S.1 245 12).toNat
    have d := dgt_3 (n := hpM S e) (by unfold hpM; omega)
    unfold hpL
    split
    · simp only [List.length_cons]; omega
    · simp
  have pr : ∀ j : Nat, (prL S (j : Int)).length ≤ 135 + (ptM S (j : Int) (S.1 245 29).toNat 0).length := fun j => by
    have m := mkM_len (S := S) (a := (j : Int))
    have wi := wiL_len (n := wcM S (j : Int) 0) (a := wmF S (j : Int) 0) (b := wmL S (j : Int) 0) (by have := wc_le h (t := (j : Int)) (al := 0); omega)
    unfold prL wtL
    simp only [List.length_cons, List.length_append]
    omega
  have cl : (clL S e 40 (atM S e (-1) 1)).length ≤ 7980 := by
    rcases atM_v (S := S) (e := e) (u := -1) (p := 1) with z | ⟨z1, _⟩
    · rw [z, clL_no]; simp
    · have i := clL_len se (e := e) (n := 40) ((vs_us se).mp z1)
      have a1 := sumN_le (f := fun j => if kM S (atM S e (-1) 1) ≤ kM S (j : Int) then (prL S (j : Int)).length else 0) (g := fun j => 135 + (ptM S (j : Int) (S.1 245 29).toNat 0).length) (n := 40) (fun j _ => by
        show (if kM S (atM S e (-1) 1) ≤ kM S (j : Int) then (prL S (j : Int)).length else 0) ≤ _
        split
        · exact pr j
        · exact Nat.zero_le _)
      rw [sumN_add, sumN_k] at a1
      have a2 := ptM_len (S := S) (n := (S.1 245 29).toNat) (p := 0)
      have a3 := po.1
      have a4 := po.2.1
      omega
  unfold pnL
  simp only [List.length_append, List.length_cons]
  omega

