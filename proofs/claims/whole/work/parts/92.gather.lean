/-! SETS OF BOOKS as bits; what gather gathers -/
def nB (x : Int) : Nat := (x % 4294967296).toNat
theorem amt_f : ∀ b : Fin 30, ((Int32.ofInt (b.val : Int)).toUInt32 &&& Int32.toUInt32 31).toNat = b.val := by decide
theorem shl_f : ∀ b : Fin 30, nB (bShl 1 (b.val : Int)) = 2 ^ b.val := by decide
theorem bAnd_1 {a : Int} : bAnd a 1 = a % 2 := by
  unfold bAnd
  rw [← Int32.toInt_toBitVec, Int32.toBitVec_and]
  have e : ((Int32.ofInt a).toBitVec &&& (Int32.ofInt 1).toBitVec).toNat = (a % 4294967296).toNat % 2 := by
    rw [BitVec.toNat_and, i32_nat, show (Int32.ofInt 1).toBitVec.toNat = 2 ^ 1 - 1 from by decide, Nat.and_two_pow_sub_one_eq_mod]
  rw [BitVec.toInt_eq_toNat_cond, e]
  split <;> omega
theorem inS_t {x : Int} {b : Nat} (hb : b < 30) : inS (b : Int) x ↔ (nB x).testBit b = true := by
  unfold inS
  have hs := amt_f ⟨b, hb⟩
  have e : bUshr x (b : Int) % 2 = (((nB x) / 2 ^ b : Nat) : Int) % 2 := by
    have h := bUshr_m (v := x) (s := (b : Int)) (n := b) hs (by omega)
    unfold nB
    generalize (x % 4294967296).toNat / 2 ^ b = q at *
    omega
  rw [bAnd_1, e, Nat.testBit_eq_decide_div_mod_eq]
  simp only [decide_eq_true_eq]
  omega
theorem nB_or {x y : Int} : nB (bOr x y) = nB x ||| nB y := by
  have e : nB (bOr x y) = (Int32.ofInt x ||| Int32.ofInt y).toBitVec.toNat := by
    unfold nB bOr
    rw [← i32_nat, Int32.ofInt_toInt]
  rw [e, Int32.toBitVec_or, BitVec.toNat_or, i32_nat, i32_nat]
  rfl
theorem inS_or {x : Int} {b c : Nat} (hb : b < 30) (hc : c < 30) : inS (b : Int) (bOr x (bShl 1 (c : Int))) ↔ (inS (b : Int) x ∨ b = c) := by
  rw [inS_t hb, inS_t hb, nB_or, shl_f ⟨c, hc⟩, Nat.testBit_or, Nat.testBit_two_pow]
  simp only [Bool.or_eq_true, decide_eq_true_eq]
  exact ⟨fun z => z.imp id Eq.symm, fun z => z.imp id Eq.symm⟩
theorem inS_or2 {x y : Int} {b : Nat} (hb : b < 30) : inS (b : Int) (bOr x y) ↔ (inS (b : Int) x ∨ inS (b : Int) y) := by
  rw [inS_t hb, inS_t hb, inS_t hb, nB_or, Nat.testBit_or]
  simp only [Bool.or_eq_true]
theorem inS_sh {b c : Nat} (hb : b < 30) (hc : c < 30) : inS (b : Int) (bShl 1 (c : Int)) ↔ b = c := by
  rw [inS_t hb, shl_f ⟨c, hc⟩, Nat.testBit_two_pow]
  simp only [decide_eq_true_eq]
  exact ⟨Eq.symm, Eq.symm⟩
theorem inS_0 {b : Nat} (hb : b < 30) : ¬ inS (b : Int) 0 := by
  rw [inS_t hb]
  show ¬ (0 : Nat).testBit b = true
  simp
/-- the set y is within z -/
theorem sub_t {y z : Int} (hy : ∀ b : Nat, 30 ≤ b → (nB y).testBit b = false) : bAnd y (bXor z (-1)) = 0 ↔ ∀ b : Nat, b < 30 → inS (b : Int) y → inS (b : Int) z := by
  have e : nB (bAnd y (bXor z (-1))) = nB y &&& (nB z ^^^ (2 ^ 32 - 1)) := by
    have e0 : nB (bAnd y (bXor z (-1))) = (Int32.ofInt y &&& Int32.ofInt (bXor z (-1))).toBitVec.toNat := by
      unfold nB bAnd
      rw [← i32_nat, Int32.ofInt_toInt]
    rw [e0, Int32.toBitVec_and, BitVec.toNat_and, i32_nat]
    have e1 : (Int32.ofInt (bXor z (-1))).toBitVec.toNat = nB z ^^^ (2 ^ 32 - 1) := by
      unfold bXor
      rw [Int32.ofInt_toInt, Int32.toBitVec_xor, BitVec.toNat_xor, i32_nat]
      rfl
    rw [e1]
    rfl
  have hr : inI (bAnd y (bXor z (-1))) := inI_toInt _
  have e2 : bAnd y (bXor z (-1)) = 0 ↔ nB (bAnd y (bXor z (-1))) = 0 := by
    unfold inI at hr
    unfold nB
    constructor
    · intro q; rw [q]; rfl
    · intro q; omega
  rw [e2, e]
  constructor
  · intro h b hb hyb
    rw [inS_t hb] at hyb ⊢
    have := congrArg (fun n => Nat.testBit n b) h
    simp only [Nat.testBit_and, Nat.testBit_xor, Nat.testBit_two_pow_sub_one, Nat.zero_testBit, hyb, Bool.true_and] at this
    rw [decide_eq_true (show b < 32 by omega)] at this
    cases q : (nB z).testBit b with
    | true => rfl
    | false => rw [q] at this; exact absurd this (by decide)
  · intro h
    refine Nat.eq_of_testBit_eq (fun b => ?_)
    simp only [Nat.testBit_and, Nat.testBit_xor, Nat.testBit_two_pow_sub_one, Nat.zero_testBit]
    by_cases hb : b < 30
    · cases q : (nB y).testBit b with
      | false => rfl
      | true =>
        have := h b hb ((inS_t hb).mpr q)
        rw [inS_t hb] at this
        rw [this, decide_eq_true (show b < 32 by omega)]
        rfl
    · rw [hy b (by omega)]
      rfl
theorem wth_rk {S : aS} {rk : Nat → Nat} (hrk : ∀ t : Nat, t < 40 → ¬ S.1 209 t = -1 → ¬ S.1 210 t = -1 → rk (S.1 210 t).toNat < rk t) {a : Int} (ha : 0 ≤ a) : ∀ {n : Nat} {x : Int}, wth (S.1 209) (S.1 210) a n x → rk a.toNat ≤ rk x.toNat
  | 0, _, h => h.elim
  | n + 1, x, h => by
    obtain ⟨h1, h2⟩ := h
    rcases h2 with h2 | h2
    · rw [h2]; exact Nat.le_refl _
    · have ih := wth_rk hrk ha h2
      have hx : hasT (S.1 209) (S.1 210 x.toNat) := by
        cases n with
        | zero => exact h2.elim
        | succ n => exact h2.1
      have := hrk x.toNat (by have := h1.1; have := h1.2.1; omega) h1.2.2 (by have := hx.1; omega)
      omega
theorem adU_v {S : aS} {rk : Nat → Nat} (hrk : ∀ t : Nat, t < 40 → ¬ S.1 209 t = -1 → ¬ S.1 210 t = -1 → rk (S.1 210 t).toNat < rk t) {x : Int} {j : Nat} : ∀ {n : Nat} {u : Int} {y : aFL}, (adU (S.1 209) (S.1 210) x n u y).1 j = (@ite _ (wth (S.1 209) (S.1 210) j n u) (Classical.propDecidable _) (wI (y.1 j + 1)) (y.1 j)) ∧ (adU (S.1 209) (S.1 210) x n u y).2 j = (@ite _ (wth (S.1 209) (S.1 210) j n u) (Classical.propDecidable _) (bOr (y.2 j) x) (y.2 j))
  | 0, u, y => by
    have h : ¬ wth (S.1 209) (S.1 210) j 0 u := fun z => z
    rw [if_neg h, if_neg h]
    exact ⟨rfl, rfl⟩
  | n + 1, u, y => by
    by_cases h : hasT (S.1 209) u
    · have e : adU (S.1 209) (S.1 210) x (n + 1) u y = adU (S.1 209) (S.1 210) x n (S.1 210 u.toNat) (fu y.1 u.toNat (wI (y.1 u.toNat + 1)), fu y.2 u.toNat (bOr (y.2 u.toNat) x)) := if_pos h
      obtain ⟨i1, i2⟩ := adU_v hrk (x := x) (j := j) (n := n) (u := S.1 210 u.toNat) (y := (fu y.1 u.toNat (wI (y.1 u.toNat + 1)), fu y.2 u.toNat (bOr (y.2 u.toNat) x)))
      rw [e, i1, i2]
      have hu := h
      unfold hasT at hu
      by_cases q : j = u.toNat
      · subst q
        have c : ((u.toNat : Nat) : Int) = u := by omega
        have n1 : ¬ wth (S.1 209) (S.1 210) ((u.toNat : Nat) : Int) n (S.1 210 u.toNat) := fun z => by
          have z1 := wth_rk hrk (by omega) z
          have hx : hasT (S.1 209) (S.1 210 u.toNat) := by
            cases n with
            | zero => exact z.elim
            | succ n => exact z.1
          have := hrk u.toNat (by omega) hu.2.2 (by have := hx.1; omega)
          simp only [Int.toNat_natCast] at z1
          omega
        have p1 : wth (S.1 209) (S.1 210) ((u.toNat : Nat) : Int) (n + 1) u := ⟨h, Or.inl c.symm⟩
        rw [if_neg n1, if_neg n1, if_pos p1, if_pos p1]
        simp [fu]
      · have ej : wth (S.1 209) (S.1 210) (j : Int) (n + 1) u ↔ wth (S.1 209) (S.1 210) (j : Int) n (S.1 210 u.toNat) := ⟨fun z => z.2.resolve_left (fun w => q (by omega)), fun z => ⟨h, Or.inr z⟩⟩
        by_cases c : wth (S.1 209) (S.1 210) (j : Int) n (S.1 210 u.toNat)
        · rw [if_pos c, if_pos c, if_pos (ej.mpr c), if_pos (ej.mpr c)]
          simp [fu, q]
        · rw [if_neg c, if_neg c, if_neg (fun z => c (ej.mp z)), if_neg (fun z => c (ej.mp z))]
          simp [fu, q]
    · have e : adU (S.1 209) (S.1 210) x (n + 1) u y = y := if_neg h
      have c : ¬ wth (S.1 209) (S.1 210) (j : Int) (n + 1) u := fun z => h z.1
      rw [e, if_neg c, if_neg c]
      exact ⟨rfl, rfl⟩
