/-! WORDS AS LISTS OF LETTERS, the last letter first -/
def vn (b c : Nat) : List Nat → Nat
  | [] => 0
  | x :: L => (x + c) + b * vn b c L
def okD (b c : Nat) (L : List Nat) : Prop := ∀ x, x ∈ L → 1 ≤ x + c ∧ x + c < b
section VN
variable {b c : Nat}
theorem okD_t {x : Nat} {L : List Nat} (h : okD b c (x :: L)) : (1 ≤ x + c ∧ x + c < b) ∧ okD b c L := ⟨h x List.mem_cons_self, fun y hy => h y (List.mem_cons_of_mem _ hy)⟩
theorem vn_lt : ∀ {L : List Nat}, okD b c L → vn b c L < b ^ L.length
  | [], _ => by simp [vn]
  | x :: L, h => by
    obtain ⟨h1, h2⟩ := okD_t h
    have ih := vn_lt h2
    show (x + c) + b * vn b c L < b ^ (L.length + 1)
    have : b * (vn b c L + 1) ≤ b * b ^ L.length := Nat.mul_le_mul_left _ ih
    rw [Nat.mul_add, Nat.mul_one] at this
    rw [Nat.pow_succ, Nat.mul_comm (b ^ L.length) b]
    omega
theorem vn_app : ∀ {A B : List Nat}, vn b c (A ++ B) = vn b c A + b ^ A.length * vn b c B
  | [], B => by simp [vn]
  | x :: A, B => by
    show (x + c) + b * vn b c (A ++ B) = ((x + c) + b * vn b c A) + b ^ (A.length + 1) * vn b c B
    rw [vn_app, Nat.mul_add, Nat.pow_succ, Nat.mul_comm (b ^ A.length) b, Nat.mul_assoc]
    omega
theorem vn_inj : ∀ {A B : List Nat}, okD b c A → okD b c B → vn b c A = vn b c B → A = B
  | [], [], _, _, _ => rfl
  | [], y :: B, _, hB, h => by
    have := (okD_t hB).1
    have h' : 0 = (y + c) + b * vn b c B := h
    omega
  | x :: A, [], hA, _, h => by
    have := (okD_t hA).1
    have h' : (x + c) + b * vn b c A = 0 := h
    omega
  | x :: A, y :: B, hA, hB, h => by
    obtain ⟨a1, a2⟩ := okD_t hA
    obtain ⟨b1, b2⟩ := okD_t hB
    have h' : (x + c) + b * vn b c A = (y + c) + b * vn b c B := h
    have e1 : ((x + c) + b * vn b c A) % b = x + c := by rw [Nat.add_mul_mod_self_left, Nat.mod_eq_of_lt a1.2]
    have e2 : ((y + c) + b * vn b c B) % b = y + c := by rw [Nat.add_mul_mod_self_left, Nat.mod_eq_of_lt b1.2]
    have e3 : x + c = y + c := by rw [← e1, ← e2, h']
    have e4 : b * vn b c A = b * vn b c B := by omega
    have e5 := vn_inj a2 b2 (Nat.eq_of_mul_eq_mul_left (by omega) e4)
    rw [e5, show x = y from by omega]
theorem vn_drop : ∀ {p : Nat} {L : List Nat}, okD b c L → vn b c L / b ^ p = vn b c (L.drop p)
  | 0, L, _ => by simp
  | p + 1, [], _ => by simp [vn]
  | p + 1, x :: L, h => by
    obtain ⟨h1, h2⟩ := okD_t h
    show ((x + c) + b * vn b c L) / b ^ (p + 1) = vn b c (L.drop p)
    rw [Nat.pow_succ, Nat.mul_comm (b ^ p) b, ← Nat.div_div_eq_div_mul, Nat.add_mul_div_left _ _ (by omega), Nat.div_eq_of_lt h1.2, Nat.zero_add]
    exact vn_drop h2
theorem vn_take : ∀ {p : Nat} {L : List Nat}, okD b c L → vn b c L % b ^ p = vn b c (L.take p)
  | 0, L, _ => by simp [vn, Nat.mod_one]
  | p + 1, [], _ => by simp [vn]
  | p + 1, x :: L, h => by
    obtain ⟨h1, h2⟩ := okD_t h
    show ((x + c) + b * vn b c L) % b ^ (p + 1) = (x + c) + b * vn b c (L.take p)
    rw [Nat.pow_succ, Nat.mul_comm (b ^ p) b, Nat.mod_mul, Nat.add_mul_mod_self_left, Nat.mod_eq_of_lt h1.2, Nat.add_mul_div_left _ _ (by omega), Nat.div_eq_of_lt h1.2, Nat.zero_add, vn_take h2]
theorem okD_s {L A : List Nat} (h : okD b c L) (hs : ∀ x, x ∈ A → x ∈ L) : okD b c A := fun x hx => h x (hs x hx)
theorem okD_take {L : List Nat} {p : Nat} (h : okD b c L) : okD b c (L.take p) := okD_s h (fun _ => List.mem_of_mem_take)
theorem okD_drop {L : List Nat} {p : Nat} (h : okD b c L) : okD b c (L.drop p) := okD_s h (fun _ => List.mem_of_mem_drop)
theorem okD_app {A B : List Nat} (h : okD b c A) (h2 : okD b c B) : okD b c (A ++ B) := fun x hx => (List.mem_append.mp hx).elim (h x) (h2 x)
end VN
theorem v5_n : ∀ {L : List Nat}, v5 L = ((vn 32 0 L : Nat) : Int)
  | [] => rfl
  | x :: L => by
    show (x : Int) + 32 * v5 L = ((x + 0 + 32 * vn 32 0 L : Nat) : Int)
    rw [v5_n]
    omega
theorem v8_n : ∀ {L : List Nat}, v8 L = ((vn 256 96 L : Nat) : Int)
  | [] => rfl
  | x :: L => by
    show ((x : Int) + 96) + 256 * v8 L = ((x + 96 + 256 * vn 256 96 L : Nat) : Int)
    rw [v8_n]
    omega
/-- letters -/
def okA (L : List Nat) : Prop := ∀ x, x ∈ L → 1 ≤ x ∧ x ≤ 26
theorem okA_5 {L : List Nat} (h : okA L) : okD 32 0 L := fun x hx => by have := h x hx; omega
theorem okA_8 {L : List Nat} (h : okA L) : okD 256 96 L := fun x hx => by have := h x hx; omega
theorem lt5_v : ∀ {L : List Nat} {n : Nat}, okA L → L.length ≤ n → lt5 n ((vn 32 0 L : Nat) : Int) = L.length
  | [], 0, _, _ => rfl
  | [], n + 1, _, _ => if_pos rfl
  | x :: L, 0, _, h => absurd h (by simp)
  | x :: L, n + 1, h, hl => by
    have h1 := h x List.mem_cons_self
    have ih := lt5_v (L := L) (n := n) (fun y hy => h y (List.mem_cons_of_mem _ hy)) (by simpa using hl)
    have e : vn 32 0 (x :: L) = x + 0 + 32 * vn 32 0 L := rfl
    show (if ((vn 32 0 (x :: L) : Nat) : Int) = 0 then 0 else 1 + lt5 n (((vn 32 0 (x :: L) : Nat) : Int) / 32)) = _
    rw [if_neg (by omega), show (((vn 32 0 (x :: L) : Nat) : Int) / 32) = ((vn 32 0 L : Nat) : Int) from by omega, ih]
    simp only [List.length_cons]
    omega
theorem sz8_v : ∀ {L : List Nat} {n : Nat}, okA L → L.length ≤ n → sz8 n ((vn 256 96 L : Nat) : Int) = L.length
  | [], 0, _, _ => rfl
  | [], n + 1, _, _ => if_pos rfl
  | x :: L, 0, _, h => absurd h (by simp)
  | x :: L, n + 1, h, hl => by
    have h1 := h x List.mem_cons_self
    have ih := sz8_v (L := L) (n := n) (fun y hy => h y (List.mem_cons_of_mem _ hy)) (by simpa using hl)
    have e : vn 256 96 (x :: L) = x + 96 + 256 * vn 256 96 L := rfl
    show (if ((vn 256 96 (x :: L) : Nat) : Int) = 0 then 0 else 1 + sz8 n (((vn 256 96 (x :: L) : Nat) : Int) / 256)) = _
    rw [if_neg (by omega), show (((vn 256 96 (x :: L) : Nat) : Int) / 256) = ((vn 256 96 L : Nat) : Int) from by omega, ih]
    simp only [List.length_cons]
    omega
theorem vn8_lt : ∀ {L : List Nat}, okA L → 1 ≤ L.length → vn 256 96 L + 1 ≤ 123 * 256 ^ (L.length - 1)
  | [], _, h => absurd h (by simp)
  | [x], h, _ => by
    have := h x List.mem_cons_self
    show x + 96 + 256 * 0 + 1 ≤ 123 * 256 ^ 0
    omega
  | x :: y :: L, h, _ => by
    have h1 := h x List.mem_cons_self
    have ih := vn8_lt (L := y :: L) (fun z hz => h z (List.mem_cons_of_mem _ hz)) (by simp)
    show x + 96 + 256 * vn 256 96 (y :: L) + 1 ≤ 123 * 256 ^ (L.length + 1)
    have e : (y :: L).length - 1 = L.length := by simp
    rw [e] at ih
    rw [Nat.pow_succ]
    omega
theorem vn5_b {L : List Nat} {n : Nat} (h : okA L) (hl : L.length ≤ n) : vn 32 0 L < 32 ^ n := Nat.lt_of_lt_of_le (vn_lt (okA_5 h)) (Nat.pow_le_pow_right (by decide) hl)
theorem vn8_b {L : List Nat} (h : okA L) (hl : L.length ≤ 8) : vn 256 96 L < 9223372036854775808 := by
  by_cases q : 1 ≤ L.length
  · have := vn8_lt h q
    have h2 : 256 ^ (L.length - 1) ≤ 256 ^ 7 := Nat.pow_le_pow_right (by decide) (by omega)
    have h3 : (256 : Nat) ^ 7 = 72057594037927936 := by decide
    omega
  · have : L = [] := List.length_eq_zero_iff.mp (by omega)
    subst this
    decide
/-! the operations of both sides -/
theorem ush_n {x p : Nat} (hx : x < 9223372036854775808) (hp : p < 64) : lUshr (x : Int) (p : Int) = ((x / 2 ^ p : Nat) : Int) := by
  rw [lUshr_div (by omega) (by omega) (by omega) (by omega)]
  simp only [Int.toNat_natCast]
theorem mask_n {p : Nat} (hp : p ≤ 62) : wL (lShl 1 (p : Int) - 1) = ((2 ^ p - 1 : Nat) : Int) := by
  have h1 : 2 ^ p ≤ 2 ^ 62 := Nat.pow_le_pow_right (by decide) hp
  have h2 : (2 : Nat) ^ 62 = 4611686018427387904 := by decide
  have h3 : 0 < 2 ^ p := Nat.two_pow_pos p
  rw [lShl_mul (by decide) (by omega) (by omega) (by simp only [Int.toNat_natCast, Int.toNat_one]; omega)]
  simp only [Int.toNat_natCast, Int.toNat_one, Nat.one_mul]
  have e : ((2 ^ p : Nat) : Int) - 1 = ((2 ^ p - 1 : Nat) : Int) := by omega
  rw [e]
  exact ofL_toInt ⟨by omega, by omega⟩
theorem and_n {x p : Nat} (hx : x < 9223372036854775808) (hp : p ≤ 62) : lAnd (x : Int) (wL (lShl 1 (p : Int) - 1)) = ((x % 2 ^ p : Nat) : Int) := by
  have h1 : 2 ^ p ≤ 2 ^ 62 := Nat.pow_le_pow_right (by decide) hp
  have h2 : (2 : Nat) ^ 62 = 4611686018427387904 := by decide
  rw [mask_n hp, lAnd_nat (by omega) (by omega) (by omega) (by omega)]
  simp only [Int.toNat_natCast]
  rw [Nat.and_two_pow_sub_one_eq_mod]
theorem shl_n {x p : Nat} (hp : p < 64) (hx : x * 2 ^ p < 9223372036854775808) : lShl (x : Int) (p : Int) = ((x * 2 ^ p : Nat) : Int) := by
  rw [lShl_mul (by omega) (by omega) (by omega) (by simp only [Int.toNat_natCast]; exact hx)]
  simp only [Int.toNat_natCast]
theorem or_n {x y p : Nat} (hy : y < 2 ^ p) (h : x * 2 ^ p + y < 9223372036854775808) : lOr ((x * 2 ^ p : Nat) : Int) (y : Int) = ((x * 2 ^ p + y : Nat) : Int) := by
  rw [lOr_nat (by omega) (by omega) (by omega) (by omega)]
  simp only [Int.toNat_natCast]
  have := Nat.shiftLeft_add_eq_or_of_lt hy x
  rw [Nat.shiftLeft_eq] at this
  rw [← this]
theorem pw5 (p : Nat) : 2 ^ (5 * p) = 32 ^ p := by rw [Nat.pow_mul]
theorem pw8 (p : Nat) : 2 ^ (8 * p) = 256 ^ p := by rw [Nat.pow_mul]
/-- letters changed for others, with p letters behind them -/
def chL (L O F : List Nat) (p : Nat) : List Nat := L.take p ++ (F ++ L.drop (p + O.length))
def chC (L O F : List Nat) (p : Nat) : Prop := (L.drop p).take O.length = O
theorem chC_l {L O F : List Nat} {p : Nat} (h : chC L O F p) (ho : 1 ≤ O.length) : p + O.length ≤ L.length := by
  have := congrArg List.length h
  rw [List.length_take, List.length_drop] at this
  omega
theorem chL_l {L O F : List Nat} {p : Nat} (h : chC L O F p) (ho : 1 ≤ O.length) : (chL L O F p).length + O.length = L.length + F.length := by
  have := chC_l h ho
  unfold chL
  rw [List.length_append, List.length_append, List.length_take, List.length_drop]
  omega
theorem chL_ok {L O F : List Nat} {p : Nat} (h : okA L) (hF : okA F) : okA (chL L O F p) := by
  intro x hx
  unfold chL at hx
  rcases List.mem_append.mp hx with z | z
  · exact h x (List.mem_of_mem_take z)
  · rcases List.mem_append.mp z with z | z
    · exact hF x z
    · exact h x (List.mem_of_mem_drop z)
theorem chgR_v {L O F : List Nat} {p : Nat} (h : okA L) (hO : okA O) (hF : okA F) (hl : L.length ≤ 8) (ho : 1 ≤ O.length ∧ O.length ≤ 2) (hf : F.length ≤ 2) (hc : chC L O F p) : chgR ((vn 32 0 L : Nat) : Int) (p : Int) ((vn 32 0 O : Nat) : Int) ((vn 32 0 F : Nat) : Int) = ((vn 32 0 (chL L O F p) : Nat) : Int) := by
  have hpl := chC_l hc ho.1
  have bL := vn5_b h hl
  have b8 : (32 : Nat) ^ 8 = 1099511627776 := by decide
  have b9 : (32 : Nat) ^ 9 = 35184372088832 := by decide
  have hZ : okA (L.drop (p + O.length)) := fun x hx => h x (List.mem_of_mem_drop hx)
  have hFZ : okA (F ++ L.drop (p + O.length)) := fun x hx => (List.mem_append.mp hx).elim (hF x) (hZ x)
  have hFZl : (F ++ L.drop (p + O.length)).length + p + O.length = L.length + F.length := by rw [List.length_append, List.length_drop]; omega
  unfold chgR
  rw [lt5_v hO (by omega), lt5_v hF (by omega)]
  rw [show 5 * (p : Int) = ((5 * p : Nat) : Int) from by omega, show 5 * (O.length : Int) = ((5 * O.length : Nat) : Int) from by omega, show 5 * (F.length : Int) = ((5 * F.length : Nat) : Int) from by omega]
  rw [ush_n (by omega) (by omega), pw5, vn_drop (okA_5 h)]
  have bD : vn 32 0 (L.drop p) < 32 ^ 8 := vn5_b (fun x hx => h x (List.mem_of_mem_drop hx)) (by rw [List.length_drop]; omega)
  rw [ush_n (by omega) (by omega), pw5, vn_drop (okD_drop (okA_5 h)), List.drop_drop]
  have e1 : vn 32 0 (F ++ L.drop (p + O.length)) = vn 32 0 (L.drop (p + O.length)) * 32 ^ F.length + vn 32 0 F := by rw [vn_app, Nat.mul_comm]; omega
  have c1 : vn 32 0 (F ++ L.drop (p + O.length)) < 32 ^ 9 := vn5_b hFZ (by omega)
  rw [shl_n (by omega) (by rw [pw5]; omega), pw5]
  have o1 := or_n (x := vn 32 0 (L.drop (p + O.length))) (y := vn 32 0 F) (p := 5 * F.length) (by rw [pw5]; exact vn_lt (okA_5 hF)) (by rw [pw5]; omega)
  rw [pw5] at o1
  rw [o1, ← e1]
  have e2 : vn 32 0 (chL L O F p) = vn 32 0 (F ++ L.drop (p + O.length)) * 32 ^ p + vn 32 0 (L.take p) := by
    unfold chL
    rw [vn_app, List.length_take, Nat.min_eq_left (by omega), Nat.mul_comm]; omega
  have c2 : vn 32 0 (chL L O F p) < 32 ^ 9 := vn5_b (chL_ok h hF) (by have := chL_l (F := F) hc ho.1; omega)
  rw [shl_n (by omega) (by rw [pw5]; omega), pw5]
  unfold lowB
  rw [and_n (by omega) (by omega), pw5, vn_take (okA_5 h)]
  have ht : vn 32 0 (L.take p) < 2 ^ (5 * p) := by
    rw [pw5]
    refine Nat.lt_of_lt_of_le (vn_lt (okD_take (okA_5 h))) (Nat.pow_le_pow_right (by decide) ?_)
    rw [List.length_take]; omega
  have o2 := or_n (x := vn 32 0 (F ++ L.drop (p + O.length))) (y := vn 32 0 (L.take p)) (p := 5 * p) ht (by rw [pw5]; omega)
  rw [pw5] at o2
  rw [o2, ← e2]
theorem cond5_v {L O : List Nat} {p : Nat} (h : okA L) (hO : okA O) (hl : L.length ≤ 8) (hp : p < 8) (ho : O.length ≤ 2) : lowB (5 * lt5 12 ((vn 32 0 O : Nat) : Int)) (lUshr ((vn 32 0 L : Nat) : Int) (5 * (p : Int))) = ((vn 32 0 O : Nat) : Int) ↔ (L.drop p).take O.length = O := by
  have bL := vn5_b h hl
  have b8 : (32 : Nat) ^ 8 = 1099511627776 := by decide
  have bD : vn 32 0 (L.drop p) < 32 ^ 8 := vn5_b (fun x hx => h x (List.mem_of_mem_drop hx)) (by rw [List.length_drop]; omega)
  rw [lt5_v hO (by omega), show 5 * (p : Int) = ((5 * p : Nat) : Int) from by omega, show 5 * (O.length : Int) = ((5 * O.length : Nat) : Int) from by omega]
  rw [ush_n (by omega) (by omega), pw5, vn_drop (okA_5 h)]
  unfold lowB
  rw [and_n (by omega) (by omega), pw5, vn_take (okD_drop (okA_5 h))]
  constructor
  · intro z
    exact vn_inj (okD_take (okD_drop (okA_5 h))) (okA_5 hO) (by omega)
  · intro z; rw [z]
theorem chg5_v {L O F : List Nat} {p : Nat} (h : okA L) (hO : okA O) (hF : okA F) (hl : L.length ≤ 8) (ho : 1 ≤ O.length ∧ O.length ≤ 2) (hf : F.length ≤ 2) (hp : p < 8) : chg5 ((vn 32 0 L : Nat) : Int) (p : Int) ((vn 32 0 O : Nat) : Int) ((vn 32 0 F : Nat) : Int) = @ite _ (chC L O F p ∧ (chL L O F p).length ≤ 8) (Classical.propDecidable _) ((vn 32 0 (chL L O F p) : Nat) : Int) 0 := by
  unfold chg5
  have hc := cond5_v (p := p) h hO hl hp ho.2
  by_cases q : chC L O F p
  · rw [if_pos (hc.mpr q), chgR_v h hO hF hl ho hf q, lt5_v (chL_ok h hF) (by have := chL_l (F := F) q ho.1; omega)]
    by_cases q2 : (chL L O F p).length ≤ 8
    · rw [if_pos (by omega), if_pos ⟨q, q2⟩]
    · rw [if_neg (by omega), if_neg (fun z => q2 z.2)]
  · rw [if_neg (fun z => q (hc.mp z)), if_neg (fun z => q z.1)]
theorem sp8 {L : List Nat} {k n : Nat} (h : okA L) (hn : 1 ≤ n) (hl : L.length + k ≤ n) (hn8 : n ≤ 8) : vn 256 96 L * 256 ^ k < 123 * 256 ^ 7 := by
  by_cases q : 1 ≤ L.length
  · have a := vn8_lt h q
    have b : 123 * 256 ^ (L.length - 1) * 256 ^ k ≤ 123 * 256 ^ 7 := by
      rw [Nat.mul_assoc, ← Nat.pow_add]
      exact Nat.mul_le_mul_left _ (Nat.pow_le_pow_right (by decide) (by omega))
    have c : vn 256 96 L * 256 ^ k < 123 * 256 ^ (L.length - 1) * 256 ^ k := Nat.mul_lt_mul_of_pos_right (by omega) (Nat.pow_pos (by decide))
    omega
  · have : L = [] := List.length_eq_zero_iff.mp (by omega)
    subst this
    show 0 * _ < _
    rw [Nat.zero_mul]
    decide
theorem cond8_v {L O : List Nat} {p : Nat} (h : okA L) (hO : okA O) (hl : L.length ≤ 8) (hp : p < 8) (ho : O.length ≤ 2) : lAnd (lUshr ((vn 256 96 L : Nat) : Int) (8 * (p : Int))) (mk8 (8 * sz8 8 ((vn 256 96 O : Nat) : Int))) = ((vn 256 96 O : Nat) : Int) ↔ (L.drop p).take O.length = O := by
  have bL := vn8_b h hl
  have bD : vn 256 96 (L.drop p) < 9223372036854775808 := vn8_b (fun x hx => h x (List.mem_of_mem_drop hx)) (by rw [List.length_drop]; omega)
  rw [sz8_v hO (by omega), show 8 * (p : Int) = ((8 * p : Nat) : Int) from by omega, show 8 * (O.length : Int) = ((8 * O.length : Nat) : Int) from by omega]
  rw [ush_n bL (by omega), pw8, vn_drop (okA_8 h)]
  unfold mk8
  rw [and_n bD (by omega), pw8, vn_take (okD_drop (okA_8 h))]
  constructor
  · intro z
    exact vn_inj (okD_take (okD_drop (okA_8 h))) (okA_8 hO) (by omega)
  · intro z; rw [z]
theorem chgQ_v {L O F : List Nat} {p : Nat} (h : okA L) (hO : okA O) (hF : okA F) (hl : L.length ≤ 8) (ho : 1 ≤ O.length ∧ O.length ≤ 2) (hf : 1 ≤ F.length ∧ F.length ≤ 2) (hc : chC L O F p) (h8 : (chL L O F p).length ≤ 8) : chgQ ((vn 256 96 L : Nat) : Int) ((vn 256 96 O : Nat) : Int) ((vn 256 96 F : Nat) : Int) (p : Int) = ((vn 256 96 (chL L O F p) : Nat) : Int) := by
  have hpl := chC_l hc ho.1
  have hll := chL_l (F := F) hc ho.1
  have bL := vn8_b h hl
  have k7 : (256 : Nat) ^ 7 = 72057594037927936 := by decide
  have hZ : okA (L.drop (p + O.length)) := fun x hx => h x (List.mem_of_mem_drop hx)
  have hZl : (L.drop (p + O.length)).length + p + O.length = L.length := by rw [List.length_drop]; omega
  unfold chgQ
  rw [sz8_v hO (by omega), sz8_v hF (by omega)]
  have eh : (if (p : Int) + (O.length : Int) = 8 then (0 : Int) else lUshr ((vn 256 96 L : Nat) : Int) (8 * ((p : Int) + (O.length : Int)))) = ((vn 256 96 (L.drop (p + O.length)) : Nat) : Int) := by
    by_cases q : (p : Int) + (O.length : Int) = 8
    · rw [if_pos q]
      have : L.drop (p + O.length) = [] := List.length_eq_zero_iff.mp (by omega)
      rw [this]; rfl
    · rw [if_neg q, show 8 * ((p : Int) + (O.length : Int)) = ((8 * (p + O.length) : Nat) : Int) from by omega, ush_n bL (by omega), pw8, vn_drop (okA_8 h)]
  rw [eh]
  have sZ := sp8 (L := L.drop (p + O.length)) (k := p + F.length) (n := 8) hZ (by decide) (by omega) (by decide)
  have eu : (if (p : Int) + (F.length : Int) = 8 then (0 : Int) else lShl ((vn 256 96 (L.drop (p + O.length)) : Nat) : Int) (8 * ((p : Int) + (F.length : Int)))) = ((vn 256 96 (L.drop (p + O.length)) * 256 ^ (p + F.length) : Nat) : Int) := by
    by_cases q : (p : Int) + (F.length : Int) = 8
    · rw [if_pos q]
      have : L.drop (p + O.length) = [] := List.length_eq_zero_iff.mp (by omega)
      rw [this]
      show (0 : Int) = ((0 * _ : Nat) : Int)
      rw [Nat.zero_mul]; rfl
    · rw [if_neg q, show 8 * ((p : Int) + (F.length : Int)) = ((8 * (p + F.length) : Nat) : Int) from by omega, shl_n (by omega) (by rw [pw8]; omega), pw8]
  rw [eu]
  have sF := sp8 (L := F) (k := p) (n := 8) hF (by decide) (by omega) (by decide)
  rw [show 8 * (p : Int) = ((8 * p : Nat) : Int) from by omega, shl_n (by omega) (by rw [pw8]; omega), pw8]
  have lF : vn 256 96 F * 256 ^ p < 2 ^ (8 * (p + F.length)) := by
    rw [pw8, Nat.pow_add, Nat.mul_comm]
    exact Nat.mul_lt_mul_of_pos_left (vn_lt (okA_8 hF)) (Nat.pow_pos (by decide))
  have bA := vn8_b (chL_ok (p := p) (O := O) h hF) h8
  have e2 : vn 256 96 (chL L O F p) = vn 256 96 (L.take p) + 256 ^ p * (vn 256 96 F + 256 ^ F.length * vn 256 96 (L.drop (p + O.length))) := by
    unfold chL
    rw [vn_app, vn_app, List.length_take, Nat.min_eq_left (by omega)]
  have e3 : 256 ^ p * (vn 256 96 F + 256 ^ F.length * vn 256 96 (L.drop (p + O.length))) = vn 256 96 (L.drop (p + O.length)) * 256 ^ (p + F.length) + vn 256 96 F * 256 ^ p := by
    rw [Nat.mul_add, ← Nat.mul_assoc, ← Nat.pow_add, Nat.mul_comm (256 ^ p) (vn 256 96 F), Nat.mul_comm (256 ^ (p + F.length))]
    omega
  have o1 := or_n (x := vn 256 96 (L.drop (p + O.length))) (y := vn 256 96 F * 256 ^ p) (p := 8 * (p + F.length)) lF (by rw [pw8]; omega)
  rw [pw8] at o1
  rw [o1, ← e3]
  unfold mk8
  rw [and_n bL (by omega), pw8, vn_take (okA_8 h)]
  have ht : vn 256 96 (L.take p) < 2 ^ (8 * p) := by
    rw [pw8]
    refine Nat.lt_of_lt_of_le (vn_lt (okD_take (okA_8 h))) (Nat.pow_le_pow_right (by decide) ?_)
    rw [List.length_take]; omega
  have o2 := or_n (x := vn 256 96 F + 256 ^ F.length * vn 256 96 (L.drop (p + O.length))) (y := vn 256 96 (L.take p)) (p := 8 * p) ht (by rw [pw8, Nat.mul_comm]; omega)
  rw [pw8, Nat.mul_comm] at o2
  rw [o2, e2]
  congr 1
  omega
theorem chg8_v {L O F : List Nat} {p : Nat} (h : okA L) (hO : okA O) (hF : okA F) (hl : L.length ≤ 8) (ho : 1 ≤ O.length ∧ O.length ≤ 2) (hf : 1 ≤ F.length ∧ F.length ≤ 2) (hp : p < 8) : chg8 ((vn 256 96 L : Nat) : Int) ((vn 256 96 O : Nat) : Int) ((vn 256 96 F : Nat) : Int) (p : Int) = @ite _ (chC L O F p ∧ (chL L O F p).length ≤ 8) (Classical.propDecidable _) ((vn 256 96 (chL L O F p) : Nat) : Int) 0 := by
  have hc := cond8_v (p := p) h hO hl hp ho.2
  unfold chg8
  rw [sz8_v h hl]
  have s2 := sz8_v (n := 8) hO (by omega)
  have s3 := sz8_v (n := 8) hF (by omega)
  by_cases q : chC L O F p ∧ (chL L O F p).length ≤ 8
  · have h1 := chC_l q.1 ho.1
    have h2 := chL_l (F := F) q.1 ho.1
    rw [if_neg (by rw [s2, s3]; omega), if_pos (hc.mpr q.1), if_pos q, chgQ_v h hO hF hl ho hf q.1 q.2]
  · rw [if_neg q]
    by_cases q1 : (L.length : Int) < (p : Int) + sz8 8 ((vn 256 96 O : Nat) : Int) ∨ 8 < (L.length : Int) - sz8 8 ((vn 256 96 O : Nat) : Int) + sz8 8 ((vn 256 96 F : Nat) : Int)
    · rw [if_pos q1]
    · rw [if_neg q1, if_neg]
      intro z
      have z1 := hc.mp z
      have h2 := chL_l (F := F) (show chC L O F p from z1) ho.1
      rw [s2, s3] at q1
      exact q ⟨z1, by omega⟩
/-- one change may be taken back -/
theorem chL_back {L O F : List Nat} {p : Nat} (hc : chC L O F p) (ho : 1 ≤ O.length) : chC (chL L O F p) F O p ∧ chL (chL L O F p) F O p = L := by
  have h1 := chC_l hc ho
  have ht : (L.take p).length = p := by rw [List.length_take]; omega
  have d1 : (chL L O F p).drop p = F ++ L.drop (p + O.length) := by
    unfold chL
    rw [List.drop_append_of_le_length (by omega), List.drop_of_length_le (by omega), List.nil_append]
  have t1 : (chL L O F p).take p = L.take p := by
    unfold chL
    rw [List.take_append_of_le_length (by omega), List.take_of_length_le (by omega)]
  have d2 : (chL L O F p).drop (p + F.length) = L.drop (p + O.length) := by
    rw [← List.drop_drop, d1, List.drop_append_of_le_length (Nat.le_refl _), List.drop_of_length_le (Nat.le_refl _), List.nil_append]
  constructor
  · show ((chL L O F p).drop p).take F.length = F
    rw [d1, List.take_append_of_le_length (Nat.le_refl _), List.take_of_length_le (Nat.le_refl _)]
  · show (chL L O F p).take p ++ (O ++ (chL L O F p).drop (p + F.length)) = L
    rw [t1, d2]
    have e : O ++ L.drop (p + O.length) = L.drop p := by
      have : (L.drop p).take O.length ++ (L.drop p).drop O.length = L.drop p := List.take_append_drop _ _
      rw [show (L.drop p).take O.length = O from hc, List.drop_drop] at this
      exact this
    rw [e, List.take_append_drop]
