/-! EQUAL ANSWERS: slip -/
def patH (S : aS) (c d : Nat → Nat → Bool) (w : aS) : aS := (fun a b => if c a b = true then w.1 a b else S.1 a b, fun a b => if d a b = true then w.2 a b else S.2 a b)
theorem patH_e {S T : aS} {c d : Nat → Nat → Bool} (h1 : ∀ a b, c a b = false → T.1 a b = S.1 a b) (h2 : ∀ a b, d a b = false → T.2 a b = S.2 a b) : T = patH S c d T := by
  refine st_ext (fun a b => ?_) (fun a b => ?_)
  · show T.1 a b = if c a b = true then T.1 a b else S.1 a b
    by_cases q : c a b = true
    · rw [if_pos q]
    · rw [if_neg q]; exact h1 a b (by simpa using q)
  · show T.2 a b = if d a b = true then T.2 a b else S.2 a b
    by_cases q : d a b = true
    · rw [if_pos q]
    · rw [if_neg q]; exact h2 a b (by simpa using q)
theorem rwP_c {S U : aS} {R : Nat} {len : Int} {o f : Nat → Int} (h : U.2 R = S.2 R) (h2 : U.1 11 2 = S.1 11 2) (hr : rwP S R len o f) : rwP U R len o f := by
  unfold rwP nb at *
  rw [h, h2]; exact hr
theorem ldM_c {S U : aS} {x y : Int} (h1 : U.2 264 = S.2 264) (h2 : U.2 265 = S.2 265) (h3 : U.1 245 14 = S.1 245 14) : ldM U x y ↔ ldM S x y := by
  unfold ldM l2P l1M chR
  rw [h1, h2, h3]
theorem ldV_c {S U : aS} {s k : Nat} (h1 : U.2 264 = S.2 264) (h2 : U.2 265 = S.2 265) (h3 : U.1 245 14 = S.1 245 14) (h4 : U.2 263 k = S.2 263 k) (h5 : U.2 258 s = S.2 258 s) : ldV U s k = ldV S s k := by
  have e := ldM_c (x := U.2 263 k) (y := U.2 258 s) h1 h2 h3
  rw [h4, h5] at e
  unfold ldV
  rw [h4, h5]
  by_cases q : ldM S (S.2 263 k) (S.2 258 s)
  · rw [if_pos q, if_pos (e.mpr q)]
  · rw [if_neg q, if_neg (fun z => q (e.mp z))]
/-- the tape emptied -/
def cT0 (a b : Nat) : Bool := (decide (a = 1) && decide (b = 1)) || ((decide (a = 245) && decide (b = 2)) || decide (a = 247))
theorem inv_t0 {S U : aS} (h : Inv S) (fr : ∀ a b, cT0 a b = false → U.1 a b = S.1 a b) (f2 : U.2 = S.2) (t1 : U.1 1 1 = 0) (t2 : U.1 245 2 = 0) : Inv U := by
  obtain ⟨tp, bk, bh, sl, se, po, ed, pr, en, ru, ws, wf, kn⟩ := h
  have vtp : iTp U := ⟨by omega, by omega, fun j hj => by omega⟩
  have ved : iEd U := iEd_c (fr 222 4 (by decide)) (fr 245 37 (by decide)) (funext fun b => fr 223 b (by simp [cT0])) (funext fun b => fr 271 b (by simp [cT0])) (funext fun b => fr 272 b (by simp [cT0])) (funext fun b => fr 273 b (by simp [cT0])) (fun e he => ⟨funext fun b => fr _ b (by simp [cT0]; omega), funext fun b => fr _ b (by simp [cT0]; omega)⟩) ed
  rw [pat_e fr f2] at vtp ved ⊢
  exact ⟨vtp, bk, bh, sl, se, po, ved, pr, en, ru, ws, wf, kn⟩
theorem tkS_o {S : aS} {c : Int} {a b : Nat} (h : ¬ a = 247) (h2 : ¬ (a = 245 ∧ b = 2)) : (tkS S c).1 a b = S.1 a b := by
  unfold tkS
  by_cases e : a = 245
  · subst e
    rw [up_cell (fun z => h2 ⟨rfl, z⟩)]
    simp only [stA]
    rw [if_neg (by decide)]
  · rw [up_obj e]
    simp only [stA]
    rw [if_neg h]
theorem tkS_2 {S : aS} {c : Int} : (tkS S c).2 = S.2 := rfl
theorem tkS_t {S : aS} {c : Int} : (tkS S c).1 245 2 = 0 := up_hit
theorem tkW_c {S X : aS} {c n a : Int} (h : X.1 246 = S.1 246) (h2 : X.1 247 = S.1 247) : tkW X c n a = tkW S c n a := by
  have e : (tkS X c).1 247 = (tkS S c).1 247 := by
    unfold tkS
    rw [up_f (by decide), up_f (by decide)]
    funext j
    simp only [stA]
    rw [if_pos trivial, if_pos trivial, h, h2]
  unfold tkW
  rw [e]
theorem tk_0 {S : aS} (h : Inv S) {c : Int} : Inv (tkS (upI S 1 1 0) c) := by
  refine inv_t0 h (fun a b hc => ?_) rfl ?_ tkS_t
  · unfold cT0 at hc
    simp at hc
    rw [tkS_o (by omega) (by omega)]
    by_cases e : a = 1
    · subst e; rw [up_cell (by omega)]
    · rw [up_obj e]
  · rw [tkS_o (by decide) (by decide), up_hit]
section SLA
variable {S : aS} {b v : Int} {a c : Nat}
theorem slA_o (h : ¬ (a = 81 ∧ c = 4)) (h2 : (a = 82 ∨ a = 83 ∨ a = 84 ∨ a = 207) → ¬ c = (S.1 81 4).toNat) : (slA S b v).1 a c = S.1 a c := by
  unfold slA stW stN
  simp only [upI, up2]
  rw [if_neg (by omega), if_neg (by omega), if_neg (by omega), if_neg (by omega), if_neg (by omega)]
theorem slA_v : (slA S b v).1 81 4 = S.1 81 4 + 1 ∧ (slA S b v).1 82 (S.1 81 4).toNat = b ∧ (slA S b v).1 83 (S.1 81 4).toNat = -1 ∧ (slA S b v).1 84 (S.1 81 4).toNat = -1 := by
  unfold slA stW stN
  simp only [upI, up2]
  refine ⟨?_, ?_, ?_, ?_⟩ <;> simp
theorem slA_r : (slA S b v).2 (87 + (S.1 81 4).toNat) = (adA v (S.2 13) (S.2 12) (S.1 11 2).toNat 0 (fu (S.2 (87 + (S.1 81 4).toNat)) 0 v, 1)).1 ∧ (slA S b v).1 207 (S.1 81 4).toNat = (adA v (S.2 13) (S.2 12) (S.1 11 2).toNat 0 (fu (S.2 (87 + (S.1 81 4).toNat)) 0 v, 1)).2 := by
  refine ⟨funext fun x => ?_, ?_⟩
  · exact stN_2 (i := 0) (le := 207)
  · unfold slA stW
    rw [up_obj (by decide), up_obj (by decide), stN_l]
    rfl
theorem slA_2 (h : ¬ a = 87 + (S.1 81 4).toNat) : (slA S b v).2 a = S.2 a := funext fun x => stN_o (i := 0) (le := 207) h
theorem slM_o (h : ¬ (a = 245 ∧ c = 12)) (h2 : (a = 255 ∨ a = 256 ∨ a = 257) → ¬ c = (S.1 245 12).toNat) : (slM S b v).1 a c = S.1 a c := by
  unfold slM
  simp only [upI, up2, upL]
  rw [if_neg (by omega), if_neg (by omega), if_neg (by omega), if_neg (by omega)]
theorem slM_v : (slM S b v).1 245 12 = S.1 245 12 + 1 ∧ (slM S b v).1 255 (S.1 245 12).toNat = b ∧ (slM S b v).1 256 (S.1 245 12).toNat = -1 ∧ (slM S b v).1 257 (S.1 245 12).toNat = -1 ∧ (slM S b v).2 258 (S.1 245 12).toNat = v := by
  unfold slM
  simp only [upI, up2, upL]
  refine ⟨?_, ?_, ?_, ?_, ?_⟩ <;> simp
theorem slM_2 (h : ¬ (a = 258 ∧ c = (S.1 245 12).toNat)) : (slM S b v).2 a c = S.2 a c := by
  unfold slM
  simp only [upI, up2, upL]
  rw [if_neg h]
end SLA
def cSl (a b : Nat) : Bool := (decide (a = 1) && decide (b = 1)) || ((decide (a = 245) && (decide (b = 2) || decide (b = 12))) || (decide (a = 247) || ((decide (81 ≤ a) && decide (a ≤ 84)) || (decide (a = 207) || (decide (255 ≤ a) && decide (a ≤ 257))))))
def dSl (a _b : Nat) : Bool := (decide (87 ≤ a) && decide (a ≤ 206)) || decide (a = 258)
theorem ruOK_w {S U : aS} (ru : iRu S) (h11 : U.1 11 2 = S.1 11 2) {v w : Int} (hw : wE 8 v w) : ruOK U v (S.2 13) (S.2 12) ∧ ruOK U v (S.2 12) (S.2 13) := by
  obtain ⟨r1, r2, r3, r4, r5⟩ := ru
  obtain ⟨A, hA, rfl, _⟩ := hw
  have key : ∀ r : Nat, (r : Int) < S.1 11 2 → ∃ O F, okL 2 O ∧ okL 2 F ∧ S.2 12 r = v5 O ∧ S.2 13 r = v5 F := fun r hr => by
    obtain ⟨⟨O, hO, e1, _⟩, ⟨F, hF, e2, _⟩⟩ := r5 r hr
    exact ⟨O, F, hO, hF, e1, e2⟩
  refine ⟨⟨by omega, by omega, fun r hr => ?_⟩, ⟨by omega, by omega, fun r hr => ?_⟩⟩
  · obtain ⟨O, F, hO, hF, e1, e2⟩ := key r (by omega)
    rw [e1, e2]; exact chOK_v (okW_8 hA) hF hO
  · obtain ⟨O, F, hO, hF, e1, e2⟩ := key r (by omega)
    rw [e1, e2]; exact chOK_v (okW_8 hA) hO hF
set_option maxHeartbeats 4000000 in
theorem inv_slip {S : aS} (h : Inv S) {b v w : Int} {c : Int} (hb : 0 ≤ b ∧ b < S.1 3 7) (hn : S.1 81 4 < 120) (hw : wE 8 v w) : Inv (slM (tkS (slA (upI S 1 1 0) b v) c) b w) := by
  obtain ⟨tp, bk, bh, sl, se, po, ed, pr, en, ru, ws, wf, kn⟩ := h
  obtain ⟨s1, s2, s3⟩ := sl
  obtain ⟨m, hm⟩ : ∃ m : Nat, S.1 81 4 = (m : Int) := ⟨(S.1 81 4).toNat, by omega⟩
  have t81 : (upI S 1 1 0).1 81 4 = S.1 81 4 := rfl
  have hm' : ((upI S 1 1 0).1 81 4).toNat = m := by rw [t81]; omega
  have X12 : (tkS (slA (upI S 1 1 0) b v) c).1 245 12 = S.1 81 4 := by
    rw [tkS_o (by decide) (by decide), slA_o (by decide) (by omega), up_obj (by decide), s2]
  have hmM : ((tkS (slA (upI S 1 1 0) b v) c).1 245 12).toNat = m := by rw [X12]; omega
  have fC : ∀ x y, ¬ (x = 81 ∧ y = 4) → ((x = 82 ∨ x = 83 ∨ x = 84 ∨ x = 207) → ¬ y = m) → ¬ x = 247 → ¬ (x = 245 ∧ y = 2) → ¬ (x = 1 ∧ y = 1) → (tkS (slA (upI S 1 1 0) b v) c).1 x y = S.1 x y := fun x y h1 h2 h3 h4 h5 => by
    rw [tkS_o h3 h4, slA_o h1 (by rw [hm']; exact h2)]
    by_cases e : x = 1
    · subst e; rw [up_cell (by omega)]
    · rw [up_obj e]
  have fU : ∀ x y, ¬ (x = 81 ∧ y = 4) → ((x = 82 ∨ x = 83 ∨ x = 84 ∨ x = 207 ∨ x = 255 ∨ x = 256 ∨ x = 257) → ¬ y = m) → ¬ x = 247 → ¬ (x = 245 ∧ (y = 2 ∨ y = 12)) → ¬ (x = 1 ∧ y = 1) → (slM (tkS (slA (upI S 1 1 0) b v) c) b w).1 x y = S.1 x y := fun x y h1 h2 h3 h4 h5 => by
    rw [slM_o (by omega) (by rw [hmM]; omega), fC x y h1 (by omega) h3 (by omega) h5]
  have fU2 : ∀ x y, ¬ x = 87 + m → ¬ (x = 258 ∧ y = m) → (slM (tkS (slA (upI S 1 1 0) b v) c) b w).2 x y = S.2 x y := fun x y h1 h2 => by
    rw [slM_2 (by rw [hmM]; exact h2), tkS_2, slA_2 (by rw [hm']; exact h1)]
    rfl
  have v1 := (slA_v (S := upI S 1 1 0) (b := b) (v := v))
  rw [hm'] at v1
  have v2 := (slM_v (S := tkS (slA (upI S 1 1 0) b v) c) (b := b) (v := w))
  rw [hmM, X12] at v2
  have v3 := (slA_r (S := upI S 1 1 0) (b := b) (v := v))
  rw [hm'] at v3
  have g : ∀ x y, ¬ (x = 245 ∧ y = 12) → ¬ x = 255 → ¬ x = 256 → ¬ x = 257 → ¬ x = 247 → ¬ (x = 245 ∧ y = 2) → (slM (tkS (slA (upI S 1 1 0) b v) c) b w).1 x y = (slA (upI S 1 1 0) b v).1 x y := fun x y h1 h2 h3 h4 h5 h6 => by
    rw [slM_o h1 (by omega), tkS_o h5 h6]
  have u814 : (slM (tkS (slA (upI S 1 1 0) b v) c) b w).1 81 4 = S.1 81 4 + 1 := by
    rw [g 81 4 (by decide) (by decide) (by decide) (by decide) (by decide) (by decide), v1.1]; rfl
  have u82 : (slM (tkS (slA (upI S 1 1 0) b v) c) b w).1 82 m = b := by
    rw [g 82 m (by simp) (by decide) (by decide) (by decide) (by decide) (by simp), v1.2.1]
  have u83 : (slM (tkS (slA (upI S 1 1 0) b v) c) b w).1 83 m = -1 := by
    rw [g 83 m (by simp) (by decide) (by decide) (by decide) (by decide) (by simp), v1.2.2.1]
  have u84 : (slM (tkS (slA (upI S 1 1 0) b v) c) b w).1 84 m = -1 := by
    rw [g 84 m (by simp) (by decide) (by decide) (by decide) (by decide) (by simp), v1.2.2.2]
  have u207 : (slM (tkS (slA (upI S 1 1 0) b v) c) b w).1 207 m = (slA (upI S 1 1 0) b v).1 207 m := g 207 m (by simp) (by decide) (by decide) (by decide) (by decide) (by simp)
  have ur : (slM (tkS (slA (upI S 1 1 0) b v) c) b w).2 (87 + m) = (slA (upI S 1 1 0) b v).2 (87 + m) := funext fun y => by
    rw [slM_2 (by omega), tkS_2]
  have u258 : (slM (tkS (slA (upI S 1 1 0) b v) c) b w).2 258 m = w := v2.2.2.2.2
  have u11 : (slM (tkS (slA (upI S 1 1 0) b v) c) b w).1 1 1 = 0 := by
    rw [g 1 1 (by decide) (by decide) (by decide) (by decide) (by decide) (by decide), slA_o (by decide) (by omega), up_hit]
  have u24 : (slM (tkS (slA (upI S 1 1 0) b v) c) b w).1 245 2 = 0 := by
    rw [slM_o (by decide) (by omega), tkS_t]
  obtain ⟨u12, u255, u256, u257, _⟩ := v2
  generalize slM (tkS (slA (upI S 1 1 0) b v) c) b w = U at *
  have f12 : U.2 12 = S.2 12 := funext fun y => fU2 12 y (by omega) (by omega)
  have f13 : U.2 13 = S.2 13 := funext fun y => fU2 13 y (by omega) (by omega)
  have f264 : U.2 264 = S.2 264 := funext fun y => fU2 264 y (by omega) (by omega)
  have f265 : U.2 265 = S.2 265 := funext fun y => fU2 265 y (by omega) (by omega)
  have f112 : U.1 11 2 = S.1 11 2 := fU 11 2 (by omega) (by omega) (by omega) (by omega) (by omega)
  have f24514 : U.1 245 14 = S.1 245 14 := fU 245 14 (by omega) (by omega) (by omega) (by omega) (by omega)
  have fr : ∀ x y, cSl x y = false → U.1 x y = S.1 x y := fun x y hc => by
    unfold cSl at hc
    simp at hc
    exact fU x y (by omega) (by omega) (by omega) (by omega) (by omega)
  have fr2 : ∀ x y, dSl x y = false → U.2 x y = S.2 x y := fun x y hc => by
    unfold dSl at hc
    simp at hc
    exact fU2 x y (by omega) (by omega)
  have vtp : iTp U := ⟨by omega, by omega, fun j hj => by omega⟩
  have ved : iEd U := iEd_c (fr 222 4 (by decide)) (fr 245 37 (by decide)) (funext fun b => fr 223 b (by simp [cSl])) (funext fun b => fr 271 b (by simp [cSl])) (funext fun b => fr 272 b (by simp [cSl])) (funext fun b => fr 273 b (by simp [cSl])) (fun e he => ⟨funext fun b => fr _ b (by simp [cSl]; omega), funext fun b => fr _ b (by simp [cSl]; omega)⟩) ed
  have vsl : iSl U := by
    refine ⟨by omega, by omega, fun s hs => ?_⟩
    have e9 : ∀ t, U.1 209 t = S.1 209 t := fun t => fU 209 t (by omega) (by omega) (by omega) (by omega) (by omega)
    have u9 : ∀ t, uS U t ↔ uS S t := fun t => by
      unfold uS
      rw [e9]
    have e37 : U.1 3 7 = S.1 3 7 := fU 3 7 (by omega) (by omega) (by omega) (by omega) (by omega)
    have e14 : U.1 14 4 = S.1 14 4 := fU 14 4 (by omega) (by omega) (by omega) (by omega) (by omega)
    by_cases e : s = m
    · subst e
      rw [u82, u83, u84, u255, u256, u257, e37]
      exact ⟨⟨rfl, rfl, rfl⟩, hb, Or.inl ⟨rfl, rfl⟩⟩
    · obtain ⟨c1, c2, c3⟩ := s3 s (by omega)
      rw [fU 255 s (by omega) (by omega) (by omega) (by omega) (by omega), fU 256 s (by omega) (by omega) (by omega) (by omega) (by omega), fU 257 s (by omega) (by omega) (by omega) (by omega) (by omega), fU 82 s (by omega) (by omega) (by omega) (by omega) (by omega), fU 83 s (by omega) (by omega) (by omega) (by omega) (by omega), fU 84 s (by omega) (by omega) (by omega) (by omega) (by omega), e37, e14, u9, e9]
      exact ⟨c1, c2, c3⟩
  have vws : iWs U := fun s hs => by
    by_cases e : s = m
    · subst e
      refine ⟨fun _ => ?_, fun z => by omega⟩
      obtain ⟨a1, a2⟩ := adA_row (T := U) (R := 87 + s) (v := v) (o := S.2 13) (f := S.2 12) (g := S.2 (87 + s)) (len := U.1 207 s) (by have := ru.2.2.1; omega) (by rw [ur, v3.1, f112]; rfl) (by rw [u207, v3.2, f112]; rfl)
      rw [a1, u258, f12, f13]
      exact ⟨hw, a2⟩
    · have hr : U.2 (87 + s) = S.2 (87 + s) := funext fun y => fU2 (87 + s) y (by omega) (by omega)
      rw [hr, fU2 258 s (by omega) (by omega), fU 207 s (by omega) (by omega) (by omega) (by omega) (by omega), f12, f13]
      exact ⟨fun z => ⟨((ws s hs).1 (by omega)).1, rwP_c hr f112 ((ws s hs).1 (by omega)).2⟩, fun z => (ws s hs).2 (by omega)⟩
  have vwf : iWf U := fun k hk => by
    have hr : U.2 (20 + k) = S.2 (20 + k) := funext fun y => fU2 (20 + k) y (by omega) (by omega)
    have hx : exK U k ↔ exK S k := by
      unfold exK
      rw [fU 15 (k / 5) (by omega) (by omega) (by omega) (by omega) (by omega)]
    rw [hr, fU2 263 k (by omega) (by omega), fU 80 k (by omega) (by omega) (by omega) (by omega) (by omega), f12, f13, hx]
    exact ⟨fun z => ⟨((wf k hk).1 z).1, rwP_c hr f112 ((wf k hk).1 z).2⟩, (wf k hk).2⟩
  have vkn : iKn U := fun s k hs hk => by
    have hx : exK U k ↔ exK S k := by
      unfold exK
      rw [fU 15 (k / 5) (by omega) (by omega) (by omega) (by omega) (by omega)]
    rw [fU 259 _ (by omega) (by omega) (by omega) (by omega) (by omega), hx]
    rcases kn s k hs hk with z | ⟨z1, z2, z3⟩
    · exact Or.inl z
    · exact Or.inr ⟨by omega, z2, by rw [z3, ldV_c f264 f265 f24514 (fU2 263 k (by omega) (by omega)) (fU2 258 s (by omega) (by omega))]⟩
  rw [patH_e fr fr2] at vtp ved vsl vws vwf vkn ⊢
  exact ⟨vtp, bk, bh, vsl, se, po, ved, pr, en, ru, vws, vwf, vkn⟩
set_option maxHeartbeats 4000000 in
theorem eq_slip {S : aS} {b n : Int} (h : Inv S) : spX11_slip [.inr (.inr 0), .inl b, .inl n] S (fun r T => spX12_slip [.inr (.inr 245), .inl b, .inl n] T (Eqv r)) := by
  have h' := h
  obtain ⟨tp, bk, bh, sl, se, po, ed, pr, en, ru, ws, wf, kn⟩ := h'
  obtain ⟨t1, t2, t3⟩ := tp
  obtain ⟨s1, s2, s3⟩ := sl
  have b3 := bk.2.2.1
  have tw := fun (q : 1 ≤ n ∧ n ≤ 8 ∧ n ≤ S.1 1 1) => tk_w (S := S) ⟨t1, t2, t3⟩ (n := n.toNat) (i := 0) (c := n) (by omega) (by omega) (by omega)
  refine ⟨t1, s1.1, ru.2.1, fun q => ⟨by omega, fun _ => ⟨rfl, h⟩, fun z => absurd (by omega) q⟩, fun q => ?_⟩
  have tw' := tw q.2.2
  rw [show (((n.toNat : Nat) : Int)) = n from by omega, show ((0 : Nat) : Int) = 0 from rfl] at tw'
  refine ⟨fun z => ?_, fun z => ?_⟩
  · have e1 : (upI S 1 1 0).1 245 12 = S.1 245 12 := rfl
    have e2 : (upI S 1 1 0).1 3 7 = S.1 3 7 := rfl
    have e3 : (upI S 1 1 0).1 245 2 = S.1 245 2 := rfl
    have e4 : (upI S 1 1 0).1 245 3 = S.1 245 3 := rfl
    have e5 : tkW (upI S 1 1 0) n n 0 = tkW S n n 0 := tkW_c (up_f (by decide)) (up_f (by decide))
    refine ⟨by rw [e1]; omega, fun y => absurd (by rw [e1, e3, e4]; omega) y, fun _ => ⟨fun _ => ⟨rfl, tk_0 h⟩, fun y => absurd ?_ y⟩⟩
    rw [e5]
    exact (tw'.resolve_right (fun y => y.1 z)).2
  · obtain ⟨_, w1, w2⟩ := tw'.resolve_left (fun y => z y.1)
    have hw := wE_m w2 (m := 8) (by omega)
    refine ⟨(ruOK_w ru rfl hw).1, ?_⟩
    have fC : ∀ x y, ¬ (x = 81 ∧ y = 4) → ¬ (x = 82 ∨ x = 83 ∨ x = 84 ∨ x = 207) → ¬ (x = 1 ∧ y = 1) → (slA (upI S 1 1 0) b (tpW (S.1 2) (S.1 1 1) n.toNat 0 0)).1 x y = S.1 x y := fun x y h1 h2 h5 => by
      rw [slA_o h1 (fun y => absurd y h2)]
      by_cases e : x = 1
      · subst e; rw [up_cell (by omega)]
      · rw [up_obj e]
    have e1 := fC 245 12 (by decide) (by decide) (by decide)
    have e3 := fC 245 2 (by decide) (by decide) (by decide)
    have e4 := fC 245 3 (by decide) (by decide) (by decide)
    have e5 : tkW (slA (upI S 1 1 0) b (tpW (S.1 2) (S.1 1 1) n.toNat 0 0)) n n 0 = tkW S n n 0 := tkW_c (funext fun y => fC 246 y (by simp) (by decide) (by simp)) (funext fun y => fC 247 y (by simp) (by decide) (by simp))
    refine ⟨by rw [e1]; omega, fun y => absurd (by rw [e1, e3, e4]; omega) y, fun _ => ⟨fun y => absurd (e5 ▸ y) w1, fun _ => ⟨oi (by rw [e1, s2]), ?_⟩⟩⟩
    rw [e5]
    exact inv_slip h q.1 q.2.1 hw

