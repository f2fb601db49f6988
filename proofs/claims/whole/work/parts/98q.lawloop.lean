/-! THE LAW: its loop, its start -/
theorem tn_0 {w : Cond} (h : w ∈ k2_sels lw_privs) : w ∈ lw_tbl := List.mem_append_left _ h
theorem tn_1 {w : Cond} (h : w ∈ tables_1_1) : w ∈ lw_tbl := List.mem_append_right _ (List.mem_append_left _ h)
theorem tn_2 {w : Cond} (h : w ∈ tables_1_2) : w ∈ lw_tbl := List.mem_append_right _ (List.mem_append_right _ (List.mem_append_left _ h))
theorem tn_3 {w : Cond} (h : w ∈ tables_1_3) : w ∈ lw_tbl := List.mem_append_right _ (List.mem_append_right _ (List.mem_append_right _ (List.mem_append_left _ h)))
theorem tn_4 {w : Cond} (h : w ∈ tables_1_4) : w ∈ lw_tbl := List.mem_append_right _ (List.mem_append_right _ (List.mem_append_right _ (List.mem_append_right _ (List.mem_append_left _ h))))
theorem tn_5 {w : Cond} (h : w ∈ tables_1_5) : w ∈ lw_tbl := List.mem_append_right _ (List.mem_append_right _ (List.mem_append_right _ (List.mem_append_right _ (List.mem_append_right _ (List.mem_append_left _ h)))))
theorem tn_6 {w : Cond} (h : w ∈ tables_1_6) : w ∈ lw_tbl := List.mem_append_right _ (List.mem_append_right _ (List.mem_append_right _ (List.mem_append_right _ (List.mem_append_right _ (List.mem_append_right _ h)))))
set_option maxRecDepth 20000 in
theorem aNl_in : ∀ q ∈ aNl, Cond.fieldLinkNest q.1 q.2.1 q.2.2.1 q.2.2.2.1 q.2.2.2.2.1 q.2.2.2.2.2 ∈ lw_tbl := all_cons (tn_1 (List.mem_of_getElem? (i := 30) rfl)) (all_cons (tn_1 (List.mem_of_getElem? (i := 58) rfl)) (all_cons (tn_1 (List.mem_of_getElem? (i := 50) rfl)) (all_cons (tn_1 (List.mem_of_getElem? (i := 53) rfl)) (all_cons (tn_1 (List.mem_of_getElem? (i := 45) rfl)) (all_cons (tn_1 (List.mem_of_getElem? (i := 47) rfl)) (all_cons (tn_1 (List.mem_of_getElem? (i := 170) rfl)) (all_cons (tn_1 (List.mem_of_getElem? (i := 135) rfl)) (all_cons (tn_1 (List.mem_of_getElem? (i := 92) rfl)) (all_cons (tn_1 (List.mem_of_getElem? (i := 133) rfl)) (all_cons (tn_1 (List.mem_of_getElem? (i := 166) rfl)) (all_cons (tn_1 (List.mem_of_getElem? (i := 190) rfl)) (all_cons (tn_1 (List.mem_of_getElem? (i := 194) rfl)) (all_cons (tn_2 (List.mem_of_getElem? (i := 19) rfl)) (all_cons (tn_2 (List.mem_of_getElem? (i := 13) rfl)) (all_cons (tn_2 (List.mem_of_getElem? (i := 16) rfl)) (all_cons (tn_1 (List.mem_of_getElem? (i := 214) rfl)) (all_cons (tn_1 (List.mem_of_getElem? (i := 216) rfl)) (all_cons (tn_1 (List.mem_of_getElem? (i := 210) rfl)) (all_cons (tn_1 (List.mem_of_getElem? (i := 223) rfl)) (all_cons (tn_1 (List.mem_of_getElem? (i := 160) rfl)) (all_cons (tn_1 (List.mem_of_getElem? (i := 164) rfl)) (all_cons (tn_1 (List.mem_of_getElem? (i := 157) rfl)) (all_cons (tn_2 (List.mem_of_getElem? (i := 40) rfl)) (all_cons (tn_1 (List.mem_of_getElem? (i := 60) rfl)) (all_cons (tn_1 (List.mem_of_getElem? (i := 129) rfl)) (all_cons (tn_1 (List.mem_of_getElem? (i := 169) rfl)) (all_cons (tn_1 (List.mem_of_getElem? (i := 159) rfl)) (all_cons (tn_1 (List.mem_of_getElem? (i := 163) rfl)) (all_cons (tn_1 (List.mem_of_getElem? (i := 189) rfl)) (all_cons (tn_1 (List.mem_of_getElem? (i := 193) rfl)) (all_cons (tn_1 (List.mem_of_getElem? (i := 222) rfl)) (all_cons (tn_2 (List.mem_of_getElem? (i := 18) rfl)) (all_cons (tn_2 (List.mem_of_getElem? (i := 12) rfl)) (all_cons (tn_2 (List.mem_of_getElem? (i := 15) rfl)) (all_cons (tn_1 (List.mem_of_getElem? (i := 213) rfl)) (all_cons (tn_1 (List.mem_of_getElem? (i := 218) rfl)) (all_cons (tn_1 (List.mem_of_getElem? (i := 220) rfl)) (all_cons (tn_1 (List.mem_of_getElem? (i := 168) rfl)) (all_cons (tn_1 (List.mem_of_getElem? (i := 162) rfl)) (all_cons (tn_1 (List.mem_of_getElem? (i := 156) rfl)) (all_cons (tn_1 (List.mem_of_getElem? (i := 49) rfl)) (all_cons (tn_1 (List.mem_of_getElem? (i := 52) rfl)) (all_cons (tn_1 (List.mem_of_getElem? (i := 192) rfl)) (all_cons (tn_1 (List.mem_of_getElem? (i := 91) rfl)) (all_cons (tn_1 (List.mem_of_getElem? (i := 89) rfl)) (all_cons (tn_1 (List.mem_of_getElem? (i := 87) rfl)) (all_nil)))))))))))))))))))))))))))))))))))))))))))))))
theorem cNl_in : ∀ q ∈ cNl, Cond.methodLinkNest "SlipHouse" q.1 q.2 "SlipHouse" ∈ lw_tbl := all_cons (tn_1 (List.mem_of_getElem? (i := 25) rfl)) (all_cons (tn_1 (List.mem_of_getElem? (i := 40) rfl)) (all_cons (tn_1 (List.mem_of_getElem? (i := 82) rfl)) (all_cons (tn_2 (List.mem_of_getElem? (i := 7) rfl)) (all_nil))))
theorem ly_ok : ((List.range 276).all fun i => match LY i with
    | .inl (_, fs) => fs.all (fun x => match x with
      | some r => decide (r < 276)
      | none => true)
    | .inr (t, n, bb) => decide (t < 4) || decide (bb + n ≤ 276)) = true := by decide +kernel
theorem ly_o {i c : Nat} {fs : List (Option Nat)} (hi : i < 276) (h : LY i = .inl (c, fs)) {k r : Nat} (hk : fs[k]? = some (some r)) : r < 276 := by
  have := List.all_eq_true.mp ly_ok i (List.mem_range.mpr hi)
  rw [h] at this
  have h2 := List.all_eq_true.mp this (some r) (List.mem_of_getElem? hk)
  simpa using h2
theorem ly_a {i t n bb : Nat} (hi : i < 276) (h : LY i = .inr (t, n, bb)) : t < 4 ∨ bb + n ≤ 276 := by
  have := List.all_eq_true.mp ly_ok i (List.mem_range.mpr hi)
  rw [h] at this
  simpa using this
def isO (a : Nat) : Prop := a = 0 ∨ a = 1 ∨ a = 3 ∨ a = 11 ∨ a = 14 ∨ a = 18 ∨ a = 81 ∨ a = 85 ∨ a = 208 ∨ a = 211 ∨ a = 219 ∨ a = 222 ∨ a = 242 ∨ a = 245
theorem ly_objs : ∀ a, a < 276 → lyC a ≠ none → a = 0 ∨ a = 1 ∨ a = 3 ∨ a = 11 ∨ a = 14 ∨ a = 18 ∨ a = 81 ∨ a = 85 ∨ a = 208 ∨ a = 211 ∨ a = 219 ∨ a = 222 ∨ a = 242 ∨ a = 245 := by decide +kernel
theorem aHp_of {D : va_G} {cy : Nat → ClassId} {B0 b : Nat} {φ : Nat → Nat → Bool} {S : aS} {H0 H : Heap} {locs : List Loc} (hX : cX D cy B0 276 φ S H0 H locs) (hφ : ∀ a, isO a → ∀ k, φ a k = true) : aHp D cy (adL B0 b) (bA B0) S H0 H locs := by
  obtain ⟨x1, x2, x3⟩ := hX
  have inv : ∀ {k : Nat} {q : Nat × va_E}, (aW cy (adL B0 b) S)[k]? = some q → k < 276 ∧ q = (B0 + k, aE cy (adL B0 b) S k (LY k)) := fun {k q} h => by
    by_cases hk : k < 276
    · rw [aW_get hk] at h
      rw [adL_o (by omega)] at h
      exact ⟨hk, (Option.some.inj h).symm⟩
    · have : (aW cy (adL B0 b) S)[k]? = none := by simp [aW, aN]; omega
      rw [this] at h
      cases h
  refine ⟨fun k q hq => ?_, ⟨fun i j p q hi hj hpq => ?_, fun k q hq => ?_⟩, x3⟩
  · obtain ⟨hk, rfl⟩ := inv hq
    have hat := x2 k _ (cWd_get hk)
    cases e : LY k with
    | inl y =>
      obtain ⟨ci, fs⟩ := y
      rw [e] at hat
      have ho : isO k := ly_objs k hk (by unfold lyC; rw [e]; intro z; cases z)
      have em : fs.mapIdx (cFv B0 φ S k) = fs.mapIdx (aFv (adL B0 b) S k) := mIdx_c (fun j x hx => by
        cases x with
        | none => rfl
        | some r =>
          show (if φ k j = true then Value.ref (B0 + r) else .null) = .ref (adL B0 b r)
          have := ly_o hk e hx
          rw [hφ k ho j, adL_o (by omega)]
          rfl)
      have hat' : va_at D vwCl (B0 + k, .inr (ci, fs.mapIdx (cFv B0 φ S k))) H := hat
      rw [em] at hat'
      exact hat'
    | inr y =>
      obtain ⟨t, n, bb⟩ := y
      rw [e] at hat
      rcases ly_a hk e with ht | ht
      · have ee : aE cy (adL B0 b) S k (.inr (t, n, bb)) = aE cy (fun j => B0 + j) S k (.inr (t, n, bb)) := by
          simp only [aE]
          by_cases h3 : t = 3
          · rw [if_pos h3, if_pos h3]
          · rw [if_neg h3, if_neg h3, if_pos (by omega), if_pos (by omega)]
        rw [ee]
        exact hat
      · by_cases h4 : t < 4
        · have ee : aE cy (adL B0 b) S k (.inr (t, n, bb)) = aE cy (fun j => B0 + j) S k (.inr (t, n, bb)) := by
            simp only [aE]
            by_cases h3 : t = 3
            · rw [if_pos h3, if_pos h3]
            · rw [if_neg h3, if_neg h3, if_pos (by omega), if_pos (by omega)]
          rw [ee]
          exact hat
        · have e1 : aE cy (adL B0 b) S k (.inr (t, n, bb)) = .inl (cy t, n, .inr (.inr (.inr (.inr fun j => some (adL B0 b (bb + j)))))) := by
            simp only [aE]
            rw [if_neg (by omega), if_neg (by omega)]
          have e2 : cEl cy B0 φ S k (.inr (t, n, bb)) = .inl (cy t, n, .inr (.inr (.inr (.inr fun j => some (B0 + (bb + j)))))) := by
            show aE cy (fun j => B0 + j) S k (.inr (t, n, bb)) = _
            simp only [aE]
            rw [if_neg (by omega), if_neg (by omega)]
          rw [e2] at hat
          rw [e1]
          show H[B0 + k]? = some (arrV (cy t) n (fun j => va_rf (some (adL B0 b (bb + j)))))
          have hat' : H[B0 + k]? = some (arrV (cy t) n (fun j => va_rf (some (B0 + (bb + j))))) := hat
          rw [hat']
          exact congrArg some (arrV_c fun j hj => by rw [adL_o (by omega)])
  · obtain ⟨_, rfl⟩ := inv hi
    obtain ⟨_, rfl⟩ := inv hj
    have : B0 + i = B0 + j := hpq
    omega
  · obtain ⟨_, rfl⟩ := inv hq
    show B0 ≤ B0 + k
    omega
/-! the state behind the constructors -/
def s00 : aS := (fun _ _ => 0, fun _ _ => 0)
def sF : aS := snI (upI (upI s00 18 1 0) 85 1 1) 40
theorem sF_v {a c : Nat} : sF.1 a c = (if (a = 209 ∨ a = 210) ∧ c < 40 then -1 else if a = 85 ∧ c = 1 then 1 else 0) := by
  unfold sF snI s00
  simp only [stA, upI, up2]
  by_cases h1 : a = 210
  · subst h1
    by_cases h2 : c < 40 <;> simp [h2]
  · by_cases h2 : a = 209
    · subst h2
      by_cases h3 : c < 40 <;> simp [h3]
    · by_cases h3 : a = 85 ∧ c = 1
      · obtain ⟨rfl, rfl⟩ := h3; simp
      · simp [h1, h2, h3]
theorem sF_0 {a c : Nat} (h : ¬ a = 209) (h2 : ¬ a = 210) (h3 : ¬ a = 85) : sF.1 a c = 0 := by
  rw [sF_v, if_neg (by omega), if_neg (by omega)]
theorem sF_2 : sF.2 = fun _ _ => 0 := rfl
theorem sF_rg : aRg sF := by
  refine ⟨fun a c => ?_, fun a c => ?_⟩
  · rw [sF_v]
    unfold inI
    split
    · omega
    · split <;> omega
  · show inL 0
    unfold inL
    omega
theorem sF_I : Inv sF := by
  have z : ∀ a c, ¬ a = 209 → ¬ a = 210 → ¬ a = 85 → sF.1 a c = 0 := fun a c h1 h2 h3 => sF_0 h1 h2 h3
  have m9 : ∀ t, t < 40 → sF.1 209 t = -1 := fun t ht => by rw [sF_v, if_pos (by omega)]
  refine ⟨⟨?_, ?_, ?_⟩, ⟨?_, ?_, ?_, ?_, ?_, ?_, ?_⟩, ⟨?_, ?_, ?_, ?_⟩, ⟨?_, ?_, ?_⟩, ⟨?_, fun _ => 0, ?_⟩, ⟨?_, ?_, ?_⟩, ⟨?_, ?_, ?_⟩, ⟨?_, ?_, ?_⟩, ⟨?_, ?_, ?_, ?_⟩, ⟨?_, ?_, ?_, ?_, ?_⟩, ?_, ?_, ?_⟩
  · rw [z 1 1 (by decide) (by decide) (by decide)]; omega
  · rw [z 1 1 (by decide) (by decide) (by decide), z 245 2 (by decide) (by decide) (by decide)]
  · intro j hj; rw [z 1 1 (by decide) (by decide) (by decide)] at hj; omega
  · rw [z 3 7 (by decide) (by decide) (by decide)]; omega
  · rw [z 3 8 (by decide) (by decide) (by decide)]; omega
  · rw [z 3 7 (by decide) (by decide) (by decide), z 245 3 (by decide) (by decide) (by decide)]
  · rw [z 3 8 (by decide) (by decide) (by decide), z 245 4 (by decide) (by decide) (by decide)]
  · intro j hj; rw [z 3 7 (by decide) (by decide) (by decide)] at hj; omega
  · intro j hj; rw [z 3 8 (by decide) (by decide) (by decide)] at hj; omega
  · refine ⟨⟨fun j hj => ?_, fun j hj => ?_⟩, fun F L _ j hj => ?_⟩
    · rw [z 245 3 (by decide) (by decide) (by decide)] at hj; omega
    · rw [z 245 4 (by decide) (by decide) (by decide)] at hj; omega
    · rw [z 245 3 (by decide) (by decide) (by decide)] at hj; omega
  · intro a c ha hc
    rw [z 8 a (by decide) (by decide) (by decide)]
    exact ⟨fun w => absurd w (inS_0 hc), fun w => absurd (z 254 _ (by decide) (by decide) (by decide)) w⟩
  · intro a c _ _ _ w
    exact w (z 254 _ (by decide) (by decide) (by decide))
  · intro a c d _ _ _ w _
    exact absurd (z 254 _ (by decide) (by decide) (by decide)) w
  · intro j hj; rw [z 3 8 (by decide) (by decide) (by decide)] at hj; omega
  · rw [z 81 4 (by decide) (by decide) (by decide)]; omega
  · rw [z 81 4 (by decide) (by decide) (by decide), z 245 12 (by decide) (by decide) (by decide)]
  · intro j hj; rw [z 81 4 (by decide) (by decide) (by decide)] at hj; omega
  · intro t ht
    exact ⟨⟨fun _ => m9 t ht, fun _ => z 266 t (by decide) (by decide) (by decide)⟩, fun w => absurd (m9 t ht) w⟩
  · intro t ht w _
    exact absurd (m9 t ht) w
  · rw [z 219 2 (by decide) (by decide) (by decide)]; omega
  · rw [z 219 2 (by decide) (by decide) (by decide), z 245 29 (by decide) (by decide) (by decide)]
  · intro j hj; rw [z 219 2 (by decide) (by decide) (by decide)] at hj; omega
  · rw [z 222 4 (by decide) (by decide) (by decide)]; omega
  · rw [z 222 4 (by decide) (by decide) (by decide), z 245 37 (by decide) (by decide) (by decide)]
  · intro j hj; rw [z 222 4 (by decide) (by decide) (by decide)] at hj; omega
  · rw [z 242 7 (by decide) (by decide) (by decide)]; omega
  · rw [z 242 7 (by decide) (by decide) (by decide), z 245 42 (by decide) (by decide) (by decide)]
  · intro j hj; rw [z 242 7 (by decide) (by decide) (by decide)] at hj; omega
  · rw [z 14 4 (by decide) (by decide) (by decide)]; omega
  · rw [z 14 4 (by decide) (by decide) (by decide), z 245 13 (by decide) (by decide) (by decide)]
  · intro j hj
    rw [z 14 4 (by decide) (by decide) (by decide), z 15 j (by decide) (by decide) (by decide), z 260 j (by decide) (by decide) (by decide)]
    exact ⟨by omega, fun w => by omega, fun _ => ⟨rfl, rfl⟩⟩
  · intro k hk w
    rw [z 15 _ (by decide) (by decide) (by decide)] at w; omega
  · exact z 18 1 (by decide) (by decide) (by decide)
  · rw [sF_v, if_neg (by decide), if_pos (by decide)]; decide
  · rw [z 11 2 (by decide) (by decide) (by decide)]; omega
  · rw [z 11 2 (by decide) (by decide) (by decide), z 245 14 (by decide) (by decide) (by decide)]
  · intro j hj; rw [z 11 2 (by decide) (by decide) (by decide)] at hj; omega
  · intro j hj
    refine ⟨fun w => ?_, fun _ => z 207 j (by decide) (by decide) (by decide)⟩
    rw [z 81 4 (by decide) (by decide) (by decide)] at w; omega
  · intro k hk
    refine ⟨fun w => ?_, fun _ => z 80 k (by decide) (by decide) (by decide)⟩
    unfold exK at w
    rw [z 15 _ (by decide) (by decide) (by decide)] at w; omega
  · intro j k _ _
    exact Or.inl (z 259 _ (by decide) (by decide) (by decide))
theorem jLs_0 : jt 33 127 = some 160 := rfl
theorem jLs_1 : jt 33 190 = some 223 := rfl
theorem jLs_2 : jt 33 223 = some 256 := rfl
theorem jLs_3 : jt 33 256 = some 289 := rfl
theorem jLs_4 : jt 33 289 = some 322 := rfl
theorem jLs_5 : jt 33 322 = some 355 := rfl
theorem jLs_6 : jt 33 365 = some 398 := rfl
theorem jLs_7 : jt 33 418 = some 451 := rfl
theorem jLs_8 : jt 33 451 = some 484 := rfl
theorem jLs_9 : jt 33 484 = some 517 := rfl
theorem jLs_10 : jt 33 497 = some 530 := rfl
theorem jLs_11 : jt 33 530 = some 563 := rfl
theorem jLs_12 : jt 33 573 = some 606 := rfl
theorem jLs_13 : jt 33 606 = some 639 := rfl
theorem jLs_14 : jt 33 639 = some 672 := rfl
theorem jLs_15 : jt 33 662 = some 695 := rfl
theorem jLs_16 : jt 33 685 = some 718 := rfl
theorem jLs_17 : jt 33 718 = some 751 := rfl
theorem jLs_18 : jt 33 751 = some 784 := rfl
theorem jLs_19 : jt 33 784 = some 817 := rfl
theorem jLs_20 : jt 33 817 = some 850 := rfl
theorem jLs_21 : jt 33 840 = some 873 := rfl
theorem jLs_22 : jt 33 873 = some 906 := rfl
theorem jLs_23 : jt 33 886 = some 919 := rfl
theorem jLs_24 : jt 33 929 = some 962 := rfl
theorem jLs_25 : jt 33 972 = some 1005 := rfl
theorem jLs_26 : jt 33 995 = some 1028 := rfl
theorem jLs_27 : jt 33 1018 = some 1051 := rfl
theorem jLs_d : jt 33 1041 = some 1074 := rfl
theorem jL_24 : jt 24 1056 = some 1080 := rfl
theorem jL_1077 : jt 1077 (-1059) = some 18 := rfl
section LP
variable {l : Launch} {p : Program} {e : Env} {s : State} {m : MethodId} {below : List Frame} {meth : Method} {c : Code} {b B0 L : Nat} {xs : Nat → Int32} {D : va_G} {cy : Nat → ClassId}
theorem law_inc {Z : State → Prop} (hc : cLx p s m meth c b B0 L xs D cy) {i : Int} {U : aS} (h0 : 0 ≤ i) (h6 : i + 6 ≤ L) (h : kL p l e s m below meth c b B0 D cy Z 18 (ll (i + 6)) [] U) : kL p l e s m below meth c b B0 D cy Z 1074 (ll i) [] U := by
  have hL : L ≤ 3072 := hc.2.2.2.2.2.2.2.2.2.2.2
  refine wpL_go hc (fun pc => pc == 18) 2 dL_law_1074 ?_
  show 3 < 4 ∧ wpL L (fun j => (xs j).toInt) (fun pc => pc == 18) (kL p l e s m below meth c b B0 D cy Z) 2 1077 [(0, .inr (.inr 276)), (1, .inr (.inr 0)), (2, .inr (.inr 245)), (3, .inl (wI (i + 6)))] [] U
  refine ⟨by decide, ?_⟩
  rw [wI_id (by omega) (by omega)]
  simp only [wpL_s, wpC_f, wpC_t, dL_law_1077, l_goto, e_wJ, jL_1077, e_wJo, Nat.reduceBEq]
  exact h
theorem law_out (hc : cLx p s m meth c b B0 L xs D cy) {ls : aL} {U : aS} : kL p l e s m below meth c b B0 D cy (lw_Z below #[Value.ref b] s) 1081 ls [.inl 1] U := by
  obtain ⟨hx, hb, hml, hown, hts, hK, hB, hX, hbl, hr, hlk, hL⟩ := hc
  intro hi H locs jl hH hl
  refine va_forget (fun q hq => by have : B0 ≤ q.base := hH.2.2.2.2 q hq; omega) ?_
  exact lw_ret hx hb hr hlk dL_law_1081
set_option maxRecDepth 20000 in
set_option maxHeartbeats 8000000 in
theorem law_loop (hc : cLx p s m meth c b B0 L xs D cy) : ∀ (n : Nat) (i : Int) (S : aS), 0 ≤ i → i ≤ L + 6 → L + 6 - i ≤ n → Inv S → kL p l e s m below meth c b B0 D cy (lw_Z below #[Value.ref b] s) 18 (ll i) [] S := by
  have hL : L ≤ 3072 := hc.2.2.2.2.2.2.2.2.2.2.2
  intro n
  induction n with
  | zero =>
    intro i S h0 h1 h2 hI
    refine wpL_go hc (fun pc => pc == 27 || pc == 1081) 12 dL_law_18 ?_
    unfold ll
    simp only [wpL_s, wpC_f, wpC_t, l_iaload, l_alen, l_aload_n, l_iload_n, l_iconst, l_bipush, l_isub, l_iand, l_if_icmp, l_tsw, e_wLd, e_wLd0, e_wLd1, e_wLd2, e_get1, e_get2, e_wJ, e_wJo, f40, f41, f42, f43, Nat.reduceAdd, Nat.reduceBEq, eq_self, true_or, or_true, true_and, e_wI2, e_wIc_gt, ic_1, bpL_6, bpL_31, jL_24, Bool.or_false, Bool.false_or, Bool.or_true, Bool.true_or, dL_law_18, dL_law_19, dL_law_20, dL_law_21, dL_law_23, dL_law_24, dL_law_1080]
    rw [wI_id (by omega) (by omega)]
    exact ⟨fun _ => law_out hc, fun z => by omega⟩
  | succ n ih =>
    intro i S h0 h1 h2 hI
    have hg : i + 6 ≤ L → ∀ U, Inv U → kL p l e s m below meth c b B0 D cy (lw_Z below #[Value.ref b] s) 1074 (ll i) [] U := fun h6 U hU => law_inc hc h0 h6 (ih (i + 6) U (by omega) (by omega) (by omega) hU)
    refine wpL_go hc (fun pc => pc == 27 || pc == 1081) 12 dL_law_18 ?_
    unfold ll
    simp only [wpL_s, wpC_f, wpC_t, l_iaload, l_alen, l_aload_n, l_iload_n, l_iconst, l_bipush, l_isub, l_iand, l_if_icmp, l_tsw, e_wLd, e_wLd0, e_wLd1, e_wLd2, e_get1, e_get2, e_wJ, e_wJo, f40, f41, f42, f43, Nat.reduceAdd, Nat.reduceBEq, eq_self, true_or, or_true, true_and, e_wI2, e_wIc_gt, ic_1, bpL_6, bpL_31, jL_24, Bool.or_false, Bool.false_or, Bool.or_true, Bool.true_or, dL_law_18, dL_law_19, dL_law_20, dL_law_21, dL_law_23, dL_law_24, dL_law_1080]
    rw [wI_id (by omega) (by omega)]
    refine ⟨fun _ => law_out hc, fun h6' => ?_⟩
    have h6 : i + 6 ≤ L := by omega
    refine wpL_go hc (fun pc => pc == 160 || pc == 223 || pc == 256 || pc == 289 || pc == 322 || pc == 355 || pc == 398 || pc == 451 || pc == 484 || pc == 517 || pc == 530 || pc == 563 || pc == 606 || pc == 639 || pc == 672 || pc == 695 || pc == 718 || pc == 751 || pc == 784 || pc == 817 || pc == 850 || pc == 873 || pc == 906 || pc == 919 || pc == 962 || pc == 1005 || pc == 1028 || pc == 1051 || pc == 1074) 12 dL_law_27 ?_
    simp only [wpL_s, wpC_f, wpC_t, l_iaload, l_alen, l_aload_n, l_iload_n, l_iconst, l_bipush, l_isub, l_iand, l_if_icmp, l_tsw, e_wLd, e_wLd0, e_wLd1, e_wLd2, e_get1, e_get2, e_wJ, e_wJo, f40, f41, f42, f43, Nat.reduceAdd, Nat.reduceBEq, eq_self, true_or, or_true, true_and, e_wI2, e_wIc_gt, ic_1, bpL_6, bpL_31, jL_24, jLs_0, jLs_1, jLs_2, jLs_3, jLs_4, jLs_5, jLs_6, jLs_7, jLs_8, jLs_9, jLs_10, jLs_11, jLs_12, jLs_13, jLs_14, jLs_15, jLs_16, jLs_17, jLs_18, jLs_19, jLs_20, jLs_21, jLs_22, jLs_23, jLs_24, jLs_25, jLs_26, jLs_27, jLs_d, e_tsw, e_tsw0, e_tsw1, Bool.or_false, Bool.false_or, Bool.or_true, Bool.true_or, dL_law_27, dL_law_28, dL_law_29, dL_law_30, dL_law_32, dL_law_33]
    generalize bAnd (xs i.toNat).toInt 31 = v
    refine ⟨h0, by omega, by decide, fun _ => hg h6 S hI, fun _ => lA_feed hc h0 h6 hI (hg h6), fun _ => lA_book hc h0 h6 hI (hg h6), fun _ => lA_before hc h0 h6 hI (hg h6), fun _ => lA_span hc h0 h6 hI (hg h6), fun _ => lA_slip hc h0 h6 hI (hg h6), fun _ => lA_entry hc h0 h6 hI (hg h6), fun _ => lA_form hc h0 h6 hI (hg h6), fun _ => lA_rule hc h0 h6 hI (hg h6), fun _ => lA_fits hc h0 h6 hI (hg h6), fun _ => lA_sort hc h0 h6 hI (hg h6), fun _ => lA_sense hc h0 h6 hI (hg h6), fun _ => lA_put hc h0 h6 hI (hg h6), fun _ => lA_move hc h0 h6 hI (hg h6), fun _ => lA_join hc h0 h6 hI (hg h6), fun _ => lA_part hc h0 h6 hI (hg h6), fun _ => lA_drop hc h0 h6 hI (hg h6), fun _ => lA_point hc h0 h6 hI (hg h6), fun _ => lA_lead hc h0 h6 hI (hg h6), fun _ => lA_told hc h0 h6 hI (hg h6), fun _ => lA_older hc h0 h6 hI (hg h6), fun _ => lA_flaw hc h0 h6 hI (hg h6), fun _ => lA_where hc h0 h6 hI (hg h6), fun _ => lA_edition hc h0 h6 hI (hg h6), fun _ => lA_as hc h0 h6 hI (hg h6), fun _ => lA_differ hc h0 h6 hI (hg h6), fun _ => lA_print hc h0 h6 hI (hg h6), fun _ => lA_octet hc h0 h6 hI (hg h6), fun _ => lA_count hc h0 h6 hI (hg h6), trivial⟩
end LP
