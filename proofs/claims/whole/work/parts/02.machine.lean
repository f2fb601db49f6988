/-! THE ABSTRACT MACHINE: values, the static layout's cells, one step as a predicate transformer -/
abbrev aV : Type := Int ⊕ Int ⊕ Nat
abbrev aS : Type := (Nat → Nat → Int) × (Nat → Nat → Int)
abbrev aL : Type := List (Nat × aV)
/-- a cell: an object (its class, its fields: a reference or a number), or an array (its kind, its length, its first row) -/
abbrev aC : Type := (Nat × List (Option Nat)) ⊕ (Nat × Nat × Nat)
abbrev aSp : Type := List aV → aS → (Option aV → aS → Prop) → Prop
def inI (a : Int) : Prop := -2147483648 ≤ a ∧ a < 2147483648
def inL (a : Int) : Prop := -9223372036854775808 ≤ a ∧ a < 9223372036854775808
def aOk : aV → Prop
  | .inl a => inI a
  | .inr (.inl a) => inL a
  | .inr (.inr _) => True
def aRg (S : aS) : Prop := (∀ i j, inI (S.1 i j)) ∧ ∀ i j, inL (S.2 i j)
def mv (ad : Nat → Nat) : aV → Value
  | .inl a => .int (Int32.ofInt a)
  | .inr (.inl a) => .long (Int64.ofInt a)
  | .inr (.inr r) => .ref (ad r)
def isL : aV → Bool
  | .inr (.inl _) => true
  | _ => false
theorem inI_toInt (x : Int32) : inI x.toInt := by
  have h1 := Int32.le_toInt x
  have h2 := Int32.toInt_lt x
  exact ⟨by simpa using h1, by simpa using h2⟩
theorem inL_toInt (x : Int64) : inL x.toInt := by
  have h1 := Int64.le_toInt x
  have h2 := Int64.toInt_lt x
  exact ⟨by simpa using h1, by simpa using h2⟩
theorem ofI_toInt {a : Int} (h : inI a) : (Int32.ofInt a).toInt = a := Int32.toInt_ofInt_of_le (by simpa [inI] using h.1) (by simpa [inI] using h.2)
theorem ofL_toInt {a : Int} (h : inL a) : (Int64.ofInt a).toInt = a := Int64.toInt_ofInt_of_le (by simpa [inL] using h.1) (by simpa [inL] using h.2)
theorem mv_int (ad : Nat → Nat) (x : Int32) : mv ad (.inl x.toInt) = .int x := by simp [mv]
theorem mv_long (ad : Nat → Nat) (x : Int64) : mv ad (.inr (.inl x.toInt)) = .long x := by simp [mv]
theorem mv_cat (ad : Nat → Nat) (v : aV) : (mv ad v).category = if isL v then 2 else 1 := by
  rcases v with a | a | a <;> rfl
/-! updates -/
def up2 (f : Nat → Nat → Int) (i j : Nat) (v : Int) : Nat → Nat → Int := fun a b => if a = i ∧ b = j then v else f a b
def upI (S : aS) (i j : Nat) (v : Int) : aS := (up2 S.1 i j v, S.2)
def upL (S : aS) (i j : Nat) (v : Int) : aS := (S.1, up2 S.2 i j v)
theorem aRg.upI {S : aS} (h : aRg S) {i j : Nat} {v : Int} (hv : inI v) : aRg (upI S i j v) := by
  refine ⟨fun a b => ?_, h.2⟩
  show inI (if a = i ∧ b = j then v else S.1 a b)
  split
  · exact hv
  · exact h.1 a b
theorem aRg.upL {S : aS} (h : aRg S) {i j : Nat} {v : Int} (hv : inL v) : aRg (upL S i j v) := by
  refine ⟨h.1, fun a b => ?_⟩
  show inL (if a = i ∧ b = j then v else S.2 a b)
  split
  · exact hv
  · exact h.2 a b
/-! locals -/
def lget : aL → Nat → Option aV
  | [], _ => none
  | (k, v) :: r, i => if k = i then some v else lget r i
def lput (i : Nat) (v : aV) : aL → aL
  | [] => [(i, v)]
  | (k, w) :: r => if i < k then (i, v) :: (k, w) :: r else (k, w) :: lput i v r
def lclr (i : Nat) (vl : Bool) : aL → aL
  | [] => []
  | (k, w) :: r => if (k == i || (k + 1 == i && isL w) || (vl && k == i + 1)) = true then lclr i vl r else (k, w) :: lclr i vl r
def lset (i : Nat) (v : aV) (l : aL) : aL := lput i v (lclr i (isL v) l)
def mL (ad : Nat → Nat) (l : aL) : List (Nat × Value) := l.map (fun q => (q.1, mv ad q.2))
theorem lget_mem : ∀ {l : aL} {i : Nat} {v : aV}, lget l i = some v → (i, v) ∈ l
  | (k, w) :: r, i, v, h => by
    unfold lget at h
    split at h
    · rename_i hk
      cases h; subst hk; exact List.mem_cons_self
    · exact List.mem_cons_of_mem _ (lget_mem h)
theorem lput_mem {i : Nat} {v : aV} : ∀ {l : aL} {q : Nat × aV}, q ∈ lput i v l → q = (i, v) ∨ q ∈ l
  | [], q, h => by simp [lput] at h; exact Or.inl h
  | (k, w) :: r, q, h => by
    unfold lput at h
    split at h
    · simpa using h
    · rcases List.mem_cons.mp h with h | h
      · exact Or.inr (by rw [h]; exact List.mem_cons_self)
      · rcases lput_mem h with h | h
        · exact Or.inl h
        · exact Or.inr (List.mem_cons_of_mem _ h)
theorem lclr_mem {i : Nat} {vl : Bool} : ∀ {l : aL} {q : Nat × aV}, q ∈ lclr i vl l → q ∈ l ∧ (q.1 == i || (q.1 + 1 == i && isL q.2) || (vl && q.1 == i + 1)) = false
  | [], q, h => by simp [lclr] at h
  | (k, w) :: r, q, h => by
    unfold lclr at h
    split at h
    · have := lclr_mem h
      exact ⟨List.mem_cons_of_mem _ this.1, this.2⟩
    · rename_i hc
      rcases List.mem_cons.mp h with h | h
      · rw [h]; exact ⟨List.mem_cons_self, by simpa using hc⟩
      · have := lclr_mem h
        exact ⟨List.mem_cons_of_mem _ this.1, this.2⟩
theorem lset_mem {i : Nat} {v : aV} {l : aL} {q : Nat × aV} (h : q ∈ lset i v l) : q = (i, v) ∨ q ∈ l := by
  rcases lput_mem h with h | h
  · exact Or.inl h
  · exact Or.inr (lclr_mem h).1
theorem has_get {ad : Nat → Nat} {jl : Array Slot} {n : Nat} {l : aL} (h : lv_has jl n (mL ad l)) {i : Nat} {v : aV} (hg : lget l i = some v) : jl[i]? = some (.val (mv ad v)) :=
  h.2.2 (i, mv ad v) (List.mem_map.mpr ⟨(i, v), lget_mem hg, rfl⟩)
theorem has_sub {jl : Array Slot} {n : Nat} {l l' : List (Nat × Value)} (h : lv_has jl n l) (hs : ∀ q ∈ l', q ∈ l) : lv_has jl n l' := ⟨h.1, h.2.1, fun q hq => h.2.2 q (hs q hq)⟩
theorem has_set1 {ad : Nat → Nat} {jl : Array Slot} {n i : Nat} {v : aV} {l : aL} (hv : isL v = false) (h : lv_has jl n ((i, mv ad v) :: (mL ad l).filter (fun q => !(q.1 == i) && !(q.1 + 1 == i && q.2.category == 2)))) : lv_has jl n (mL ad (lset i v l)) := by
  refine has_sub h fun q hq => ?_
  obtain ⟨⟨k, w⟩, hm, rfl⟩ := List.mem_map.mp hq
  rcases lput_mem hm with h1 | h1
  · cases h1; exact List.mem_cons_self
  · obtain ⟨h2, h3⟩ := lclr_mem h1
    refine List.mem_cons_of_mem _ (List.mem_filter.mpr ⟨List.mem_map.mpr ⟨(k, w), h2, rfl⟩, ?_⟩)
    rw [hv] at h3
    simp only [Bool.or_eq_false_iff, Bool.false_and, and_true] at h3
    rw [mv_cat]
    cases hw : isL w <;> simp_all
theorem has_set2 {ad : Nat → Nat} {jl : Array Slot} {n i : Nat} {v : aV} {l : aL} (hv : isL v = true) (h : lv_has jl n ((i, mv ad v) :: (mL ad l).filter (fun q => !(q.1 == i) && (!(q.1 == i + 1) && !(q.1 + 1 == i && q.2.category == 2))))) : lv_has jl n (mL ad (lset i v l)) := by
  refine has_sub h fun q hq => ?_
  obtain ⟨⟨k, w⟩, hm, rfl⟩ := List.mem_map.mp hq
  rcases lput_mem hm with h1 | h1
  · cases h1; exact List.mem_cons_self
  · obtain ⟨h2, h3⟩ := lclr_mem h1
    refine List.mem_cons_of_mem _ (List.mem_filter.mpr ⟨List.mem_map.mpr ⟨(k, w), h2, rfl⟩, ?_⟩)
    rw [hv] at h3
    simp only [Bool.or_eq_false_iff, Bool.true_and] at h3
    rw [mv_cat]
    cases hw : isL w <;> simp_all
