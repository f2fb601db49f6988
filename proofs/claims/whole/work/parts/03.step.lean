/-- a literal's place in the layout of all cells, in the order in which the constructors make them -/
def LYf0 : List aC := [.inl (11, [some 1, some 3, some 11, some 14, some 81, some 208, some 211, some 219, some 222, some 242]), .inl (8, [some 2, none]), .inr (0, 40, 0), .inl (0, [some 4, some 5, some 6, some 7, some 8, some 9, some 10, none, none]), .inr (0, 30, 0), .inr (0, 30, 0), .inr (0, 30, 0), .inr (0, 30, 0), .inr (0, 30, 0), .inr (0, 60, 0), .inr (0, 60, 0), .inl (5, [some 12, some 13, none]), .inr (3, 10, 0), .inr (3, 10, 0), .inl (2, [some 15, some 16, some 17, some 18, none]), .inr (0, 12, 0), .inr (0, 60, 0), .inr (0, 60, 0), .inl (10, [some 11, none, some 19, some 80]), .inr (5, 60, 20)]
def LYf2 : List aC := [.inr (0, 60, 0), .inl (7, [some 82, some 83, some 84, some 85, none]), .inr (0, 120, 0), .inr (0, 120, 0), .inr (0, 120, 0), .inl (10, [some 11, none, some 86, some 207]), .inr (5, 120, 87)]
def LYf4 : List aC := [.inr (0, 120, 0), .inl (6, [some 209, some 210]), .inr (0, 40, 0), .inr (0, 40, 0), .inl (9, [some 3, some 81, some 208, some 212, some 213, some 214, some 215, some 216, some 217, some 218]), .inr (0, 40, 0), .inr (0, 40, 0), .inr (0, 40, 0), .inr (0, 40, 0), .inr (0, 40, 0), .inr (0, 40, 0), .inr (0, 40, 0), .inl (3, [some 220, some 221, none]), .inr (0, 20, 0), .inr (0, 20, 0), .inl (1, [some 81, some 223, some 224, some 233, none]), .inr (0, 8, 0), .inr (4, 8, 225)]
def LYf6 : List aC := [.inr (4, 8, 234)]
def LYf8 : List aC := [.inl (4, [some 14, some 81, some 208, some 211, some 219, some 243, some 244, none]), .inr (1, 8000, 0), .inr (0, 40, 0), .inl (12, [some 246, some 247, none, none, none, some 248, some 249, some 250, some 251, some 252, some 253, some 254, none, none, none, some 255, some 256, some 257, some 258, some 259, some 260, some 261, some 262, some 263, some 264, some 265, some 266, some 267, some 268, none, some 269, some 270, none, none, none, none, none, none, some 271, some 272, some 273, some 274, none, some 275]), .inr (1, 40, 0), .inr (1, 40, 0), .inr (0, 30, 0), .inr (0, 30, 0), .inr (0, 30, 0), .inr (0, 30, 0), .inr (0, 60, 0), .inr (0, 60, 0), .inr (2, 900, 0), .inr (0, 120, 0), .inr (0, 120, 0), .inr (0, 120, 0), .inr (3, 120, 0), .inr (1, 7200, 0), .inr (0, 12, 0), .inr (0, 60, 0), .inr (0, 60, 0), .inr (3, 60, 0), .inr (3, 10, 0), .inr (3, 10, 0), .inr (2, 40, 0), .inr (0, 40, 0), .inr (0, 40, 0), .inr (0, 20, 0), .inr (0, 20, 0), .inr (0, 8, 0), .inr (0, 960, 0), .inr (0, 960, 0), .inr (1, 20000, 0), .inr (0, 40, 0)]
def LY (i : Nat) : aC := if i < 20 then LYf0.getD (i - 0) (.inr (0, 0, 0)) else if i < 80 then .inr (3, 81, 0) else if i < 87 then LYf2.getD (i - 80) (.inr (0, 0, 0)) else if i < 207 then .inr (3, 81, 0) else if i < 225 then LYf4.getD (i - 207) (.inr (0, 0, 0)) else if i < 233 then .inr (0, 120, 0) else if i < 234 then LYf6.getD (i - 233) (.inr (0, 0, 0)) else if i < 242 then .inr (0, 120, 0) else if i < 276 then LYf8.getD (i - 242) (.inr (0, 0, 0)) else .inr (0, 0, 0)
def aN : Nat := 276
theorem LY_0 : LY 0 = .inl (11, [some 1, some 3, some 11, some 14, some 81, some 208, some 211, some 219, some 222, some 242]) := rfl
theorem LY_1 : LY 1 = .inl (8, [some 2, none]) := rfl
theorem LY_2 : LY 2 = .inr (0, 40, 0) := rfl
theorem LY_3 : LY 3 = .inl (0, [some 4, some 5, some 6, some 7, some 8, some 9, some 10, none, none]) := rfl
theorem LY_4 : LY 4 = .inr (0, 30, 0) := rfl
theorem LY_5 : LY 5 = .inr (0, 30, 0) := rfl
theorem LY_6 : LY 6 = .inr (0, 30, 0) := rfl
theorem LY_7 : LY 7 = .inr (0, 30, 0) := rfl
theorem LY_8 : LY 8 = .inr (0, 30, 0) := rfl
theorem LY_9 : LY 9 = .inr (0, 60, 0) := rfl
theorem LY_10 : LY 10 = .inr (0, 60, 0) := rfl
theorem LY_11 : LY 11 = .inl (5, [some 12, some 13, none]) := rfl
theorem LY_12 : LY 12 = .inr (3, 10, 0) := rfl
theorem LY_13 : LY 13 = .inr (3, 10, 0) := rfl
theorem LY_14 : LY 14 = .inl (2, [some 15, some 16, some 17, some 18, none]) := rfl
theorem LY_15 : LY 15 = .inr (0, 12, 0) := rfl
theorem LY_16 : LY 16 = .inr (0, 60, 0) := rfl
theorem LY_17 : LY 17 = .inr (0, 60, 0) := rfl
theorem LY_18 : LY 18 = .inl (10, [some 11, none, some 19, some 80]) := rfl
theorem LY_19 : LY 19 = .inr (5, 60, 20) := rfl
theorem LY_80 : LY 80 = .inr (0, 60, 0) := rfl
theorem LY_81 : LY 81 = .inl (7, [some 82, some 83, some 84, some 85, none]) := rfl
theorem LY_82 : LY 82 = .inr (0, 120, 0) := rfl
theorem LY_83 : LY 83 = .inr (0, 120, 0) := rfl
theorem LY_84 : LY 84 = .inr (0, 120, 0) := rfl
theorem LY_85 : LY 85 = .inl (10, [some 11, none, some 86, some 207]) := rfl
theorem LY_86 : LY 86 = .inr (5, 120, 87) := rfl
theorem LY_207 : LY 207 = .inr (0, 120, 0) := rfl
theorem LY_208 : LY 208 = .inl (6, [some 209, some 210]) := rfl
theorem LY_209 : LY 209 = .inr (0, 40, 0) := rfl
theorem LY_210 : LY 210 = .inr (0, 40, 0) := rfl
theorem LY_211 : LY 211 = .inl (9, [some 3, some 81, some 208, some 212, some 213, some 214, some 215, some 216, some 217, some 218]) := rfl
theorem LY_212 : LY 212 = .inr (0, 40, 0) := rfl
theorem LY_213 : LY 213 = .inr (0, 40, 0) := rfl
theorem LY_214 : LY 214 = .inr (0, 40, 0) := rfl
theorem LY_215 : LY 215 = .inr (0, 40, 0) := rfl
theorem LY_216 : LY 216 = .inr (0, 40, 0) := rfl
theorem LY_217 : LY 217 = .inr (0, 40, 0) := rfl
theorem LY_218 : LY 218 = .inr (0, 40, 0) := rfl
theorem LY_219 : LY 219 = .inl (3, [some 220, some 221, none]) := rfl
theorem LY_220 : LY 220 = .inr (0, 20, 0) := rfl
theorem LY_221 : LY 221 = .inr (0, 20, 0) := rfl
theorem LY_222 : LY 222 = .inl (1, [some 81, some 223, some 224, some 233, none]) := rfl
theorem LY_223 : LY 223 = .inr (0, 8, 0) := rfl
theorem LY_224 : LY 224 = .inr (4, 8, 225) := rfl
theorem LY_233 : LY 233 = .inr (4, 8, 234) := rfl
theorem LY_242 : LY 242 = .inl (4, [some 14, some 81, some 208, some 211, some 219, some 243, some 244, none]) := rfl
theorem LY_243 : LY 243 = .inr (1, 8000, 0) := rfl
theorem LY_244 : LY 244 = .inr (0, 40, 0) := rfl
theorem LY_245 : LY 245 = .inl (12, [some 246, some 247, none, none, none, some 248, some 249, some 250, some 251, some 252, some 253, some 254, none, none, none, some 255, some 256, some 257, some 258, some 259, some 260, some 261, some 262, some 263, some 264, some 265, some 266, some 267, some 268, none, some 269, some 270, none, none, none, none, none, none, some 271, some 272, some 273, some 274, none, some 275]) := rfl
theorem LY_246 : LY 246 = .inr (1, 40, 0) := rfl
theorem LY_247 : LY 247 = .inr (1, 40, 0) := rfl
theorem LY_248 : LY 248 = .inr (0, 30, 0) := rfl
theorem LY_249 : LY 249 = .inr (0, 30, 0) := rfl
theorem LY_250 : LY 250 = .inr (0, 30, 0) := rfl
theorem LY_251 : LY 251 = .inr (0, 30, 0) := rfl
theorem LY_252 : LY 252 = .inr (0, 60, 0) := rfl
theorem LY_253 : LY 253 = .inr (0, 60, 0) := rfl
theorem LY_254 : LY 254 = .inr (2, 900, 0) := rfl
theorem LY_255 : LY 255 = .inr (0, 120, 0) := rfl
theorem LY_256 : LY 256 = .inr (0, 120, 0) := rfl
theorem LY_257 : LY 257 = .inr (0, 120, 0) := rfl
theorem LY_258 : LY 258 = .inr (3, 120, 0) := rfl
theorem LY_259 : LY 259 = .inr (1, 7200, 0) := rfl
theorem LY_260 : LY 260 = .inr (0, 12, 0) := rfl
theorem LY_261 : LY 261 = .inr (0, 60, 0) := rfl
theorem LY_262 : LY 262 = .inr (0, 60, 0) := rfl
theorem LY_263 : LY 263 = .inr (3, 60, 0) := rfl
theorem LY_264 : LY 264 = .inr (3, 10, 0) := rfl
theorem LY_265 : LY 265 = .inr (3, 10, 0) := rfl
theorem LY_266 : LY 266 = .inr (2, 40, 0) := rfl
theorem LY_267 : LY 267 = .inr (0, 40, 0) := rfl
theorem LY_268 : LY 268 = .inr (0, 40, 0) := rfl
theorem LY_269 : LY 269 = .inr (0, 20, 0) := rfl
theorem LY_270 : LY 270 = .inr (0, 20, 0) := rfl
theorem LY_271 : LY 271 = .inr (0, 8, 0) := rfl
theorem LY_272 : LY 272 = .inr (0, 960, 0) := rfl
theorem LY_273 : LY 273 = .inr (0, 960, 0) := rfl
theorem LY_274 : LY 274 = .inr (1, 20000, 0) := rfl
theorem LY_275 : LY 275 = .inr (0, 40, 0) := rfl
theorem LYr_20 {j : Nat} (h : j < 60) : LY (20 + j) = .inr (3, 81, 0) := by
  unfold LY
  rw [if_neg (by omega), if_pos (by omega)]
theorem LYr_87 {j : Nat} (h : j < 120) : LY (87 + j) = .inr (3, 81, 0) := by
  unfold LY
  rw [if_neg (by omega), if_neg (by omega), if_neg (by omega), if_pos (by omega)]
theorem LYr_225 {j : Nat} (h : j < 8) : LY (225 + j) = .inr (0, 120, 0) := by
  unfold LY
  rw [if_neg (by omega), if_neg (by omega), if_neg (by omega), if_neg (by omega), if_neg (by omega), if_pos (by omega)]
theorem LYr_234 {j : Nat} (h : j < 8) : LY (234 + j) = .inr (0, 120, 0) := by
  unfold LY
  rw [if_neg (by omega), if_neg (by omega), if_neg (by omega), if_neg (by omega), if_neg (by omega), if_neg (by omega), if_neg (by omega), if_pos (by omega)]
/-! one step -/
abbrev aK : Type := Nat → aL → List aV → aS → Prop
def lyC (r : Nat) : Option Nat := match LY r with
  | .inl (c, _) => some c
  | .inr _ => none
def lyF (r k : Nat) : Option (Option Nat) := match LY r with
  | .inl (_, fs) => fs[k]?
  | .inr _ => none
def lyT (r : Nat) : Nat := match LY r with
  | .inl _ => 9
  | .inr (t, _, _) => t
def lyN (r : Nat) : Nat := match LY r with
  | .inl _ => 0
  | .inr (_, n, _) => n
def lyB (r : Nat) : Nat := match LY r with
  | .inl _ => 0
  | .inr (_, _, b) => b
def wI (x : Int) : Int := (Int32.ofInt x).toInt
def wL (x : Int) : Int := (Int64.ofInt x).toInt
def bAnd (a b : Int) : Int := (Int32.ofInt a &&& Int32.ofInt b).toInt
def bOr (a b : Int) : Int := (Int32.ofInt a ||| Int32.ofInt b).toInt
def bXor (a b : Int) : Int := (Int32.ofInt a ^^^ Int32.ofInt b).toInt
def bShl (a b : Int) : Int := (Int32.ofInt a <<< (Int32.ofInt b &&& 31)).toInt
def bShr (a b : Int) : Int := (Int32.ofInt a >>> (Int32.ofInt b &&& 31)).toInt
def bUshr (a b : Int) : Int := ((Int32.ofInt a).toUInt32 >>> ((Int32.ofInt b).toUInt32 &&& Int32.toUInt32 31)).toInt32.toInt
def lAnd (a b : Int) : Int := (Int64.ofInt a &&& Int64.ofInt b).toInt
def lOr (a b : Int) : Int := (Int64.ofInt a ||| Int64.ofInt b).toInt
def lShl (a b : Int) : Int := (Int64.ofInt a <<< ((Int32.ofInt b).toInt64 &&& 63)).toInt
def lUshr (a b : Int) : Int := ((Int64.ofInt a).toUInt64 >>> ((Int32.ofInt b).toInt64.toUInt64 &&& Int64.toUInt64 63)).toInt64.toInt
def lCmp (a b : Int) : Int := if b < a then 1 else if a = b then 0 else -1
def narB (a : Int) : Int := (vp_nar .byte (Int32.ofInt a)).toInt
def narZ (a : Int) : Int := (vp_nar .boolean (Int32.ofInt a)).toInt
def jt (pc : Nat) (off : Int) : Option Nat := if 0 ≤ (pc : Int) + off then some ((pc : Int) + off).toNat else none
def wJ (k : aK) (pc : Nat) (off : Int) (ls : aL) (r : List aV) (S : aS) : Prop := match jt pc off with
  | some t => k t ls r S
  | none => False
def wLd (ty : Nat) (i : Nat) (k : aK) (pc : Nat) (ls : aL) (stk : List aV) (S : aS) : Prop := match ty, lget ls i with
  | 0, some (.inl a) => k pc ls (.inl a :: stk) S
  | 1, some (.inr (.inl a)) => k pc ls (.inr (.inl a) :: stk) S
  | 2, some (.inr (.inr a)) => k pc ls (.inr (.inr a) :: stk) S
  | _, _ => False
def wSt (nL ty i : Nat) (k : aK) (pc : Nat) (ls : aL) (stk : List aV) (S : aS) : Prop := match ty, stk with
  | 0, .inl a :: r => i < nL ∧ k pc (lset i (.inl a) ls) r S
  | 1, .inr (.inl a) :: r => i + 1 < nL ∧ k pc (lset i (.inr (.inl a)) ls) r S
  | 2, .inr (.inr a) :: r => i < nL ∧ k pc (lset i (.inr (.inr a)) ls) r S
  | _, _ => False
def wI2 (f : Int → Int → Int) (k : aK) (pc : Nat) (ls : aL) (stk : List aV) (S : aS) : Prop := match stk with
  | .inl b :: .inl a :: r => k pc ls (.inl (f a b) :: r) S
  | _ => False
def wD2 (f : Int → Int → Int) (k : aK) (pc : Nat) (ls : aL) (stk : List aV) (S : aS) : Prop := match stk with
  | .inl b :: .inl a :: r => b ≠ 0 ∧ k pc ls (.inl (f a b) :: r) S
  | _ => False
def wL2 (f : Int → Int → Int) (k : aK) (pc : Nat) (ls : aL) (stk : List aV) (S : aS) : Prop := match stk with
  | .inr (.inl b) :: .inr (.inl a) :: r => k pc ls (.inr (.inl (f a b)) :: r) S
  | _ => False
def wLI2 (f : Int → Int → Int) (k : aK) (pc : Nat) (ls : aL) (stk : List aV) (S : aS) : Prop := match stk with
  | .inl b :: .inr (.inl a) :: r => k pc ls (.inr (.inl (f a b)) :: r) S
  | _ => False
def wCmp (k : aK) (pc : Nat) (ls : aL) (stk : List aV) (S : aS) : Prop := match stk with
  | .inr (.inl b) :: .inr (.inl a) :: r => k pc ls (.inl (lCmp a b) :: r) S
  | _ => False
def wI2L (k : aK) (pc : Nat) (ls : aL) (stk : List aV) (S : aS) : Prop := match stk with
  | .inl a :: r => k pc ls (.inr (.inl a) :: r) S
  | _ => False
def wL2I (k : aK) (pc : Nat) (ls : aL) (stk : List aV) (S : aS) : Prop := match stk with
  | .inr (.inl a) :: r => k pc ls (.inl (wI a) :: r) S
  | _ => False
def wI2B (k : aK) (pc : Nat) (ls : aL) (stk : List aV) (S : aS) : Prop := match stk with
  | .inl a :: r => k pc ls (.inl ((Int32.ofInt a).toInt8.toInt32).toInt :: r) S
  | _ => False
def wDup (k : aK) (pc : Nat) (ls : aL) (stk : List aV) (S : aS) : Prop := match stk with
  | .inl a :: r => k pc ls (.inl a :: .inl a :: r) S
  | .inr (.inr a) :: r => k pc ls (.inr (.inr a) :: .inr (.inr a) :: r) S
  | _ => False
def wDup2 (k : aK) (pc : Nat) (ls : aL) (stk : List aV) (S : aS) : Prop := match stk with
  | .inl b :: .inr (.inr a) :: r => k pc ls (.inl b :: .inr (.inr a) :: .inl b :: .inr (.inr a) :: r) S
  | _ => False
def wPop (k : aK) (pc : Nat) (ls : aL) (stk : List aV) (S : aS) : Prop := match stk with
  | .inl _ :: r => k pc ls r S
  | _ => False
def wInc (nL i : Nat) (n : Int) (k : aK) (pc : Nat) (ls : aL) (stk : List aV) (S : aS) : Prop := match lget ls i with
  | some (.inl a) => i < nL ∧ k pc (lset i (.inl (wI (a + n))) ls) stk S
  | _ => False
/-- a condition: 0 eq, 1 ne, 2 lt, 3 ge, 4 gt, 5 le -/
def wIf (c : Nat) (jo : Option Nat) (k : aK) (pc : Nat) (ls : aL) (stk : List aV) (S : aS) : Prop := match c, jo, stk with
  | 0, some t, .inl a :: r => (a = 0 → k t ls r S) ∧ (¬ a = 0 → k (pc + 3) ls r S)
  | 1, some t, .inl a :: r => (¬ a = 0 → k t ls r S) ∧ (a = 0 → k (pc + 3) ls r S)
  | 2, some t, .inl a :: r => (a < 0 → k t ls r S) ∧ (¬ a < 0 → k (pc + 3) ls r S)
  | 3, some t, .inl a :: r => (0 ≤ a → k t ls r S) ∧ (¬ 0 ≤ a → k (pc + 3) ls r S)
  | 4, some t, .inl a :: r => (0 < a → k t ls r S) ∧ (¬ 0 < a → k (pc + 3) ls r S)
  | 5, some t, .inl a :: r => (a ≤ 0 → k t ls r S) ∧ (¬ a ≤ 0 → k (pc + 3) ls r S)
  | _, _, _ => False
def wIc (c : Nat) (jo : Option Nat) (k : aK) (pc : Nat) (ls : aL) (stk : List aV) (S : aS) : Prop := match c, jo, stk with
  | 0, some t, .inl b :: .inl a :: r => (a = b → k t ls r S) ∧ (¬ a = b → k (pc + 3) ls r S)
  | 1, some t, .inl b :: .inl a :: r => (¬ a = b → k t ls r S) ∧ (a = b → k (pc + 3) ls r S)
  | 2, some t, .inl b :: .inl a :: r => (a < b → k t ls r S) ∧ (¬ a < b → k (pc + 3) ls r S)
  | 3, some t, .inl b :: .inl a :: r => (b ≤ a → k t ls r S) ∧ (¬ b ≤ a → k (pc + 3) ls r S)
  | 4, some t, .inl b :: .inl a :: r => (b < a → k t ls r S) ∧ (¬ b < a → k (pc + 3) ls r S)
  | 5, some t, .inl b :: .inl a :: r => (a ≤ b → k t ls r S) ∧ (¬ a ≤ b → k (pc + 3) ls r S)
  | _, _, _ => False
def tsw (k : aK) (pc : Nat) (a : Int) (ls : aL) (r : List aV) (S : aS) : Int → List Int → Prop
  | _, [] => True
  | v, off :: os => (a = v → wJ k pc off ls r S) ∧ tsw k pc a ls r S (v + 1) os
def wTsw (dflt lo hi : Int) (offs : List Int) (k : aK) (pc : Nat) (ls : aL) (stk : List aV) (S : aS) : Prop := match stk with
  | .inl a :: r => (hi - lo < offs.length) ∧ (a < lo ∨ hi < a → wJ k pc dflt ls r S) ∧ tsw k pc a ls r S lo offs
  | _ => False
def lsw (k : aK) (pc : Nat) (a : Int) (ls : aL) (r : List aV) (S : aS) (dflt : Int) : List (Int × Int) → Prop
  | [] => wJ k pc dflt ls r S
  | (v, off) :: os => (a = v → wJ k pc off ls r S) ∧ (¬ a = v → lsw k pc a ls r S dflt os)
def wLsw (dflt : Int) (ps : Array (Int × Int)) (k : aK) (pc : Nat) (ls : aL) (stk : List aV) (S : aS) : Prop := match stk with
  | .inl a :: r => (ps.toList.zip (ps.toList.drop 1)).all (fun (a, next) => a.1 < next.1) = true ∧ lsw k pc a ls r S dflt ps.toList
  | _ => False
def wGet (fo : Option (Nat × Nat)) (k : aK) (pc : Nat) (ls : aL) (stk : List aV) (S : aS) : Prop := match fo, stk with
  | some (ci, f), .inr (.inr a) :: r => a < aN ∧ lyC a = some ci ∧ match lyF a f with
    | some (some b) => k pc ls (.inr (.inr b) :: r) S
    | some none => k pc ls (.inl (S.1 a f) :: r) S
    | none => False
  | _, _ => False
def wPut (fo : Option (Nat × Nat)) (k : aK) (pc : Nat) (ls : aL) (stk : List aV) (S : aS) : Prop := match fo, stk with
  | some (ci, f), .inl v :: .inr (.inr a) :: r => a < aN ∧ lyC a = some ci ∧ match lyF a f with
    | some none => k pc ls r (upI S a f v)
    | _ => False
  | _, _ => False
/-- a load of an int array's element (kind t) -/
def wAld (ts : Nat → Bool) (k : aK) (pc : Nat) (ls : aL) (stk : List aV) (S : aS) : Prop := match stk with
  | .inl j :: .inr (.inr a) :: r => a < aN ∧ ts (lyT a) = true ∧ 0 ≤ j ∧ j < lyN a ∧ k pc ls (.inl (S.1 a j.toNat) :: r) S
  | _ => False
def wAll (k : aK) (pc : Nat) (ls : aL) (stk : List aV) (S : aS) : Prop := match stk with
  | .inl j :: .inr (.inr a) :: r => a < aN ∧ lyT a = 3 ∧ 0 ≤ j ∧ j < lyN a ∧ k pc ls (.inr (.inl (S.2 a j.toNat)) :: r) S
  | _ => False
def wAlr (k : aK) (pc : Nat) (ls : aL) (stk : List aV) (S : aS) : Prop := match stk with
  | .inl j :: .inr (.inr a) :: r => a < aN ∧ (lyT a = 4 ∨ lyT a = 5) ∧ 0 ≤ j ∧ j < lyN a ∧ k pc ls (.inr (.inr (lyB a + j.toNat)) :: r) S
  | _ => False
def wAln (k : aK) (pc : Nat) (ls : aL) (stk : List aV) (S : aS) : Prop := match stk with
  | .inr (.inr a) :: r => a < aN ∧ lyT a < 6 ∧ lyN a < 2000000 ∧ k pc ls (.inl (lyN a : Int) :: r) S
  | _ => False
def wAst (k : aK) (pc : Nat) (ls : aL) (stk : List aV) (S : aS) : Prop := match stk with
  | .inl v :: .inl j :: .inr (.inr a) :: r => a < aN ∧ lyT a = 0 ∧ 0 ≤ j ∧ j < lyN a ∧ k pc ls r (upI S a j.toNat v)
  | _ => False
def wBst (k : aK) (pc : Nat) (ls : aL) (stk : List aV) (S : aS) : Prop := match stk with
  | .inl v :: .inl j :: .inr (.inr a) :: r => a < aN ∧ 0 ≤ j ∧ j < lyN a ∧ ((lyT a = 1 ∧ k pc ls r (upI S a j.toNat (narB v))) ∨ (lyT a = 2 ∧ k pc ls r (upI S a j.toNat (narZ v))))
  | _ => False
def wLst (k : aK) (pc : Nat) (ls : aL) (stk : List aV) (S : aS) : Prop := match stk with
  | .inr (.inl v) :: .inl j :: .inr (.inr a) :: r => a < aN ∧ lyT a = 3 ∧ 0 ≤ j ∧ j < lyN a ∧ k pc ls r (upL S a j.toNat v)
  | _ => False
def pop : Nat → List aV → List aV → Option (List aV × List aV)
  | 0, acc, stk => some (acc, stk)
  | n + 1, acc, v :: stk => pop n (v :: acc) stk
  | _ + 1, _, [] => none
def few : List aV → Bool
  | [] => true
  | [_] => true
  | [_, _] => true
  | [_, _, _] => true
  | [_, _, _, _] => true
  | _ => false
/-- the callee: for a method of an object the class of the receiver, how many arguments it takes (the receiver among them), what it promises -/
def wCall (co : Option (Option Nat × Nat × aSp)) (vt : Bool) (k : aK) (pc : Nat) (ls : aL) (stk : List aV) (S : aS) : Prop := match co with
  | some (cr, n, sp) => match pop n [] stk with
    | some (as, r) => few r = true ∧ (match cr, vt, as with
        | some c, true, .inr (.inr b) :: _ => b < aN ∧ lyC b = some c
        | none, false, _ => True
        | _, _, _ => False) ∧ sp as S (fun v S' => k pc ls (v.toList ++ r) S')
    | none => False
  | none => False
def wRi (rt : Option FieldType) (Q : Option aV → aS → Prop) (stk : List aV) (S : aS) : Prop := match rt, stk with
  | some .int, [.inl a] => Q (some (.inl a)) S
  | some .boolean, [.inl a] => (a = 0 ∨ a = 1) ∧ Q (some (.inl a)) S
  | _, _ => False
def wRl (rt : Option FieldType) (Q : Option aV → aS → Prop) (stk : List aV) (S : aS) : Prop := match rt, stk with
  | some .long, [.inr (.inl a)] => Q (some (.inr (.inl a))) S
  | _, _ => False
def wRv (rt : Option FieldType) (Q : Option aV → aS → Prop) (stk : List aV) (S : aS) : Prop := match rt, stk with
  | none, [] => Q none S
  | _, _ => False
abbrev aTb : Type := (Nat → Option (Nat × Nat)) × (Nat → Option (Nat × Nat)) × (Nat → Option (Option Nat × Nat × aSp)) × (Nat → Option Int)
def cN : Jvm.ClassFile.Cond → Nat
  | .eq => 0
  | .ne => 1
  | .lt => 2
  | .ge => 3
  | .gt => 4
  | .le => 5
def ws1 (tb : aTb) (nL : Nat) (rt : Option FieldType) (Q : Option aV → aS → Prop) (k : aK) (i : Instr) (len : Nat) (pc : Nat) (ls : aL) (stk : List aV) (S : aS) : Prop := match i, len with
  | .aload_n j, 1 => wLd 2 j k (pc + 1) ls stk S
  | .aload j, 2 => wLd 2 j k (pc + 2) ls stk S
  | .iload_n j, 1 => wLd 0 j k (pc + 1) ls stk S
  | .iload j, 2 => wLd 0 j k (pc + 2) ls stk S
  | .lload_n j, 1 => wLd 1 j k (pc + 1) ls stk S
  | .lload j, 2 => wLd 1 j k (pc + 2) ls stk S
  | .istore_n j, 1 => wSt nL 0 j k (pc + 1) ls stk S
  | .istore j, 2 => wSt nL 0 j k (pc + 2) ls stk S
  | .lstore_n j, 1 => wSt nL 1 j k (pc + 1) ls stk S
  | .lstore j, 2 => wSt nL 1 j k (pc + 2) ls stk S
  | .astore_n j, 1 => wSt nL 2 j k (pc + 1) ls stk S
  | .astore j, 2 => wSt nL 2 j k (pc + 2) ls stk S
  | .iconst n, 1 => k (pc + 1) ls (.inl (wI n) :: stk) S
  | .bipush n, 2 => k (pc + 2) ls (.inl ((Int8.ofInt n).toInt32).toInt :: stk) S
  | .sipush n, 3 => k (pc + 3) ls (.inl ((Int16.ofInt n).toInt32).toInt :: stk) S
  | .lconst n, 1 => k (pc + 1) ls (.inr (.inl (Int64.ofNat (n : Nat)).toInt) :: stk) S
  | .ldc2_w n, 3 => match tb.2.2.2 n with
    | some x => k (pc + 3) ls (.inr (.inl x) :: stk) S
    | none => False
  | .iadd, 1 => wI2 (fun a b => wI (a + b)) k (pc + 1) ls stk S
  | .isub, 1 => wI2 (fun a b => wI (a - b)) k (pc + 1) ls stk S
  | .imul, 1 => wI2 (fun a b => wI (a * b)) k (pc + 1) ls stk S
  | .idiv, 1 => wD2 (fun a b => wI (a.tdiv b)) k (pc + 1) ls stk S
  | .irem, 1 => wD2 (fun a b => wI (a.tmod b)) k (pc + 1) ls stk S
  | .iand, 1 => wI2 bAnd k (pc + 1) ls stk S
  | .ior, 1 => wI2 bOr k (pc + 1) ls stk S
  | .ixor, 1 => wI2 bXor k (pc + 1) ls stk S
  | .ishl, 1 => wI2 bShl k (pc + 1) ls stk S
  | .ishr, 1 => wI2 bShr k (pc + 1) ls stk S
  | .iushr, 1 => wI2 bUshr k (pc + 1) ls stk S
  | .lsub, 1 => wL2 (fun a b => wL (a - b)) k (pc + 1) ls stk S
  | .land, 1 => wL2 lAnd k (pc + 1) ls stk S
  | .lor, 1 => wL2 lOr k (pc + 1) ls stk S
  | .lshl, 1 => wLI2 lShl k (pc + 1) ls stk S
  | .lushr, 1 => wLI2 lUshr k (pc + 1) ls stk S
  | .lcmp, 1 => wCmp k (pc + 1) ls stk S
  | .i2l, 1 => wI2L k (pc + 1) ls stk S
  | .l2i, 1 => wL2I k (pc + 1) ls stk S
  | .i2b, 1 => wI2B k (pc + 1) ls stk S
  | .dup, 1 => wDup k (pc + 1) ls stk S
  | .dup2, 1 => wDup2 k (pc + 1) ls stk S
  | .pop, 1 => wPop k (pc + 1) ls stk S
  | .iinc j n, 3 => wInc nL j n k (pc + 3) ls stk S
  | .ifCond c off, 3 => wIf (cN c) (jt pc off) k pc ls stk S
  | .if_icmp c off, 3 => wIc (cN c) (jt pc off) k pc ls stk S
  | .goto off, 3 => wJ k pc off ls stk S
  | .tableswitch d lo hi offs, _ => wTsw d lo hi offs.toList k pc ls stk S
  | .lookupswitch d ps, _ => wLsw d ps k pc ls stk S
  | .getfield j, 3 => wGet (tb.1 j) k (pc + 3) ls stk S
  | .putfield j, 3 => wPut (tb.2.1 j) k (pc + 3) ls stk S
  | .iaload, 1 => wAld (fun t => t == 0) k (pc + 1) ls stk S
  | .baload, 1 => wAld (fun t => t == 1 || t == 2) k (pc + 1) ls stk S
  | .laload, 1 => wAll k (pc + 1) ls stk S
  | .aaload, 1 => wAlr k (pc + 1) ls stk S
  | .arraylength, 1 => wAln k (pc + 1) ls stk S
  | .iastore, 1 => wAst k (pc + 1) ls stk S
  | .bastore, 1 => wBst k (pc + 1) ls stk S
  | .lastore, 1 => wLst k (pc + 1) ls stk S
  | .invokevirtual j, 3 => wCall (tb.2.2.1 j) true k (pc + 3) ls stk S
  | .invokestatic j, 3 => wCall (tb.2.2.1 j) false k (pc + 3) ls stk S
  | .ireturn, 1 => wRi rt Q stk S
  | .lreturn, 1 => wRl rt Q stk S
  | .return_, 1 => wRv rt Q stk S
  | _, _ => False
/-- the way from a place: the steps to the next cuts, at most n of them -/
def wp (cc : ByteArray) (tb : aTb) (nL : Nat) (rt : Option FieldType) (Q : Option aV → aS → Prop) (cut : Nat → Bool) (G : aK) : Nat → aK
  | 0 => G
  | n + 1 => fun pc ls stk S => bif cut pc then G pc ls stk S else match decode cc pc with
    | .ok (i, len) => ws1 tb nL rt Q (wp cc tb nL rt Q cut G n) i len pc ls stk S
    | .error _ => False
