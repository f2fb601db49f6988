/-! PRINT: the two heads are the same letters -/
theorem vn_ix {b c : Nat} {L : List Nat} {p : Nat} (h : okD b c L) (hp : p < L.length) : vn b c L / b ^ p % b = L[p] + c := by
  rw [vn_drop h, List.drop_eq_getElem_cons hp]
  have := h L[p] (List.getElem_mem hp)
  show (L[p] + c + b * vn b c (L.drop (p + 1))) % b = _
  rw [Nat.add_mul_mod_self_left, Nat.mod_eq_of_lt this.2]
theorem wI_256 {x : Int} : wI x % 256 = x % 256 := by
  have e : wI x = x.bmod 4294967296 := Int32.toInt_ofInt
  rw [e, Int.bmod_def]
  split <;> omega
theorem lt5_w {A : List Nat} (h : okW A) : lt5 12 (v5 A) = A.length := by
  rw [v5_n]; exact lt5_v h.1 (by have := h.2; omega)
theorem sz8_w {A : List Nat} (h : okW A) : sz8 8 (v8 A) = A.length := by
  rw [v8_n]; exact sz8_v h.1 h.2.2
theorem wl_e {A : List Nat} (h : okW A) : ∀ {m i : Nat}, i + m = A.length → wl (v5 A) m i = wl8 (v8 A) m i
  | 0, _, _ => rfl
  | m + 1, i, hi => by
    have b5 := vn5_b (n := 8) h.1 h.2.2
    have b8 := vn8_b h.1 h.2.2
    have hl := h.2
    have e31 : (31 : Int) = wL (lShl 1 ((5 : Nat) : Int) - 1) := by rw [mask_n (by decide)]; rfl
    show (96 + lAnd (lUshr (v5 A) (5 * (lt5 12 (v5 A) - 1 - (i : Int)))) 31) :: wl (v5 A) m (i + 1) = bAnd (wI (lUshr (v8 A) (8 * (sz8 8 (v8 A) - 1 - (i : Int))))) 255 :: wl8 (v8 A) m (i + 1)
    rw [wl_e h (by omega), lt5_w h, sz8_w h]
    congr 1
    rw [show (5 : Int) * ((A.length : Int) - 1 - (i : Int)) = ((5 * (A.length - 1 - i) : Nat) : Int) from by omega, show (8 : Int) * ((A.length : Int) - 1 - (i : Int)) = ((8 * (A.length - 1 - i) : Nat) : Int) from by omega, v5_n, v8_n, ush_n (by omega) (by omega), ush_n b8 (by omega), pw5, pw8, bAnd_255, wI_256, e31, and_n (Nat.lt_of_le_of_lt (Nat.div_le_self _ _) (by omega)) (by decide)]
    have i5 := vn_ix (okA_5 h.1) (p := A.length - 1 - i) (by omega)
    have i8 := vn_ix (okA_8 h.1) (p := A.length - 1 - i) (by omega)
    rw [show (2 : Nat) ^ 5 = 32 from rfl, i5]
    omega
theorem wd_e {A : List Nat} (h : okW A) : wdL (v5 A) = wd8L (v8 A) := by
  unfold wdL wd8L
  rw [lt5_w h, sz8_w h]
  exact wl_e h (by omega)
theorem wd_w {a b : Int} (h : wE 8 a b) : wdL a = wd8L b := by
  obtain ⟨A, hA, rfl, rfl⟩ := h
  exact wd_e (okW_8 hA)
theorem w8_w {a b : Int} (h : wE 8 a b) : wrd a ∧ wrd8 b := by
  obtain ⟨A, hA, rfl, rfl⟩ := h
  refine ⟨v5_wrd hA.2 (by have := hA.1; omega), ?_⟩
  have := vn8_b hA.2 hA.1.2
  unfold wrd8
  rw [v8_n]
  omega
/-- the heads of an entry -/
theorem hd_I {S : aS} (h : Inv S) {e : Int} (he : 0 ≤ e ∧ e < S.1 14 4) : 0 < S.1 80 (e * 5).toNat ∧ wE 8 (S.2 (20 + (e * 5).toNat) 0) (S.2 263 (5 * e).toNat) := by
  have en := h.2.2.2.2.2.2.2.2.1
  have wf := h.2.2.2.2.2.2.2.2.2.2.2.1
  have h1 := en.1
  have h2 := (en.2.2.1 e.toNat (by omega)).2.1 (by omega)
  have hx : exK S (5 * e.toNat) := by
    unfold exK
    rw [show 5 * e.toNat / 5 = e.toNat from by omega, show 5 * e.toNat % 5 = 0 from by omega]
    omega
  obtain ⟨a, b⟩ := (wf (5 * e.toNat) (by omega)).1 hx
  rw [show (e * 5).toNat = 5 * e.toNat from by omega, show (5 * e).toNat = 5 * e.toNat from by omega]
  exact ⟨by have := b.1; omega, a⟩
/-! what is printed, as lists -/
def Em (S T : aS) (L : List Int) : Prop := ((∀ i, ¬ i = 242 → ¬ i = 243 → ¬ i = 244 → T.1 i = S.1 i) ∧ T.2 = S.2 ∧ (∀ k, ¬ k = 7 → T.1 242 k = S.1 242 k)) ∧ (0 ≤ S.1 242 7 → S.1 242 7 + L.length ≤ 8000 → T.1 242 7 = S.1 242 7 + L.length ∧ (∀ j : Nat, (j : Int) < S.1 242 7 → T.1 243 j = S.1 243 j) ∧ ∀ j : Nat, j < L.length → T.1 243 ((S.1 242 7).toNat + j) = narB (narB (L.getD j 0)))
theorem Em_nil {S : aS} : Em S S [] := ⟨⟨fun _ _ _ _ => rfl, rfl, fun _ _ => rfl⟩, fun _ _ => ⟨by simp, fun _ _ => rfl, fun j hj => absurd hj (by simp)⟩⟩
theorem Em_app {S T V : aS} {L M : List Int} (h : Em S T L) (h2 : Em T V M) : Em S V (L ++ M) := by
  obtain ⟨⟨a1, a2, a3⟩, a4⟩ := h
  obtain ⟨⟨b1, b2, b3⟩, b4⟩ := h2
  refine ⟨⟨fun i x y z => (b1 i x y z).trans (a1 i x y z), b2.trans a2, fun k hk => (b3 k hk).trans (a3 k hk)⟩, fun h0 hl => ?_⟩
  rw [List.length_append] at hl ⊢
  obtain ⟨c1, c2, c3⟩ := a4 h0 (by omega)
  obtain ⟨d1, d2, d3⟩ := b4 (by omega) (by omega)
  refine ⟨by omega, fun j hj => (d2 j (by omega)).trans (c2 j hj), fun j hj => ?_⟩
  by_cases q : j < L.length
  · rw [d2 _ (by omega), c3 j q]
    rw [List.getD_eq_getElem?_getD, List.getD_eq_getElem?_getD, List.getElem?_append_left q]
  · have := d3 (j - L.length) (by omega)
    rw [c1, show (S.1 242 7 + (L.length : Int)).toNat + (j - L.length) = (S.1 242 7).toNat + j from by omega] at this
    rw [this, List.getD_eq_getElem?_getD, List.getD_eq_getElem?_getD, List.getElem?_append_right (by omega)]
theorem Em_1 {S : aS} {b : Int} : Em S (pB S b) [b] := by
  refine ⟨⟨fun i x y _ => pB_f x y, pB_2, fun k hk => ?_⟩, fun h0 hl => ?_⟩
  · unfold pB
    split
    · rw [up_cell hk, up_obj (by decide)]
    · rfl
  · simp only [List.length_cons, List.length_nil] at hl
    unfold pB
    rw [if_pos (by omega)]
    refine ⟨by rw [up_hit]; simp, fun j hj => ?_, fun j hj => ?_⟩
    · rw [up_obj (by decide), up_cell (by omega)]
    · have : j = 0 := by simpa using hj
      subst this
      rw [up_obj (by decide), Nat.add_zero, up_hit]
      rfl
theorem Em_em : ∀ {L : List Int} {S : aS}, Em S (emS S L) L
  | [], _ => Em_nil
  | b :: r, S => Em_app (Em_1 (S := S) (b := b)) (Em_em (L := r) (S := pB S b))
theorem Em_244 {S : aS} {g : Nat → Int} : Em S (stA S 244 g) [] := ⟨⟨fun _ _ _ z => stA_f z, rfl, fun _ _ => rfl⟩, fun _ _ => ⟨by simp only [stA]; simp, fun _ _ => rfl, fun j hj => absurd hj (by simp)⟩⟩
def pV (S V : aS) : Prop := ((∀ i, ¬ (212 ≤ i ∧ i ≤ 218) → ¬ i = 242 → ¬ i = 243 → ¬ i = 244 → V.1 i = S.1 i) ∧ V.2 = S.2) ∧ ∀ t : Nat, uS S t → V.1 214 t = wcM S t 0 ∧ V.1 216 t = wmF S t 0 ∧ V.1 217 t = wmL S t 0 ∧ V.1 218 t = paM S t
theorem pV_E {S V T : aS} {L : List Int} (h : pV S V) (e : Em V T L) : pV S T := by
  obtain ⟨⟨a1, a2, _⟩, _⟩ := e
  refine ⟨⟨fun i x y z w => (a1 i y z w).trans (h.1.1 i x y z w), a2.trans h.1.2⟩, fun t ht => ?_⟩
  rw [a1 214 (by decide) (by decide) (by decide), a1 216 (by decide) (by decide) (by decide), a1 217 (by decide) (by decide) (by decide), a1 218 (by decide) (by decide) (by decide)]
  exact h.2 t ht
theorem us_n {S : aS} {t : Int} (h : uS S t) : ((t.toNat : Nat) : Int) = t ∧ uS S ((t.toNat : Nat) : Int) := by
  have e : ((t.toNat : Nat) : Int) = t := by have := h.1; omega
  exact ⟨e, by rw [e]; exact h⟩
theorem wy_up {S : aS} {L : Nat → Int} (se : iSe S) (hL : ∀ t : Nat, uS S t → L t = paM S t) : ∀ {n : Nat} {u : Int} {d : Nat} {g g' : Nat → Int}, (u = -1 ∨ uS S u) → (∀ j, j < d → g j = paM S (g' j)) → (wyA (S.1 209) (S.1 210) L n u d g).2 = (upA (S.1 268) n u d g').2 ∧ ∀ j, j < (upA (S.1 268) n u d g').2 → (wyA (S.1 209) (S.1 210) L n u d g).1 j = paM S ((upA (S.1 268) n u d g').1 j)
  | 0, _, _, _, _, _, h => ⟨rfl, h⟩
  | n + 1, u, d, g, g', hu, h => by
    rcases hu with hu | hu
    · subst hu
      rw [wyA_f (fun z => absurd z.1 (by decide)), upA_no]
      exact ⟨rfl, h⟩
    · obtain ⟨_, p2, _, p4⟩ := us_e se hu
      rw [wyA_t hu, upA_yes (by have := hu.1; omega), p2]
      refine wy_up se hL (p4.imp id fun z => z.1) (fun j hj => ?_)
      simp only [fu]
      by_cases e : j = d
      · rw [if_pos e, if_pos e, hL u.toNat (us_n hu).2, (us_n hu).1]
      · rw [if_neg e, if_neg e]; exact h j (by omega)
theorem pbW_e {S : aS} {g g' : Nat → Int} : ∀ {k : Nat}, (∀ j, j < k → g j = paM S (g' j)) → pbW g k = pbM S g' k
  | 0, _ => rfl
  | k + 1, h => by
    unfold pbW pbM
    rw [h k (by omega), pbW_e (fun j hj => h j (by omega))]
theorem mk_E {S V : aS} (se : iSe S) (hV : pV S V) {t : Int} (ht : uS S t) : Em V (mkS V t) (mkM S t) := by
  have e9 : V.1 209 = S.1 209 := hV.1.1 209 (by decide) (by decide) (by decide) (by decide)
  have e10 : V.1 210 = S.1 210 := hV.1.1 210 (by decide) (by decide) (by decide) (by decide)
  have w := wy_up se (L := V.1 218) (fun t ht => (hV.2 t ht).2.2.2) (n := 40) (u := t) (d := 0) (g := V.1 244) (g' := fun _ => 0) (Or.inr ht) (fun j hj => absurd hj (by omega))
  unfold mkS
  rw [e9, e10]
  have pe : pbW (wyA (S.1 209) (S.1 210) (V.1 218) 40 t 0 (V.1 244)).1 (wyA (S.1 209) (S.1 210) (V.1 218) 40 t 0 (V.1 244)).2 = mkM S t := by
    rw [w.1]
    exact pbW_e w.2
  rw [pe]
  exact Em_app Em_244 Em_em
theorem pt_E {S V : aS} (h : Inv S) (hV : pV S V) {t : Int} (ht : uS S t) : Em V (ptS V t) (62 :: (wd8L (S.2 263 (5 * S.1 267 t.toNat).toNat) ++ (32 :: mkM S t))) := by
  have se := h.2.2.2.2.1
  have e9 : V.1 209 = S.1 209 := hV.1.1 209 (by decide) (by decide) (by decide) (by decide)
  obtain ⟨p1, _, p3, _⟩ := us_e se ht
  have hw := wd_w (hd_I h p3).2
  unfold ptS hdW
  rw [e9, hV.1.2, hw, p1]
  have e1 : Em V (emS V (62 :: (wd8L (S.2 263 (5 * S.1 209 t.toNat).toNat) ++ [32]))) (62 :: (wd8L (S.2 263 (5 * S.1 209 t.toNat).toNat) ++ [32])) := Em_em
  have e2 := Em_app e1 (mk_E se (pV_E hV e1) ht)
  simpa using e2
theorem ptL_E {S : aS} (h : Inv S) {t : Int} : ∀ {n p : Nat} {V : aS}, pV S V → p + n = (S.1 219 2).toNat → Em V (ptL t n p V) (ptM S t n p)
  | 0, _, _, _, _ => Em_nil
  | n + 1, p, V, hV, hp => by
    have se := h.2.2.2.2.1
    have po := h.2.2.2.2.2.1
    have e9 : V.1 209 = S.1 209 := hV.1.1 209 (by decide) (by decide) (by decide) (by decide)
    have e20 : V.1 220 = S.1 220 := hV.1.1 220 (by decide) (by decide) (by decide) (by decide)
    have e21 : V.1 221 = S.1 221 := hV.1.1 221 (by decide) (by decide) (by decide) (by decide)
    obtain ⟨q1, q2, q3, q4⟩ := po.2.2 p (by have := po.1; omega)
    show Em V (ptL t (n + 1) p V) (ptE S t p ++ ptM S t n (p + 1))
    by_cases hc : V.1 220 p = t ∧ hasT (V.1 209) (V.1 221 p)
    · rw [ptL_t hc]
      obtain ⟨c1, c2⟩ := hc
      rw [e20] at c1
      rw [e9, e21] at c2
      have ee : ptE S t p = 62 :: (wd8L (S.2 263 (5 * S.1 267 (S.1 270 p).toNat).toNat) ++ (32 :: mkM S (S.1 270 p))) := if_pos ⟨by rw [q1]; exact c1, by rw [q2]; have := c2.1; omega⟩
      rw [ee, e21, q2]
      have e1 := pt_E h hV (t := S.1 221 p) c2
      exact Em_app e1 (ptL_E h (pV_E hV e1) (by omega))
    · rw [ptL_f hc]
      have ee : ptE S t p = [] := if_neg (fun z => hc ⟨by rw [e20, ← q1]; exact z.1, by
        rw [e9, e21]
        exact q4.resolve_left (by rw [← q2]; exact z.2)⟩)
      rw [ee]
      exact ptL_E h hV (by omega)
theorem sn_E {S V : aS} (h : Inv S) (hV : pV S V) {t : Int} (ht : uS S t) : Em V (snS V t) (prL S t) := by
  have se := h.2.2.2.2.1
  have po := h.2.2.2.2.2.1
  obtain ⟨n1, n2⟩ := us_n ht
  obtain ⟨w1, w2, w3, _⟩ := hV.2 t.toNat n2
  have e19 : V.1 219 = S.1 219 := hV.1.1 219 (by decide) (by decide) (by decide) (by decide)
  unfold snS
  rw [w1, w2, w3, n1, e19]
  have a1 : Em V (emS V [32]) [32] := Em_em
  have v1 := pV_E hV a1
  have a2 := mk_E se v1 ht
  have v2 := pV_E v1 a2
  have a3 : Em (mkS (emS V [32]) t) (emS (mkS (emS V [32]) t) (wiL (wcM S t 0) (wmF S t 0) (wmL S t 0))) (wiL (wcM S t 0) (wmF S t 0) (wmL S t 0)) := Em_em
  have v3 := pV_E v2 a3
  have a4 := ptL_E h (t := t) v3 (n := (S.1 219 2).toNat) (p := 0) (Nat.zero_add _)
  have a5 := Em_app a1 (Em_app a2 (Em_app a3 a4))
  have e : prL S t = [32] ++ (mkM S t ++ (wiL (wcM S t 0) (wmF S t 0) (wmL S t 0) ++ ptM S t (S.1 219 2).toNat 0)) := by
    unfold prL wtL
    rw [po.2.1]
    rfl
  rw [e]
  exact a5
theorem sAt_e {S V : aS} (h : Inv S) (hV : pV S V) {e u p : Int} : sAt (S.1 209) (S.1 210) (V.1 218) e u p = atM S e u p := by
  have se := h.2.2.2.2.1
  refine ff_c (fun m _ hm => cb_c ?_)
  constructor
  · rintro ⟨z1, z2, z3, z4⟩
    obtain ⟨p1, p2, _, _⟩ := us_e se (t := (m : Int)) z1
    rw [Int.toNat_natCast] at p1 p2
    have zz := (us_eq se).mpr z1
    rw [Int.toNat_natCast] at zz
    exact ⟨⟨zz.2.2, by rw [p1]; exact z2, by rw [p2]; exact z3⟩, by rw [← (hV.2 m z1).2.2.2]; exact z4⟩
  · rintro ⟨⟨z1, z2, z3⟩, z4⟩
    have z0 : uS S (m : Int) := (us_eq se).mp ⟨by omega, by omega, by rw [Int.toNat_natCast]; exact z1⟩
    obtain ⟨p1, p2, _, _⟩ := us_e se z0
    rw [Int.toNat_natCast] at p1 p2
    exact ⟨z0, by rw [← p1]; exact z2, by rw [← p2]; exact z3, by rw [(hV.2 m z0).2.2.2]; exact z4⟩
theorem sb_e {S V : aS} (h : Inv S) (hV : pV S V) {e : Int} : ∀ {n : Nat} {nx up : Int}, (up = -1 ∨ uS S up) → sbL (S.1 209) (S.1 210) (V.1 218) e n nx up = nbM S e n nx up
  | 0, _, _, _ => rfl
  | n + 1, nx, up, hu => by
    have se := h.2.2.2.2.1
    rcases hu with hu | hu
    · subst hu
      rw [sbL_f (fun z => absurd z.2.1 (by decide)), nbM_no (fun z => z.2 rfl)]
    · by_cases q : nx = -1
      · obtain ⟨_, p2, _, p4⟩ := us_e se hu
        obtain ⟨n1, n2⟩ := us_n hu
        rw [sbL_t ⟨q, hu⟩, nbM_yes ⟨q, by have := hu.1; omega⟩, p2, sAt_e h hV, (hV.2 up.toNat n2).2.2.2, n1]
        exact sb_e h hV (p4.imp id fun z => z.1)
      · rw [sbL_f (fun z => q z.1), nbM_no (fun z => q z.1)]
theorem nbM_w {S : aS} {e : Int} : ∀ {n : Nat} {nx x : Int}, (nx = -1 ∨ (vsM S nx ∧ S.1 267 nx.toNat = e)) → (nbM S e n nx x = -1 ∨ (vsM S (nbM S e n nx x) ∧ S.1 267 (nbM S e n nx x).toNat = e))
  | 0, _, _, h => h
  | n + 1, nx, x, h => by
    by_cases q : nx = -1 ∧ ¬ x = -1
    · rw [nbM_yes q]
      exact nbM_w (atM_v.imp id fun z => ⟨z.1, z.2.1⟩)
    · rw [nbM_no q]; exact h
theorem cp_E {S : aS} (h : Inv S) {e : Int} : ∀ {n : Nat} {t : Int} {V : aS}, pV S V → (t = -1 ∨ (uS S t ∧ S.1 209 t.toNat = e)) → Em V (cpL n t V) (clL S e n t)
  | 0, _, _, _, _ => Em_nil
  | n + 1, t, V, hV, ht => by
    have se := h.2.2.2.2.1
    have e9 : V.1 209 = S.1 209 := hV.1.1 209 (by decide) (by decide) (by decide) (by decide)
    rcases ht with ht | ⟨ht, he⟩
    · subst ht
      rw [cpL_f (fun z => absurd z.1 (by decide)), clL_no]
      exact Em_nil
    · have a1 := sn_E h hV ht
      have v1 := pV_E hV a1
      have f9 : (snS V t).1 209 = S.1 209 := v1.1.1 209 (by decide) (by decide) (by decide) (by decide)
      have f10 : (snS V t).1 210 = S.1 210 := v1.1.1 210 (by decide) (by decide) (by decide) (by decide)
      have en : nxS (snS V t) t = nxM S e t := by
        unfold nxS
        rw [f9, f10, he, sAt_e h v1, sb_e h v1 (Or.inr ht)]
        rfl
      rw [cpL_t (by rw [e9]; exact ht), clL_yes (by have := ht.1; omega), en]
      refine Em_app a1 (cp_E h v1 ?_)
      rcases nbM_w (S := S) (e := e) (n := 40) (nx := atM S e t 1) (x := t) (atM_v.imp id fun z => ⟨z.1, z.2.1⟩) with z | ⟨z1, z2⟩
      · exact Or.inl z
      · have z3 := (us_eq se).mp z1
        exact Or.inr ⟨z3, (us_e se z3).1.symm.trans z2⟩
theorem cpS_E {S V : aS} (h : Inv S) (hV : pV S V) {e : Int} (he : 0 ≤ e ∧ e < S.1 14 4) : Em V (cpS V e) (pnL S e) := by
  have se := h.2.2.2.2.1
  have e9 : V.1 209 = S.1 209 := hV.1.1 209 (by decide) (by decide) (by decide) (by decide)
  have e10 : V.1 210 = S.1 210 := hV.1.1 210 (by decide) (by decide) (by decide) (by decide)
  unfold cpS hdW
  rw [hV.1.2, e9, e10, wd_w (hd_I h he).2, sAt_e h hV]
  have a1 : Em V (emS V (wd8L (S.2 263 (5 * e).toNat) ++ [58])) (wd8L (S.2 263 (5 * e).toNat) ++ [58]) := Em_em
  have v1 := pV_E hV a1
  have a2 := cp_E h v1 (n := 40) (t := atM S e (-1) 1) (e := e) (by
    rcases atM_v (S := S) (e := e) (u := -1) (p := 1) with z | ⟨z1, z2, _⟩
    · exact Or.inl z
    · have z3 := (us_eq se).mp z1
      exact Or.inr ⟨z3, by rw [← (us_e se z3).1]; exact z2⟩)
  have v2 := pV_E v1 a2
  unfold hpS
  generalize hX : cpL 40 (atM S e (-1) 1) (emS V (wd8L (S.2 263 (5 * e).toNat) ++ [58])) = X at *
  have f83 : X.1 83 = S.1 83 := v2.1.1 83 (by decide) (by decide) (by decide) (by decide)
  have f84 : X.1 84 = S.1 84 := v2.1.1 84 (by decide) (by decide) (by decide) (by decide)
  have f81 : X.1 81 = S.1 81 := v2.1.1 81 (by decide) (by decide) (by decide) (by decide)
  have eh : cnt (fun j => X.1 83 j == e && X.1 84 j == -1) (X.1 81 4).toNat = hpM S e := by
    unfold hpM
    have sl := h.2.2.2.1
    rw [f83, f84, f81, sl.2.1]
    refine cnt_c (fun j hj => ?_)
    have := (sl.2.2 j (by omega)).1
    rw [this.2.1, this.2.2]
  rw [eh]
  have a3 : Em X (emS X (hpL (hpM S e))) (hpL (hpM S e)) := Em_em
  have a4 := Em_app (Em_app a1 a2) a3
  have ee : pnL S e = (wd8L (S.2 263 (5 * e).toNat) ++ [58]) ++ clL S e 40 (atM S e (-1) 1) ++ hpL (hpM S e) := by
    unfold pnL
    simp
  rw [ee]
  exact a4

