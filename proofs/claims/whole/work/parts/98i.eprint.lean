/-! EQUAL ANSWERS: print -/
def cPr (a b : Nat) : Bool := (decide (212 ≤ a) && decide (a ≤ 218)) || ((decide (242 ≤ a) && decide (a ≤ 244)) || (decide (a = 245) && decide (b = 42)))
section PAT
variable {S : aS} {w : Nat → Nat → Int}
theorem wok_p : wok (patG S cPr w) = wok S := rfl
theorem paM_p : paM (patG S cPr w) = paM S := rfl
theorem wcM_p : wcM (patG S cPr w) = wcM S := rfl
theorem wmF_p : wmF (patG S cPr w) = wmF S := rfl
theorem wmL_p : wmL (patG S cPr w) = wmL S := rfl
theorem atM_p : atM (patG S cPr w) = atM S := rfl
theorem hpM_p : hpM (patG S cPr w) = hpM S := rfl
theorem p268 : (patG S cPr w).1 268 = S.1 268 := rfl
theorem pbM_p {g : Nat → Int} : ∀ {k : Nat}, pbM (patG S cPr w) g k = pbM S g k
  | 0 => rfl
  | k + 1 => by unfold pbM; rw [paM_p, pbM_p]
theorem mkM_p : mkM (patG S cPr w) = mkM S := by
  funext a
  unfold mkM
  rw [pbM_p, p268]
theorem ptE_p {a : Int} {p : Nat} : ptE (patG S cPr w) a p = ptE S a p := by
  unfold ptE
  rw [mkM_p]
  rfl
theorem ptM_p {a : Int} : ∀ {n p : Nat}, ptM (patG S cPr w) a n p = ptM S a n p
  | 0, _ => rfl
  | n + 1, p => by unfold ptM; rw [ptE_p, ptM_p]
theorem prL_p : prL (patG S cPr w) = prL S := by
  funext a
  unfold prL
  rw [mkM_p, ptM_p]
  rfl
theorem nbM_p {e : Int} : ∀ {n : Nat} {nx x : Int}, nbM (patG S cPr w) e n nx x = nbM S e n nx x
  | 0, _, _ => rfl
  | n + 1, nx, x => by
    by_cases q : nx = -1 ∧ ¬ x = -1
    · rw [nbM_yes q, nbM_yes q, nbM_p, atM_p, paM_p, p268]
    · rw [nbM_no q, nbM_no q]
theorem nxM_p {e a : Int} : nxM (patG S cPr w) e a = nxM S e a := by
  unfold nxM
  rw [nbM_p, atM_p]
theorem clL_p {e : Int} : ∀ {n : Nat} {a : Int}, clL (patG S cPr w) e n a = clL S e n a
  | 0, _ => rfl
  | n + 1, a => by
    by_cases q : a = -1
    · rw [q, clL_no, clL_no]
    · rw [clL_yes q, clL_yes q, clL_p, prL_p, nxM_p]
theorem enT_p {e : Int} : ∀ {n : Nat} {a : Int}, enT S e n a → enT (patG S cPr w) e n a
  | 0, _, h => h
  | n + 1, a, h => h.imp id fun z => by
    rw [nxM_p]
    exact enT_p z
theorem pnL_p {e : Int} : pnL (patG S cPr w) e = pnL S e := by
  unfold pnL
  rw [clL_p, atM_p, hpM_p]
  rfl
end PAT
def cPu (a b : Nat) : Bool := (decide (212 ≤ a) && decide (a ≤ 218)) || ((decide (242 ≤ a) && decide (a ≤ 244)) || ((decide (a = 274) || decide (a = 275)) || (decide (a = 245) && (decide (b = 42) || (decide (32 ≤ b) && decide (b ≤ 36))))))
theorem wm_b {S : aS} (h : Inv S) {t : Int} : (0 ≤ wmF S t 0 ∧ wmF S t 0 ≤ 2001) ∧ (0 ≤ wmL S t 0 ∧ wmL S t 0 ≤ 2001) := by
  have w := wok_I h
  refine ⟨⟨?_, mn_le⟩, ⟨?_, mn_le⟩⟩
  · rcases mn_at (f := fF S) (p := witP S t 0) (n := (S.1 245 12).toNat) with z | ⟨j, j1, _, j3⟩
    · show 0 ≤ mn (fF S) (witP S t 0) (S.1 245 12).toNat; omega
    · have := w.2 j (by omega)
      show 0 ≤ mn (fF S) (witP S t 0) (S.1 245 12).toNat; omega
  · rcases mn_at (f := fL S) (p := witP S t 0) (n := (S.1 245 12).toNat) with z | ⟨j, j1, _, j3⟩
    · show 0 ≤ mn (fL S) (witP S t 0) (S.1 245 12).toNat; omega
    · have := w.2 j (by omega)
      show 0 ≤ mn (fL S) (witP S t 0) (S.1 245 12).toNat; omega
theorem pV_Z {S : aS} (h : Inv S) : pV S (upI (gaT S) 242 7 0) := by
  have g := ga_T h
  refine ⟨⟨fun i h1 h2 h3 h4 => by rw [up_f h2, g.1.1 i h1], g.1.2⟩, fun t ht => ?_⟩
  obtain ⟨_, g2, _, _, g5, g6, g7⟩ := g.2 t ht
  rw [up_f (by decide), up_f (by decide), up_f (by decide), up_f (by decide)]
  exact ⟨g2, g5, g6, g7⟩
theorem cpP_Z {S V : aS} (h : Inv S) (hV : pV S V) : cpP V := by
  obtain ⟨tp, bk, bh, sl, se, po, ed, pr, en, ru, ws, wf, kn⟩ := id h
  have f : ∀ i, ¬ (212 ≤ i ∧ i ≤ 218) → ¬ i = 242 → ¬ i = 243 → ¬ i = 244 → V.1 i = S.1 i := hV.1.1
  have e14 : V.1 14 = S.1 14 := f 14 (by decide) (by decide) (by decide) (by decide)
  have e80 : V.1 80 = S.1 80 := f 80 (by decide) (by decide) (by decide) (by decide)
  have e9 : V.1 209 = S.1 209 := f 209 (by decide) (by decide) (by decide) (by decide)
  have e19 : V.1 219 = S.1 219 := f 219 (by decide) (by decide) (by decide) (by decide)
  have e81 : V.1 81 = S.1 81 := f 81 (by decide) (by decide) (by decide) (by decide)
  have us : ∀ t : Nat, t < 40 → ¬ S.1 209 t = -1 → uS S t := fun t ht hn => ⟨by omega, by omega, by rw [Int.toNat_natCast]; exact hn⟩
  refine ⟨⟨by rw [e14]; exact en.1.2, fun e h1 h2 => ?_, fun t ht hn => ?_, fun t ht hn => ?_, fun t ht hn => ?_⟩, by rw [e19]; exact po.1, by rw [e81]; exact sl.1⟩
  · rw [e14] at h2
    have hd := hd_I h ⟨h1, h2⟩
    unfold hdW
    rw [e80, hV.1.2]
    exact ⟨hd.1, (w8_w hd.2).1⟩
  · rw [e9] at hn ⊢
    rw [e14]
    exact ((se.1 t ht).2 hn).1
  · rw [e9] at hn
    rw [(hV.2 t (us t ht hn)).2.2.2]
    have := paM_b (S := S) (a := (t : Int))
    omega
  · rw [e9] at hn
    obtain ⟨c1, c2, c3, _⟩ := hV.2 t (us t ht hn)
    rw [c1, c2, c3]
    have := wc_le h (t := (t : Int)) (al := 0)
    have := wm_b h (t := (t : Int))
    omega
set_option maxHeartbeats 4000000 in
theorem eq_print {S : aS} {e : Int} (h : Inv S) : spX11_print [.inr (.inr 0), .inl e] S (fun r T => spX12_print [.inr (.inr 245), .inl e] T (Eqv r)) := by
  obtain ⟨tp, bk, bh, sl, se, po, ed, pr, en, ru, ws, wf, kn⟩ := id h
  refine ⟨fun q => ⟨fun _ => ⟨rfl, h⟩, fun z => absurd (by rw [en.2.1] at z; exact z) q⟩, fun q => ?_⟩
  have hV := pV_Z h
  have hE := cpS_E h hV q
  have z14 : (upI (gaT S) 242 7 0).1 14 = S.1 14 := hV.1.1 14 (by decide) (by decide) (by decide) (by decide)
  have z242 : (upI (gaT S) 242 7 0).1 242 7 = 0 := up_hit
  have hc := cpP_Z h hV
  have hL := pnL_len h (e := e)
  refine ⟨gaP_I h, hc, q.1, by rw [z14]; exact q.2, ?_⟩
  have hT := pV_E hV hE
  obtain ⟨k1, k2, k3⟩ := hE.2 (by rw [z242]; exact Int.le_refl _) (by rw [z242]; omega)
  rw [z242] at k1 k3
  generalize cpS (upI (gaT S) 242 7 0) e = T at *
  have fT := hT.1.1
  have t245 : T.1 245 = S.1 245 := fT 245 (by decide) (by decide) (by decide) (by decide)
  have fr : ∀ a b, cPr a b = false → (wz T).1 a b = S.1 a b := fun a b hc => by
    unfold cPr at hc
    simp at hc
    unfold wz
    by_cases e5 : a = 245
    · subst e5
      rw [up_cell (by omega), t245]
    · rw [up_obj e5, fT a (by omega) (by omega) (by omega) (by omega)]
  have hp : wz T = patG S cPr (wz T).1 := pat_e fr hT.1.2
  have u42 : (wz T).1 245 42 = 0 := up_hit
  have hn : pnL (wz T) e = pnL S e := by rw [hp]; exact pnL_p
  refine ⟨fun z => absurd (by rw [t245, en.2.1]; exact q) z, fun _ => ⟨by have := en.1; omega, ?_, ?_, ?_, ?_, ?_⟩⟩
  · have w := wok_I h
    have c := chA_I se
    have w2 : wok (wz T) := by rw [hp]; exact w
    have c2 : chA (wz T) := by rw [hp]; exact c
    refine ⟨w2, c2, ?_, fun p hp' => ?_, fun t ht hn => ?_, by rw [u42]; exact Int.le_refl _⟩
    · rw [fr 245 29 (by decide), po.2.1]; exact po.1
    · rw [fr 245 29 (by decide), po.2.1] at hp'
      rw [fr 270 p (by simp [cPr])]
      obtain ⟨_, q2, _, q4⟩ := po.2.2 p hp'
      rw [q2]
      rcases q4 with z | z
      · exact Or.inl z
      · have := (us_eq se).mpr z
        rw [fr 266 _ (by simp [cPr])]
        exact Or.inr this
    · rw [fr 266 t (by simp [cPr])] at hn
      rw [fr 267 t (by simp [cPr])]
      have hn' : ¬ S.1 209 t = -1 := fun z => hn (((se.1 t ht).1).mpr z)
      obtain ⟨r1, r2, _⟩ := (se.1 t ht).2 hn'
      have h2 : (wz T).2 = S.2 := hT.1.2
      rw [h2, r2]
      have := en.1
      exact ⟨by omega, (w8_w (hd_I h r1).2).2⟩
  · rw [hT.1.2]
    exact (w8_w (hd_I h q).2).2
  · rw [hp, atM_p]
    exact enT_p (enT_I se)
  · rw [hn]; omega
  · intro v u
    rw [hn]
    refine ⟨by rw [k1]; simp, ?_⟩
    generalize pnL S e = L at *
    have fU : ∀ a b, cPu a b = false → (prM (wz T) L v u).1 a b = S.1 a b := fun a b hc => by
      unfold cPu at hc
      simp at hc
      have e1 : (prM (wz T) L v u).1 a b = (wz T).1 a b := by
        unfold prM
        show (if a = 274 then _ else if a = 275 then u b else if a = 245 then (if b = 42 then _ else if 32 ≤ b ∧ b ≤ 36 then v b else (wz T).1 245 b) else (wz T).1 a b) = _
        rw [if_neg (by omega), if_neg (by omega)]
        by_cases e5 : a = 245
        · rw [if_pos e5, if_neg (by omega), if_neg (by omega), e5]
        · rw [if_neg e5]
      rw [e1]
      exact fr a b (by unfold cPr; simp; omega)
    have vpr : iPr (prM (wz T) L v u) := by
      have x1 : (prM (wz T) L v u).1 242 7 = T.1 242 7 := rfl
      have x2 : (prM (wz T) L v u).1 245 42 = 0 + (L.length : Int) := by
        have : (prM (wz T) L v u).1 245 42 = (wz T).1 245 42 + L.length := rfl
        rw [this, u42]
      refine ⟨by rw [x1, k1]; omega, by rw [x1, x2, k1], fun i hi => ?_⟩
      rw [x1, k1] at hi
      have x3 : (prM (wz T) L v u).1 274 i = (if ((wz T).1 245 42).toNat ≤ i ∧ i < ((wz T).1 245 42).toNat + L.length then narB (narB (L.getD (i - ((wz T).1 245 42).toNat) 0)) else (wz T).1 274 i) := rfl
      have x4 : (prM (wz T) L v u).1 243 i = T.1 243 i := rfl
      have k3' := k3 i (by omega)
      rw [show (0 : Int).toNat + i = i from by simp] at k3'
      rw [x3, x4, u42, if_pos (by simp; omega), k3']
      simp
    have ved : iEd (prM (wz T) L v u) := iEd_c (fU 222 4 (by decide)) (fU 245 37 (by decide)) (funext fun b => fU 223 b (by simp [cPu])) (funext fun b => fU 271 b (by simp [cPu])) (funext fun b => fU 272 b (by simp [cPu])) (funext fun b => fU 273 b (by simp [cPu])) (fun i hi => ⟨funext fun b => fU _ b (by simp [cPu]; omega), funext fun b => fU _ b (by simp [cPu]; omega)⟩) ed
    have f22 : (prM (wz T) L v u).2 = S.2 := hT.1.2
    rw [pat_e fU f22] at vpr ved ⊢
    exact ⟨tp, bk, bh, sl, se, po, ved, vpr, en, ru, ws, wf, kn⟩

