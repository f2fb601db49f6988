/-! EQUAL ANSWERS: told, where, count -/
theorem own_c {S : aS} (h : Inv S) {a : Int} (ha : 0 ≤ a) : wcM S a 1 = cnt (fun j => S.1 257 j == a) (S.1 245 12).toNat := by
  unfold wcM
  refine cnt_c (fun j hj => ?_)
  by_cases q : S.1 257 j = a
  · rw [cb_t (show witP S a 1 j from ⟨by omega, Or.inl ⟨by decide, q⟩⟩), q]
    simp
  · rw [cb_f (fun z => z.2.elim (fun y => q y.2) (fun y => absurd y.1 (by decide)))]
    simp [q]
theorem und_c {S : aS} (se : iSe S) {a : Int} : cnt (fun j => S.1 209 j != -1 && S.1 210 j == a) 40 = cnt (fun j => S.1 266 j != 0 && S.1 268 j == a) 40 := by
  refine cnt_c (fun j hj => ?_)
  obtain ⟨x1, x2⟩ := se.1 j hj
  by_cases q : S.1 209 j = -1
  · rw [q, x1.mpr q]; rfl
  · obtain ⟨_, _, x3, _⟩ := x2 q
    have q' : ¬ S.1 266 j = 0 := fun z => q (x1.mp z)
    rw [x3, bne_iff_ne.mpr q, bne_iff_ne.mpr q']
theorem gp_e {S : aS} (h : Inv S) {a : Nat} {x : Int} (hx : setB S (witP S a 0) (S.1 81 4).toNat x) (hc : ¬ wcM S a 0 = 0) : mx (fun b => max 0 (S.1 6 b - (sn (S.1 6) (S.1 7) (fun k => inS (k : Int) x) (S.1 6 b) (S.1 3 7).toNat).1 - 1)) (fun k => inS (k : Int) x) (S.1 3 7).toNat = gpM S a := by
  have s1 := h.2.2.2.1.1
  have s2 := h.2.2.2.1.2.1
  have b1 := h.2.1.1
  have m1 := (mnS h (f := S.1 6) (g := fF S) hx (fun s _ => Iff.rfl) (fun s hs => (fF_e h hs).1)).1
  have m2 := (mnS h (f := S.1 7) (g := fL S) hx (fun s _ => Iff.rfl) (fun s hs => (fF_e h hs).2)).2
  have wc := (wc_le h (t := (a : Int)) (al := 0)).1
  obtain ⟨j, j1, j2⟩ := cnt_ex (p := fun j => cb (witP S a 0 j)) (n := (S.1 245 12).toNat) (by unfold wcM at hc wc; omega)
  have cj := h.2.2.2.1.2.2 j (by omega)
  rw [gap_eq (sN := snM S a) (fun k hk _ => by have := yr_e h.2.1 (b := k) (by omega); omega) ⟨(S.1 82 j).toNat, by omega, (hx.1 _ (by omega)).mpr ⟨j, by omega, cb_e j2, by omega⟩⟩ (fun y => ?_), m1, m2]
  · rfl
  · constructor
    · rintro ⟨s, t1, t2, t3, t4⟩
      have cs := h.2.2.2.1.2.2 s (by omega)
      obtain ⟨e1, e2⟩ := fF_e h (s := s) (by omega)
      rw [e1] at t3
      rw [e2] at t4
      exact ⟨(S.1 82 s).toNat, by omega, (hx.1 _ (by omega)).mpr ⟨s, by omega, t2, by omega⟩, t3, t4⟩
    · rintro ⟨k, k1, k2, k3, k4⟩
      obtain ⟨s, z1, z2, z3⟩ := (hx.1 k (by omega)).mp k2
      obtain ⟨e1, e2⟩ := fF_e h (s := s) (by omega)
      refine ⟨s, by omega, z2, ?_, ?_⟩
      · rw [e1, z3]; simpa using k3
      · rw [e2, z3]; simpa using k4
set_option maxHeartbeats 4000000 in
theorem eq_told {S : aS} {a w : Int} (h : Inv S) : spX11_told [.inr (.inr 0), .inl a, .inl w] S (fun r T => spX12_told [.inr (.inr 245), .inl a, .inl w] T (Eqv r)) := by
  have se := h.2.2.2.2.1
  have ea := us_eq se (t := a)
  have hg := ga_T h
  have hT := ga_Inv h hg
  have b1 := h.2.1.1
  refine ⟨gaP_I h, ?_⟩
  generalize gaT S = T at *
  have hp := pat_e (ga_fr hg) hg.1.2
  have e37 : T.1 3 = S.1 3 := hg.1.1 3 (by decide)
  have e6 : T.1 6 = S.1 6 := hg.1.1 6 (by decide)
  have e7 : T.1 7 = S.1 7 := hg.1.1 7 (by decide)
  refine ⟨fun k hk => ?_, fun q => ⟨wok_I h, chA_I se, fun _ => ⟨rfl, h⟩, fun z => absurd (ea.mp z) q⟩, fun q => ?_⟩
  · rw [e37] at hk
    rw [e6, e7]
    have := yr_e h.2.1 hk
    omega
  have ca : ((a.toNat : Nat) : Int) = a := by have := q.1; omega
  obtain ⟨a12, a14, _, a15, _, _, a18⟩ := hg.2 a.toNat (by rw [ca]; exact q)
  have mc : ∀ x al, wcM T x al = wcM S x al := fun x al => by rw [hp]; rfl
  have m1 := mnS h (f := S.1 6) (g := fF S) a15 (fun s _ => Iff.rfl) (fun s hs => (fF_e h hs).1)
  have m2 := mnS h (f := S.1 7) (g := fL S) a15 (fun s _ => Iff.rfl) (fun s hs => (fF_e h hs).2)
  have gp := fun hc => gp_e h a15 hc
  rw [ca] at a12 a14 a18 m1 m2 gp
  have n1 : wmF T a 0 = mn (S.1 6) (fun k => inS (k : Int) (T.1 215 a.toNat)) (S.1 3 7).toNat := by rw [m1.1, hp]; rfl
  have n2 : wmL T a 0 = mn (S.1 7) (fun k => inS (k : Int) (T.1 215 a.toNat)) (S.1 3 7).toNat := by rw [m2.1, hp]; rfl
  have n3 : wxF T a 0 = mx (S.1 6) (fun k => inS (k : Int) (T.1 215 a.toNat)) (S.1 3 7).toNat := by rw [m1.2, hp]; rfl
  have n4 : wxL T a 0 = mx (S.1 7) (fun k => inS (k : Int) (T.1 215 a.toNat)) (S.1 3 7).toNat := by rw [m2.2, hp]; rfl
  have n5 : gpM T a = gpM S a := by rw [hp]; rfl
  have n6 : paM T a = paM S a := by rw [hp]; rfl
  have se' := hT.2.2.2.2.1
  have qT : uS T a := by
    have := q
    unfold uS at this ⊢
    rw [hg.1.1 209 (by decide)]; exact this
  have hh := (us_eq se').mpr qT
  obtain ⟨u1, u2, _, _⟩ := us_e se' qT
  have dp := dp_eq se' 40 a (Or.inr qT)
  have uc := und_c se' (a := a)
  have oc := own_c hT (a := a) q.1
  rw [mc] at oc
  rw [e6, e7, e37]
  have wT := wok_I hT
  have cT := chA_I se'
  have nx : ∀ (r : Int), (∀ v, (4 ≤ w ∧ w ≤ 8 → (wcM T a 0 = 0 → Eqv (some (.inl r)) (some (.inl (-1))) (stV T v)) ∧ (¬ wcM T a 0 = 0 → (w = 4 → Eqv (some (.inl r)) (some (.inl (wmF T a 0))) (stV T v)) ∧ (w = 5 → Eqv (some (.inl r)) (some (.inl (wmL T a 0))) (stV T v)) ∧ (w = 6 → Eqv (some (.inl r)) (some (.inl (wxF T a 0))) (stV T v)) ∧ (w = 7 → Eqv (some (.inl r)) (some (.inl (wxL T a 0))) (stV T v)) ∧ (w = 8 → Eqv (some (.inl r)) (some (.inl (gpM T a))) (stV T v)))) ∧ (w = 0 → Eqv (some (.inl r)) (some (.inl (T.1 267 a.toNat))) (stV T v)) ∧ (w = 1 → Eqv (some (.inl r)) (some (.inl (T.1 268 a.toNat))) (stV T v)) ∧ (w = 2 → Eqv (some (.inl r)) (some (.inl (cnt (fun j => T.1 257 j == a) (T.1 245 12).toNat))) (stV T v)) ∧ (w = 3 → Eqv (some (.inl r)) (some (.inl (wcM T a 0))) (stV T v)) ∧ (w = 9 → Eqv (some (.inl r)) (some (.inl (paM T a))) (stV T v)) ∧ (w = 10 → Eqv (some (.inl r)) (some (.inl (cnt (fun j => T.1 266 j != 0 && T.1 268 j == a) 40))) (stV T v)) ∧ (w = 11 → Eqv (some (.inl r)) (some (.inl (dpM (T.1 268) 40 a))) (stV T v)) ∧ (w < 0 ∨ 11 < w → Eqv (some (.inl r)) (some (.inl (-1))) (stV T v))) → spX12_told [.inr (.inr 245), .inl a, .inl w] T (Eqv (some (.inl r))) := fun r hr => ⟨wT, cT, fun z => absurd hh z, fun _ v => hr v⟩
  have ok : ∀ {r r' : Int} {v : Nat → Int}, r = r' → Eqv (some (.inl r)) (some (.inl r')) (stV T v) := fun e => ⟨oi e, sv_Inv hT⟩
  have no : ∀ {P : Prop} {c : Prop}, ¬ c → c → P := fun x y => absurd y x
  refine ⟨fun hw => ⟨fun z => nx _ (fun v => ?_), fun z => ⟨fun w4 => nx _ (fun v => ?_), fun w4 => nx _ (fun v => ?_), fun w4 => nx _ (fun v => ?_), fun w4 => nx _ (fun v => ?_), fun w4 => nx _ (fun v => ?_)⟩⟩, fun w4 => nx _ (fun v => ?_), fun w4 => nx _ (fun v => ?_), fun w4 => nx _ (fun v => ?_), fun w4 => nx _ (fun v => ?_), fun w4 => nx _ (fun v => ?_), fun w4 => nx _ (fun v => ?_), fun w4 => nx _ (fun v => ?_), fun w4 => nx _ (fun v => ?_)⟩
  · refine ⟨fun _ => ⟨fun _ => ok rfl, fun y => no y (by rw [mc]; omega)⟩, no (by omega), no (by omega), no (by omega), no (by omega), no (by omega), no (by omega), no (by omega), no (by omega)⟩
  · refine ⟨fun _ => ⟨fun y => no z (by rw [mc] at y; omega), fun _ => ⟨fun _ => ok n1.symm, no (by omega), no (by omega), no (by omega), no (by omega)⟩⟩, no (by omega), no (by omega), no (by omega), no (by omega), no (by omega), no (by omega), no (by omega), no (by omega)⟩
  · refine ⟨fun _ => ⟨fun y => no z (by rw [mc] at y; omega), fun _ => ⟨no (by omega), fun _ => ok n2.symm, no (by omega), no (by omega), no (by omega)⟩⟩, no (by omega), no (by omega), no (by omega), no (by omega), no (by omega), no (by omega), no (by omega), no (by omega)⟩
  · refine ⟨fun _ => ⟨fun y => no z (by rw [mc] at y; omega), fun _ => ⟨no (by omega), no (by omega), fun _ => ok n3.symm, no (by omega), no (by omega)⟩⟩, no (by omega), no (by omega), no (by omega), no (by omega), no (by omega), no (by omega), no (by omega), no (by omega)⟩
  · refine ⟨fun _ => ⟨fun y => no z (by rw [mc] at y; omega), fun _ => ⟨no (by omega), no (by omega), no (by omega), fun _ => ok n4.symm, no (by omega)⟩⟩, no (by omega), no (by omega), no (by omega), no (by omega), no (by omega), no (by omega), no (by omega), no (by omega)⟩
  · have g5 := (gp (by omega)).trans n5.symm
    refine ⟨fun _ => ⟨fun y => no z (by rw [mc] at y; omega), fun _ => ⟨no (by omega), no (by omega), no (by omega), no (by omega), fun _ => ok g5⟩⟩, no (by omega), no (by omega), no (by omega), no (by omega), no (by omega), no (by omega), no (by omega), no (by omega)⟩
  · refine ⟨no (by omega), fun _ => ok u1.symm, no (by omega), no (by omega), no (by omega), no (by omega), no (by omega), no (by omega), no (by omega)⟩
  · refine ⟨no (by omega), no (by omega), fun _ => ok u2.symm, no (by omega), no (by omega), no (by omega), no (by omega), no (by omega), no (by omega)⟩
  · refine ⟨no (by omega), no (by omega), no (by omega), fun _ => ok (a12.trans oc), no (by omega), no (by omega), no (by omega), no (by omega), no (by omega)⟩
  · refine ⟨no (by omega), no (by omega), no (by omega), no (by omega), fun _ => ok (a14.trans (mc _ _).symm), no (by omega), no (by omega), no (by omega), no (by omega)⟩
  · refine ⟨no (by omega), no (by omega), no (by omega), no (by omega), no (by omega), fun _ => ok (a18.trans n6.symm), no (by omega), no (by omega), no (by omega)⟩
  · refine ⟨no (by omega), no (by omega), no (by omega), no (by omega), no (by omega), no (by omega), fun _ => ok uc, no (by omega), no (by omega)⟩
  · refine ⟨no (by omega), no (by omega), no (by omega), no (by omega), no (by omega), no (by omega), no (by omega), fun _ => ok dp, no (by omega)⟩
  · refine ⟨no (by omega), no (by omega), no (by omega), no (by omega), no (by omega), no (by omega), no (by omega), no (by omega), fun _ => ok rfl⟩
