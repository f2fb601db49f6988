/-! EQUAL ANSWERS: where, count -/
theorem wI_m {x : Int} : wI x % 256 = x % 256 := by
  unfold wI
  rw [Int32.toInt_ofInt, Int.bmod_def]
  simp only [Int32.size]
  split <;> omega
theorem vn_hd {b c q : Nat} {L : List Nat} (hq : q < L.length) : ∃ r, vn b c (L.drop q) = (L[q] + c) + b * r := by
  rw [List.drop_eq_getElem_cons hq]
  exact ⟨_, rfl⟩
theorem let_5 {L : List Nat} (h : okW L) {i : Int} (h0 : 0 ≤ i) (h1 : i < L.length) : ∃ q, ∃ hq : q < L.length, (q : Int) = L.length - 1 - i ∧ 96 + lAnd (lUshr (v5 L) (5 * ((L.length : Int) - 1 - i))) 31 = ((L[q] + 96 : Nat) : Int) := by
  obtain ⟨hA, hl, h8⟩ := h
  have hq : ((L.length : Int) - 1 - i).toNat < L.length := by omega
  refine ⟨_, hq, by omega, ?_⟩
  generalize hqq : ((L.length : Int) - 1 - i).toNat = q at *
  have bL := vn5_b hA h8
  have b8 : (32 : Nat) ^ 8 = 1099511627776 := by decide
  have bD : vn 32 0 (L.drop q) < 32 ^ 8 := vn5_b (fun x hx => hA x (List.mem_of_mem_drop hx)) (by rw [List.length_drop]; omega)
  rw [v5_n, show 5 * ((L.length : Int) - 1 - i) = ((5 * q : Nat) : Int) from by omega, ush_n (by omega) (by omega), pw5, vn_drop (okA_5 hA), lAnd_nat (by omega) (by omega) (by decide) (by decide)]
  obtain ⟨r, hr⟩ := vn_hd (b := 32) (c := 0) hq
  have hd := hA (L[q]) (List.getElem_mem hq)
  rw [hr]
  simp only [Int.toNat_natCast]
  rw [show (31 : Int).toNat = 2 ^ 5 - 1 from rfl, Nat.and_two_pow_sub_one_eq_mod]
  omega
theorem let_8 {L : List Nat} (h : okW L) {i : Int} (h0 : 0 ≤ i) (h1 : i < L.length) : ∃ q, ∃ hq : q < L.length, (q : Int) = L.length - 1 - i ∧ bAnd (wI (lUshr (v8 L) (8 * ((L.length : Int) - 1 - i)))) 255 = ((L[q] + 96 : Nat) : Int) := by
  obtain ⟨hA, hl, h8⟩ := h
  have hq : ((L.length : Int) - 1 - i).toNat < L.length := by omega
  refine ⟨_, hq, by omega, ?_⟩
  generalize hqq : ((L.length : Int) - 1 - i).toNat = q at *
  have bL := vn8_b hA h8
  rw [v8_n, show 8 * ((L.length : Int) - 1 - i) = ((8 * q : Nat) : Int) from by omega, ush_n bL (by omega), pw8, vn_drop (okA_8 hA), bAnd_255, wI_m]
  obtain ⟨r, hr⟩ := vn_hd (b := 256) (c := 96) hq
  have hd := hA (L[q]) (List.getElem_mem hq)
  rw [hr]
  omega
theorem lt_L {L : List Nat} (h : okW L) : lt5 12 (v5 L) = L.length ∧ sz8 8 (v8 L) = L.length := by
  rw [v5_n, v8_n]
  exact ⟨lt5_v h.1 (by have := h.2.2; omega), sz8_v h.1 h.2.2⟩
theorem let_e {L : List Nat} (h : okW L) {i : Int} (h0 : 0 ≤ i) (h1 : i < L.length) : 96 + lAnd (lUshr (v5 L) (5 * (lt5 12 (v5 L) - 1 - i))) 31 = bAnd (wI (lUshr (v8 L) (8 * (sz8 8 (v8 L) - 1 - i)))) 255 := by
  obtain ⟨e1, e2⟩ := lt_L h
  rw [e1, e2]
  obtain ⟨q, hq, a1, a2⟩ := let_5 h h0 h1
  obtain ⟨p, hp, b1, b2⟩ := let_8 h h0 h1
  rw [a2, b2]
  have : q = p := by omega
  subst this
  rfl
theorem ws_L {S : aS} (h : Inv S) {s : Nat} (hs : (s : Int) < S.1 81 4) : ∃ L, okW L ∧ S.2 (87 + s) 0 = v5 L ∧ S.2 258 s = v8 L ∧ 0 < S.1 207 s := by
  have s1 := h.2.2.2.1.1
  obtain ⟨⟨L, a1, a2, a3⟩, a4, _⟩ := (h.2.2.2.2.2.2.2.2.2.2.1 s (by omega)).1 hs
  exact ⟨L, ⟨a1.2, a1.1⟩, a2, a3, by omega⟩
theorem eq_where {S : aS} {s w : Int} (h : Inv S) (hw : inI w) : spX11_where [.inr (.inr 0), .inl s, .inl w] S (fun r T => spX12_where [.inr (.inr 245), .inl s, .inl w] T (Eqv r)) := by
  have hw' := hw
  unfold inI at hw'
  have s1 := h.2.2.2.1.1
  have s2 := h.2.2.2.1.2.1
  have kw := kw_I h
  by_cases hs : 0 ≤ s ∧ s < S.1 81 4
  · obtain ⟨L, hL, e5, e8, l7⟩ := ws_L h (s := s.toNat) (by omega)
    obtain ⟨⟨c1, c2, c3⟩, c4, c5⟩ := h.2.2.2.1.2.2 s.toNat (by omega)
    have hd : wrd8 (S.2 258 s.toNat) := by rw [e8]; exact v8_wrd hL.1 hL.2.2
    have hd5 : wrd (S.2 (87 + s.toNat) 0) := by rw [e5]; exact v5_wrd hL.1 (by have := hL.2.2; omega)
    obtain ⟨lt1, lt2⟩ := lt_L hL
    have ll := hL.2
    have no : ∀ {P : Prop} {c : Prop}, ¬ c → c → P := fun x y => absurd y x
    have nx : ∀ (r : Int), ((w = 0 → Eqv (some (.inl r)) (some (.inl (S.1 256 s.toNat))) S) ∧ (w = 1 → Eqv (some (.inl r)) (some (.inl (S.1 257 s.toNat))) S) ∧ (w = 2 → ∀ g, knX S g → Eqv (some (.inl r)) (some (.inl (bi (dbM S s.toNat)))) (stA S 259 g)) ∧ (w = 3 → Eqv (some (.inl r)) (some (.inl (S.1 255 s.toNat))) S) ∧ (w = 4 → Eqv (some (.inl r)) (some (.inl (sz8 8 (S.2 258 s.toNat)))) S) ∧ (10 ≤ w ∧ w < 10 + sz8 8 (S.2 258 s.toNat) → Eqv (some (.inl r)) (some (.inl (bAnd (wI (lUshr (S.2 258 s.toNat) (8 * (sz8 8 (S.2 258 s.toNat) - 1 - (w - 10))))) 255))) S) ∧ (w < 0 ∨ (4 < w ∧ w < 10) ∨ 10 + sz8 8 (S.2 258 s.toNat) ≤ w → Eqv (some (.inl r)) (some (.inl (-1))) S)) → spX12_where [.inr (.inr 245), .inl s, .inl w] S (Eqv (some (.inl r))) := fun r hr => ⟨kw, fun _ => hd, hw, fun z => absurd (by omega) z, fun _ => hr⟩
    rw [e8, lt2] at nx
    refine ⟨fitR_I h, fun _ => ⟨l7, hd5⟩, by omega, fun q => nx _ ?_, fun _ => ⟨fun q => nx _ ?_, fun q => nx _ ?_, fun q => nx _ ?_, fun q => nx _ ?_, fun q => nx _ ?_, fun q q2 => nx _ ?_⟩⟩
    · rw [e5, lt1] at q
      exact ⟨no (by omega), no (by omega), no (by omega), no (by omega), no (by omega), no (by omega), fun _ => ⟨rfl, h⟩⟩
    · exact ⟨fun _ => ⟨oi c2.symm, h⟩, no (by omega), no (by omega), no (by omega), no (by omega), no (by omega), no (by omega)⟩
    · exact ⟨no (by omega), fun _ => ⟨oi c3.symm, h⟩, no (by omega), no (by omega), no (by omega), no (by omega), no (by omega)⟩
    · have db := dbt_eq h (s := s.toNat) (by omega)
      rw [show ((s.toNat : Nat) : Int) = s from by omega] at db
      exact ⟨no (by omega), no (by omega), fun _ g hg => ⟨oi (bi_c db), kn_I h hg⟩, no (by omega), no (by omega), no (by omega), no (by omega)⟩
    · exact ⟨no (by omega), no (by omega), no (by omega), fun _ => ⟨oi c1.symm, h⟩, no (by omega), no (by omega), no (by omega)⟩
    · exact ⟨no (by omega), no (by omega), no (by omega), no (by omega), fun _ => ⟨oi (by rw [e5, lt1]), h⟩, no (by omega), no (by omega)⟩
    · rw [e5, lt1] at q2
      have le := let_e hL (i := w - 10) (by omega) (by omega)
      rw [lt2] at le
      exact ⟨no (by omega), no (by omega), no (by omega), no (by omega), no (by omega), fun _ => ⟨oi (by rw [e5]; exact le), h⟩, no (by omega)⟩
  · exact ⟨fitR_I h, fun z => absurd z hs, by omega, fun _ => ⟨kw, fun z => absurd (by omega) hs, hw, fun _ => ⟨rfl, h⟩, fun z => absurd (by omega) hs⟩, fun z => absurd z hs⟩
theorem eq_count {S : aS} {w : Int} (h : Inv S) (hw : inI w) : spX11_count [.inr (.inr 0), .inl w] S (fun r T => spX12_count [.inr (.inr 245), .inl w] T (Eqv r)) := by
  have h' := h
  obtain ⟨tp, bk, bh, sl, se, po, ed, pr, en, ru, ws, wf, kn⟩ := h'
  have s1 := sl.1
  have s2 := sl.2.1
  have p1 := po.1
  have p2 := po.2.1
  have n1 := en.1
  have n2 := en.2.1
  have kw := kw_I h
  have wk := wok_I h
  have ch := chA_I se
  have no : ∀ {P : Prop} {c : Prop}, ¬ c → c → P := fun x y => absurd y x
  have c4 : cnt (fun j => S.1 209 j != -1) 40 = cnt (fun j => S.1 266 j != 0) 40 := cnt_c (fun j hj => by
    have := (se.1 j hj).1
    by_cases q : S.1 209 j = -1
    · rw [q, this.mpr q]; rfl
    · rw [bne_iff_ne.mpr q, bne_iff_ne.mpr (fun z => q (this.mp z))])
  have c6 : cnt (fun j => S.1 221 j == -1) (S.1 219 2).toNat = cnt (fun j => S.1 270 j == -1) (S.1 245 29).toNat := by
    rw [p2]
    exact cnt_c (fun j hj => by rw [(po.2.2 j (by omega)).2.1])
  have c7 : cnt (fun j => S.1 83 j == -1 && S.1 84 j == -1) (S.1 81 4).toNat = cnt (fun j => S.1 256 j == -1) (S.1 245 12).toNat := by
    rw [s2]
    refine cnt_c (fun j hj => ?_)
    obtain ⟨⟨_, y1, _⟩, _, y2⟩ := sl.2.2 j (by omega)
    rw [y1]
    rcases y2 with y2 | y2
    · rw [y2.1, y2.2]; rfl
    · rw [beq_false_of_ne (show S.1 83 j ≠ -1 by omega)]; rfl
  have c8 : cnt (fun j => cb (dbt S j)) (S.1 81 4).toNat = cnt (fun j => cb (dbM S j)) (S.1 245 12).toNat := by
    rw [s2]
    exact cnt_c (fun j hj => cb_c (dbt_eq h (by omega)))
  have ch7 : ∀ e, cnt (fun j => S.1 83 j == e && S.1 84 j == -1) (S.1 81 4).toNat = cnt (fun j => S.1 256 j == e && S.1 257 j == -1) (S.1 245 12).toNat := fun e => by
    rw [s2]
    refine cnt_c (fun j hj => ?_)
    obtain ⟨⟨_, y1, y2⟩, _, _⟩ := sl.2.2 j (by omega)
    rw [y1, y2]
  have nx : ∀ (r : Int), ((w = 0 → Eqv (some (.inl r)) (some (.inl (S.1 245 3))) S) ∧ (w = 1 → Eqv (some (.inl r)) (some (.inl (S.1 245 12))) S) ∧ (w = 2 → Eqv (some (.inl r)) (some (.inl (S.1 245 13))) S) ∧ (w = 3 → Eqv (some (.inl r)) (some (.inl (S.1 245 14))) S) ∧ (w = 4 → Eqv (some (.inl r)) (some (.inl (cnt (fun j => S.1 266 j != 0) 40))) S) ∧ (w = 5 → Eqv (some (.inl r)) (some (.inl (S.1 245 29))) S) ∧ (w = 6 → Eqv (some (.inl r)) (some (.inl (cnt (fun j => S.1 270 j == -1) (S.1 245 29).toNat))) S) ∧ (w = 7 → Eqv (some (.inl r)) (some (.inl (cnt (fun j => S.1 256 j == -1) (S.1 245 12).toNat))) S) ∧ (w = 9 → Eqv (some (.inl r)) (some (.inl (S.1 245 37))) S) ∧ (w = 10 → Eqv (some (.inl r)) (some (.inl (S.1 245 4))) S) ∧ (w = 12 → Eqv (some (.inl r)) (some (.inl (S.1 245 2))) S) ∧ (w = 8 → ∀ g, knX S g → Eqv (some (.inl r)) (some (.inl (cnt (fun j => cb (dbM S j)) (S.1 245 12).toNat))) (stA S 259 g)) ∧ (w = 11 → ∀ v, Eqv (some (.inl r)) (some (.inl (nthE (flB S) (-1) 2560 0 0))) (stV S v)) ∧ (w < 0 ∨ 12 < w → ((20 ≤ w ∧ w < 20 + S.1 245 13) → Eqv (some (.inl r)) (some (.inl (cnt (fun j => S.1 256 j == w - 20 && S.1 257 j == -1) (S.1 245 12).toNat))) S) ∧ (¬ (20 ≤ w ∧ w < 20 + S.1 245 13) → Eqv (some (.inl r)) (some (.inl (-1))) S))) → spX12_count [.inr (.inr 245), .inl w] S (Eqv (some (.inl r))) := fun r hr => ⟨kw, wk, ch, by omega, hw, hr⟩
  refine ⟨gaP_I h, fitR_I h, p1, hw, fun q => nx _ ?_, fun q => nx _ ?_, fun q => nx _ ?_, fun q => nx _ ?_, fun q => nx _ ?_, fun q => nx _ ?_, fun q => nx _ ?_, fun q => nx _ ?_, fun q => nx _ ?_, fun q => nx _ ?_, fun q => nx _ ?_, fun q => ?_, fun q => nx _ ?_, fun q => ⟨fun q2 => nx _ ?_, fun q2 => nx _ ?_⟩⟩
  · exact ⟨fun _ => ⟨oi bk.2.2.1.symm, h⟩, no (by omega), no (by omega), no (by omega), no (by omega), no (by omega), no (by omega), no (by omega), no (by omega), no (by omega), no (by omega), no (by omega), no (by omega), no (by omega)⟩
  · exact ⟨no (by omega), fun _ => ⟨oi s2.symm, h⟩, no (by omega), no (by omega), no (by omega), no (by omega), no (by omega), no (by omega), no (by omega), no (by omega), no (by omega), no (by omega), no (by omega), no (by omega)⟩
  · exact ⟨no (by omega), no (by omega), fun _ => ⟨oi n2.symm, h⟩, no (by omega), no (by omega), no (by omega), no (by omega), no (by omega), no (by omega), no (by omega), no (by omega), no (by omega), no (by omega), no (by omega)⟩
  · exact ⟨no (by omega), no (by omega), no (by omega), fun _ => ⟨oi ru.2.2.2.1.symm, h⟩, no (by omega), no (by omega), no (by omega), no (by omega), no (by omega), no (by omega), no (by omega), no (by omega), no (by omega), no (by omega)⟩
  · exact ⟨no (by omega), no (by omega), no (by omega), no (by omega), fun _ => ⟨oi c4, h⟩, no (by omega), no (by omega), no (by omega), no (by omega), no (by omega), no (by omega), no (by omega), no (by omega), no (by omega)⟩
  · exact ⟨no (by omega), no (by omega), no (by omega), no (by omega), no (by omega), fun _ => ⟨oi p2.symm, h⟩, no (by omega), no (by omega), no (by omega), no (by omega), no (by omega), no (by omega), no (by omega), no (by omega)⟩
  · exact ⟨no (by omega), no (by omega), no (by omega), no (by omega), no (by omega), no (by omega), fun _ => ⟨oi c6, h⟩, no (by omega), no (by omega), no (by omega), no (by omega), no (by omega), no (by omega), no (by omega)⟩
  · exact ⟨no (by omega), no (by omega), no (by omega), no (by omega), no (by omega), no (by omega), no (by omega), fun _ => ⟨oi c7, h⟩, no (by omega), no (by omega), no (by omega), no (by omega), no (by omega), no (by omega)⟩
  · exact ⟨no (by omega), no (by omega), no (by omega), no (by omega), no (by omega), no (by omega), no (by omega), no (by omega), no (by omega), no (by omega), no (by omega), fun _ g hg => ⟨oi c8, kn_I h hg⟩, no (by omega), no (by omega)⟩
  · exact ⟨no (by omega), no (by omega), no (by omega), no (by omega), no (by omega), no (by omega), no (by omega), no (by omega), fun _ => ⟨oi ed.2.1.symm, h⟩, no (by omega), no (by omega), no (by omega), no (by omega), no (by omega)⟩
  · exact ⟨no (by omega), no (by omega), no (by omega), no (by omega), no (by omega), no (by omega), no (by omega), no (by omega), no (by omega), fun _ => ⟨oi bk.2.2.2.1.symm, h⟩, no (by omega), no (by omega), no (by omega), no (by omega)⟩
  · have hg := ga_T h
    have hT := ga_Inv h hg
    have fe := fl_e h hg
    generalize gaT S = T at *
    have ec : cnt (fun k => cb (flP T ((k : Int) / 64) ((k : Int) % 64))) 2560 = nthE (flB T) (-1) 2560 0 0 := by
      rw [nthE_cnt fe (Int.le_refl _), Int.zero_add]
      have := cf_cnt (p := fun k => cb (flP T ((k : Int) / 64) ((k : Int) % 64))) (n := 2560) (i := 0)
      rw [Nat.zero_add] at this
      rw [← this]
      show _ = _
      rw [show cnt (fun k => cb (flP T ((k : Int) / 64) ((k : Int) % 64))) 0 = 0 from rfl, Int.zero_add]
    rw [ec]
    have se' := hT.2.2.2.2.1
    have p1' := hT.2.2.2.2.2.1.1
    have p2' := hT.2.2.2.2.2.1.2.1
    exact ⟨kw_I hT, wok_I hT, chA_I se', by omega, hw, no (by omega), no (by omega), no (by omega), no (by omega), no (by omega), no (by omega), no (by omega), no (by omega), no (by omega), no (by omega), no (by omega), no (by omega), fun _ v => ⟨rfl, sv_Inv hT⟩, no (by omega)⟩
  · exact ⟨no (by omega), no (by omega), no (by omega), no (by omega), no (by omega), no (by omega), no (by omega), no (by omega), no (by omega), no (by omega), fun _ => ⟨oi tp.2.1.symm, h⟩, no (by omega), no (by omega), no (by omega)⟩
  · exact ⟨no (by omega), no (by omega), no (by omega), no (by omega), no (by omega), no (by omega), no (by omega), no (by omega), no (by omega), no (by omega), no (by omega), no (by omega), no (by omega), fun _ => ⟨fun _ => ⟨oi (ch7 _), h⟩, no (by omega)⟩⟩
  · exact ⟨no (by omega), no (by omega), no (by omega), no (by omega), no (by omega), no (by omega), no (by omega), no (by omega), no (by omega), no (by omega), no (by omega), no (by omega), no (by omega), fun _ => ⟨no (by omega), fun _ => ⟨rfl, h⟩⟩⟩
