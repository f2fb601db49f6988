/-! THE LAW: its start -/
def zφ : Nat → Nat → Bool := fun _ _ => false
theorem arC {U : State} {args : Array Value} {ty : FieldType} (h : (Cond.arrayClass ty).before args U = true) (hp : ∀ {cA : ClassId}, U.vm.findClass ("[" ++ ty.toString) = some cA → va_RA U cA ty) : ∃ cA : ClassId, ArrOfT U cA ty ∧ va_RA U cA ty := by
  obtain ⟨cA, kA, comp, h1, h2, h3⟩ := Cond.arrayClass_spec h
  exact ⟨cA, fun n z => ⟨fun k h => (by cases h), kA, h2, comp, h3⟩, hp h1⟩
theorem arA {U : State} {args : Array Value} {ty : FieldType} (h : (Cond.arrayOver (.array ty)).before args U = true) : ∃ cA : ClassId, ArrOfT U cA (.array ty) ∧ va_RA U cA (.array ty) := by
  obtain ⟨comp, cA, kA, h1, h2, h3, h4⟩ := Cond.arrayOver_specA h
  exact ⟨cA, fun n z => ⟨fun k h => (by cases h), kA, h2, comp, h3⟩, h4⟩
theorem kn_all {s : State} {args : Array Value} (hg : ∀ w ∈ gw, w.before args s = true) : ∀ k : Nat, ∃ (c : ClassId) (i : Nat → Nat), ∀ q, vwCl[k]? = some q → u_Kn s q.1 q.2.1 q.2.2 c i
  | 0 => by
    obtain ⟨c, i, h⟩ := u_known (C := RX0) (T := TX0) (N := 9) (n := 9) hg inX0 (hg _ (in_1 (List.mem_of_getElem? (i := 39) rfl) rfl))
    exact ⟨c, i, fun q hq => by cases hq; exact h⟩
  | 1 => by
    obtain ⟨c, i, h⟩ := u_known (C := RX1) (T := TX1) (N := 5) (n := 5) hg inX1 (hg _ (in_2 (List.mem_of_getElem? (i := 28) rfl) rfl))
    exact ⟨c, i, fun q hq => by cases hq; exact h⟩
  | 2 => by
    obtain ⟨c, i, h⟩ := u_known (C := RX2) (T := TX2) (N := 5) (n := 5) hg inX2 (hg _ (in_1 (List.mem_of_getElem? (i := 102) rfl) rfl))
    exact ⟨c, i, fun q hq => by cases hq; exact h⟩
  | 3 => by
    obtain ⟨c, i, h⟩ := u_known (C := RX3) (T := TX3) (N := 3) (n := 3) hg inX3 (hg _ (in_2 (List.mem_of_getElem? (i := 6) rfl) rfl))
    exact ⟨c, i, fun q hq => by cases hq; exact h⟩
  | 4 => by
    obtain ⟨c, i, h⟩ := u_known (C := RX4) (T := TX4) (N := 8) (n := 8) hg inX4 (hg _ (in_2 (List.mem_of_getElem? (i := 53) rfl) rfl))
    exact ⟨c, i, fun q hq => by cases hq; exact h⟩
  | 5 => by
    obtain ⟨c, i, h⟩ := u_known (C := RX5) (T := TX5) (N := 3) (n := 3) hg inX5 (hg _ (in_1 (List.mem_of_getElem? (i := 81) rfl) rfl))
    exact ⟨c, i, fun q hq => by cases hq; exact h⟩
  | 6 => by
    obtain ⟨c, i, h⟩ := u_known (C := RX6) (T := TX6) (N := 2) (n := 2) hg inX6 (hg _ (in_1 (List.mem_of_getElem? (i := 183) rfl) rfl))
    exact ⟨c, i, fun q hq => by cases hq; exact h⟩
  | 7 => by
    obtain ⟨c, i, h⟩ := u_known (C := RX7) (T := TX7) (N := 5) (n := 5) hg inX7 (hg _ (in_1 (List.mem_of_getElem? (i := 148) rfl) rfl))
    exact ⟨c, i, fun q hq => by cases hq; exact h⟩
  | 8 => by
    obtain ⟨c, i, h⟩ := u_known (C := RX8) (T := TX8) (N := 2) (n := 2) hg inX8 (hg _ (in_1 (List.mem_of_getElem? (i := 24) rfl) rfl))
    exact ⟨c, i, fun q hq => by cases hq; exact h⟩
  | 9 => by
    obtain ⟨c, i, h⟩ := u_known (C := RX9) (T := TX9) (N := 10) (n := 10) hg inX9 (hg _ (in_1 (List.mem_of_getElem? (i := 201) rfl) rfl))
    exact ⟨c, i, fun q hq => by cases hq; exact h⟩
  | 10 => by
    obtain ⟨c, i, h⟩ := u_known (C := RX10) (T := TX10) (N := 4) (n := 4) hg inX10 (hg _ (in_1 (List.mem_of_getElem? (i := 108) rfl) rfl))
    exact ⟨c, i, fun q hq => by cases hq; exact h⟩
  | 11 => by
    obtain ⟨c, i, h⟩ := u_known (C := RX11) (T := TX11) (N := 10) (n := 10) hg inX11 (hg _ (in_1 (List.mem_of_getElem? (i := 16) rfl) rfl))
    exact ⟨c, i, fun q hq => by cases hq; exact h⟩
  | 12 => by
    obtain ⟨c, i, h⟩ := u_known (C := RX12) (T := TX12) (N := 44) (n := 44) hg inX12 (hg _ (in_4 (List.mem_of_getElem? (i := 159) rfl) rfl))
    exact ⟨c, i, fun q hq => by cases hq; exact h⟩
  | k + 13 => ⟨0, fun _ => 0, fun q hq => by simp [vwCl] at hq⟩
theorem kk_all {s : State} {args : Array Value} (hts : ∀ w ∈ lw_tbl, w.before args s = true) : ∃ (D : va_G) (cy : Nat → ClassId), aKK D cy s ∧ cNs s := by
  have hg : ∀ w ∈ gw, w.before args s = true := fun w hw => hts w (List.mem_filter.mp hw).1
  have hall := kn_all hg
  obtain ⟨a0, a1, a2⟩ := arC (hg _ (in_1 (List.mem_of_getElem? (i := 37) rfl) rfl)) (fun {cA} h => h)
  obtain ⟨b0, b1, b2⟩ := arC (hg _ (in_2 (List.mem_of_getElem? (i := 83) rfl) rfl)) (fun {cA} h => h)
  obtain ⟨c0, c1, c2⟩ := arC (hg _ (in_5 (List.mem_of_getElem? (i := 57) rfl) rfl)) (fun {cA} h => h)
  obtain ⟨d0, d1, d2⟩ := arC (hg _ (in_1 (List.mem_of_getElem? (i := 100) rfl) rfl)) (fun {cA} h => h)
  obtain ⟨e0, e1, e2⟩ := arA (hts _ (tn_2 (List.mem_of_getElem? (i := 34) rfl)))
  obtain ⟨f0, f1, f2⟩ := arA (hts _ (tn_1 (List.mem_of_getElem? (i := 114) rfl)))
  refine ⟨(fun k => Classical.choose (hall k), fun k => Classical.choose (Classical.choose_spec (hall k))), fun j => match j with | 0 => a0 | 1 => b0 | 2 => c0 | 3 => d0 | 4 => e0 | _ => f0, ⟨⟨fun k q hq => Classical.choose_spec (Classical.choose_spec (hall k)) q hq, fun k q hq => ?_⟩, fun q hq => va_Nw.of rfl (hts _ (aNl_in q hq))⟩, fun q hq => va_Nw.of rfl (hts _ (cNl_in q hq)), hts _ (tn_2 (List.mem_of_getElem? (i := 34) rfl)), hts _ (tn_1 (List.mem_of_getElem? (i := 114) rfl))⟩
  match k, hq with
  | 0, hq => cases hq; exact ⟨a1, a2⟩
  | 1, hq => cases hq; exact ⟨b1, b2⟩
  | 2, hq => cases hq; exact ⟨c1, c2⟩
  | 3, hq => cases hq; exact ⟨d1, d2⟩
  | 4, hq => cases hq; exact ⟨e1, e2⟩
  | 5, hq => cases hq; exact ⟨f1, f2⟩
  | k + 6, hq => simp [aTys] at hq
set_option maxRecDepth 20000 in
set_option maxHeartbeats 8000000 in
theorem whole_start {p : Program} {e : Env} {s : State} {m : MethodId} {below : List Frame} {meth : Method} {c : Code} (l : Launch) (hflags : l.flags = flags0) {b L : Nat} {xs : Nat → Int32} (hL : L ≤ 3072) (C0 : lw_At p s m meth c b L xs) : W p l e room_1 s m #[Value.ref b] below meth c s.heap [] 0 0 (lw_Z below #[Value.ref b] s) (entryFrame m ([Value.ref b] : List Value).toArray 4) := by
  obtain ⟨hx, hb, hr, hml, hown, hts, hX0, hbl, hlocks, hgv⟩ := id C0
  have hg : ∀ w ∈ gw, w.before #[Value.ref b] s = true := fun w hw => hts w (List.mem_filter.mp hw).1
  obtain ⟨D, cy, hKK, hNN⟩ := kk_all hts
  have hb : c.code = cL_law := hb
  have hown : s.vm.findClass RL = some m.cls := hown
  have hX : cX D cy s.heap.size 0 zφ s00 s.heap s.heap [] := ⟨rfl, fun k q h => by simp [cWd] at h, va_S.rf⟩
  have hl := lv_entry ([.ref b]) (n := 4) (Nat.le_of_ble_eq_true rfl)
  rw [lg_entry_eq]
  generalize (lg_sl ([.ref b]) ++ List.replicate (4 - (lg_sl ([.ref b])).length) Slot.unset).toArray = ls at hl ⊢
  have hl : lv_has ls 4 [(0, .ref b)] := hl
  generalize hB0 : s.heap.size = B0 at hX
  refine cr_new (C := RX11) (T := TX11) (N := 10) (ci := 11) (n := 0) hx hb hg inX11 tyX11 tyX11_ok hown (in_1 (List.mem_of_getElem? (i := 15) rfl) rfl) (in_1 (List.mem_of_getElem? (i := 16) rfl) rfl) (in_1 (List.mem_of_getElem? (i := 1) rfl) rfl) hKK hX rfl LY_0 rfl (fun k => by simp [stO, zφ]) (fun k => rfl) (fun j hj => by rcases (show j = 0 ∨ j = 1 ∨ j = 2 ∨ j = 3 ∨ j = 4 ∨ j = 5 ∨ j = 6 ∨ j = 7 ∨ j = 8 ∨ j = 9 by omega) with rfl | rfl | rfl | rfl | rfl | rfl | rfl | rfl | rfl | rfl <;> rfl) (Nat.le_of_ble_eq_true rfl) (Nat.le_of_ble_eq_true rfl) dL_law_0 (fun H hX => ?_)
  refine lv_dup hx hb dL_law_3 rfl ?_
  refine cr_init (as := []) (i := 0) (nA := 0) (ct_0 l (fun a _ k => rfl) (fun a _ => ⟨rfl, rfl⟩)) hx hb hml hl.1 hown hg hKK hNN hX rfl meI_X11 (in_1 (List.mem_of_getElem? (i := 1) rfl) rfl) (in_1 (List.mem_of_getElem? (i := 17) rfl) rfl) (in_1 (List.mem_of_getElem? (i := 18) rfl) rfl) rfl (by decide +kernel) rfl ⟨Nat.le_of_ble_eq_true rfl, Nat.le_of_ble_eq_true rfl⟩ (by simp [Value.category]) ⟨Nat.le_of_ble_eq_true rfl, Nat.le_of_ble_eq_true rfl⟩ dL_law_4 (fun H locs hX => ?_)
  have hX : cX D cy B0 245 _ sF s.heap H locs := hX
  refine lv_astore_n (lv' := [(1, .ref (B0 + 0)), (0, .ref b)]) hx hb dL_law_7 rfl hl (by decide) rfl (fun ls hl => ?_)
  refine cr_new (C := RX12) (T := TX12) (N := 44) (ci := 12) (n := 245) hx hb hg inX12 tyX12 tyX12_ok hown (in_4 (List.mem_of_getElem? (i := 158) rfl) rfl) (in_4 (List.mem_of_getElem? (i := 159) rfl) rfl) (in_1 (List.mem_of_getElem? (i := 13) rfl) rfl) hKK hX rfl LY_245 rfl (fun k => by simp [stO, zφ]) (fun k => by show sF.1 245 k = 0; exact sF_0 (by decide) (by decide) (by decide)) (fun j hj => by rcases (show j = 0 ∨ j = 1 ∨ j = 2 ∨ j = 3 ∨ j = 4 ∨ j = 5 ∨ j = 6 ∨ j = 7 ∨ j = 8 ∨ j = 9 ∨ j = 10 ∨ j = 11 ∨ j = 12 ∨ j = 13 ∨ j = 14 ∨ j = 15 ∨ j = 16 ∨ j = 17 ∨ j = 18 ∨ j = 19 ∨ j = 20 ∨ j = 21 ∨ j = 22 ∨ j = 23 ∨ j = 24 ∨ j = 25 ∨ j = 26 ∨ j = 27 ∨ j = 28 ∨ j = 29 ∨ j = 30 ∨ j = 31 ∨ j = 32 ∨ j = 33 ∨ j = 34 ∨ j = 35 ∨ j = 36 ∨ j = 37 ∨ j = 38 ∨ j = 39 ∨ j = 40 ∨ j = 41 ∨ j = 42 ∨ j = 43 by omega) with rfl | rfl | rfl | rfl | rfl | rfl | rfl | rfl | rfl | rfl | rfl | rfl | rfl | rfl | rfl | rfl | rfl | rfl | rfl | rfl | rfl | rfl | rfl | rfl | rfl | rfl | rfl | rfl | rfl | rfl | rfl | rfl | rfl | rfl | rfl | rfl | rfl | rfl | rfl | rfl | rfl | rfl | rfl | rfl <;> rfl) (Nat.le_of_ble_eq_true rfl) (Nat.le_of_ble_eq_true rfl) dL_law_8 (fun H hX => ?_)
  refine lv_dup hx hb dL_law_11 rfl ?_
  refine cr_init (as := []) (i := 245) (nA := 0) (ct_245 l (fun a ha k => by simp only [stO, zφ]; repeat' (first | rw [if_neg (by omega)] | rfl)) (fun a ha => ⟨funext fun k => sF_0 (by omega) (by omega) (by omega), rfl⟩)) hx hb hml hl.1 hown hg hKK hNN hX rfl meI_X12 (in_1 (List.mem_of_getElem? (i := 13) rfl) rfl) (in_4 (List.mem_of_getElem? (i := 160) rfl) rfl) (in_4 (List.mem_of_getElem? (i := 161) rfl) rfl) rfl (by decide +kernel) rfl ⟨Nat.le_of_ble_eq_true rfl, Nat.le_of_ble_eq_true rfl⟩ (by simp [Value.category]) ⟨Nat.le_of_ble_eq_true rfl, Nat.le_of_ble_eq_true rfl⟩ dL_law_12 (fun H locs hX => ?_)
  refine lv_astore_n (lv' := [(2, .ref (B0 + 245)), (1, .ref (B0 + 0)), (0, .ref b)]) hx hb dL_law_15 rfl hl (by decide) rfl (fun ls hl => ?_)
  refine lv_iconst (v := Int32.ofInt 0) hx hb dL_law_16 (by decide +kernel) ?_
  refine lv_istore_n (lv' := [(3, .int (Int32.ofInt 0)), (2, .ref (B0 + 245)), (1, .ref (B0 + 0)), (0, .ref b)]) hx hb dL_law_17 rfl hl (by decide) rfl (fun ls hl => ?_)
  refine W.widen (k := 600000) (n := 7302250) (Nat.le_of_ble_eq_true rfl) (Nat.le_of_ble_eq_true rfl) ?_
  have hH : aHp D cy (adL B0 b) (bA B0) sF s.heap H locs := aHp_of hX (fun a ha k => by
    unfold isO at ha
    rcases ha with rfl | rfl | rfl | rfl | rfl | rfl | rfl | rfl | rfl | rfl | rfl | rfl | rfl | rfl <;> simp [stO])
  have hl2 : lv_has ls 4 [(0, .ref b), (1, .ref (B0 + 0)), (2, .ref (B0 + 245)), (3, .int (Int32.ofInt 0))] := lv_sub hl [3, 2, 1, 0] rfl
  have hl3 : lv_has ls 4 (mL (adL B0 b) (ll 0)) := hl2
  have hc : cLx p s m meth c b B0 L xs D cy := ⟨hx, hb, hml, hown, hg, hKK, hB0, hX0, by omega, hr, hlocks, hL⟩
  have hin : aIn (ll 0) [] sF := ⟨sF_rg, fun q hq => by
    have h4 : q = (0, .inr (.inr 276)) ∨ q = (1, .inr (.inr 0)) ∨ q = (2, .inr (.inr 245)) ∨ q = (3, .inl 0) := by simpa [ll] using hq
    rcases h4 with rfl | rfl | rfl | rfl
    · trivial
    · trivial
    · trivial
    · show inI 0
      exact inI_0, fun v hv => by cases hv⟩
  exact law_loop hc (L + 6) 0 sF (by omega) (by omega) (by omega) sF_I hin H locs ls hH hl3
