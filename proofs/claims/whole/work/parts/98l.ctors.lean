/-! CONSTRUCTORS -/
def zS (n : Nat) (S : aS) : Prop := ∀ a, n ≤ a → S.1 a = (fun _ => 0) ∧ S.2 a = fun _ => 0
def zF (n : Nat) (φ : Nat → Nat → Bool) : Prop := ∀ a, n ≤ a → ∀ k, φ a k = false
theorem zS.mono {n m : Nat} {S : aS} (h : zS n S) (hm : n ≤ m) : zS m S := fun a ha => h a (by omega)
theorem zF.mono {n m : Nat} {φ : Nat → Nat → Bool} (h : zF n φ) (hm : n ≤ m) : zF m φ := fun a ha => h a (by omega)
theorem zS.up {n i k : Nat} {x : Int} {S : aS} (h : zS n S) (hi : i < n) : zS n (upI S i k x) := fun a ha => ⟨by rw [up_f (by omega)]; exact (h a ha).1, (h a ha).2⟩
theorem zS.st {n i : Nat} {f : Nat → Int} {S : aS} (h : zS n S) (hi : i < n) : zS n (stA S i f) := fun a ha => ⟨by rw [stA_f (by omega)]; exact (h a ha).1, (h a ha).2⟩
theorem zF.st {n i : Nat} {φ : Nat → Nat → Bool} (h : zF n φ) (hi : i < n) : zF n (stO φ i) := fun a ha k => by rw [stO_o (by omega)]; exact h a ha k
theorem zF.up {n i k : Nat} {φ : Nat → Nat → Bool} (h : zF n φ) (hi : i < n) : zF n (upB φ i k) := fun a ha b => by rw [upB_o (by omega)]; exact h a ha b
def mI_X8 : aM := (yX8_init, cX8_init, 1, none, 1, 12)
theorem meI_X8 : Cond.code mI_X8.1 mI_X8.2.1 mI_X8.2.2.1 mI_X8.2.2.2.1 ∈ gw := (in_1 (List.mem_of_getElem? (i := 27) rfl) rfl)
def mI_X0 : aM := (yX0_init, cX0_init, 1, none, 1, 12)
theorem meI_X0 : Cond.code mI_X0.1 mI_X0.2.1 mI_X0.2.2.1 mI_X0.2.2.2.1 ∈ gw := (in_1 (List.mem_of_getElem? (i := 42) rfl) rfl)
def mI_X5 : aM := (yX5_init, cX5_init, 1, none, 1, 12)
theorem meI_X5 : Cond.code mI_X5.1 mI_X5.2.1 mI_X5.2.2.1 mI_X5.2.2.2.1 ∈ gw := (in_1 (List.mem_of_getElem? (i := 84) rfl) rfl)
def mI_X10 : aM := (yX10_init, cX10_init, 4, none, 1, 12)
theorem meI_X10 : Cond.code mI_X10.1 mI_X10.2.1 mI_X10.2.2.1 mI_X10.2.2.2.1 ∈ gw := (in_1 (List.mem_of_getElem? (i := 111) rfl) rfl)
def mI_X2 : aM := (yX2_init, cX2_init, 2, none, 2, 35)
theorem meI_X2 : Cond.code mI_X2.1 mI_X2.2.1 mI_X2.2.2.1 mI_X2.2.2.2.1 ∈ gw := (in_1 (List.mem_of_getElem? (i := 105) rfl) rfl)
def mI_X7 : aM := (yX7_init, cX7_init, 2, none, 2, 35)
theorem meI_X7 : Cond.code mI_X7.1 mI_X7.2.1 mI_X7.2.2.1 mI_X7.2.2.2.1 ∈ gw := (in_1 (List.mem_of_getElem? (i := 151) rfl) rfl)
def mI_X6 : aM := (yX6_init, cX6_init, 2, none, 1, 12)
theorem meI_X6 : Cond.code mI_X6.1 mI_X6.2.1 mI_X6.2.2.1 mI_X6.2.2.2.1 ∈ gw := (in_1 (List.mem_of_getElem? (i := 186) rfl) rfl)
def mI_X9 : aM := (yX9_init, cX9_init, 4, none, 1, 12)
theorem meI_X9 : Cond.code mI_X9.1 mI_X9.2.1 mI_X9.2.2.1 mI_X9.2.2.2.1 ∈ gw := (in_1 (List.mem_of_getElem? (i := 204) rfl) rfl)
def mI_X3 : aM := (yX3_init, cX3_init, 1, none, 1, 12)
theorem meI_X3 : Cond.code mI_X3.1 mI_X3.2.1 mI_X3.2.2.1 mI_X3.2.2.2.1 ∈ gw := (in_2 (List.mem_of_getElem? (i := 9) rfl) rfl)
def mI_X1 : aM := (yX1_init, cX1_init, 2, none, 1, 12)
theorem meI_X1 : Cond.code mI_X1.1 mI_X1.2.1 mI_X1.2.2.1 mI_X1.2.2.2.1 ∈ gw := (in_2 (List.mem_of_getElem? (i := 31) rfl) rfl)
def mI_X4 : aM := (yX4_init, cX4_init, 6, none, 1, 12)
theorem meI_X4 : Cond.code mI_X4.1 mI_X4.2.1 mI_X4.2.2.1 mI_X4.2.2.2.1 ∈ gw := (in_2 (List.mem_of_getElem? (i := 56) rfl) rfl)
def mI_X11 : aM := (yX11_init, cX11_init, 1, none, 3, 56)
theorem meI_X11 : Cond.code mI_X11.1 mI_X11.2.1 mI_X11.2.2.1 mI_X11.2.2.2.1 ∈ gw := (in_1 (List.mem_of_getElem? (i := 19) rfl) rfl)
def mI_X12 : aM := (yX12_init, cX12_init, 1, none, 1, 12)
theorem meI_X12 : Cond.code mI_X12.1 mI_X12.2.1 mI_X12.2.2.1 mI_X12.2.2.2.1 ∈ gw := (in_4 (List.mem_of_getElem? (i := 162) rfl) rfl)
set_option maxRecDepth 20000 in
set_option maxHeartbeats 8000000 in
theorem ct_1 (l : Launch) {φ : Nat → Nat → Bool} {S : aS} (hφ : zF 2 φ) (hS : zS 2 S) : cMt l mI_X8 1 40 1 [] 2 3 φ (stO φ 1) S S := by
  refine cMt_of (by decide +kernel) rfl rfl (by decide) fun D cy B0 p e R s m args below meth c jl hx hb hr hml hown hts hin hlocks hK hN hX hl hR => ?_
  obtain ⟨hR1, hR2, hR3, hR4⟩ : 1 ≤ R.frames ∧ 12 ≤ R.locals ∧ 1 ≤ R.cells ∧ 40 ≤ R.slots := hR
  have hl : lv_has jl 1 [(0, .ref (B0 + 1))] := hl
  refine lv_aload_n hx hb dX8_init_0 rfl (lv_at hl 0 rfl) ?_
  refine cr_obj hx hb hown hts (in_1 (List.mem_of_getElem? (i := 28) rfl) rfl) (in_1 (List.mem_of_getElem? (i := 21) rfl) rfl) (in_1 (List.mem_of_getElem? (i := 22) rfl) rfl) hml hl.1 dX8_init_1 (by omega) (by omega) ?_
  refine lv_aload_n hx hb dX8_init_4 rfl (lv_at hl 0 rfl) ?_
  refine lv_bipush (v := Int32.ofInt 40) hx hb dX8_init_5 (by decide +kernel) ?_
  refine cr_newa (atype := .int) (N := 40) (t := 0) (b := 0) hx hb (in_1 (List.mem_of_getElem? (i := 37) rfl) rfl) hts hK hX LY_2 rfl (hS 2 (by decide)).1 (hS 2 (by decide)).2 (by decide +kernel) (by decide +kernel) (Or.inl ⟨by decide, rfl⟩) (by decide) (by omega) (by omega) dX8_init_7 (fun H hX => ?_)
  refine cr_putr (r := 2) (i := 1) (C := RX8) (T := TX8) (N := 2) (ci := 8) hx hb hts inX8 tyX8 tyX8_ok nmX8 hown hK hX (by decide) LY_1 rfl 0 (by decide) rfl rfl (in_1 (List.mem_of_getElem? (i := 29) rfl) rfl) rfl hin rfl (tyX8_ok 0 (by decide)) rfl rfl dX8_init_9 (fun H locs hX => ?_)
  have hX := cX_O (φ' := (stO φ 1)) hX LY_1 (fun k r hk => match k, hk with | 0, hk => by simp [upB, stO] | 1, hk => nomatch hk | (q + 2), hk => absurd hk (by simp)) (fun k => by simp [stO]) (fun a ha => funext fun b => by simp [stO, upB, ha])
  exact cr_ret hx hb hr hX hlocks dX8_init_12 (by decide) (by decide)
set_option maxRecDepth 20000 in
set_option maxHeartbeats 8000000 in
theorem ct_3 (l : Launch) {φ : Nat → Nat → Bool} {S : aS} (hφ : zF 4 φ) (hS : zS 4 S) : cMt l mI_X0 7 270 3 [] 4 11 φ (stO φ 3) S S := by
  refine cMt_of (by decide +kernel) rfl rfl (by decide) fun D cy B0 p e R s m args below meth c jl hx hb hr hml hown hts hin hlocks hK hN hX hl hR => ?_
  obtain ⟨hR1, hR2, hR3, hR4⟩ : 1 ≤ R.frames ∧ 12 ≤ R.locals ∧ 7 ≤ R.cells ∧ 270 ≤ R.slots := hR
  have hl : lv_has jl 1 [(0, .ref (B0 + 3))] := hl
  refine lv_aload_n hx hb dX0_init_0 rfl (lv_at hl 0 rfl) ?_
  refine cr_obj hx hb hown hts (in_1 (List.mem_of_getElem? (i := 43) rfl) rfl) (in_1 (List.mem_of_getElem? (i := 21) rfl) rfl) (in_1 (List.mem_of_getElem? (i := 22) rfl) rfl) hml hl.1 dX0_init_1 (by omega) (by omega) ?_
  refine lv_aload_n hx hb dX0_init_4 rfl (lv_at hl 0 rfl) ?_
  refine lv_bipush (v := Int32.ofInt 30) hx hb dX0_init_5 (by decide +kernel) ?_
  refine cr_newa (atype := .int) (N := 30) (t := 0) (b := 0) hx hb (in_1 (List.mem_of_getElem? (i := 37) rfl) rfl) hts hK hX LY_4 rfl (hS 4 (by decide)).1 (hS 4 (by decide)).2 (by decide +kernel) (by decide +kernel) (Or.inl ⟨by decide, rfl⟩) (by decide) (by omega) (by omega) dX0_init_7 (fun H hX => ?_)
  refine cr_putr (r := 4) (i := 3) (C := RX0) (T := TX0) (N := 9) (ci := 0) hx hb hts inX0 tyX0 tyX0_ok nmX0 hown hK hX (by decide) LY_3 rfl 0 (by decide) rfl rfl (in_1 (List.mem_of_getElem? (i := 44) rfl) rfl) rfl hin rfl (tyX0_ok 0 (by decide)) rfl rfl dX0_init_9 (fun H locs hX => ?_)
  refine lv_aload_n hx hb dX0_init_12 rfl (lv_at hl 0 rfl) ?_
  refine lv_bipush (v := Int32.ofInt 30) hx hb dX0_init_13 (by decide +kernel) ?_
  refine cr_newa (atype := .int) (N := 30) (t := 0) (b := 0) hx hb (in_1 (List.mem_of_getElem? (i := 37) rfl) rfl) hts hK hX LY_5 rfl (hS 5 (by decide)).1 (hS 5 (by decide)).2 (by decide +kernel) (by decide +kernel) (Or.inl ⟨by decide, rfl⟩) (by decide) (by omega) (by omega) dX0_init_15 (fun H hX => ?_)
  refine cr_putr (r := 5) (i := 3) (C := RX0) (T := TX0) (N := 9) (ci := 0) hx hb hts inX0 tyX0 tyX0_ok nmX0 hown hK hX (by decide) LY_3 rfl 1 (by decide) rfl rfl (in_1 (List.mem_of_getElem? (i := 46) rfl) rfl) rfl hin rfl (tyX0_ok 1 (by decide)) rfl rfl dX0_init_17 (fun H locs hX => ?_)
  refine lv_aload_n hx hb dX0_init_20 rfl (lv_at hl 0 rfl) ?_
  refine lv_bipush (v := Int32.ofInt 30) hx hb dX0_init_21 (by decide +kernel) ?_
  refine cr_newa (atype := .int) (N := 30) (t := 0) (b := 0) hx hb (in_1 (List.mem_of_getElem? (i := 37) rfl) rfl) hts hK hX LY_6 rfl (hS 6 (by decide)).1 (hS 6 (by decide)).2 (by decide +kernel) (by decide +kernel) (Or.inl ⟨by decide, rfl⟩) (by decide) (by omega) (by omega) dX0_init_23 (fun H hX => ?_)
  refine cr_putr (r := 6) (i := 3) (C := RX0) (T := TX0) (N := 9) (ci := 0) hx hb hts inX0 tyX0 tyX0_ok nmX0 hown hK hX (by decide) LY_3 rfl 2 (by decide) rfl rfl (in_1 (List.mem_of_getElem? (i := 48) rfl) rfl) rfl hin rfl (tyX0_ok 2 (by decide)) rfl rfl dX0_init_25 (fun H locs hX => ?_)
  refine lv_aload_n hx hb dX0_init_28 rfl (lv_at hl 0 rfl) ?_
  refine lv_bipush (v := Int32.ofInt 30) hx hb dX0_init_29 (by decide +kernel) ?_
  refine cr_newa (atype := .int) (N := 30) (t := 0) (b := 0) hx hb (in_1 (List.mem_of_getElem? (i := 37) rfl) rfl) hts hK hX LY_7 rfl (hS 7 (by decide)).1 (hS 7 (by decide)).2 (by decide +kernel) (by decide +kernel) (Or.inl ⟨by decide, rfl⟩) (by decide) (by omega) (by omega) dX0_init_31 (fun H hX => ?_)
  refine cr_putr (r := 7) (i := 3) (C := RX0) (T := TX0) (N := 9) (ci := 0) hx hb hts inX0 tyX0 tyX0_ok nmX0 hown hK hX (by decide) LY_3 rfl 3 (by decide) rfl rfl (in_1 (List.mem_of_getElem? (i := 51) rfl) rfl) rfl hin rfl (tyX0_ok 3 (by decide)) rfl rfl dX0_init_33 (fun H locs hX => ?_)
  refine lv_aload_n hx hb dX0_init_36 rfl (lv_at hl 0 rfl) ?_
  refine lv_bipush (v := Int32.ofInt 30) hx hb dX0_init_37 (by decide +kernel) ?_
  refine cr_newa (atype := .int) (N := 30) (t := 0) (b := 0) hx hb (in_1 (List.mem_of_getElem? (i := 37) rfl) rfl) hts hK hX LY_8 rfl (hS 8 (by decide)).1 (hS 8 (by decide)).2 (by decide +kernel) (by decide +kernel) (Or.inl ⟨by decide, rfl⟩) (by decide) (by omega) (by omega) dX0_init_39 (fun H hX => ?_)
  refine cr_putr (r := 8) (i := 3) (C := RX0) (T := TX0) (N := 9) (ci := 0) hx hb hts inX0 tyX0 tyX0_ok nmX0 hown hK hX (by decide) LY_3 rfl 4 (by decide) rfl rfl (in_1 (List.mem_of_getElem? (i := 54) rfl) rfl) rfl hin rfl (tyX0_ok 4 (by decide)) rfl rfl dX0_init_41 (fun H locs hX => ?_)
  refine lv_aload_n hx hb dX0_init_44 rfl (lv_at hl 0 rfl) ?_
  refine lv_bipush (v := Int32.ofInt 60) hx hb dX0_init_45 (by decide +kernel) ?_
  refine cr_newa (atype := .int) (N := 60) (t := 0) (b := 0) hx hb (in_1 (List.mem_of_getElem? (i := 37) rfl) rfl) hts hK hX LY_9 rfl (hS 9 (by decide)).1 (hS 9 (by decide)).2 (by decide +kernel) (by decide +kernel) (Or.inl ⟨by decide, rfl⟩) (by decide) (by omega) (by omega) dX0_init_47 (fun H hX => ?_)
  refine cr_putr (r := 9) (i := 3) (C := RX0) (T := TX0) (N := 9) (ci := 0) hx hb hts inX0 tyX0 tyX0_ok nmX0 hown hK hX (by decide) LY_3 rfl 5 (by decide) rfl rfl (in_1 (List.mem_of_getElem? (i := 55) rfl) rfl) rfl hin rfl (tyX0_ok 5 (by decide)) rfl rfl dX0_init_49 (fun H locs hX => ?_)
  refine lv_aload_n hx hb dX0_init_52 rfl (lv_at hl 0 rfl) ?_
  refine lv_bipush (v := Int32.ofInt 60) hx hb dX0_init_53 (by decide +kernel) ?_
  refine cr_newa (atype := .int) (N := 60) (t := 0) (b := 0) hx hb (in_1 (List.mem_of_getElem? (i := 37) rfl) rfl) hts hK hX LY_10 rfl (hS 10 (by decide)).1 (hS 10 (by decide)).2 (by decide +kernel) (by decide +kernel) (Or.inl ⟨by decide, rfl⟩) (by decide) (by omega) (by omega) dX0_init_55 (fun H hX => ?_)
  refine cr_putr (r := 10) (i := 3) (C := RX0) (T := TX0) (N := 9) (ci := 0) hx hb hts inX0 tyX0 tyX0_ok nmX0 hown hK hX (by decide) LY_3 rfl 6 (by decide) rfl rfl (in_1 (List.mem_of_getElem? (i := 56) rfl) rfl) rfl hin rfl (tyX0_ok 6 (by decide)) rfl rfl dX0_init_57 (fun H locs hX => ?_)
  have hX := cX_O (φ' := (stO φ 3)) hX LY_3 (fun k r hk => match k, hk with | 0, hk => by simp [upB, stO] | 1, hk => by simp [upB, stO] | 2, hk => by simp [upB, stO] | 3, hk => by simp [upB, stO] | 4, hk => by simp [upB, stO] | 5, hk => by simp [upB, stO] | 6, hk => by simp [upB, stO] | 7, hk => nomatch hk | 8, hk => nomatch hk | (q + 9), hk => absurd hk (by simp)) (fun k => by simp [stO]) (fun a ha => funext fun b => by simp [stO, upB, ha])
  exact cr_ret hx hb hr hX hlocks dX0_init_60 (by decide) (by decide)
set_option maxRecDepth 20000 in
set_option maxHeartbeats 8000000 in
theorem ct_11 (l : Launch) {φ : Nat → Nat → Bool} {S : aS} (hφ : zF 12 φ) (hS : zS 12 S) : cMt l mI_X5 2 20 11 [] 12 14 φ (stO φ 11) S S := by
  refine cMt_of (by decide +kernel) rfl rfl (by decide) fun D cy B0 p e R s m args below meth c jl hx hb hr hml hown hts hin hlocks hK hN hX hl hR => ?_
  obtain ⟨hR1, hR2, hR3, hR4⟩ : 1 ≤ R.frames ∧ 12 ≤ R.locals ∧ 2 ≤ R.cells ∧ 20 ≤ R.slots := hR
  have hl : lv_has jl 1 [(0, .ref (B0 + 11))] := hl
  refine lv_aload_n hx hb dX5_init_0 rfl (lv_at hl 0 rfl) ?_
  refine cr_obj hx hb hown hts (in_1 (List.mem_of_getElem? (i := 85) rfl) rfl) (in_1 (List.mem_of_getElem? (i := 21) rfl) rfl) (in_1 (List.mem_of_getElem? (i := 22) rfl) rfl) hml hl.1 dX5_init_1 (by omega) (by omega) ?_
  refine lv_aload_n hx hb dX5_init_4 rfl (lv_at hl 0 rfl) ?_
  refine lv_bipush (v := Int32.ofInt 10) hx hb dX5_init_5 (by decide +kernel) ?_
  refine cr_newa (atype := .long) (N := 10) (t := 3) (b := 0) hx hb (in_1 (List.mem_of_getElem? (i := 100) rfl) rfl) hts hK hX LY_12 rfl (hS 12 (by decide)).1 (hS 12 (by decide)).2 (by decide +kernel) (by decide +kernel) (Or.inr ⟨rfl, rfl⟩) (by decide) (by omega) (by omega) dX5_init_7 (fun H hX => ?_)
  refine cr_putr (r := 12) (i := 11) (C := RX5) (T := TX5) (N := 3) (ci := 5) hx hb hts inX5 tyX5 tyX5_ok nmX5 hown hK hX (by decide) LY_11 rfl 0 (by decide) rfl rfl (in_1 (List.mem_of_getElem? (i := 86) rfl) rfl) rfl hin rfl (tyX5_ok 0 (by decide)) rfl rfl dX5_init_9 (fun H locs hX => ?_)
  refine lv_aload_n hx hb dX5_init_12 rfl (lv_at hl 0 rfl) ?_
  refine lv_bipush (v := Int32.ofInt 10) hx hb dX5_init_13 (by decide +kernel) ?_
  refine cr_newa (atype := .long) (N := 10) (t := 3) (b := 0) hx hb (in_1 (List.mem_of_getElem? (i := 100) rfl) rfl) hts hK hX LY_13 rfl (hS 13 (by decide)).1 (hS 13 (by decide)).2 (by decide +kernel) (by decide +kernel) (Or.inr ⟨rfl, rfl⟩) (by decide) (by omega) (by omega) dX5_init_15 (fun H hX => ?_)
  refine cr_putr (r := 13) (i := 11) (C := RX5) (T := TX5) (N := 3) (ci := 5) hx hb hts inX5 tyX5 tyX5_ok nmX5 hown hK hX (by decide) LY_11 rfl 1 (by decide) rfl rfl (in_1 (List.mem_of_getElem? (i := 88) rfl) rfl) rfl hin rfl (tyX5_ok 1 (by decide)) rfl rfl dX5_init_17 (fun H locs hX => ?_)
  have hX := cX_O (φ' := (stO φ 11)) hX LY_11 (fun k r hk => match k, hk with | 0, hk => by simp [upB, stO] | 1, hk => by simp [upB, stO] | 2, hk => nomatch hk | (q + 3), hk => absurd hk (by simp)) (fun k => by simp [stO]) (fun a ha => funext fun b => by simp [stO, upB, ha])
  exact cr_ret hx hb hr hX hlocks dX5_init_20 (by decide) (by decide)
set_option maxRecDepth 20000 in
set_option maxHeartbeats 8000000 in
theorem ct_18 (l : Launch) {φ : Nat → Nat → Bool} {S : aS} (hφ : zF 19 φ) (hS : zS 19 S) : cMt l mI_X10 62 4980 18 [.inl 60, .inr (.inr 11), .inl 0] 19 81 φ (stO φ 18) S (upI S 18 1 0) := by
  refine cMt_of (by decide +kernel) rfl rfl (by decide) fun D cy B0 p e R s m args below meth c jl hx hb hr hml hown hts hin hlocks hK hN hX hl hR => ?_
  obtain ⟨hR1, hR2, hR3, hR4⟩ : 1 ≤ R.frames ∧ 12 ≤ R.locals ∧ 62 ≤ R.cells ∧ 4980 ≤ R.slots := hR
  have hl : lv_has jl 4 [(0, .ref (B0 + 18)), (1, .int (Int32.ofInt 60)), (2, .ref (B0 + 11)), (3, .int (Int32.ofInt 0))] := hl
  refine lv_aload_n hx hb dX10_init_0 rfl (lv_at hl 0 rfl) ?_
  refine cr_obj hx hb hown hts (in_1 (List.mem_of_getElem? (i := 112) rfl) rfl) (in_1 (List.mem_of_getElem? (i := 21) rfl) rfl) (in_1 (List.mem_of_getElem? (i := 22) rfl) rfl) hml hl.1 dX10_init_1 (by omega) (by omega) ?_
  refine lv_aload_n hx hb dX10_init_4 rfl (lv_at hl 0 rfl) ?_
  refine lv_aload_n hx hb dX10_init_5 rfl (lv_at hl 2 rfl) ?_
  refine cr_putr (r := 11) (i := 18) (C := RX10) (T := TX10) (N := 4) (ci := 10) hx hb hts inX10 tyX10 tyX10_ok nmX10 hown hK hX (by decide) LY_18 rfl 0 (by decide) rfl rfl (in_1 (List.mem_of_getElem? (i := 115) rfl) rfl) rfl hin rfl (tyX10_ok 0 (by decide)) rfl rfl dX10_init_6 (fun H locs hX => ?_)
  refine lv_aload_n hx hb dX10_init_9 rfl (lv_at hl 0 rfl) ?_
  refine lv_iload_n hx hb dX10_init_10 rfl (lv_at hl 3 rfl) ?_
  refine cr_puti (x := 0) (i := 18) (C := RX10) (T := TX10) (N := 4) (ci := 10) hx hb hts inX10 tyX10 tyX10_ok nmX10 hown hK hX (by decide) LY_18 rfl 1 (by decide) rfl rfl (in_1 (List.mem_of_getElem? (i := 116) rfl) rfl) rfl hin rfl (tyX10_ok 1 (by decide)) (by decide +kernel) (by decide +kernel) dX10_init_11 (fun H locs hX => ?_)
  refine lv_aload_n hx hb dX10_init_14 rfl (lv_at hl 0 rfl) ?_
  refine lv_iload_n hx hb dX10_init_15 rfl (lv_at hl 1 rfl) ?_
  refine lv_bipush (v := Int32.ofInt 81) hx hb dX10_init_16 (by decide +kernel) ?_
  refine cr_mna (ty := .long) (t0 := 5) (t := 3) (N := 60) (M := 81) hx hb hown (in_1 (List.mem_of_getElem? (i := 113) rfl) rfl) hN.2.2 (in_1 (List.mem_of_getElem? (i := 100) rfl) rfl) hts hK hX LY_19 (by decide) rfl (fun j hj => LYr_20 hj) (Or.inr ⟨rfl, rfl⟩) rfl ((hS.up (by decide)).mono (by decide)) (by decide +kernel) (by decide +kernel) (by decide +kernel) (by decide +kernel) (by decide) (by decide) (by decide) (by omega) (by omega) dX10_init_18 (fun H hX => ?_)
  refine cr_putr (r := 19) (i := 18) (C := RX10) (T := TX10) (N := 4) (ci := 10) hx hb hts inX10 tyX10 tyX10_ok nmX10 hown hK hX (by decide) LY_18 rfl 2 (by decide) rfl rfl (in_1 (List.mem_of_getElem? (i := 117) rfl) rfl) rfl hin rfl (tyX10_ok 2 (by decide)) rfl rfl dX10_init_22 (fun H locs hX => ?_)
  refine lv_aload_n hx hb dX10_init_25 rfl (lv_at hl 0 rfl) ?_
  refine lv_iload_n hx hb dX10_init_26 rfl (lv_at hl 1 rfl) ?_
  refine cr_newa (atype := .int) (N := 60) (t := 0) (b := 0) hx hb (in_1 (List.mem_of_getElem? (i := 37) rfl) rfl) hts hK hX LY_80 rfl ((hS.up (by decide)) 80 (by decide)).1 ((hS.up (by decide)) 80 (by decide)).2 (by decide +kernel) (by decide +kernel) (Or.inl ⟨by decide, rfl⟩) (by decide) (by omega) (by omega) dX10_init_27 (fun H hX => ?_)
  refine cr_putr (r := 80) (i := 18) (C := RX10) (T := TX10) (N := 4) (ci := 10) hx hb hts inX10 tyX10 tyX10_ok nmX10 hown hK hX (by decide) LY_18 rfl 3 (by decide) rfl rfl (in_1 (List.mem_of_getElem? (i := 118) rfl) rfl) rfl hin rfl (tyX10_ok 3 (by decide)) rfl rfl dX10_init_29 (fun H locs hX => ?_)
  have hX := cX_O (φ' := (stO φ 18)) hX LY_18 (fun k r hk => match k, hk with | 0, hk => by simp [upB, stO] | 1, hk => nomatch hk | 2, hk => by simp [upB, stO] | 3, hk => by simp [upB, stO] | (q + 4), hk => absurd hk (by simp)) (fun k => by simp [stO]) (fun a ha => funext fun b => by simp [stO, upB, ha])
  exact cr_ret hx hb hr hX hlocks dX10_init_32 (by decide) (by decide)
set_option maxRecDepth 20000 in
set_option maxHeartbeats 8000000 in
theorem ct_14 (l : Launch) {φ : Nat → Nat → Bool} {S : aS} (hφ : zF 15 φ) (hS : zS 15 S) : cMt l mI_X2 66 5116 14 [.inr (.inr 11)] 15 81 φ (stO (stO φ 18) 14) S (upI S 18 1 0) := by
  refine cMt_of (by decide +kernel) rfl rfl (by decide) fun D cy B0 p e R s m args below meth c jl hx hb hr hml hown hts hin hlocks hK hN hX hl hR => ?_
  obtain ⟨hR1, hR2, hR3, hR4⟩ : 2 ≤ R.frames ∧ 35 ≤ R.locals ∧ 66 ≤ R.cells ∧ 5116 ≤ R.slots := hR
  have hl : lv_has jl 2 [(0, .ref (B0 + 14)), (1, .ref (B0 + 11))] := hl
  refine lv_aload_n hx hb dX2_init_0 rfl (lv_at hl 0 rfl) ?_
  refine cr_obj hx hb hown hts (in_1 (List.mem_of_getElem? (i := 106) rfl) rfl) (in_1 (List.mem_of_getElem? (i := 21) rfl) rfl) (in_1 (List.mem_of_getElem? (i := 22) rfl) rfl) hml hl.1 dX2_init_1 (by omega) (by omega) ?_
  refine lv_aload_n hx hb dX2_init_4 rfl (lv_at hl 0 rfl) ?_
  refine lv_bipush (v := Int32.ofInt 12) hx hb dX2_init_5 (by decide +kernel) ?_
  refine cr_newa (atype := .int) (N := 12) (t := 0) (b := 0) hx hb (in_1 (List.mem_of_getElem? (i := 37) rfl) rfl) hts hK hX LY_15 rfl (hS 15 (by decide)).1 (hS 15 (by decide)).2 (by decide +kernel) (by decide +kernel) (Or.inl ⟨by decide, rfl⟩) (by decide) (by omega) (by omega) dX2_init_7 (fun H hX => ?_)
  refine cr_putr (r := 15) (i := 14) (C := RX2) (T := TX2) (N := 5) (ci := 2) hx hb hts inX2 tyX2 tyX2_ok nmX2 hown hK hX (by decide) LY_14 rfl 0 (by decide) rfl rfl (in_1 (List.mem_of_getElem? (i := 128) rfl) rfl) rfl hin rfl (tyX2_ok 0 (by decide)) rfl rfl dX2_init_9 (fun H locs hX => ?_)
  refine lv_aload_n hx hb dX2_init_12 rfl (lv_at hl 0 rfl) ?_
  refine lv_bipush (v := Int32.ofInt 60) hx hb dX2_init_13 (by decide +kernel) ?_
  refine cr_newa (atype := .int) (N := 60) (t := 0) (b := 0) hx hb (in_1 (List.mem_of_getElem? (i := 37) rfl) rfl) hts hK hX LY_16 rfl (hS 16 (by decide)).1 (hS 16 (by decide)).2 (by decide +kernel) (by decide +kernel) (Or.inl ⟨by decide, rfl⟩) (by decide) (by omega) (by omega) dX2_init_15 (fun H hX => ?_)
  refine cr_putr (r := 16) (i := 14) (C := RX2) (T := TX2) (N := 5) (ci := 2) hx hb hts inX2 tyX2 tyX2_ok nmX2 hown hK hX (by decide) LY_14 rfl 1 (by decide) rfl rfl (in_1 (List.mem_of_getElem? (i := 130) rfl) rfl) rfl hin rfl (tyX2_ok 1 (by decide)) rfl rfl dX2_init_17 (fun H locs hX => ?_)
  refine lv_aload_n hx hb dX2_init_20 rfl (lv_at hl 0 rfl) ?_
  refine lv_bipush (v := Int32.ofInt 60) hx hb dX2_init_21 (by decide +kernel) ?_
  refine cr_newa (atype := .int) (N := 60) (t := 0) (b := 0) hx hb (in_1 (List.mem_of_getElem? (i := 37) rfl) rfl) hts hK hX LY_17 rfl (hS 17 (by decide)).1 (hS 17 (by decide)).2 (by decide +kernel) (by decide +kernel) (Or.inl ⟨by decide, rfl⟩) (by decide) (by omega) (by omega) dX2_init_23 (fun H hX => ?_)
  refine cr_putr (r := 17) (i := 14) (C := RX2) (T := TX2) (N := 5) (ci := 2) hx hb hts inX2 tyX2 tyX2_ok nmX2 hown hK hX (by decide) LY_14 rfl 2 (by decide) rfl rfl (in_1 (List.mem_of_getElem? (i := 131) rfl) rfl) rfl hin rfl (tyX2_ok 2 (by decide)) rfl rfl dX2_init_25 (fun H locs hX => ?_)
  refine lv_aload_n hx hb dX2_init_28 rfl (lv_at hl 0 rfl) ?_
  refine cr_new (C := RX10) (T := TX10) (N := 4) (ci := 10) hx hb hts inX10 tyX10 tyX10_ok hown (in_1 (List.mem_of_getElem? (i := 107) rfl) rfl) (in_1 (List.mem_of_getElem? (i := 108) rfl) rfl) (in_1 (List.mem_of_getElem? (i := 6) rfl) rfl) hK hX rfl LY_18 rfl (fun k => (((hφ.up (by decide)).up (by decide)).up (by decide)) 18 (by decide) k) (fun k => congrFun (hS 18 (by decide)).1 k) (fun j hj => by rcases (show j = 0 ∨ j = 1 ∨ j = 2 ∨ j = 3 by omega) with rfl | rfl | rfl | rfl <;> rfl) (by omega) (by omega) dX2_init_29 (fun H hX => ?_)
  refine lv_dup hx hb dX2_init_32 rfl ?_
  refine lv_bipush (v := Int32.ofInt 60) hx hb dX2_init_33 (by decide +kernel) ?_
  refine lv_aload_n hx hb dX2_init_35 rfl (lv_at hl 1 rfl) ?_
  refine lv_iconst (v := Int32.ofInt 0) hx hb dX2_init_36 (by decide +kernel) ?_
  refine cr_init (as := [.inl 60, .inr (.inr 11), .inl 0]) (i := 18) (nA := 3) (ct_18 l ((((hφ.up (by decide)).up (by decide)).up (by decide)).mono (by decide)) (hS.mono (by decide))) hx hb hml hl.1 hown hts hK hN hX rfl meI_X10 (in_1 (List.mem_of_getElem? (i := 6) rfl) rfl) ((in_1 (List.mem_of_getElem? (i := 109) rfl) rfl)) (in_1 (List.mem_of_getElem? (i := 110) rfl) rfl) rfl (by decide +kernel) rfl ⟨by show 1 + 1 ≤ R.frames; omega, by show 8 + (4 + 11) + 12 ≤ R.locals; omega⟩ (by simp [Value.category]) (by omega) dX2_init_37 (fun H locs hX => ?_)
  refine cr_putr (r := 18) (i := 14) (C := RX2) (T := TX2) (N := 5) (ci := 2) hx hb hts inX2 tyX2 tyX2_ok nmX2 hown hK hX (by decide) LY_14 rfl 3 (by decide) rfl rfl (in_1 (List.mem_of_getElem? (i := 132) rfl) rfl) rfl hin rfl (tyX2_ok 3 (by decide)) rfl rfl dX2_init_40 (fun H locs hX => ?_)
  have hX := cX_O (φ' := (stO (stO φ 18) 14)) hX LY_14 (fun k r hk => match k, hk with | 0, hk => by simp [upB, stO] | 1, hk => by simp [upB, stO] | 2, hk => by simp [upB, stO] | 3, hk => by simp [upB, stO] | 4, hk => nomatch hk | (q + 5), hk => absurd hk (by simp)) (fun k => by simp [stO]) (fun a ha => funext fun b => by simp [stO, upB, ha])
  exact cr_ret hx hb hr hX hlocks dX2_init_43 (by decide) (by decide)
set_option maxRecDepth 20000 in
set_option maxHeartbeats 8000000 in
theorem ct_85 (l : Launch) {φ : Nat → Nat → Bool} {S : aS} (hφ : zF 86 φ) (hS : zS 86 S) : cMt l mI_X10 122 9960 85 [.inl 120, .inr (.inr 11), .inl 1] 86 208 φ (stO φ 85) S (upI S 85 1 1) := by
  refine cMt_of (by decide +kernel) rfl rfl (by decide) fun D cy B0 p e R s m args below meth c jl hx hb hr hml hown hts hin hlocks hK hN hX hl hR => ?_
  obtain ⟨hR1, hR2, hR3, hR4⟩ : 1 ≤ R.frames ∧ 12 ≤ R.locals ∧ 122 ≤ R.cells ∧ 9960 ≤ R.slots := hR
  have hl : lv_has jl 4 [(0, .ref (B0 + 85)), (1, .int (Int32.ofInt 120)), (2, .ref (B0 + 11)), (3, .int (Int32.ofInt 1))] := hl
  refine lv_aload_n hx hb dX10_init_0 rfl (lv_at hl 0 rfl) ?_
  refine cr_obj hx hb hown hts (in_1 (List.mem_of_getElem? (i := 112) rfl) rfl) (in_1 (List.mem_of_getElem? (i := 21) rfl) rfl) (in_1 (List.mem_of_getElem? (i := 22) rfl) rfl) hml hl.1 dX10_init_1 (by omega) (by omega) ?_
  refine lv_aload_n hx hb dX10_init_4 rfl (lv_at hl 0 rfl) ?_
  refine lv_aload_n hx hb dX10_init_5 rfl (lv_at hl 2 rfl) ?_
  refine cr_putr (r := 11) (i := 85) (C := RX10) (T := TX10) (N := 4) (ci := 10) hx hb hts inX10 tyX10 tyX10_ok nmX10 hown hK hX (by decide) LY_85 rfl 0 (by decide) rfl rfl (in_1 (List.mem_of_getElem? (i := 115) rfl) rfl) rfl hin rfl (tyX10_ok 0 (by decide)) rfl rfl dX10_init_6 (fun H locs hX => ?_)
  refine lv_aload_n hx hb dX10_init_9 rfl (lv_at hl 0 rfl) ?_
  refine lv_iload_n hx hb dX10_init_10 rfl (lv_at hl 3 rfl) ?_
  refine cr_puti (x := 1) (i := 85) (C := RX10) (T := TX10) (N := 4) (ci := 10) hx hb hts inX10 tyX10 tyX10_ok nmX10 hown hK hX (by decide) LY_85 rfl 1 (by decide) rfl rfl (in_1 (List.mem_of_getElem? (i := 116) rfl) rfl) rfl hin rfl (tyX10_ok 1 (by decide)) (by decide +kernel) (by decide +kernel) dX10_init_11 (fun H locs hX => ?_)
  refine lv_aload_n hx hb dX10_init_14 rfl (lv_at hl 0 rfl) ?_
  refine lv_iload_n hx hb dX10_init_15 rfl (lv_at hl 1 rfl) ?_
  refine lv_bipush (v := Int32.ofInt 81) hx hb dX10_init_16 (by decide +kernel) ?_
  refine cr_mna (ty := .long) (t0 := 5) (t := 3) (N := 120) (M := 81) hx hb hown (in_1 (List.mem_of_getElem? (i := 113) rfl) rfl) hN.2.2 (in_1 (List.mem_of_getElem? (i := 100) rfl) rfl) hts hK hX LY_86 (by decide) rfl (fun j hj => LYr_87 hj) (Or.inr ⟨rfl, rfl⟩) rfl ((hS.up (by decide)).mono (by decide)) (by decide +kernel) (by decide +kernel) (by decide +kernel) (by decide +kernel) (by decide) (by decide) (by decide) (by omega) (by omega) dX10_init_18 (fun H hX => ?_)
  refine cr_putr (r := 86) (i := 85) (C := RX10) (T := TX10) (N := 4) (ci := 10) hx hb hts inX10 tyX10 tyX10_ok nmX10 hown hK hX (by decide) LY_85 rfl 2 (by decide) rfl rfl (in_1 (List.mem_of_getElem? (i := 117) rfl) rfl) rfl hin rfl (tyX10_ok 2 (by decide)) rfl rfl dX10_init_22 (fun H locs hX => ?_)
  refine lv_aload_n hx hb dX10_init_25 rfl (lv_at hl 0 rfl) ?_
  refine lv_iload_n hx hb dX10_init_26 rfl (lv_at hl 1 rfl) ?_
  refine cr_newa (atype := .int) (N := 120) (t := 0) (b := 0) hx hb (in_1 (List.mem_of_getElem? (i := 37) rfl) rfl) hts hK hX LY_207 rfl ((hS.up (by decide)) 207 (by decide)).1 ((hS.up (by decide)) 207 (by decide)).2 (by decide +kernel) (by decide +kernel) (Or.inl ⟨by decide, rfl⟩) (by decide) (by omega) (by omega) dX10_init_27 (fun H hX => ?_)
  refine cr_putr (r := 207) (i := 85) (C := RX10) (T := TX10) (N := 4) (ci := 10) hx hb hts inX10 tyX10 tyX10_ok nmX10 hown hK hX (by decide) LY_85 rfl 3 (by decide) rfl rfl (in_1 (List.mem_of_getElem? (i := 118) rfl) rfl) rfl hin rfl (tyX10_ok 3 (by decide)) rfl rfl dX10_init_29 (fun H locs hX => ?_)
  have hX := cX_O (φ' := (stO φ 85)) hX LY_85 (fun k r hk => match k, hk with | 0, hk => by simp [upB, stO] | 1, hk => nomatch hk | 2, hk => by simp [upB, stO] | 3, hk => by simp [upB, stO] | (q + 4), hk => absurd hk (by simp)) (fun k => by simp [stO]) (fun a ha => funext fun b => by simp [stO, upB, ha])
  exact cr_ret hx hb hr hX hlocks dX10_init_32 (by decide) (by decide)
set_option maxRecDepth 20000 in
set_option maxHeartbeats 8000000 in
theorem ct_81 (l : Launch) {φ : Nat → Nat → Bool} {S : aS} (hφ : zF 82 φ) (hS : zS 82 S) : cMt l mI_X7 126 10324 81 [.inr (.inr 11)] 82 208 φ (stO (stO φ 85) 81) S (upI S 85 1 1) := by
  refine cMt_of (by decide +kernel) rfl rfl (by decide) fun D cy B0 p e R s m args below meth c jl hx hb hr hml hown hts hin hlocks hK hN hX hl hR => ?_
  obtain ⟨hR1, hR2, hR3, hR4⟩ : 2 ≤ R.frames ∧ 35 ≤ R.locals ∧ 126 ≤ R.cells ∧ 10324 ≤ R.slots := hR
  have hl : lv_has jl 2 [(0, .ref (B0 + 81)), (1, .ref (B0 + 11))] := hl
  refine lv_aload_n hx hb dX7_init_0 rfl (lv_at hl 0 rfl) ?_
  refine cr_obj hx hb hown hts (in_1 (List.mem_of_getElem? (i := 152) rfl) rfl) (in_1 (List.mem_of_getElem? (i := 21) rfl) rfl) (in_1 (List.mem_of_getElem? (i := 22) rfl) rfl) hml hl.1 dX7_init_1 (by omega) (by omega) ?_
  refine lv_aload_n hx hb dX7_init_4 rfl (lv_at hl 0 rfl) ?_
  refine lv_bipush (v := Int32.ofInt 120) hx hb dX7_init_5 (by decide +kernel) ?_
  refine cr_newa (atype := .int) (N := 120) (t := 0) (b := 0) hx hb (in_1 (List.mem_of_getElem? (i := 37) rfl) rfl) hts hK hX LY_82 rfl (hS 82 (by decide)).1 (hS 82 (by decide)).2 (by decide +kernel) (by decide +kernel) (Or.inl ⟨by decide, rfl⟩) (by decide) (by omega) (by omega) dX7_init_7 (fun H hX => ?_)
  refine cr_putr (r := 82) (i := 81) (C := RX7) (T := TX7) (N := 5) (ci := 7) hx hb hts inX7 tyX7 tyX7_ok nmX7 hown hK hX (by decide) LY_81 rfl 0 (by decide) rfl rfl (in_1 (List.mem_of_getElem? (i := 155) rfl) rfl) rfl hin rfl (tyX7_ok 0 (by decide)) rfl rfl dX7_init_9 (fun H locs hX => ?_)
  refine lv_aload_n hx hb dX7_init_12 rfl (lv_at hl 0 rfl) ?_
  refine lv_bipush (v := Int32.ofInt 120) hx hb dX7_init_13 (by decide +kernel) ?_
  refine cr_newa (atype := .int) (N := 120) (t := 0) (b := 0) hx hb (in_1 (List.mem_of_getElem? (i := 37) rfl) rfl) hts hK hX LY_83 rfl (hS 83 (by decide)).1 (hS 83 (by decide)).2 (by decide +kernel) (by decide +kernel) (Or.inl ⟨by decide, rfl⟩) (by decide) (by omega) (by omega) dX7_init_15 (fun H hX => ?_)
  refine cr_putr (r := 83) (i := 81) (C := RX7) (T := TX7) (N := 5) (ci := 7) hx hb hts inX7 tyX7 tyX7_ok nmX7 hown hK hX (by decide) LY_81 rfl 1 (by decide) rfl rfl (in_1 (List.mem_of_getElem? (i := 158) rfl) rfl) rfl hin rfl (tyX7_ok 1 (by decide)) rfl rfl dX7_init_17 (fun H locs hX => ?_)
  refine lv_aload_n hx hb dX7_init_20 rfl (lv_at hl 0 rfl) ?_
  refine lv_bipush (v := Int32.ofInt 120) hx hb dX7_init_21 (by decide +kernel) ?_
  refine cr_newa (atype := .int) (N := 120) (t := 0) (b := 0) hx hb (in_1 (List.mem_of_getElem? (i := 37) rfl) rfl) hts hK hX LY_84 rfl (hS 84 (by decide)).1 (hS 84 (by decide)).2 (by decide +kernel) (by decide +kernel) (Or.inl ⟨by decide, rfl⟩) (by decide) (by omega) (by omega) dX7_init_23 (fun H hX => ?_)
  refine cr_putr (r := 84) (i := 81) (C := RX7) (T := TX7) (N := 5) (ci := 7) hx hb hts inX7 tyX7 tyX7_ok nmX7 hown hK hX (by decide) LY_81 rfl 2 (by decide) rfl rfl (in_1 (List.mem_of_getElem? (i := 161) rfl) rfl) rfl hin rfl (tyX7_ok 2 (by decide)) rfl rfl dX7_init_25 (fun H locs hX => ?_)
  refine lv_aload_n hx hb dX7_init_28 rfl (lv_at hl 0 rfl) ?_
  refine cr_new (C := RX10) (T := TX10) (N := 4) (ci := 10) hx hb hts inX10 tyX10 tyX10_ok hown (in_1 (List.mem_of_getElem? (i := 153) rfl) rfl) (in_1 (List.mem_of_getElem? (i := 108) rfl) rfl) (in_1 (List.mem_of_getElem? (i := 6) rfl) rfl) hK hX rfl LY_85 rfl (fun k => (((hφ.up (by decide)).up (by decide)).up (by decide)) 85 (by decide) k) (fun k => congrFun (hS 85 (by decide)).1 k) (fun j hj => by rcases (show j = 0 ∨ j = 1 ∨ j = 2 ∨ j = 3 by omega) with rfl | rfl | rfl | rfl <;> rfl) (by omega) (by omega) dX7_init_29 (fun H hX => ?_)
  refine lv_dup hx hb dX7_init_32 rfl ?_
  refine lv_bipush (v := Int32.ofInt 120) hx hb dX7_init_33 (by decide +kernel) ?_
  refine lv_aload_n hx hb dX7_init_35 rfl (lv_at hl 1 rfl) ?_
  refine lv_iconst (v := Int32.ofInt 1) hx hb dX7_init_36 (by decide +kernel) ?_
  refine cr_init (as := [.inl 120, .inr (.inr 11), .inl 1]) (i := 85) (nA := 3) (ct_85 l ((((hφ.up (by decide)).up (by decide)).up (by decide)).mono (by decide)) (hS.mono (by decide))) hx hb hml hl.1 hown hts hK hN hX rfl meI_X10 (in_1 (List.mem_of_getElem? (i := 6) rfl) rfl) ((in_1 (List.mem_of_getElem? (i := 154) rfl) rfl)) (in_1 (List.mem_of_getElem? (i := 110) rfl) rfl) rfl (by decide +kernel) rfl ⟨by show 1 + 1 ≤ R.frames; omega, by show 8 + (4 + 11) + 12 ≤ R.locals; omega⟩ (by simp [Value.category]) (by omega) dX7_init_37 (fun H locs hX => ?_)
  refine cr_putr (r := 85) (i := 81) (C := RX7) (T := TX7) (N := 5) (ci := 7) hx hb hts inX7 tyX7 tyX7_ok nmX7 hown hK hX (by decide) LY_81 rfl 3 (by decide) rfl rfl (in_1 (List.mem_of_getElem? (i := 165) rfl) rfl) rfl hin rfl (tyX7_ok 3 (by decide)) rfl rfl dX7_init_40 (fun H locs hX => ?_)
  have hX := cX_O (φ' := (stO (stO φ 85) 81)) hX LY_81 (fun k r hk => match k, hk with | 0, hk => by simp [upB, stO] | 1, hk => by simp [upB, stO] | 2, hk => by simp [upB, stO] | 3, hk => by simp [upB, stO] | 4, hk => nomatch hk | (q + 5), hk => absurd hk (by simp)) (fun k => by simp [stO]) (fun a ha => funext fun b => by simp [stO, upB, ha])
  exact cr_ret hx hb hr hX hlocks dX7_init_43 (by decide) (by decide)
theorem cEl_up {cy : Nat → ClassId} {B0 : Nat} {φ : Nat → Nat → Bool} {S : aS} {i j k : Nat} {x : Int} (h : ¬ k = i) : cEl cy B0 φ S k (LY k) = cEl cy B0 φ (upI S i j x) k (LY k) := by
  cases e : LY k with
  | inl y =>
    obtain ⟨c', fs'⟩ := y
    show Sum.inr (c', fs'.mapIdx (cFv B0 φ S k)) = Sum.inr (c', fs'.mapIdx (cFv B0 φ (upI S i j x) k))
    rw [mIdx_c (f := cFv B0 φ S k) (g := cFv B0 φ (upI S i j x) k) (fun b y _ => by
      cases y with
      | none =>
        show Value.int (Int32.ofInt (S.1 k b)) = Value.int (Int32.ofInt ((upI S i j x).1 k b))
        rw [up_obj h]
      | some r => rfl)]
  | inr y => exact (aE_upI (fun z => h z) (.inr y)).symm
section CR3
variable {p : Program} {l : Launch} {e : Env} {R : Room} {s : State} {m : MethodId} {args : Array Value} {below : List Frame} {meth : Method} {c : Code} {H : Heap} {locs : List Loc} {cells slots : Nat} {Q : State → Prop}
variable {cc : ByteArray} {pc : Nat} {ls : Array Slot} {rest : List Value} {D : va_G} {cy : Nat → ClassId} {B0 n : Nat} {φ : Nat → Nat → Bool} {S : aS} {H0 : Heap}
theorem cr_iast (hexec : p.tables.exec = Jvm.exec) (hb : c.code = cc) (hK : aKK D cy s) (hX : cX D cy B0 n φ S H0 H locs) {i N b j : Nat} {x : Int} (hi : i < n) (hLY : LY i = .inr (0, N, b)) (hj : j < N) (hN : N < 2000000) (hdg : decode cc pc = .ok (.iastore, 1))
    (kk : ∀ (H1 : Heap) (locs1 : List Loc), cX D cy B0 n φ (upI S i j x) H0 H1 locs1 → W p l e R s m args below meth c H1 locs1 cells slots Q (F0 m (pc + 1) ls rest)) : W p l e R s m args below meth c H locs cells slots Q (F0 m pc ls (.int (Int32.ofInt x) :: .int (Int32.ofInt (j : Int)) :: .ref (B0 + i) :: rest)) := by
  have he : (cWd cy B0 n φ S)[i]? = some (B0 + i, .inl (cy 0, N, .inl (fun a => Int32.ofInt (S.1 i a)))) := by
    rw [cWd_get hi, hLY]; rfl
  have hI : inI (j : Int) := by unfold inI; omega
  have ht : (Int32.ofInt (j : Int)).toNatClampNeg = j := by rw [toN hI (by omega)]; exact Int.toNat_natCast j
  refine W.iast hexec hb (hX.2.1 i _ he) ((hK.1.2 0 (cy 0, .int) rfl).1 N (fun a => .int (Int32.ofInt (S.1 i a)))) (fun q => by cases q) (by show ¬ (_ < 0 ∨ (arrV _ _ _).slots.size ≤ _); rw [arrV_size]; exact vp_in_j (n := N) hI (by omega) (by omega)) rfl rfl hdg fun H1 e1 z oq => ?_
  refine kk H1 _ ⟨by rw [z, hX.1], fun k q hq => ?_, hX.2.2.put z oq (show B0 ≤ B0 + i by omega)⟩
  obtain ⟨hk, rfl⟩ := cWd_inv hq
  by_cases hki : k = i
  · subst hki
    rw [hLY]
    show H1[B0 + k]? = some (arrV (cy 0) N (fun a => .int (Int32.ofInt ((upI S k j x).1 k a))))
    rw [e1]
    show some ((arrV (cy 0) N (fun a => .int (Int32.ofInt (S.1 k a)))).setSlot _ _) = _
    rw [arrV_store, ht]
    refine congrArg some (arrV_c fun a _ => ?_)
    unfold updV
    by_cases q : a = j
    · subst q
      rw [if_pos rfl, up_hit]
    · rw [if_neg q, up_cell q]
  · rw [← cEl_up hki]
    exact (hX.2.1 k _ (cWd_get hk)).kept (oq _ (by show B0 + k ≠ B0 + i; omega))
def snI (S : aS) (j : Nat) : aS := stA (stA S 209 (fun x => if x < j then -1 else S.1 209 x)) 210 (fun x => if x < j then -1 else S.1 210 x)
theorem snI_0 : snI S 0 = S := by
  refine st_ext (fun a b => ?_) (fun _ _ => rfl)
  unfold snI
  simp only [stA]
  by_cases h : a = 210
  · subst h; rw [if_pos rfl, if_neg (by omega)]
  · rw [if_neg h]
    by_cases h2 : a = 209
    · subst h2; rw [if_pos rfl, if_neg (by omega)]
    · rw [if_neg h2]
theorem snI_s {j : Nat} : upI (upI (snI S j) 209 j (-1)) 210 j (-1) = snI S (j + 1) := by
  refine st_ext (fun a b => ?_) (fun _ _ => rfl)
  unfold snI
  simp only [stA, upI, up2]
  by_cases h : a = 210
  · subst h
    by_cases hb : b = j
    · subst hb; simp
    · simp [hb, show (b < j + 1) = (b < j) from by apply propext; omega]
  · by_cases h2 : a = 209
    · subst h2
      by_cases hb : b = j
      · subst hb; simp
      · simp [hb, show (b < j + 1) = (b < j) from by apply propext; omega]
    · simp [h, h2]
theorem zS_sn {n j : Nat} {S : aS} (hn : 211 ≤ n) (h : zS n S) : zS n (snI S j) := (h.st (by omega)).st (by omega)
set_option maxHeartbeats 8000000 in
theorem lp_208 (hx : p.tables.exec = Jvm.exec) (hb : c.code = cX6_init) (hts : ∀ w ∈ gw, w.before args s = true) (hown : s.vm.findClass RX6 = some m.cls) (hK : aKK D cy s) (h0 : φ 208 0 = true) (h1 : φ 208 1 = true) (kk : ∀ (H : Heap) (locs : List Loc) (jl : Array Slot), cX D cy B0 211 φ (snI S 40) H0 H locs → W p l e R s m args below meth c H locs cells slots Q (F0 m 48 jl [])) : ∀ (q j : Nat), j + q = 40 → ∀ (H : Heap) (locs : List Loc) (jl : Array Slot), cX D cy B0 211 φ (snI S j) H0 H locs → lv_has jl 2 [(1, .int (Int32.ofInt (j : Int))), (0, .ref (B0 + 208))] → W p l e R s m args below meth c H locs cells slots Q (F0 m 22 jl []) := by
  intro q
  induction q with
  | zero =>
    intro j hj H locs jl hX hl
    have hj40 : j = 40 := by omega
    subst hj40
    refine lv_iload_n hx hb dX6_init_22 rfl (lv_at hl 0 rfl) ?_
    refine lv_bipush (v := Int32.ofInt 40) hx hb dX6_init_23 (by decide +kernel) ?_
    refine lv_icmp_ge (tgt := 48) hx hb dX6_init_25 (by decide) (fun c1 => ?_) (fun c1 => ?_)
    · exact kk H locs jl hX
    · exact absurd (by decide +kernel) c1
  | succ q ih =>
    intro j hj H locs jl hX hl
    refine lv_iload_n hx hb dX6_init_22 rfl (lv_at hl 0 rfl) ?_
    refine lv_bipush (v := Int32.ofInt 40) hx hb dX6_init_23 (by decide +kernel) ?_
    refine lv_icmp_ge (tgt := 48) hx hb dX6_init_25 (by decide) (fun c1 => ?_) (fun c1 => ?_)
    · exfalso
      have h3 := (c_le (a := 40) (b := (j : Int)) (by unfold inI; omega) (by unfold inI; omega)).mp c1
      omega
    · refine lv_aload_n hx hb dX6_init_28 rfl (lv_at hl 1 rfl) ?_
      refine cr_get (r := 209) (i := 208) (C := RX6) (T := TX6) (N := 2) (ci := 6) hx hb hts inX6 hown hK hX (by decide) LY_208 rfl 0 (by decide) rfl h0 (in_1 (List.mem_of_getElem? (i := 188) rfl) rfl) dX6_init_29 ?_
      refine lv_iload_n hx hb dX6_init_32 rfl (lv_at hl 0 rfl) ?_
      refine lv_iconst (v := Int32.ofInt (-1)) hx hb dX6_init_33 (by decide +kernel) ?_
      refine cr_iast (i := 209) (N := 40) (b := 0) (j := j) (x := -1) hx hb hK hX (by decide) LY_209 (by omega) (by decide) dX6_init_34 (fun H locs hX => ?_)
      refine lv_aload_n hx hb dX6_init_35 rfl (lv_at hl 1 rfl) ?_
      refine cr_get (r := 210) (i := 208) (C := RX6) (T := TX6) (N := 2) (ci := 6) hx hb hts inX6 hown hK hX (by decide) LY_208 rfl 1 (by decide) rfl h1 (in_1 (List.mem_of_getElem? (i := 191) rfl) rfl) dX6_init_36 ?_
      refine lv_iload_n hx hb dX6_init_39 rfl (lv_at hl 0 rfl) ?_
      refine lv_iconst (v := Int32.ofInt (-1)) hx hb dX6_init_40 (by decide +kernel) ?_
      refine cr_iast (i := 210) (N := 40) (b := 0) (j := j) (x := -1) hx hb hK hX (by decide) LY_210 (by omega) (by decide) dX6_init_41 (fun H locs hX => ?_)
      rw [snI_s] at hX
      have eadd : Int32.ofInt (j : Int) + Int32.ofInt 1 = Int32.ofInt ((j + 1 : Nat) : Int) := by
        rw [← Int32.ofInt_add]; rfl
      refine lv_iinc (v := Int32.ofInt ((j + 1 : Nat) : Int)) (lv' := [(1, .int (Int32.ofInt ((j + 1 : Nat) : Int))), (0, .ref (B0 + 208))]) hx hb dX6_init_42 hl (k := 0) rfl eadd (by decide) rfl (fun jl hl => ?_)
      refine lv_goto (tgt := 22) hx hb dX6_init_45 (by decide) ?_
      exact ih (j + 1) (by omega) H locs jl hX hl
end CR3
set_option maxRecDepth 20000 in
set_option maxHeartbeats 8000000 in
theorem ct_208 (l : Launch) {φ : Nat → Nat → Bool} {S : aS} (hφ : zF 209 φ) (hS : zS 209 S) : cMt l mI_X6 2 80 208 [] 209 211 φ (stO φ 208) S (snI S 40) := by
  refine cMt_of (by decide +kernel) rfl rfl (by decide) fun D cy B0 p e R s m args below meth c jl hx hb hr hml hown hts hin hlocks hK hN hX hl hR => ?_
  obtain ⟨hR1, hR2, hR3, hR4⟩ : 1 ≤ R.frames ∧ 12 ≤ R.locals ∧ 2 ≤ R.cells ∧ 80 ≤ R.slots := hR
  have hl : lv_has jl 2 [(0, .ref (B0 + 208))] := hl
  refine lv_aload_n hx hb dX6_init_0 rfl (lv_at hl 0 rfl) ?_
  refine cr_obj hx hb hown hts (in_1 (List.mem_of_getElem? (i := 187) rfl) rfl) (in_1 (List.mem_of_getElem? (i := 21) rfl) rfl) (in_1 (List.mem_of_getElem? (i := 22) rfl) rfl) hml hl.1 dX6_init_1 (by omega) (by omega) ?_
  refine lv_aload_n hx hb dX6_init_4 rfl (lv_at hl 0 rfl) ?_
  refine lv_bipush (v := Int32.ofInt 40) hx hb dX6_init_5 (by decide +kernel) ?_
  refine cr_newa (atype := .int) (N := 40) (t := 0) (b := 0) hx hb (in_1 (List.mem_of_getElem? (i := 37) rfl) rfl) hts hK hX LY_209 rfl (hS 209 (by decide)).1 (hS 209 (by decide)).2 (by decide +kernel) (by decide +kernel) (Or.inl ⟨by decide, rfl⟩) (by decide) (by omega) (by omega) dX6_init_7 (fun H hX => ?_)
  refine cr_putr (r := 209) (i := 208) (C := RX6) (T := TX6) (N := 2) (ci := 6) hx hb hts inX6 tyX6 tyX6_ok nmX6 hown hK hX (by decide) LY_208 rfl 0 (by decide) rfl rfl (in_1 (List.mem_of_getElem? (i := 188) rfl) rfl) rfl hin rfl (tyX6_ok 0 (by decide)) rfl rfl dX6_init_9 (fun H locs hX => ?_)
  refine lv_aload_n hx hb dX6_init_12 rfl (lv_at hl 0 rfl) ?_
  refine lv_bipush (v := Int32.ofInt 40) hx hb dX6_init_13 (by decide +kernel) ?_
  refine cr_newa (atype := .int) (N := 40) (t := 0) (b := 0) hx hb (in_1 (List.mem_of_getElem? (i := 37) rfl) rfl) hts hK hX LY_210 rfl (hS 210 (by decide)).1 (hS 210 (by decide)).2 (by decide +kernel) (by decide +kernel) (Or.inl ⟨by decide, rfl⟩) (by decide) (by omega) (by omega) dX6_init_15 (fun H hX => ?_)
  refine cr_putr (r := 210) (i := 208) (C := RX6) (T := TX6) (N := 2) (ci := 6) hx hb hts inX6 tyX6 tyX6_ok nmX6 hown hK hX (by decide) LY_208 rfl 1 (by decide) rfl rfl (in_1 (List.mem_of_getElem? (i := 191) rfl) rfl) rfl hin rfl (tyX6_ok 1 (by decide)) rfl rfl dX6_init_17 (fun H locs hX => ?_)
  have hX := hX
  refine lv_iconst (v := Int32.ofInt 0) hx hb dX6_init_20 (by decide +kernel) ?_
  refine lv_istore_n (lv' := [(1, .int (Int32.ofInt 0)), (0, .ref (B0 + 208))]) hx hb dX6_init_21 rfl hl (by decide) rfl (fun jl hl => ?_)
  refine lp_208 (φ := upB (upB φ 208 0) 208 1) hx hb hts hown hK (by simp [upB]) (by simp [upB]) (fun H locs jl hX => ?_) 40 0 rfl H _ jl (by rw [snI_0]; exact hX) hl
  have hX := cX_O (φ' := (stO φ 208)) hX LY_208 (fun k r hk => match k, hk with | 0, hk => by simp [upB, stO] | 1, hk => by simp [upB, stO] | (q + 2), hk => absurd hk (by simp)) (fun k => by simp [stO]) (fun a ha => funext fun b => by simp [stO, upB, ha])
  exact cr_ret hx hb hr hX hlocks dX6_init_48 (by decide) (by decide)
set_option maxRecDepth 20000 in
set_option maxHeartbeats 8000000 in
theorem ct_211 (l : Launch) {φ : Nat → Nat → Bool} {S : aS} (hφ : zF 212 φ) (hS : zS 212 S) : cMt l mI_X9 7 280 211 [.inr (.inr 3), .inr (.inr 81), .inr (.inr 208)] 212 219 φ (stO φ 211) S S := by
  refine cMt_of (by decide +kernel) rfl rfl (by decide) fun D cy B0 p e R s m args below meth c jl hx hb hr hml hown hts hin hlocks hK hN hX hl hR => ?_
  obtain ⟨hR1, hR2, hR3, hR4⟩ : 1 ≤ R.frames ∧ 12 ≤ R.locals ∧ 7 ≤ R.cells ∧ 280 ≤ R.slots := hR
  have hl : lv_has jl 4 [(0, .ref (B0 + 211)), (1, .ref (B0 + 3)), (2, .ref (B0 + 81)), (3, .ref (B0 + 208))] := hl
  refine lv_aload_n hx hb dX9_init_0 rfl (lv_at hl 0 rfl) ?_
  refine cr_obj hx hb hown hts (in_1 (List.mem_of_getElem? (i := 205) rfl) rfl) (in_1 (List.mem_of_getElem? (i := 21) rfl) rfl) (in_1 (List.mem_of_getElem? (i := 22) rfl) rfl) hml hl.1 dX9_init_1 (by omega) (by omega) ?_
  refine lv_aload_n hx hb dX9_init_4 rfl (lv_at hl 0 rfl) ?_
  refine lv_bipush (v := Int32.ofInt 40) hx hb dX9_init_5 (by decide +kernel) ?_
  refine cr_newa (atype := .int) (N := 40) (t := 0) (b := 0) hx hb (in_1 (List.mem_of_getElem? (i := 37) rfl) rfl) hts hK hX LY_212 rfl (hS 212 (by decide)).1 (hS 212 (by decide)).2 (by decide +kernel) (by decide +kernel) (Or.inl ⟨by decide, rfl⟩) (by decide) (by omega) (by omega) dX9_init_7 (fun H hX => ?_)
  refine cr_putr (r := 212) (i := 211) (C := RX9) (T := TX9) (N := 10) (ci := 9) hx hb hts inX9 tyX9 tyX9_ok nmX9 hown hK hX (by decide) LY_211 rfl 3 (by decide) rfl rfl (in_1 (List.mem_of_getElem? (i := 209) rfl) rfl) rfl hin rfl (tyX9_ok 3 (by decide)) rfl rfl dX9_init_9 (fun H locs hX => ?_)
  refine lv_aload_n hx hb dX9_init_12 rfl (lv_at hl 0 rfl) ?_
  refine lv_bipush (v := Int32.ofInt 40) hx hb dX9_init_13 (by decide +kernel) ?_
  refine cr_newa (atype := .int) (N := 40) (t := 0) (b := 0) hx hb (in_1 (List.mem_of_getElem? (i := 37) rfl) rfl) hts hK hX LY_213 rfl (hS 213 (by decide)).1 (hS 213 (by decide)).2 (by decide +kernel) (by decide +kernel) (Or.inl ⟨by decide, rfl⟩) (by decide) (by omega) (by omega) dX9_init_15 (fun H hX => ?_)
  refine cr_putr (r := 213) (i := 211) (C := RX9) (T := TX9) (N := 10) (ci := 9) hx hb hts inX9 tyX9 tyX9_ok nmX9 hown hK hX (by decide) LY_211 rfl 4 (by decide) rfl rfl (in_1 (List.mem_of_getElem? (i := 211) rfl) rfl) rfl hin rfl (tyX9_ok 4 (by decide)) rfl rfl dX9_init_17 (fun H locs hX => ?_)
  refine lv_aload_n hx hb dX9_init_20 rfl (lv_at hl 0 rfl) ?_
  refine lv_bipush (v := Int32.ofInt 40) hx hb dX9_init_21 (by decide +kernel) ?_
  refine cr_newa (atype := .int) (N := 40) (t := 0) (b := 0) hx hb (in_1 (List.mem_of_getElem? (i := 37) rfl) rfl) hts hK hX LY_214 rfl (hS 214 (by decide)).1 (hS 214 (by decide)).2 (by decide +kernel) (by decide +kernel) (Or.inl ⟨by decide, rfl⟩) (by decide) (by omega) (by omega) dX9_init_23 (fun H hX => ?_)
  refine cr_putr (r := 214) (i := 211) (C := RX9) (T := TX9) (N := 10) (ci := 9) hx hb hts inX9 tyX9 tyX9_ok nmX9 hown hK hX (by decide) LY_211 rfl 5 (by decide) rfl rfl (in_1 (List.mem_of_getElem? (i := 212) rfl) rfl) rfl hin rfl (tyX9_ok 5 (by decide)) rfl rfl dX9_init_25 (fun H locs hX => ?_)
  refine lv_aload_n hx hb dX9_init_28 rfl (lv_at hl 0 rfl) ?_
  refine lv_bipush (v := Int32.ofInt 40) hx hb dX9_init_29 (by decide +kernel) ?_
  refine cr_newa (atype := .int) (N := 40) (t := 0) (b := 0) hx hb (in_1 (List.mem_of_getElem? (i := 37) rfl) rfl) hts hK hX LY_215 rfl (hS 215 (by decide)).1 (hS 215 (by decide)).2 (by decide +kernel) (by decide +kernel) (Or.inl ⟨by decide, rfl⟩) (by decide) (by omega) (by omega) dX9_init_31 (fun H hX => ?_)
  refine cr_putr (r := 215) (i := 211) (C := RX9) (T := TX9) (N := 10) (ci := 9) hx hb hts inX9 tyX9 tyX9_ok nmX9 hown hK hX (by decide) LY_211 rfl 6 (by decide) rfl rfl (in_1 (List.mem_of_getElem? (i := 215) rfl) rfl) rfl hin rfl (tyX9_ok 6 (by decide)) rfl rfl dX9_init_33 (fun H locs hX => ?_)
  refine lv_aload_n hx hb dX9_init_36 rfl (lv_at hl 0 rfl) ?_
  refine lv_bipush (v := Int32.ofInt 40) hx hb dX9_init_37 (by decide +kernel) ?_
  refine cr_newa (atype := .int) (N := 40) (t := 0) (b := 0) hx hb (in_1 (List.mem_of_getElem? (i := 37) rfl) rfl) hts hK hX LY_216 rfl (hS 216 (by decide)).1 (hS 216 (by decide)).2 (by decide +kernel) (by decide +kernel) (Or.inl ⟨by decide, rfl⟩) (by decide) (by omega) (by omega) dX9_init_39 (fun H hX => ?_)
  refine cr_putr (r := 216) (i := 211) (C := RX9) (T := TX9) (N := 10) (ci := 9) hx hb hts inX9 tyX9 tyX9_ok nmX9 hown hK hX (by decide) LY_211 rfl 7 (by decide) rfl rfl (in_1 (List.mem_of_getElem? (i := 217) rfl) rfl) rfl hin rfl (tyX9_ok 7 (by decide)) rfl rfl dX9_init_41 (fun H locs hX => ?_)
  refine lv_aload_n hx hb dX9_init_44 rfl (lv_at hl 0 rfl) ?_
  refine lv_bipush (v := Int32.ofInt 40) hx hb dX9_init_45 (by decide +kernel) ?_
  refine cr_newa (atype := .int) (N := 40) (t := 0) (b := 0) hx hb (in_1 (List.mem_of_getElem? (i := 37) rfl) rfl) hts hK hX LY_217 rfl (hS 217 (by decide)).1 (hS 217 (by decide)).2 (by decide +kernel) (by decide +kernel) (Or.inl ⟨by decide, rfl⟩) (by decide) (by omega) (by omega) dX9_init_47 (fun H hX => ?_)
  refine cr_putr (r := 217) (i := 211) (C := RX9) (T := TX9) (N := 10) (ci := 9) hx hb hts inX9 tyX9 tyX9_ok nmX9 hown hK hX (by decide) LY_211 rfl 8 (by decide) rfl rfl (in_1 (List.mem_of_getElem? (i := 219) rfl) rfl) rfl hin rfl (tyX9_ok 8 (by decide)) rfl rfl dX9_init_49 (fun H locs hX => ?_)
  refine lv_aload_n hx hb dX9_init_52 rfl (lv_at hl 0 rfl) ?_
  refine lv_bipush (v := Int32.ofInt 40) hx hb dX9_init_53 (by decide +kernel) ?_
  refine cr_newa (atype := .int) (N := 40) (t := 0) (b := 0) hx hb (in_1 (List.mem_of_getElem? (i := 37) rfl) rfl) hts hK hX LY_218 rfl (hS 218 (by decide)).1 (hS 218 (by decide)).2 (by decide +kernel) (by decide +kernel) (Or.inl ⟨by decide, rfl⟩) (by decide) (by omega) (by omega) dX9_init_55 (fun H hX => ?_)
  refine cr_putr (r := 218) (i := 211) (C := RX9) (T := TX9) (N := 10) (ci := 9) hx hb hts inX9 tyX9 tyX9_ok nmX9 hown hK hX (by decide) LY_211 rfl 9 (by decide) rfl rfl (in_1 (List.mem_of_getElem? (i := 221) rfl) rfl) rfl hin rfl (tyX9_ok 9 (by decide)) rfl rfl dX9_init_57 (fun H locs hX => ?_)
  refine lv_aload_n hx hb dX9_init_60 rfl (lv_at hl 0 rfl) ?_
  refine lv_aload_n hx hb dX9_init_61 rfl (lv_at hl 1 rfl) ?_
  refine cr_putr (r := 3) (i := 211) (C := RX9) (T := TX9) (N := 10) (ci := 9) hx hb hts inX9 tyX9 tyX9_ok nmX9 hown hK hX (by decide) LY_211 rfl 0 (by decide) rfl rfl (in_1 (List.mem_of_getElem? (i := 206) rfl) rfl) rfl hin rfl (tyX9_ok 0 (by decide)) rfl rfl dX9_init_62 (fun H locs hX => ?_)
  refine lv_aload_n hx hb dX9_init_65 rfl (lv_at hl 0 rfl) ?_
  refine lv_aload_n hx hb dX9_init_66 rfl (lv_at hl 2 rfl) ?_
  refine cr_putr (r := 81) (i := 211) (C := RX9) (T := TX9) (N := 10) (ci := 9) hx hb hts inX9 tyX9 tyX9_ok nmX9 hown hK hX (by decide) LY_211 rfl 1 (by decide) rfl rfl (in_1 (List.mem_of_getElem? (i := 207) rfl) rfl) rfl hin rfl (tyX9_ok 1 (by decide)) rfl rfl dX9_init_67 (fun H locs hX => ?_)
  refine lv_aload_n hx hb dX9_init_70 rfl (lv_at hl 0 rfl) ?_
  refine lv_aload_n hx hb dX9_init_71 rfl (lv_at hl 3 rfl) ?_
  refine cr_putr (r := 208) (i := 211) (C := RX9) (T := TX9) (N := 10) (ci := 9) hx hb hts inX9 tyX9 tyX9_ok nmX9 hown hK hX (by decide) LY_211 rfl 2 (by decide) rfl rfl (in_1 (List.mem_of_getElem? (i := 208) rfl) rfl) rfl hin rfl (tyX9_ok 2 (by decide)) rfl rfl dX9_init_72 (fun H locs hX => ?_)
  have hX := cX_O (φ' := (stO φ 211)) hX LY_211 (fun k r hk => match k, hk with | 0, hk => by simp [upB, stO] | 1, hk => by simp [upB, stO] | 2, hk => by simp [upB, stO] | 3, hk => by simp [upB, stO] | 4, hk => by simp [upB, stO] | 5, hk => by simp [upB, stO] | 6, hk => by simp [upB, stO] | 7, hk => by simp [upB, stO] | 8, hk => by simp [upB, stO] | 9, hk => by simp [upB, stO] | (q + 10), hk => absurd hk (by simp)) (fun k => by simp [stO]) (fun a ha => funext fun b => by simp [stO, upB, ha])
  exact cr_ret hx hb hr hX hlocks dX9_init_75 (by decide) (by decide)
set_option maxRecDepth 20000 in
set_option maxHeartbeats 8000000 in
theorem ct_219 (l : Launch) {φ : Nat → Nat → Bool} {S : aS} (hφ : zF 220 φ) (hS : zS 220 S) : cMt l mI_X3 2 40 219 [] 220 222 φ (stO φ 219) S S := by
  refine cMt_of (by decide +kernel) rfl rfl (by decide) fun D cy B0 p e R s m args below meth c jl hx hb hr hml hown hts hin hlocks hK hN hX hl hR => ?_
  obtain ⟨hR1, hR2, hR3, hR4⟩ : 1 ≤ R.frames ∧ 12 ≤ R.locals ∧ 2 ≤ R.cells ∧ 40 ≤ R.slots := hR
  have hl : lv_has jl 1 [(0, .ref (B0 + 219))] := hl
  refine lv_aload_n hx hb dX3_init_0 rfl (lv_at hl 0 rfl) ?_
  refine cr_obj hx hb hown hts (in_2 (List.mem_of_getElem? (i := 10) rfl) rfl) (in_1 (List.mem_of_getElem? (i := 21) rfl) rfl) (in_1 (List.mem_of_getElem? (i := 22) rfl) rfl) hml hl.1 dX3_init_1 (by omega) (by omega) ?_
  refine lv_aload_n hx hb dX3_init_4 rfl (lv_at hl 0 rfl) ?_
  refine lv_bipush (v := Int32.ofInt 20) hx hb dX3_init_5 (by decide +kernel) ?_
  refine cr_newa (atype := .int) (N := 20) (t := 0) (b := 0) hx hb (in_1 (List.mem_of_getElem? (i := 37) rfl) rfl) hts hK hX LY_220 rfl (hS 220 (by decide)).1 (hS 220 (by decide)).2 (by decide +kernel) (by decide +kernel) (Or.inl ⟨by decide, rfl⟩) (by decide) (by omega) (by omega) dX3_init_7 (fun H hX => ?_)
  refine cr_putr (r := 220) (i := 219) (C := RX3) (T := TX3) (N := 3) (ci := 3) hx hb hts inX3 tyX3 tyX3_ok nmX3 hown hK hX (by decide) LY_219 rfl 0 (by decide) rfl rfl (in_2 (List.mem_of_getElem? (i := 11) rfl) rfl) rfl hin rfl (tyX3_ok 0 (by decide)) rfl rfl dX3_init_9 (fun H locs hX => ?_)
  refine lv_aload_n hx hb dX3_init_12 rfl (lv_at hl 0 rfl) ?_
  refine lv_bipush (v := Int32.ofInt 20) hx hb dX3_init_13 (by decide +kernel) ?_
  refine cr_newa (atype := .int) (N := 20) (t := 0) (b := 0) hx hb (in_1 (List.mem_of_getElem? (i := 37) rfl) rfl) hts hK hX LY_221 rfl (hS 221 (by decide)).1 (hS 221 (by decide)).2 (by decide +kernel) (by decide +kernel) (Or.inl ⟨by decide, rfl⟩) (by decide) (by omega) (by omega) dX3_init_15 (fun H hX => ?_)
  refine cr_putr (r := 221) (i := 219) (C := RX3) (T := TX3) (N := 3) (ci := 3) hx hb hts inX3 tyX3 tyX3_ok nmX3 hown hK hX (by decide) LY_219 rfl 1 (by decide) rfl rfl (in_2 (List.mem_of_getElem? (i := 14) rfl) rfl) rfl hin rfl (tyX3_ok 1 (by decide)) rfl rfl dX3_init_17 (fun H locs hX => ?_)
  have hX := cX_O (φ' := (stO φ 219)) hX LY_219 (fun k r hk => match k, hk with | 0, hk => by simp [upB, stO] | 1, hk => by simp [upB, stO] | 2, hk => nomatch hk | (q + 3), hk => absurd hk (by simp)) (fun k => by simp [stO]) (fun a ha => funext fun b => by simp [stO, upB, ha])
  exact cr_ret hx hb hr hX hlocks dX3_init_20 (by decide) (by decide)
set_option maxRecDepth 20000 in
set_option maxHeartbeats 8000000 in
theorem ct_222 (l : Launch) {φ : Nat → Nat → Bool} {S : aS} (hφ : zF 223 φ) (hS : zS 223 S) : cMt l mI_X1 19 1944 222 [.inr (.inr 81)] 223 242 φ (stO φ 222) S S := by
  refine cMt_of (by decide +kernel) rfl rfl (by decide) fun D cy B0 p e R s m args below meth c jl hx hb hr hml hown hts hin hlocks hK hN hX hl hR => ?_
  obtain ⟨hR1, hR2, hR3, hR4⟩ : 1 ≤ R.frames ∧ 12 ≤ R.locals ∧ 19 ≤ R.cells ∧ 1944 ≤ R.slots := hR
  have hl : lv_has jl 2 [(0, .ref (B0 + 222)), (1, .ref (B0 + 81))] := hl
  refine lv_aload_n hx hb dX1_init_0 rfl (lv_at hl 0 rfl) ?_
  refine cr_obj hx hb hown hts (in_2 (List.mem_of_getElem? (i := 32) rfl) rfl) (in_1 (List.mem_of_getElem? (i := 21) rfl) rfl) (in_1 (List.mem_of_getElem? (i := 22) rfl) rfl) hml hl.1 dX1_init_1 (by omega) (by omega) ?_
  refine lv_aload_n hx hb dX1_init_4 rfl (lv_at hl 0 rfl) ?_
  refine lv_bipush (v := Int32.ofInt 8) hx hb dX1_init_5 (by decide +kernel) ?_
  refine cr_newa (atype := .int) (N := 8) (t := 0) (b := 0) hx hb (in_1 (List.mem_of_getElem? (i := 37) rfl) rfl) hts hK hX LY_223 rfl (hS 223 (by decide)).1 (hS 223 (by decide)).2 (by decide +kernel) (by decide +kernel) (Or.inl ⟨by decide, rfl⟩) (by decide) (by omega) (by omega) dX1_init_7 (fun H hX => ?_)
  refine cr_putr (r := 223) (i := 222) (C := RX1) (T := TX1) (N := 5) (ci := 1) hx hb hts inX1 tyX1 tyX1_ok nmX1 hown hK hX (by decide) LY_222 rfl 1 (by decide) rfl rfl (in_2 (List.mem_of_getElem? (i := 36) rfl) rfl) rfl hin rfl (tyX1_ok 1 (by decide)) rfl rfl dX1_init_9 (fun H locs hX => ?_)
  refine lv_aload_n hx hb dX1_init_12 rfl (lv_at hl 0 rfl) ?_
  refine lv_bipush (v := Int32.ofInt 8) hx hb dX1_init_13 (by decide +kernel) ?_
  refine lv_bipush (v := Int32.ofInt 120) hx hb dX1_init_15 (by decide +kernel) ?_
  refine cr_mna (ty := .int) (t0 := 4) (t := 0) (N := 8) (M := 120) hx hb hown (in_2 (List.mem_of_getElem? (i := 33) rfl) rfl) hN.2.1 (in_1 (List.mem_of_getElem? (i := 37) rfl) rfl) hts hK hX LY_224 (by decide) rfl (fun j hj => LYr_225 hj) (Or.inl ⟨rfl, rfl⟩) rfl (hS.mono (by decide)) (by decide +kernel) (by decide +kernel) (by decide +kernel) (by decide +kernel) (by decide) (by decide) (by decide) (by omega) (by omega) dX1_init_17 (fun H hX => ?_)
  refine cr_putr (r := 224) (i := 222) (C := RX1) (T := TX1) (N := 5) (ci := 1) hx hb hts inX1 tyX1 tyX1_ok nmX1 hown hK hX (by decide) LY_222 rfl 2 (by decide) rfl rfl (in_2 (List.mem_of_getElem? (i := 37) rfl) rfl) rfl hin rfl (tyX1_ok 2 (by decide)) rfl rfl dX1_init_21 (fun H locs hX => ?_)
  refine lv_aload_n hx hb dX1_init_24 rfl (lv_at hl 0 rfl) ?_
  refine lv_bipush (v := Int32.ofInt 8) hx hb dX1_init_25 (by decide +kernel) ?_
  refine lv_bipush (v := Int32.ofInt 120) hx hb dX1_init_27 (by decide +kernel) ?_
  refine cr_mna (ty := .int) (t0 := 4) (t := 0) (N := 8) (M := 120) hx hb hown (in_2 (List.mem_of_getElem? (i := 33) rfl) rfl) hN.2.1 (in_1 (List.mem_of_getElem? (i := 37) rfl) rfl) hts hK hX LY_233 (by decide) rfl (fun j hj => LYr_234 hj) (Or.inl ⟨rfl, rfl⟩) rfl (hS.mono (by decide)) (by decide +kernel) (by decide +kernel) (by decide +kernel) (by decide +kernel) (by decide) (by decide) (by decide) (by omega) (by omega) dX1_init_29 (fun H hX => ?_)
  refine cr_putr (r := 233) (i := 222) (C := RX1) (T := TX1) (N := 5) (ci := 1) hx hb hts inX1 tyX1 tyX1_ok nmX1 hown hK hX (by decide) LY_222 rfl 3 (by decide) rfl rfl (in_2 (List.mem_of_getElem? (i := 38) rfl) rfl) rfl hin rfl (tyX1_ok 3 (by decide)) rfl rfl dX1_init_33 (fun H locs hX => ?_)
  refine lv_aload_n hx hb dX1_init_36 rfl (lv_at hl 0 rfl) ?_
  refine lv_aload_n hx hb dX1_init_37 rfl (lv_at hl 1 rfl) ?_
  refine cr_putr (r := 81) (i := 222) (C := RX1) (T := TX1) (N := 5) (ci := 1) hx hb hts inX1 tyX1 tyX1_ok nmX1 hown hK hX (by decide) LY_222 rfl 0 (by decide) rfl rfl (in_2 (List.mem_of_getElem? (i := 35) rfl) rfl) rfl hin rfl (tyX1_ok 0 (by decide)) rfl rfl dX1_init_38 (fun H locs hX => ?_)
  have hX := cX_O (φ' := (stO φ 222)) hX LY_222 (fun k r hk => match k, hk with | 0, hk => by simp [upB, stO] | 1, hk => by simp [upB, stO] | 2, hk => by simp [upB, stO] | 3, hk => by simp [upB, stO] | 4, hk => nomatch hk | (q + 5), hk => absurd hk (by simp)) (fun k => by simp [stO]) (fun a ha => funext fun b => by simp [stO, upB, ha])
  exact cr_ret hx hb hr hX hlocks dX1_init_41 (by decide) (by decide)
set_option maxRecDepth 20000 in
set_option maxHeartbeats 8000000 in
theorem ct_242 (l : Launch) {φ : Nat → Nat → Bool} {S : aS} (hφ : zF 243 φ) (hS : zS 243 S) : cMt l mI_X4 2 8040 242 [.inr (.inr 14), .inr (.inr 81), .inr (.inr 208), .inr (.inr 211), .inr (.inr 219)] 243 245 φ (stO φ 242) S S := by
  refine cMt_of (by decide +kernel) rfl rfl (by decide) fun D cy B0 p e R s m args below meth c jl hx hb hr hml hown hts hin hlocks hK hN hX hl hR => ?_
  obtain ⟨hR1, hR2, hR3, hR4⟩ : 1 ≤ R.frames ∧ 12 ≤ R.locals ∧ 2 ≤ R.cells ∧ 8040 ≤ R.slots := hR
  have hl : lv_has jl 6 [(0, .ref (B0 + 242)), (1, .ref (B0 + 14)), (2, .ref (B0 + 81)), (3, .ref (B0 + 208)), (4, .ref (B0 + 211)), (5, .ref (B0 + 219))] := hl
  refine lv_aload_n hx hb dX4_init_0 rfl (lv_at hl 0 rfl) ?_
  refine cr_obj hx hb hown hts (in_2 (List.mem_of_getElem? (i := 57) rfl) rfl) (in_1 (List.mem_of_getElem? (i := 21) rfl) rfl) (in_1 (List.mem_of_getElem? (i := 22) rfl) rfl) hml hl.1 dX4_init_1 (by omega) (by omega) ?_
  refine lv_aload_n hx hb dX4_init_4 rfl (lv_at hl 0 rfl) ?_
  refine lv_sipush (v := Int32.ofInt 8000) hx hb dX4_init_5 (by decide +kernel) ?_
  refine cr_newa (atype := .byte) (N := 8000) (t := 1) (b := 0) hx hb (in_2 (List.mem_of_getElem? (i := 83) rfl) rfl) hts hK hX LY_243 rfl (hS 243 (by decide)).1 (hS 243 (by decide)).2 (by decide +kernel) (by decide +kernel) (Or.inl ⟨by decide, rfl⟩) (by decide) (by omega) (by omega) dX4_init_8 (fun H hX => ?_)
  refine cr_putr (r := 243) (i := 242) (C := RX4) (T := TX4) (N := 8) (ci := 4) hx hb hts inX4 tyX4 tyX4_ok nmX4 hown hK hX (by decide) LY_242 rfl 5 (by decide) rfl rfl (in_2 (List.mem_of_getElem? (i := 63) rfl) rfl) rfl hin rfl (tyX4_ok 5 (by decide)) rfl rfl dX4_init_10 (fun H locs hX => ?_)
  refine lv_aload_n hx hb dX4_init_13 rfl (lv_at hl 0 rfl) ?_
  refine lv_bipush (v := Int32.ofInt 40) hx hb dX4_init_14 (by decide +kernel) ?_
  refine cr_newa (atype := .int) (N := 40) (t := 0) (b := 0) hx hb (in_1 (List.mem_of_getElem? (i := 37) rfl) rfl) hts hK hX LY_244 rfl (hS 244 (by decide)).1 (hS 244 (by decide)).2 (by decide +kernel) (by decide +kernel) (Or.inl ⟨by decide, rfl⟩) (by decide) (by omega) (by omega) dX4_init_16 (fun H hX => ?_)
  refine cr_putr (r := 244) (i := 242) (C := RX4) (T := TX4) (N := 8) (ci := 4) hx hb hts inX4 tyX4 tyX4_ok nmX4 hown hK hX (by decide) LY_242 rfl 6 (by decide) rfl rfl (in_2 (List.mem_of_getElem? (i := 64) rfl) rfl) rfl hin rfl (tyX4_ok 6 (by decide)) rfl rfl dX4_init_18 (fun H locs hX => ?_)
  refine lv_aload_n hx hb dX4_init_21 rfl (lv_at hl 0 rfl) ?_
  refine lv_aload_n hx hb dX4_init_22 rfl (lv_at hl 1 rfl) ?_
  refine cr_putr (r := 14) (i := 242) (C := RX4) (T := TX4) (N := 8) (ci := 4) hx hb hts inX4 tyX4 tyX4_ok nmX4 hown hK hX (by decide) LY_242 rfl 0 (by decide) rfl rfl (in_2 (List.mem_of_getElem? (i := 58) rfl) rfl) rfl hin rfl (tyX4_ok 0 (by decide)) rfl rfl dX4_init_23 (fun H locs hX => ?_)
  refine lv_aload_n hx hb dX4_init_26 rfl (lv_at hl 0 rfl) ?_
  refine lv_aload_n hx hb dX4_init_27 rfl (lv_at hl 2 rfl) ?_
  refine cr_putr (r := 81) (i := 242) (C := RX4) (T := TX4) (N := 8) (ci := 4) hx hb hts inX4 tyX4 tyX4_ok nmX4 hown hK hX (by decide) LY_242 rfl 1 (by decide) rfl rfl (in_2 (List.mem_of_getElem? (i := 59) rfl) rfl) rfl hin rfl (tyX4_ok 1 (by decide)) rfl rfl dX4_init_28 (fun H locs hX => ?_)
  refine lv_aload_n hx hb dX4_init_31 rfl (lv_at hl 0 rfl) ?_
  refine lv_aload_n hx hb dX4_init_32 rfl (lv_at hl 3 rfl) ?_
  refine cr_putr (r := 208) (i := 242) (C := RX4) (T := TX4) (N := 8) (ci := 4) hx hb hts inX4 tyX4 tyX4_ok nmX4 hown hK hX (by decide) LY_242 rfl 2 (by decide) rfl rfl (in_2 (List.mem_of_getElem? (i := 60) rfl) rfl) rfl hin rfl (tyX4_ok 2 (by decide)) rfl rfl dX4_init_33 (fun H locs hX => ?_)
  refine lv_aload_n hx hb dX4_init_36 rfl (lv_at hl 0 rfl) ?_
  refine lv_aload hx hb dX4_init_37 (lv_at hl 4 rfl) ?_
  refine cr_putr (r := 211) (i := 242) (C := RX4) (T := TX4) (N := 8) (ci := 4) hx hb hts inX4 tyX4 tyX4_ok nmX4 hown hK hX (by decide) LY_242 rfl 3 (by decide) rfl rfl (in_2 (List.mem_of_getElem? (i := 61) rfl) rfl) rfl hin rfl (tyX4_ok 3 (by decide)) rfl rfl dX4_init_39 (fun H locs hX => ?_)
  refine lv_aload_n hx hb dX4_init_42 rfl (lv_at hl 0 rfl) ?_
  refine lv_aload hx hb dX4_init_43 (lv_at hl 5 rfl) ?_
  refine cr_putr (r := 219) (i := 242) (C := RX4) (T := TX4) (N := 8) (ci := 4) hx hb hts inX4 tyX4 tyX4_ok nmX4 hown hK hX (by decide) LY_242 rfl 4 (by decide) rfl rfl (in_2 (List.mem_of_getElem? (i := 62) rfl) rfl) rfl hin rfl (tyX4_ok 4 (by decide)) rfl rfl dX4_init_45 (fun H locs hX => ?_)
  have hX := cX_O (φ' := (stO φ 242)) hX LY_242 (fun k r hk => match k, hk with | 0, hk => by simp [upB, stO] | 1, hk => by simp [upB, stO] | 2, hk => by simp [upB, stO] | 3, hk => by simp [upB, stO] | 4, hk => by simp [upB, stO] | 5, hk => by simp [upB, stO] | 6, hk => by simp [upB, stO] | 7, hk => nomatch hk | (q + 8), hk => absurd hk (by simp)) (fun k => by simp [stO]) (fun a ha => funext fun b => by simp [stO, upB, ha])
  exact cr_ret hx hb hr hX hlocks dX4_init_48 (by decide) (by decide)
set_option maxRecDepth 20000 in
set_option maxHeartbeats 8000000 in
theorem ct_245 (l : Launch) {φ : Nat → Nat → Bool} {S : aS} (hφ : zF 246 φ) (hS : zS 246 S) : cMt l mI_X12 30 31240 245 [] 246 276 φ (stO φ 245) S S := by
  refine cMt_of (by decide +kernel) rfl rfl (by decide) fun D cy B0 p e R s m args below meth c jl hx hb hr hml hown hts hin hlocks hK hN hX hl hR => ?_
  obtain ⟨hR1, hR2, hR3, hR4⟩ : 1 ≤ R.frames ∧ 12 ≤ R.locals ∧ 30 ≤ R.cells ∧ 31240 ≤ R.slots := hR
  have hl : lv_has jl 1 [(0, .ref (B0 + 245))] := hl
  refine lv_aload_n hx hb dX12_init_0 rfl (lv_at hl 0 rfl) ?_
  refine cr_obj hx hb hown hts (in_4 (List.mem_of_getElem? (i := 163) rfl) rfl) (in_1 (List.mem_of_getElem? (i := 21) rfl) rfl) (in_1 (List.mem_of_getElem? (i := 22) rfl) rfl) hml hl.1 dX12_init_1 (by omega) (by omega) ?_
  refine lv_aload_n hx hb dX12_init_4 rfl (lv_at hl 0 rfl) ?_
  refine lv_bipush (v := Int32.ofInt 40) hx hb dX12_init_5 (by decide +kernel) ?_
  refine cr_newa (atype := .byte) (N := 40) (t := 1) (b := 0) hx hb (in_2 (List.mem_of_getElem? (i := 83) rfl) rfl) hts hK hX LY_246 rfl (hS 246 (by decide)).1 (hS 246 (by decide)).2 (by decide +kernel) (by decide +kernel) (Or.inl ⟨by decide, rfl⟩) (by decide) (by omega) (by omega) dX12_init_7 (fun H hX => ?_)
  refine cr_putr (r := 246) (i := 245) (C := RX12) (T := TX12) (N := 44) (ci := 12) hx hb hts inX12 tyX12 tyX12_ok nmX12 hown hK hX (by decide) LY_245 rfl 0 (by decide) rfl rfl (in_4 (List.mem_of_getElem? (i := 164) rfl) rfl) rfl hin rfl (tyX12_ok 0 (by decide)) rfl rfl dX12_init_9 (fun H locs hX => ?_)
  refine lv_aload_n hx hb dX12_init_12 rfl (lv_at hl 0 rfl) ?_
  refine lv_bipush (v := Int32.ofInt 40) hx hb dX12_init_13 (by decide +kernel) ?_
  refine cr_newa (atype := .byte) (N := 40) (t := 1) (b := 0) hx hb (in_2 (List.mem_of_getElem? (i := 83) rfl) rfl) hts hK hX LY_247 rfl (hS 247 (by decide)).1 (hS 247 (by decide)).2 (by decide +kernel) (by decide +kernel) (Or.inl ⟨by decide, rfl⟩) (by decide) (by omega) (by omega) dX12_init_15 (fun H hX => ?_)
  refine cr_putr (r := 247) (i := 245) (C := RX12) (T := TX12) (N := 44) (ci := 12) hx hb hts inX12 tyX12 tyX12_ok nmX12 hown hK hX (by decide) LY_245 rfl 1 (by decide) rfl rfl (in_4 (List.mem_of_getElem? (i := 165) rfl) rfl) rfl hin rfl (tyX12_ok 1 (by decide)) rfl rfl dX12_init_17 (fun H locs hX => ?_)
  refine lv_aload_n hx hb dX12_init_20 rfl (lv_at hl 0 rfl) ?_
  refine lv_bipush (v := Int32.ofInt 30) hx hb dX12_init_21 (by decide +kernel) ?_
  refine cr_newa (atype := .int) (N := 30) (t := 0) (b := 0) hx hb (in_1 (List.mem_of_getElem? (i := 37) rfl) rfl) hts hK hX LY_248 rfl (hS 248 (by decide)).1 (hS 248 (by decide)).2 (by decide +kernel) (by decide +kernel) (Or.inl ⟨by decide, rfl⟩) (by decide) (by omega) (by omega) dX12_init_23 (fun H hX => ?_)
  refine cr_putr (r := 248) (i := 245) (C := RX12) (T := TX12) (N := 44) (ci := 12) hx hb hts inX12 tyX12 tyX12_ok nmX12 hown hK hX (by decide) LY_245 rfl 5 (by decide) rfl rfl (in_4 (List.mem_of_getElem? (i := 169) rfl) rfl) rfl hin rfl (tyX12_ok 5 (by decide)) rfl rfl dX12_init_25 (fun H locs hX => ?_)
  refine lv_aload_n hx hb dX12_init_28 rfl (lv_at hl 0 rfl) ?_
  refine lv_bipush (v := Int32.ofInt 30) hx hb dX12_init_29 (by decide +kernel) ?_
  refine cr_newa (atype := .int) (N := 30) (t := 0) (b := 0) hx hb (in_1 (List.mem_of_getElem? (i := 37) rfl) rfl) hts hK hX LY_249 rfl (hS 249 (by decide)).1 (hS 249 (by decide)).2 (by decide +kernel) (by decide +kernel) (Or.inl ⟨by decide, rfl⟩) (by decide) (by omega) (by omega) dX12_init_31 (fun H hX => ?_)
  refine cr_putr (r := 249) (i := 245) (C := RX12) (T := TX12) (N := 44) (ci := 12) hx hb hts inX12 tyX12 tyX12_ok nmX12 hown hK hX (by decide) LY_245 rfl 6 (by decide) rfl rfl (in_4 (List.mem_of_getElem? (i := 170) rfl) rfl) rfl hin rfl (tyX12_ok 6 (by decide)) rfl rfl dX12_init_33 (fun H locs hX => ?_)
  refine lv_aload_n hx hb dX12_init_36 rfl (lv_at hl 0 rfl) ?_
  refine lv_bipush (v := Int32.ofInt 30) hx hb dX12_init_37 (by decide +kernel) ?_
  refine cr_newa (atype := .int) (N := 30) (t := 0) (b := 0) hx hb (in_1 (List.mem_of_getElem? (i := 37) rfl) rfl) hts hK hX LY_250 rfl (hS 250 (by decide)).1 (hS 250 (by decide)).2 (by decide +kernel) (by decide +kernel) (Or.inl ⟨by decide, rfl⟩) (by decide) (by omega) (by omega) dX12_init_39 (fun H hX => ?_)
  refine cr_putr (r := 250) (i := 245) (C := RX12) (T := TX12) (N := 44) (ci := 12) hx hb hts inX12 tyX12 tyX12_ok nmX12 hown hK hX (by decide) LY_245 rfl 7 (by decide) rfl rfl (in_4 (List.mem_of_getElem? (i := 171) rfl) rfl) rfl hin rfl (tyX12_ok 7 (by decide)) rfl rfl dX12_init_41 (fun H locs hX => ?_)
  refine lv_aload_n hx hb dX12_init_44 rfl (lv_at hl 0 rfl) ?_
  refine lv_bipush (v := Int32.ofInt 30) hx hb dX12_init_45 (by decide +kernel) ?_
  refine cr_newa (atype := .int) (N := 30) (t := 0) (b := 0) hx hb (in_1 (List.mem_of_getElem? (i := 37) rfl) rfl) hts hK hX LY_251 rfl (hS 251 (by decide)).1 (hS 251 (by decide)).2 (by decide +kernel) (by decide +kernel) (Or.inl ⟨by decide, rfl⟩) (by decide) (by omega) (by omega) dX12_init_47 (fun H hX => ?_)
  refine cr_putr (r := 251) (i := 245) (C := RX12) (T := TX12) (N := 44) (ci := 12) hx hb hts inX12 tyX12 tyX12_ok nmX12 hown hK hX (by decide) LY_245 rfl 8 (by decide) rfl rfl (in_4 (List.mem_of_getElem? (i := 172) rfl) rfl) rfl hin rfl (tyX12_ok 8 (by decide)) rfl rfl dX12_init_49 (fun H locs hX => ?_)
  refine lv_aload_n hx hb dX12_init_52 rfl (lv_at hl 0 rfl) ?_
  refine lv_bipush (v := Int32.ofInt 60) hx hb dX12_init_53 (by decide +kernel) ?_
  refine cr_newa (atype := .int) (N := 60) (t := 0) (b := 0) hx hb (in_1 (List.mem_of_getElem? (i := 37) rfl) rfl) hts hK hX LY_252 rfl (hS 252 (by decide)).1 (hS 252 (by decide)).2 (by decide +kernel) (by decide +kernel) (Or.inl ⟨by decide, rfl⟩) (by decide) (by omega) (by omega) dX12_init_55 (fun H hX => ?_)
  refine cr_putr (r := 252) (i := 245) (C := RX12) (T := TX12) (N := 44) (ci := 12) hx hb hts inX12 tyX12 tyX12_ok nmX12 hown hK hX (by decide) LY_245 rfl 9 (by decide) rfl rfl (in_4 (List.mem_of_getElem? (i := 173) rfl) rfl) rfl hin rfl (tyX12_ok 9 (by decide)) rfl rfl dX12_init_57 (fun H locs hX => ?_)
  refine lv_aload_n hx hb dX12_init_60 rfl (lv_at hl 0 rfl) ?_
  refine lv_bipush (v := Int32.ofInt 60) hx hb dX12_init_61 (by decide +kernel) ?_
  refine cr_newa (atype := .int) (N := 60) (t := 0) (b := 0) hx hb (in_1 (List.mem_of_getElem? (i := 37) rfl) rfl) hts hK hX LY_253 rfl (hS 253 (by decide)).1 (hS 253 (by decide)).2 (by decide +kernel) (by decide +kernel) (Or.inl ⟨by decide, rfl⟩) (by decide) (by omega) (by omega) dX12_init_63 (fun H hX => ?_)
  refine cr_putr (r := 253) (i := 245) (C := RX12) (T := TX12) (N := 44) (ci := 12) hx hb hts inX12 tyX12 tyX12_ok nmX12 hown hK hX (by decide) LY_245 rfl 10 (by decide) rfl rfl (in_4 (List.mem_of_getElem? (i := 174) rfl) rfl) rfl hin rfl (tyX12_ok 10 (by decide)) rfl rfl dX12_init_65 (fun H locs hX => ?_)
  refine lv_aload_n hx hb dX12_init_68 rfl (lv_at hl 0 rfl) ?_
  refine lv_sipush (v := Int32.ofInt 900) hx hb dX12_init_69 (by decide +kernel) ?_
  refine cr_newa (atype := .boolean) (N := 900) (t := 2) (b := 0) hx hb (in_5 (List.mem_of_getElem? (i := 57) rfl) rfl) hts hK hX LY_254 rfl (hS 254 (by decide)).1 (hS 254 (by decide)).2 (by decide +kernel) (by decide +kernel) (Or.inl ⟨by decide, rfl⟩) (by decide) (by omega) (by omega) dX12_init_72 (fun H hX => ?_)
  refine cr_putr (r := 254) (i := 245) (C := RX12) (T := TX12) (N := 44) (ci := 12) hx hb hts inX12 tyX12 tyX12_ok nmX12 hown hK hX (by decide) LY_245 rfl 11 (by decide) rfl rfl (in_4 (List.mem_of_getElem? (i := 175) rfl) rfl) rfl hin rfl (tyX12_ok 11 (by decide)) rfl rfl dX12_init_74 (fun H locs hX => ?_)
  refine lv_aload_n hx hb dX12_init_77 rfl (lv_at hl 0 rfl) ?_
  refine lv_bipush (v := Int32.ofInt 120) hx hb dX12_init_78 (by decide +kernel) ?_
  refine cr_newa (atype := .int) (N := 120) (t := 0) (b := 0) hx hb (in_1 (List.mem_of_getElem? (i := 37) rfl) rfl) hts hK hX LY_255 rfl (hS 255 (by decide)).1 (hS 255 (by decide)).2 (by decide +kernel) (by decide +kernel) (Or.inl ⟨by decide, rfl⟩) (by decide) (by omega) (by omega) dX12_init_80 (fun H hX => ?_)
  refine cr_putr (r := 255) (i := 245) (C := RX12) (T := TX12) (N := 44) (ci := 12) hx hb hts inX12 tyX12 tyX12_ok nmX12 hown hK hX (by decide) LY_245 rfl 15 (by decide) rfl rfl (in_4 (List.mem_of_getElem? (i := 179) rfl) rfl) rfl hin rfl (tyX12_ok 15 (by decide)) rfl rfl dX12_init_82 (fun H locs hX => ?_)
  refine lv_aload_n hx hb dX12_init_85 rfl (lv_at hl 0 rfl) ?_
  refine lv_bipush (v := Int32.ofInt 120) hx hb dX12_init_86 (by decide +kernel) ?_
  refine cr_newa (atype := .int) (N := 120) (t := 0) (b := 0) hx hb (in_1 (List.mem_of_getElem? (i := 37) rfl) rfl) hts hK hX LY_256 rfl (hS 256 (by decide)).1 (hS 256 (by decide)).2 (by decide +kernel) (by decide +kernel) (Or.inl ⟨by decide, rfl⟩) (by decide) (by omega) (by omega) dX12_init_88 (fun H hX => ?_)
  refine cr_putr (r := 256) (i := 245) (C := RX12) (T := TX12) (N := 44) (ci := 12) hx hb hts inX12 tyX12 tyX12_ok nmX12 hown hK hX (by decide) LY_245 rfl 16 (by decide) rfl rfl (in_4 (List.mem_of_getElem? (i := 180) rfl) rfl) rfl hin rfl (tyX12_ok 16 (by decide)) rfl rfl dX12_init_90 (fun H locs hX => ?_)
  refine lv_aload_n hx hb dX12_init_93 rfl (lv_at hl 0 rfl) ?_
  refine lv_bipush (v := Int32.ofInt 120) hx hb dX12_init_94 (by decide +kernel) ?_
  refine cr_newa (atype := .int) (N := 120) (t := 0) (b := 0) hx hb (in_1 (List.mem_of_getElem? (i := 37) rfl) rfl) hts hK hX LY_257 rfl (hS 257 (by decide)).1 (hS 257 (by decide)).2 (by decide +kernel) (by decide +kernel) (Or.inl ⟨by decide, rfl⟩) (by decide) (by omega) (by omega) dX12_init_96 (fun H hX => ?_)
  refine cr_putr (r := 257) (i := 245) (C := RX12) (T := TX12) (N := 44) (ci := 12) hx hb hts inX12 tyX12 tyX12_ok nmX12 hown hK hX (by decide) LY_245 rfl 17 (by decide) rfl rfl (in_4 (List.mem_of_getElem? (i := 181) rfl) rfl) rfl hin rfl (tyX12_ok 17 (by decide)) rfl rfl dX12_init_98 (fun H locs hX => ?_)
  refine lv_aload_n hx hb dX12_init_101 rfl (lv_at hl 0 rfl) ?_
  refine lv_bipush (v := Int32.ofInt 120) hx hb dX12_init_102 (by decide +kernel) ?_
  refine cr_newa (atype := .long) (N := 120) (t := 3) (b := 0) hx hb (in_1 (List.mem_of_getElem? (i := 100) rfl) rfl) hts hK hX LY_258 rfl (hS 258 (by decide)).1 (hS 258 (by decide)).2 (by decide +kernel) (by decide +kernel) (Or.inr ⟨rfl, rfl⟩) (by decide) (by omega) (by omega) dX12_init_104 (fun H hX => ?_)
  refine cr_putr (r := 258) (i := 245) (C := RX12) (T := TX12) (N := 44) (ci := 12) hx hb hts inX12 tyX12 tyX12_ok nmX12 hown hK hX (by decide) LY_245 rfl 18 (by decide) rfl rfl (in_4 (List.mem_of_getElem? (i := 182) rfl) rfl) rfl hin rfl (tyX12_ok 18 (by decide)) rfl rfl dX12_init_106 (fun H locs hX => ?_)
  refine lv_aload_n hx hb dX12_init_109 rfl (lv_at hl 0 rfl) ?_
  refine lv_sipush (v := Int32.ofInt 7200) hx hb dX12_init_110 (by decide +kernel) ?_
  refine cr_newa (atype := .byte) (N := 7200) (t := 1) (b := 0) hx hb (in_2 (List.mem_of_getElem? (i := 83) rfl) rfl) hts hK hX LY_259 rfl (hS 259 (by decide)).1 (hS 259 (by decide)).2 (by decide +kernel) (by decide +kernel) (Or.inl ⟨by decide, rfl⟩) (by decide) (by omega) (by omega) dX12_init_113 (fun H hX => ?_)
  refine cr_putr (r := 259) (i := 245) (C := RX12) (T := TX12) (N := 44) (ci := 12) hx hb hts inX12 tyX12 tyX12_ok nmX12 hown hK hX (by decide) LY_245 rfl 19 (by decide) rfl rfl (in_4 (List.mem_of_getElem? (i := 183) rfl) rfl) rfl hin rfl (tyX12_ok 19 (by decide)) rfl rfl dX12_init_115 (fun H locs hX => ?_)
  refine lv_aload_n hx hb dX12_init_118 rfl (lv_at hl 0 rfl) ?_
  refine lv_bipush (v := Int32.ofInt 12) hx hb dX12_init_119 (by decide +kernel) ?_
  refine cr_newa (atype := .int) (N := 12) (t := 0) (b := 0) hx hb (in_1 (List.mem_of_getElem? (i := 37) rfl) rfl) hts hK hX LY_260 rfl (hS 260 (by decide)).1 (hS 260 (by decide)).2 (by decide +kernel) (by decide +kernel) (Or.inl ⟨by decide, rfl⟩) (by decide) (by omega) (by omega) dX12_init_121 (fun H hX => ?_)
  refine cr_putr (r := 260) (i := 245) (C := RX12) (T := TX12) (N := 44) (ci := 12) hx hb hts inX12 tyX12 tyX12_ok nmX12 hown hK hX (by decide) LY_245 rfl 20 (by decide) rfl rfl (in_4 (List.mem_of_getElem? (i := 184) rfl) rfl) rfl hin rfl (tyX12_ok 20 (by decide)) rfl rfl dX12_init_123 (fun H locs hX => ?_)
  refine lv_aload_n hx hb dX12_init_126 rfl (lv_at hl 0 rfl) ?_
  refine lv_bipush (v := Int32.ofInt 60) hx hb dX12_init_127 (by decide +kernel) ?_
  refine cr_newa (atype := .int) (N := 60) (t := 0) (b := 0) hx hb (in_1 (List.mem_of_getElem? (i := 37) rfl) rfl) hts hK hX LY_261 rfl (hS 261 (by decide)).1 (hS 261 (by decide)).2 (by decide +kernel) (by decide +kernel) (Or.inl ⟨by decide, rfl⟩) (by decide) (by omega) (by omega) dX12_init_129 (fun H hX => ?_)
  refine cr_putr (r := 261) (i := 245) (C := RX12) (T := TX12) (N := 44) (ci := 12) hx hb hts inX12 tyX12 tyX12_ok nmX12 hown hK hX (by decide) LY_245 rfl 21 (by decide) rfl rfl (in_4 (List.mem_of_getElem? (i := 185) rfl) rfl) rfl hin rfl (tyX12_ok 21 (by decide)) rfl rfl dX12_init_131 (fun H locs hX => ?_)
  refine lv_aload_n hx hb dX12_init_134 rfl (lv_at hl 0 rfl) ?_
  refine lv_bipush (v := Int32.ofInt 60) hx hb dX12_init_135 (by decide +kernel) ?_
  refine cr_newa (atype := .int) (N := 60) (t := 0) (b := 0) hx hb (in_1 (List.mem_of_getElem? (i := 37) rfl) rfl) hts hK hX LY_262 rfl (hS 262 (by decide)).1 (hS 262 (by decide)).2 (by decide +kernel) (by decide +kernel) (Or.inl ⟨by decide, rfl⟩) (by decide) (by omega) (by omega) dX12_init_137 (fun H hX => ?_)
  refine cr_putr (r := 262) (i := 245) (C := RX12) (T := TX12) (N := 44) (ci := 12) hx hb hts inX12 tyX12 tyX12_ok nmX12 hown hK hX (by decide) LY_245 rfl 22 (by decide) rfl rfl (in_4 (List.mem_of_getElem? (i := 186) rfl) rfl) rfl hin rfl (tyX12_ok 22 (by decide)) rfl rfl dX12_init_139 (fun H locs hX => ?_)
  refine lv_aload_n hx hb dX12_init_142 rfl (lv_at hl 0 rfl) ?_
  refine lv_bipush (v := Int32.ofInt 60) hx hb dX12_init_143 (by decide +kernel) ?_
  refine cr_newa (atype := .long) (N := 60) (t := 3) (b := 0) hx hb (in_1 (List.mem_of_getElem? (i := 100) rfl) rfl) hts hK hX LY_263 rfl (hS 263 (by decide)).1 (hS 263 (by decide)).2 (by decide +kernel) (by decide +kernel) (Or.inr ⟨rfl, rfl⟩) (by decide) (by omega) (by omega) dX12_init_145 (fun H hX => ?_)
  refine cr_putr (r := 263) (i := 245) (C := RX12) (T := TX12) (N := 44) (ci := 12) hx hb hts inX12 tyX12 tyX12_ok nmX12 hown hK hX (by decide) LY_245 rfl 23 (by decide) rfl rfl (in_4 (List.mem_of_getElem? (i := 187) rfl) rfl) rfl hin rfl (tyX12_ok 23 (by decide)) rfl rfl dX12_init_147 (fun H locs hX => ?_)
  refine lv_aload_n hx hb dX12_init_150 rfl (lv_at hl 0 rfl) ?_
  refine lv_bipush (v := Int32.ofInt 10) hx hb dX12_init_151 (by decide +kernel) ?_
  refine cr_newa (atype := .long) (N := 10) (t := 3) (b := 0) hx hb (in_1 (List.mem_of_getElem? (i := 100) rfl) rfl) hts hK hX LY_264 rfl (hS 264 (by decide)).1 (hS 264 (by decide)).2 (by decide +kernel) (by decide +kernel) (Or.inr ⟨rfl, rfl⟩) (by decide) (by omega) (by omega) dX12_init_153 (fun H hX => ?_)
  refine cr_putr (r := 264) (i := 245) (C := RX12) (T := TX12) (N := 44) (ci := 12) hx hb hts inX12 tyX12 tyX12_ok nmX12 hown hK hX (by decide) LY_245 rfl 24 (by decide) rfl rfl (in_4 (List.mem_of_getElem? (i := 188) rfl) rfl) rfl hin rfl (tyX12_ok 24 (by decide)) rfl rfl dX12_init_155 (fun H locs hX => ?_)
  refine lv_aload_n hx hb dX12_init_158 rfl (lv_at hl 0 rfl) ?_
  refine lv_bipush (v := Int32.ofInt 10) hx hb dX12_init_159 (by decide +kernel) ?_
  refine cr_newa (atype := .long) (N := 10) (t := 3) (b := 0) hx hb (in_1 (List.mem_of_getElem? (i := 100) rfl) rfl) hts hK hX LY_265 rfl (hS 265 (by decide)).1 (hS 265 (by decide)).2 (by decide +kernel) (by decide +kernel) (Or.inr ⟨rfl, rfl⟩) (by decide) (by omega) (by omega) dX12_init_161 (fun H hX => ?_)
  refine cr_putr (r := 265) (i := 245) (C := RX12) (T := TX12) (N := 44) (ci := 12) hx hb hts inX12 tyX12 tyX12_ok nmX12 hown hK hX (by decide) LY_245 rfl 25 (by decide) rfl rfl (in_4 (List.mem_of_getElem? (i := 189) rfl) rfl) rfl hin rfl (tyX12_ok 25 (by decide)) rfl rfl dX12_init_163 (fun H locs hX => ?_)
  refine lv_aload_n hx hb dX12_init_166 rfl (lv_at hl 0 rfl) ?_
  refine lv_bipush (v := Int32.ofInt 40) hx hb dX12_init_167 (by decide +kernel) ?_
  refine cr_newa (atype := .boolean) (N := 40) (t := 2) (b := 0) hx hb (in_5 (List.mem_of_getElem? (i := 57) rfl) rfl) hts hK hX LY_266 rfl (hS 266 (by decide)).1 (hS 266 (by decide)).2 (by decide +kernel) (by decide +kernel) (Or.inl ⟨by decide, rfl⟩) (by decide) (by omega) (by omega) dX12_init_169 (fun H hX => ?_)
  refine cr_putr (r := 266) (i := 245) (C := RX12) (T := TX12) (N := 44) (ci := 12) hx hb hts inX12 tyX12 tyX12_ok nmX12 hown hK hX (by decide) LY_245 rfl 26 (by decide) rfl rfl (in_4 (List.mem_of_getElem? (i := 190) rfl) rfl) rfl hin rfl (tyX12_ok 26 (by decide)) rfl rfl dX12_init_171 (fun H locs hX => ?_)
  refine lv_aload_n hx hb dX12_init_174 rfl (lv_at hl 0 rfl) ?_
  refine lv_bipush (v := Int32.ofInt 40) hx hb dX12_init_175 (by decide +kernel) ?_
  refine cr_newa (atype := .int) (N := 40) (t := 0) (b := 0) hx hb (in_1 (List.mem_of_getElem? (i := 37) rfl) rfl) hts hK hX LY_267 rfl (hS 267 (by decide)).1 (hS 267 (by decide)).2 (by decide +kernel) (by decide +kernel) (Or.inl ⟨by decide, rfl⟩) (by decide) (by omega) (by omega) dX12_init_177 (fun H hX => ?_)
  refine cr_putr (r := 267) (i := 245) (C := RX12) (T := TX12) (N := 44) (ci := 12) hx hb hts inX12 tyX12 tyX12_ok nmX12 hown hK hX (by decide) LY_245 rfl 27 (by decide) rfl rfl (in_4 (List.mem_of_getElem? (i := 191) rfl) rfl) rfl hin rfl (tyX12_ok 27 (by decide)) rfl rfl dX12_init_179 (fun H locs hX => ?_)
  refine lv_aload_n hx hb dX12_init_182 rfl (lv_at hl 0 rfl) ?_
  refine lv_bipush (v := Int32.ofInt 40) hx hb dX12_init_183 (by decide +kernel) ?_
  refine cr_newa (atype := .int) (N := 40) (t := 0) (b := 0) hx hb (in_1 (List.mem_of_getElem? (i := 37) rfl) rfl) hts hK hX LY_268 rfl (hS 268 (by decide)).1 (hS 268 (by decide)).2 (by decide +kernel) (by decide +kernel) (Or.inl ⟨by decide, rfl⟩) (by decide) (by omega) (by omega) dX12_init_185 (fun H hX => ?_)
  refine cr_putr (r := 268) (i := 245) (C := RX12) (T := TX12) (N := 44) (ci := 12) hx hb hts inX12 tyX12 tyX12_ok nmX12 hown hK hX (by decide) LY_245 rfl 28 (by decide) rfl rfl (in_4 (List.mem_of_getElem? (i := 192) rfl) rfl) rfl hin rfl (tyX12_ok 28 (by decide)) rfl rfl dX12_init_187 (fun H locs hX => ?_)
  refine lv_aload_n hx hb dX12_init_190 rfl (lv_at hl 0 rfl) ?_
  refine lv_bipush (v := Int32.ofInt 20) hx hb dX12_init_191 (by decide +kernel) ?_
  refine cr_newa (atype := .int) (N := 20) (t := 0) (b := 0) hx hb (in_1 (List.mem_of_getElem? (i := 37) rfl) rfl) hts hK hX LY_269 rfl (hS 269 (by decide)).1 (hS 269 (by decide)).2 (by decide +kernel) (by decide +kernel) (Or.inl ⟨by decide, rfl⟩) (by decide) (by omega) (by omega) dX12_init_193 (fun H hX => ?_)
  refine cr_putr (r := 269) (i := 245) (C := RX12) (T := TX12) (N := 44) (ci := 12) hx hb hts inX12 tyX12 tyX12_ok nmX12 hown hK hX (by decide) LY_245 rfl 30 (by decide) rfl rfl (in_4 (List.mem_of_getElem? (i := 194) rfl) rfl) rfl hin rfl (tyX12_ok 30 (by decide)) rfl rfl dX12_init_195 (fun H locs hX => ?_)
  refine lv_aload_n hx hb dX12_init_198 rfl (lv_at hl 0 rfl) ?_
  refine lv_bipush (v := Int32.ofInt 20) hx hb dX12_init_199 (by decide +kernel) ?_
  refine cr_newa (atype := .int) (N := 20) (t := 0) (b := 0) hx hb (in_1 (List.mem_of_getElem? (i := 37) rfl) rfl) hts hK hX LY_270 rfl (hS 270 (by decide)).1 (hS 270 (by decide)).2 (by decide +kernel) (by decide +kernel) (Or.inl ⟨by decide, rfl⟩) (by decide) (by omega) (by omega) dX12_init_201 (fun H hX => ?_)
  refine cr_putr (r := 270) (i := 245) (C := RX12) (T := TX12) (N := 44) (ci := 12) hx hb hts inX12 tyX12 tyX12_ok nmX12 hown hK hX (by decide) LY_245 rfl 31 (by decide) rfl rfl (in_4 (List.mem_of_getElem? (i := 195) rfl) rfl) rfl hin rfl (tyX12_ok 31 (by decide)) rfl rfl dX12_init_203 (fun H locs hX => ?_)
  refine lv_aload_n hx hb dX12_init_206 rfl (lv_at hl 0 rfl) ?_
  refine lv_bipush (v := Int32.ofInt 8) hx hb dX12_init_207 (by decide +kernel) ?_
  refine cr_newa (atype := .int) (N := 8) (t := 0) (b := 0) hx hb (in_1 (List.mem_of_getElem? (i := 37) rfl) rfl) hts hK hX LY_271 rfl (hS 271 (by decide)).1 (hS 271 (by decide)).2 (by decide +kernel) (by decide +kernel) (Or.inl ⟨by decide, rfl⟩) (by decide) (by omega) (by omega) dX12_init_209 (fun H hX => ?_)
  refine cr_putr (r := 271) (i := 245) (C := RX12) (T := TX12) (N := 44) (ci := 12) hx hb hts inX12 tyX12 tyX12_ok nmX12 hown hK hX (by decide) LY_245 rfl 38 (by decide) rfl rfl (in_4 (List.mem_of_getElem? (i := 202) rfl) rfl) rfl hin rfl (tyX12_ok 38 (by decide)) rfl rfl dX12_init_211 (fun H locs hX => ?_)
  refine lv_aload_n hx hb dX12_init_214 rfl (lv_at hl 0 rfl) ?_
  refine lv_sipush (v := Int32.ofInt 960) hx hb dX12_init_215 (by decide +kernel) ?_
  refine cr_newa (atype := .int) (N := 960) (t := 0) (b := 0) hx hb (in_1 (List.mem_of_getElem? (i := 37) rfl) rfl) hts hK hX LY_272 rfl (hS 272 (by decide)).1 (hS 272 (by decide)).2 (by decide +kernel) (by decide +kernel) (Or.inl ⟨by decide, rfl⟩) (by decide) (by omega) (by omega) dX12_init_218 (fun H hX => ?_)
  refine cr_putr (r := 272) (i := 245) (C := RX12) (T := TX12) (N := 44) (ci := 12) hx hb hts inX12 tyX12 tyX12_ok nmX12 hown hK hX (by decide) LY_245 rfl 39 (by decide) rfl rfl (in_4 (List.mem_of_getElem? (i := 203) rfl) rfl) rfl hin rfl (tyX12_ok 39 (by decide)) rfl rfl dX12_init_220 (fun H locs hX => ?_)
  refine lv_aload_n hx hb dX12_init_223 rfl (lv_at hl 0 rfl) ?_
  refine lv_sipush (v := Int32.ofInt 960) hx hb dX12_init_224 (by decide +kernel) ?_
  refine cr_newa (atype := .int) (N := 960) (t := 0) (b := 0) hx hb (in_1 (List.mem_of_getElem? (i := 37) rfl) rfl) hts hK hX LY_273 rfl (hS 273 (by decide)).1 (hS 273 (by decide)).2 (by decide +kernel) (by decide +kernel) (Or.inl ⟨by decide, rfl⟩) (by decide) (by omega) (by omega) dX12_init_227 (fun H hX => ?_)
  refine cr_putr (r := 273) (i := 245) (C := RX12) (T := TX12) (N := 44) (ci := 12) hx hb hts inX12 tyX12 tyX12_ok nmX12 hown hK hX (by decide) LY_245 rfl 40 (by decide) rfl rfl (in_4 (List.mem_of_getElem? (i := 204) rfl) rfl) rfl hin rfl (tyX12_ok 40 (by decide)) rfl rfl dX12_init_229 (fun H locs hX => ?_)
  refine lv_aload_n hx hb dX12_init_232 rfl (lv_at hl 0 rfl) ?_
  refine lv_sipush (v := Int32.ofInt 20000) hx hb dX12_init_233 (by decide +kernel) ?_
  refine cr_newa (atype := .byte) (N := 20000) (t := 1) (b := 0) hx hb (in_2 (List.mem_of_getElem? (i := 83) rfl) rfl) hts hK hX LY_274 rfl (hS 274 (by decide)).1 (hS 274 (by decide)).2 (by decide +kernel) (by decide +kernel) (Or.inl ⟨by decide, rfl⟩) (by decide) (by omega) (by omega) dX12_init_236 (fun H hX => ?_)
  refine cr_putr (r := 274) (i := 245) (C := RX12) (T := TX12) (N := 44) (ci := 12) hx hb hts inX12 tyX12 tyX12_ok nmX12 hown hK hX (by decide) LY_245 rfl 41 (by decide) rfl rfl (in_4 (List.mem_of_getElem? (i := 205) rfl) rfl) rfl hin rfl (tyX12_ok 41 (by decide)) rfl rfl dX12_init_238 (fun H locs hX => ?_)
  refine lv_aload_n hx hb dX12_init_241 rfl (lv_at hl 0 rfl) ?_
  refine lv_bipush (v := Int32.ofInt 40) hx hb dX12_init_242 (by decide +kernel) ?_
  refine cr_newa (atype := .int) (N := 40) (t := 0) (b := 0) hx hb (in_1 (List.mem_of_getElem? (i := 37) rfl) rfl) hts hK hX LY_275 rfl (hS 275 (by decide)).1 (hS 275 (by decide)).2 (by decide +kernel) (by decide +kernel) (Or.inl ⟨by decide, rfl⟩) (by decide) (by omega) (by omega) dX12_init_244 (fun H hX => ?_)
  refine cr_putr (r := 275) (i := 245) (C := RX12) (T := TX12) (N := 44) (ci := 12) hx hb hts inX12 tyX12 tyX12_ok nmX12 hown hK hX (by decide) LY_245 rfl 43 (by decide) rfl rfl (in_4 (List.mem_of_getElem? (i := 207) rfl) rfl) rfl hin rfl (tyX12_ok 43 (by decide)) rfl rfl dX12_init_246 (fun H locs hX => ?_)
  have hX := cX_O (φ' := (stO φ 245)) hX LY_245 (fun k r hk => match k, hk with | 0, hk => by simp [upB, stO] | 1, hk => by simp [upB, stO] | 2, hk => nomatch hk | 3, hk => nomatch hk | 4, hk => nomatch hk | 5, hk => by simp [upB, stO] | 6, hk => by simp [upB, stO] | 7, hk => by simp [upB, stO] | 8, hk => by simp [upB, stO] | 9, hk => by simp [upB, stO] | 10, hk => by simp [upB, stO] | 11, hk => by simp [upB, stO] | 12, hk => nomatch hk | 13, hk => nomatch hk | 14, hk => nomatch hk | 15, hk => by simp [upB, stO] | 16, hk => by simp [upB, stO] | 17, hk => by simp [upB, stO] | 18, hk => by simp [upB, stO] | 19, hk => by simp [upB, stO] | 20, hk => by simp [upB, stO] | 21, hk => by simp [upB, stO] | 22, hk => by simp [upB, stO] | 23, hk => by simp [upB, stO] | 24, hk => by simp [upB, stO] | 25, hk => by simp [upB, stO] | 26, hk => by simp [upB, stO] | 27, hk => by simp [upB, stO] | 28, hk => by simp [upB, stO] | 29, hk => nomatch hk | 30, hk => by simp [upB, stO] | 31, hk => by simp [upB, stO] | 32, hk => nomatch hk | 33, hk => nomatch hk | 34, hk => nomatch hk | 35, hk => nomatch hk | 36, hk => nomatch hk | 37, hk => nomatch hk | 38, hk => by simp [upB, stO] | 39, hk => by simp [upB, stO] | 40, hk => by simp [upB, stO] | 41, hk => by simp [upB, stO] | 42, hk => nomatch hk | 43, hk => by simp [upB, stO] | (q + 44), hk => absurd hk (by simp)) (fun k => by simp [stO]) (fun a ha => funext fun b => by simp [stO, upB, ha])
  exact cr_ret hx hb hr hX hlocks dX12_init_249 (by decide) (by decide)
set_option maxRecDepth 20000 in
set_option maxHeartbeats 8000000 in
theorem ct_0 (l : Launch) {φ : Nat → Nat → Bool} {S : aS} (hφ : zF 1 φ) (hS : zS 1 S) : cMt l mI_X11 244 26206 0 [] 1 245 φ (stO (stO (stO (stO (stO (stO (stO (stO (stO (stO (stO (stO (stO φ 1) 3) 11) 18) 14) 85) 81) 208) 211) 219) 222) 242) 0) S (snI (upI (upI S 18 1 0) 85 1 1) 40) := by
  refine cMt_of (by decide +kernel) rfl rfl (by decide) fun D cy B0 p e R s m args below meth c jl hx hb hr hml hown hts hin hlocks hK hN hX hl hR => ?_
  obtain ⟨hR1, hR2, hR3, hR4⟩ : 3 ≤ R.frames ∧ 56 ≤ R.locals ∧ 244 ≤ R.cells ∧ 26206 ≤ R.slots := hR
  have hl : lv_has jl 1 [(0, .ref (B0 + 0))] := hl
  refine lv_aload_n hx hb dX11_init_0 rfl (lv_at hl 0 rfl) ?_
  refine cr_obj hx hb hown hts (in_1 (List.mem_of_getElem? (i := 20) rfl) rfl) (in_1 (List.mem_of_getElem? (i := 21) rfl) rfl) (in_1 (List.mem_of_getElem? (i := 22) rfl) rfl) hml hl.1 dX11_init_1 (by omega) (by omega) ?_
  refine lv_aload_n hx hb dX11_init_4 rfl (lv_at hl 0 rfl) ?_
  refine cr_new (C := RX8) (T := TX8) (N := 2) (ci := 8) hx hb hts inX8 tyX8 tyX8_ok hown (in_1 (List.mem_of_getElem? (i := 23) rfl) rfl) (in_1 (List.mem_of_getElem? (i := 24) rfl) rfl) (in_1 (List.mem_of_getElem? (i := 2) rfl) rfl) hK hX rfl LY_1 rfl (fun k => hφ 1 (by decide) k) (fun k => congrFun (hS 1 (by decide)).1 k) (fun j hj => by rcases (show j = 0 ∨ j = 1 by omega) with rfl | rfl <;> rfl) (by omega) (by omega) dX11_init_5 (fun H hX => ?_)
  refine lv_dup hx hb dX11_init_8 rfl ?_
  refine cr_initN (as := []) (i := 1) (nA := 0) (ct_1 l (hφ.mono (by decide)) (hS.mono (by decide))) hx hb hml hl.1 hown hts hK hN hX rfl meI_X8 (in_1 (List.mem_of_getElem? (i := 2) rfl) rfl) (hN.1 (9, ⟨"SlipHouse$Tape", "<init>", "()V"⟩) (by simp [cNl])) (in_1 (List.mem_of_getElem? (i := 26) rfl) rfl) rfl (by decide +kernel) rfl ⟨by show 1 + 1 ≤ R.frames; omega, by show 8 + (1 + 11) + 12 ≤ R.locals; omega⟩ (by simp [Value.category]) (by omega) dX11_init_9 (fun H locs hX => ?_)
  refine cr_putr (r := 1) (i := 0) (C := RX11) (T := TX11) (N := 10) (ci := 11) hx hb hts inX11 tyX11 tyX11_ok nmX11 hown hK hX (by decide) LY_0 rfl 0 (by decide) rfl rfl (in_2 (List.mem_of_getElem? (i := 84) rfl) rfl) rfl hin rfl (tyX11_ok 0 (by decide)) rfl rfl dX11_init_12 (fun H locs hX => ?_)
  refine lv_aload_n hx hb dX11_init_15 rfl (lv_at hl 0 rfl) ?_
  refine cr_new (C := RX0) (T := TX0) (N := 9) (ci := 0) hx hb hts inX0 tyX0 tyX0_ok hown (in_1 (List.mem_of_getElem? (i := 38) rfl) rfl) (in_1 (List.mem_of_getElem? (i := 39) rfl) rfl) (in_1 (List.mem_of_getElem? (i := 3) rfl) rfl) hK hX rfl LY_3 rfl (fun k => (((hφ.mono (show 1 ≤ 3 by decide)).st (by decide)).up (by decide)) 3 (by decide) k) (fun k => congrFun ((hS.mono (show 1 ≤ 3 by decide)) 3 (by decide)).1 k) (fun j hj => by rcases (show j = 0 ∨ j = 1 ∨ j = 2 ∨ j = 3 ∨ j = 4 ∨ j = 5 ∨ j = 6 ∨ j = 7 ∨ j = 8 by omega) with rfl | rfl | rfl | rfl | rfl | rfl | rfl | rfl | rfl <;> rfl) (by omega) (by omega) dX11_init_16 (fun H hX => ?_)
  refine lv_dup hx hb dX11_init_19 rfl ?_
  refine cr_initN (as := []) (i := 3) (nA := 0) (ct_3 l ((((hφ.mono (show 1 ≤ 3 by decide)).st (by decide)).up (by decide)).mono (by decide)) ((hS.mono (show 1 ≤ 3 by decide)).mono (by decide))) hx hb hml hl.1 hown hts hK hN hX rfl meI_X0 (in_1 (List.mem_of_getElem? (i := 3) rfl) rfl) (hN.1 (18, ⟨"SlipHouse$Books", "<init>", "()V"⟩) (by simp [cNl])) (in_1 (List.mem_of_getElem? (i := 41) rfl) rfl) rfl (by decide +kernel) rfl ⟨by show 1 + 1 ≤ R.frames; omega, by show 8 + (1 + 11) + 12 ≤ R.locals; omega⟩ (by simp [Value.category]) (by omega) dX11_init_20 (fun H locs hX => ?_)
  refine cr_putr (r := 3) (i := 0) (C := RX11) (T := TX11) (N := 10) (ci := 11) hx hb hts inX11 tyX11 tyX11_ok nmX11 hown hK hX (by decide) LY_0 rfl 1 (by decide) rfl rfl (in_2 (List.mem_of_getElem? (i := 85) rfl) rfl) rfl hin rfl (tyX11_ok 1 (by decide)) rfl rfl dX11_init_23 (fun H locs hX => ?_)
  refine lv_aload_n hx hb dX11_init_26 rfl (lv_at hl 0 rfl) ?_
  refine cr_new (C := RX5) (T := TX5) (N := 3) (ci := 5) hx hb hts inX5 tyX5 tyX5_ok hown (in_1 (List.mem_of_getElem? (i := 80) rfl) rfl) (in_1 (List.mem_of_getElem? (i := 81) rfl) rfl) (in_1 (List.mem_of_getElem? (i := 4) rfl) rfl) hK hX rfl LY_11 rfl (fun k => ((((((hφ.mono (show 1 ≤ 3 by decide)).st (by decide)).up (by decide)).mono (show 3 ≤ 11 by decide)).st (by decide)).up (by decide)) 11 (by decide) k) (fun k => congrFun (((hS.mono (show 1 ≤ 3 by decide)).mono (show 3 ≤ 11 by decide)) 11 (by decide)).1 k) (fun j hj => by rcases (show j = 0 ∨ j = 1 ∨ j = 2 by omega) with rfl | rfl | rfl <;> rfl) (by omega) (by omega) dX11_init_27 (fun H hX => ?_)
  refine lv_dup hx hb dX11_init_30 rfl ?_
  refine cr_initN (as := []) (i := 11) (nA := 0) (ct_11 l (((((((hφ.mono (show 1 ≤ 3 by decide)).st (by decide)).up (by decide)).mono (show 3 ≤ 11 by decide)).st (by decide)).up (by decide)).mono (by decide)) (((hS.mono (show 1 ≤ 3 by decide)).mono (show 3 ≤ 11 by decide)).mono (by decide))) hx hb hml hl.1 hown hts hK hN hX rfl meI_X5 (in_1 (List.mem_of_getElem? (i := 4) rfl) rfl) (hN.1 (25, ⟨"SlipHouse$Rules", "<init>", "()V"⟩) (by simp [cNl])) (in_1 (List.mem_of_getElem? (i := 83) rfl) rfl) rfl (by decide +kernel) rfl ⟨by show 1 + 1 ≤ R.frames; omega, by show 8 + (1 + 11) + 12 ≤ R.locals; omega⟩ (by simp [Value.category]) (by omega) dX11_init_31 (fun H locs hX => ?_)
  refine cr_putr (r := 11) (i := 0) (C := RX11) (T := TX11) (N := 10) (ci := 11) hx hb hts inX11 tyX11 tyX11_ok nmX11 hown hK hX (by decide) LY_0 rfl 2 (by decide) rfl rfl (in_2 (List.mem_of_getElem? (i := 86) rfl) rfl) rfl hin rfl (tyX11_ok 2 (by decide)) rfl rfl dX11_init_34 (fun H locs hX => ?_)
  refine lv_aload_n hx hb dX11_init_37 rfl (lv_at hl 0 rfl) ?_
  refine cr_new (C := RX2) (T := TX2) (N := 5) (ci := 2) hx hb hts inX2 tyX2 tyX2_ok hown (in_1 (List.mem_of_getElem? (i := 101) rfl) rfl) (in_1 (List.mem_of_getElem? (i := 102) rfl) rfl) (in_1 (List.mem_of_getElem? (i := 5) rfl) rfl) hK hX rfl LY_14 rfl (fun k => (((((((((hφ.mono (show 1 ≤ 3 by decide)).st (by decide)).up (by decide)).mono (show 3 ≤ 11 by decide)).st (by decide)).up (by decide)).mono (show 11 ≤ 14 by decide)).st (by decide)).up (by decide)) 14 (by decide) k) (fun k => congrFun ((((hS.mono (show 1 ≤ 3 by decide)).mono (show 3 ≤ 11 by decide)).mono (show 11 ≤ 14 by decide)) 14 (by decide)).1 k) (fun j hj => by rcases (show j = 0 ∨ j = 1 ∨ j = 2 ∨ j = 3 ∨ j = 4 by omega) with rfl | rfl | rfl | rfl | rfl <;> rfl) (by omega) (by omega) dX11_init_38 (fun H hX => ?_)
  refine lv_dup hx hb dX11_init_41 rfl ?_
  refine lv_aload_n hx hb dX11_init_42 rfl (lv_at hl 0 rfl) ?_
  refine cr_get (r := 11) (i := 0) (C := RX11) (T := TX11) (N := 10) (ci := 11) hx hb hts inX11 hown hK hX (by decide) LY_0 rfl 2 (by decide) rfl (by simp [upB, stO]) (in_2 (List.mem_of_getElem? (i := 86) rfl) rfl) dX11_init_43 ?_
  refine cr_init (as := [.inr (.inr 11)]) (i := 14) (nA := 1) (ct_14 l ((((((((((hφ.mono (show 1 ≤ 3 by decide)).st (by decide)).up (by decide)).mono (show 3 ≤ 11 by decide)).st (by decide)).up (by decide)).mono (show 11 ≤ 14 by decide)).st (by decide)).up (by decide)).mono (by decide)) ((((hS.mono (show 1 ≤ 3 by decide)).mono (show 3 ≤ 11 by decide)).mono (show 11 ≤ 14 by decide)).mono (by decide))) hx hb hml hl.1 hown hts hK hN hX rfl meI_X2 (in_1 (List.mem_of_getElem? (i := 5) rfl) rfl) ((in_1 (List.mem_of_getElem? (i := 103) rfl) rfl)) (in_1 (List.mem_of_getElem? (i := 104) rfl) rfl) rfl (by decide +kernel) rfl ⟨by show 2 + 1 ≤ R.frames; omega, by show 8 + (2 + 11) + 35 ≤ R.locals; omega⟩ (by simp [Value.category]) (by omega) dX11_init_46 (fun H locs hX => ?_)
  refine cr_putr (r := 14) (i := 0) (C := RX11) (T := TX11) (N := 10) (ci := 11) hx hb hts inX11 tyX11 tyX11_ok nmX11 hown hK hX (by decide) LY_0 rfl 3 (by decide) rfl rfl (in_2 (List.mem_of_getElem? (i := 87) rfl) rfl) rfl hin rfl (tyX11_ok 3 (by decide)) rfl rfl dX11_init_49 (fun H locs hX => ?_)
  refine lv_aload_n hx hb dX11_init_52 rfl (lv_at hl 0 rfl) ?_
  refine cr_new (C := RX7) (T := TX7) (N := 5) (ci := 7) hx hb hts inX7 tyX7 tyX7_ok hown (in_1 (List.mem_of_getElem? (i := 147) rfl) rfl) (in_1 (List.mem_of_getElem? (i := 148) rfl) rfl) (in_1 (List.mem_of_getElem? (i := 7) rfl) rfl) hK hX rfl LY_81 rfl (fun k => (((((((((((((hφ.mono (show 1 ≤ 3 by decide)).st (by decide)).up (by decide)).mono (show 3 ≤ 11 by decide)).st (by decide)).up (by decide)).mono (show 11 ≤ 14 by decide)).st (by decide)).up (by decide)).mono (show 14 ≤ 81 by decide)).st (by decide)).st (by decide)).up (by decide)) 81 (by decide) k) (fun k => congrFun ((((((hS.mono (show 1 ≤ 3 by decide)).mono (show 3 ≤ 11 by decide)).mono (show 11 ≤ 14 by decide)).mono (show 14 ≤ 81 by decide)).up (by decide)) 81 (by decide)).1 k) (fun j hj => by rcases (show j = 0 ∨ j = 1 ∨ j = 2 ∨ j = 3 ∨ j = 4 by omega) with rfl | rfl | rfl | rfl | rfl <;> rfl) (by omega) (by omega) dX11_init_53 (fun H hX => ?_)
  refine lv_dup hx hb dX11_init_56 rfl ?_
  refine lv_aload_n hx hb dX11_init_57 rfl (lv_at hl 0 rfl) ?_
  refine cr_get (r := 11) (i := 0) (C := RX11) (T := TX11) (N := 10) (ci := 11) hx hb hts inX11 hown hK hX (by decide) LY_0 rfl 2 (by decide) rfl (by simp [upB, stO]) (in_2 (List.mem_of_getElem? (i := 86) rfl) rfl) dX11_init_58 ?_
  refine cr_init (as := [.inr (.inr 11)]) (i := 81) (nA := 1) (ct_81 l ((((((((((((((hφ.mono (show 1 ≤ 3 by decide)).st (by decide)).up (by decide)).mono (show 3 ≤ 11 by decide)).st (by decide)).up (by decide)).mono (show 11 ≤ 14 by decide)).st (by decide)).up (by decide)).mono (show 14 ≤ 81 by decide)).st (by decide)).st (by decide)).up (by decide)).mono (by decide)) ((((((hS.mono (show 1 ≤ 3 by decide)).mono (show 3 ≤ 11 by decide)).mono (show 11 ≤ 14 by decide)).mono (show 14 ≤ 81 by decide)).up (by decide)).mono (by decide))) hx hb hml hl.1 hown hts hK hN hX rfl meI_X7 (in_1 (List.mem_of_getElem? (i := 7) rfl) rfl) ((in_1 (List.mem_of_getElem? (i := 149) rfl) rfl)) (in_1 (List.mem_of_getElem? (i := 150) rfl) rfl) rfl (by decide +kernel) rfl ⟨by show 2 + 1 ≤ R.frames; omega, by show 8 + (2 + 11) + 35 ≤ R.locals; omega⟩ (by simp [Value.category]) (by omega) dX11_init_61 (fun H locs hX => ?_)
  refine cr_putr (r := 81) (i := 0) (C := RX11) (T := TX11) (N := 10) (ci := 11) hx hb hts inX11 tyX11 tyX11_ok nmX11 hown hK hX (by decide) LY_0 rfl 4 (by decide) rfl rfl (in_2 (List.mem_of_getElem? (i := 88) rfl) rfl) rfl hin rfl (tyX11_ok 4 (by decide)) rfl rfl dX11_init_64 (fun H locs hX => ?_)
  refine lv_aload_n hx hb dX11_init_67 rfl (lv_at hl 0 rfl) ?_
  refine cr_new (C := RX6) (T := TX6) (N := 2) (ci := 6) hx hb hts inX6 tyX6 tyX6_ok hown (in_1 (List.mem_of_getElem? (i := 182) rfl) rfl) (in_1 (List.mem_of_getElem? (i := 183) rfl) rfl) (in_1 (List.mem_of_getElem? (i := 8) rfl) rfl) hK hX rfl LY_208 rfl (fun k => (((((((((((((((((hφ.mono (show 1 ≤ 3 by decide)).st (by decide)).up (by decide)).mono (show 3 ≤ 11 by decide)).st (by decide)).up (by decide)).mono (show 11 ≤ 14 by decide)).st (by decide)).up (by decide)).mono (show 14 ≤ 81 by decide)).st (by decide)).st (by decide)).up (by decide)).mono (show 81 ≤ 208 by decide)).st (by decide)).st (by decide)).up (by decide)) 208 (by decide) k) (fun k => congrFun ((((((((hS.mono (show 1 ≤ 3 by decide)).mono (show 3 ≤ 11 by decide)).mono (show 11 ≤ 14 by decide)).mono (show 14 ≤ 81 by decide)).up (by decide)).mono (show 81 ≤ 208 by decide)).up (by decide)) 208 (by decide)).1 k) (fun j hj => by rcases (show j = 0 ∨ j = 1 by omega) with rfl | rfl <;> rfl) (by omega) (by omega) dX11_init_68 (fun H hX => ?_)
  refine lv_dup hx hb dX11_init_71 rfl ?_
  refine cr_init (as := []) (i := 208) (nA := 0) (ct_208 l ((((((((((((((((((hφ.mono (show 1 ≤ 3 by decide)).st (by decide)).up (by decide)).mono (show 3 ≤ 11 by decide)).st (by decide)).up (by decide)).mono (show 11 ≤ 14 by decide)).st (by decide)).up (by decide)).mono (show 14 ≤ 81 by decide)).st (by decide)).st (by decide)).up (by decide)).mono (show 81 ≤ 208 by decide)).st (by decide)).st (by decide)).up (by decide)).mono (by decide)) ((((((((hS.mono (show 1 ≤ 3 by decide)).mono (show 3 ≤ 11 by decide)).mono (show 11 ≤ 14 by decide)).mono (show 14 ≤ 81 by decide)).up (by decide)).mono (show 81 ≤ 208 by decide)).up (by decide)).mono (by decide))) hx hb hml hl.1 hown hts hK hN hX rfl meI_X6 (in_1 (List.mem_of_getElem? (i := 8) rfl) rfl) ((in_1 (List.mem_of_getElem? (i := 184) rfl) rfl)) (in_1 (List.mem_of_getElem? (i := 185) rfl) rfl) rfl (by decide +kernel) rfl ⟨by show 1 + 1 ≤ R.frames; omega, by show 8 + (2 + 11) + 12 ≤ R.locals; omega⟩ (by simp [Value.category]) (by omega) dX11_init_72 (fun H locs hX => ?_)
  refine cr_putr (r := 208) (i := 0) (C := RX11) (T := TX11) (N := 10) (ci := 11) hx hb hts inX11 tyX11 tyX11_ok nmX11 hown hK hX (by decide) LY_0 rfl 5 (by decide) rfl rfl (in_2 (List.mem_of_getElem? (i := 89) rfl) rfl) rfl hin rfl (tyX11_ok 5 (by decide)) rfl rfl dX11_init_75 (fun H locs hX => ?_)
  refine lv_aload_n hx hb dX11_init_78 rfl (lv_at hl 0 rfl) ?_
  refine cr_new (C := RX9) (T := TX9) (N := 10) (ci := 9) hx hb hts inX9 tyX9 tyX9_ok hown (in_1 (List.mem_of_getElem? (i := 200) rfl) rfl) (in_1 (List.mem_of_getElem? (i := 201) rfl) rfl) (in_1 (List.mem_of_getElem? (i := 9) rfl) rfl) hK hX rfl LY_211 rfl (fun k => ((((((((((((((((((((hφ.mono (show 1 ≤ 3 by decide)).st (by decide)).up (by decide)).mono (show 3 ≤ 11 by decide)).st (by decide)).up (by decide)).mono (show 11 ≤ 14 by decide)).st (by decide)).up (by decide)).mono (show 14 ≤ 81 by decide)).st (by decide)).st (by decide)).up (by decide)).mono (show 81 ≤ 208 by decide)).st (by decide)).st (by decide)).up (by decide)).mono (show 208 ≤ 211 by decide)).st (by decide)).up (by decide)) 211 (by decide) k) (fun k => congrFun ((zS_sn (by decide) ((((((((hS.mono (show 1 ≤ 3 by decide)).mono (show 3 ≤ 11 by decide)).mono (show 11 ≤ 14 by decide)).mono (show 14 ≤ 81 by decide)).up (by decide)).mono (show 81 ≤ 208 by decide)).up (by decide)).mono (show 208 ≤ 211 by decide))) 211 (by decide)).1 k) (fun j hj => by rcases (show j = 0 ∨ j = 1 ∨ j = 2 ∨ j = 3 ∨ j = 4 ∨ j = 5 ∨ j = 6 ∨ j = 7 ∨ j = 8 ∨ j = 9 by omega) with rfl | rfl | rfl | rfl | rfl | rfl | rfl | rfl | rfl | rfl <;> rfl) (by omega) (by omega) dX11_init_79 (fun H hX => ?_)
  refine lv_dup hx hb dX11_init_82 rfl ?_
  refine lv_aload_n hx hb dX11_init_83 rfl (lv_at hl 0 rfl) ?_
  refine cr_get (r := 3) (i := 0) (C := RX11) (T := TX11) (N := 10) (ci := 11) hx hb hts inX11 hown hK hX (by decide) LY_0 rfl 1 (by decide) rfl (by simp [upB, stO]) (in_2 (List.mem_of_getElem? (i := 85) rfl) rfl) dX11_init_84 ?_
  refine lv_aload_n hx hb dX11_init_87 rfl (lv_at hl 0 rfl) ?_
  refine cr_get (r := 81) (i := 0) (C := RX11) (T := TX11) (N := 10) (ci := 11) hx hb hts inX11 hown hK hX (by decide) LY_0 rfl 4 (by decide) rfl (by simp [upB, stO]) (in_2 (List.mem_of_getElem? (i := 88) rfl) rfl) dX11_init_88 ?_
  refine lv_aload_n hx hb dX11_init_91 rfl (lv_at hl 0 rfl) ?_
  refine cr_get (r := 208) (i := 0) (C := RX11) (T := TX11) (N := 10) (ci := 11) hx hb hts inX11 hown hK hX (by decide) LY_0 rfl 5 (by decide) rfl (by simp [upB, stO]) (in_2 (List.mem_of_getElem? (i := 89) rfl) rfl) dX11_init_92 ?_
  refine cr_init (as := [.inr (.inr 3), .inr (.inr 81), .inr (.inr 208)]) (i := 211) (nA := 3) (ct_211 l (((((((((((((((((((((hφ.mono (show 1 ≤ 3 by decide)).st (by decide)).up (by decide)).mono (show 3 ≤ 11 by decide)).st (by decide)).up (by decide)).mono (show 11 ≤ 14 by decide)).st (by decide)).up (by decide)).mono (show 14 ≤ 81 by decide)).st (by decide)).st (by decide)).up (by decide)).mono (show 81 ≤ 208 by decide)).st (by decide)).st (by decide)).up (by decide)).mono (show 208 ≤ 211 by decide)).st (by decide)).up (by decide)).mono (by decide)) ((zS_sn (by decide) ((((((((hS.mono (show 1 ≤ 3 by decide)).mono (show 3 ≤ 11 by decide)).mono (show 11 ≤ 14 by decide)).mono (show 14 ≤ 81 by decide)).up (by decide)).mono (show 81 ≤ 208 by decide)).up (by decide)).mono (show 208 ≤ 211 by decide))).mono (by decide))) hx hb hml hl.1 hown hts hK hN hX rfl meI_X9 (in_1 (List.mem_of_getElem? (i := 9) rfl) rfl) ((in_1 (List.mem_of_getElem? (i := 202) rfl) rfl)) (in_1 (List.mem_of_getElem? (i := 203) rfl) rfl) rfl (by decide +kernel) rfl ⟨by show 1 + 1 ≤ R.frames; omega, by show 8 + (4 + 11) + 12 ≤ R.locals; omega⟩ (by simp [Value.category]) (by omega) dX11_init_95 (fun H locs hX => ?_)
  refine cr_putr (r := 211) (i := 0) (C := RX11) (T := TX11) (N := 10) (ci := 11) hx hb hts inX11 tyX11 tyX11_ok nmX11 hown hK hX (by decide) LY_0 rfl 6 (by decide) rfl rfl (in_2 (List.mem_of_getElem? (i := 90) rfl) rfl) rfl hin rfl (tyX11_ok 6 (by decide)) rfl rfl dX11_init_98 (fun H locs hX => ?_)
  refine lv_aload_n hx hb dX11_init_101 rfl (lv_at hl 0 rfl) ?_
  refine cr_new (C := RX3) (T := TX3) (N := 3) (ci := 3) hx hb hts inX3 tyX3 tyX3_ok hown (in_2 (List.mem_of_getElem? (i := 5) rfl) rfl) (in_2 (List.mem_of_getElem? (i := 6) rfl) rfl) (in_1 (List.mem_of_getElem? (i := 10) rfl) rfl) hK hX rfl LY_219 rfl (fun k => (((((((((((((((((((((((hφ.mono (show 1 ≤ 3 by decide)).st (by decide)).up (by decide)).mono (show 3 ≤ 11 by decide)).st (by decide)).up (by decide)).mono (show 11 ≤ 14 by decide)).st (by decide)).up (by decide)).mono (show 14 ≤ 81 by decide)).st (by decide)).st (by decide)).up (by decide)).mono (show 81 ≤ 208 by decide)).st (by decide)).st (by decide)).up (by decide)).mono (show 208 ≤ 211 by decide)).st (by decide)).up (by decide)).mono (show 211 ≤ 219 by decide)).st (by decide)).up (by decide)) 219 (by decide) k) (fun k => congrFun (((zS_sn (by decide) ((((((((hS.mono (show 1 ≤ 3 by decide)).mono (show 3 ≤ 11 by decide)).mono (show 11 ≤ 14 by decide)).mono (show 14 ≤ 81 by decide)).up (by decide)).mono (show 81 ≤ 208 by decide)).up (by decide)).mono (show 208 ≤ 211 by decide))).mono (show 211 ≤ 219 by decide)) 219 (by decide)).1 k) (fun j hj => by rcases (show j = 0 ∨ j = 1 ∨ j = 2 by omega) with rfl | rfl | rfl <;> rfl) (by omega) (by omega) dX11_init_102 (fun H hX => ?_)
  refine lv_dup hx hb dX11_init_105 rfl ?_
  refine cr_initN (as := []) (i := 219) (nA := 0) (ct_219 l ((((((((((((((((((((((((hφ.mono (show 1 ≤ 3 by decide)).st (by decide)).up (by decide)).mono (show 3 ≤ 11 by decide)).st (by decide)).up (by decide)).mono (show 11 ≤ 14 by decide)).st (by decide)).up (by decide)).mono (show 14 ≤ 81 by decide)).st (by decide)).st (by decide)).up (by decide)).mono (show 81 ≤ 208 by decide)).st (by decide)).st (by decide)).up (by decide)).mono (show 208 ≤ 211 by decide)).st (by decide)).up (by decide)).mono (show 211 ≤ 219 by decide)).st (by decide)).up (by decide)).mono (by decide)) (((zS_sn (by decide) ((((((((hS.mono (show 1 ≤ 3 by decide)).mono (show 3 ≤ 11 by decide)).mono (show 11 ≤ 14 by decide)).mono (show 14 ≤ 81 by decide)).up (by decide)).mono (show 81 ≤ 208 by decide)).up (by decide)).mono (show 208 ≤ 211 by decide))).mono (show 211 ≤ 219 by decide)).mono (by decide))) hx hb hml hl.1 hown hts hK hN hX rfl meI_X3 (in_1 (List.mem_of_getElem? (i := 10) rfl) rfl) (hN.1 (64, ⟨"SlipHouse$Pointers", "<init>", "()V"⟩) (by simp [cNl])) (in_2 (List.mem_of_getElem? (i := 8) rfl) rfl) rfl (by decide +kernel) rfl ⟨by show 1 + 1 ≤ R.frames; omega, by show 8 + (1 + 11) + 12 ≤ R.locals; omega⟩ (by simp [Value.category]) (by omega) dX11_init_106 (fun H locs hX => ?_)
  refine cr_putr (r := 219) (i := 0) (C := RX11) (T := TX11) (N := 10) (ci := 11) hx hb hts inX11 tyX11 tyX11_ok nmX11 hown hK hX (by decide) LY_0 rfl 7 (by decide) rfl rfl (in_2 (List.mem_of_getElem? (i := 91) rfl) rfl) rfl hin rfl (tyX11_ok 7 (by decide)) rfl rfl dX11_init_109 (fun H locs hX => ?_)
  refine lv_aload_n hx hb dX11_init_112 rfl (lv_at hl 0 rfl) ?_
  refine cr_new (C := RX1) (T := TX1) (N := 5) (ci := 1) hx hb hts inX1 tyX1 tyX1_ok hown (in_2 (List.mem_of_getElem? (i := 27) rfl) rfl) (in_2 (List.mem_of_getElem? (i := 28) rfl) rfl) (in_1 (List.mem_of_getElem? (i := 11) rfl) rfl) hK hX rfl LY_222 rfl (fun k => ((((((((((((((((((((((((((hφ.mono (show 1 ≤ 3 by decide)).st (by decide)).up (by decide)).mono (show 3 ≤ 11 by decide)).st (by decide)).up (by decide)).mono (show 11 ≤ 14 by decide)).st (by decide)).up (by decide)).mono (show 14 ≤ 81 by decide)).st (by decide)).st (by decide)).up (by decide)).mono (show 81 ≤ 208 by decide)).st (by decide)).st (by decide)).up (by decide)).mono (show 208 ≤ 211 by decide)).st (by decide)).up (by decide)).mono (show 211 ≤ 219 by decide)).st (by decide)).up (by decide)).mono (show 219 ≤ 222 by decide)).st (by decide)).up (by decide)) 222 (by decide) k) (fun k => congrFun ((((zS_sn (by decide) ((((((((hS.mono (show 1 ≤ 3 by decide)).mono (show 3 ≤ 11 by decide)).mono (show 11 ≤ 14 by decide)).mono (show 14 ≤ 81 by decide)).up (by decide)).mono (show 81 ≤ 208 by decide)).up (by decide)).mono (show 208 ≤ 211 by decide))).mono (show 211 ≤ 219 by decide)).mono (show 219 ≤ 222 by decide)) 222 (by decide)).1 k) (fun j hj => by rcases (show j = 0 ∨ j = 1 ∨ j = 2 ∨ j = 3 ∨ j = 4 by omega) with rfl | rfl | rfl | rfl | rfl <;> rfl) (by omega) (by omega) dX11_init_113 (fun H hX => ?_)
  refine lv_dup hx hb dX11_init_116 rfl ?_
  refine lv_aload_n hx hb dX11_init_117 rfl (lv_at hl 0 rfl) ?_
  refine cr_get (r := 81) (i := 0) (C := RX11) (T := TX11) (N := 10) (ci := 11) hx hb hts inX11 hown hK hX (by decide) LY_0 rfl 4 (by decide) rfl (by simp [upB, stO]) (in_2 (List.mem_of_getElem? (i := 88) rfl) rfl) dX11_init_118 ?_
  refine cr_init (as := [.inr (.inr 81)]) (i := 222) (nA := 1) (ct_222 l (((((((((((((((((((((((((((hφ.mono (show 1 ≤ 3 by decide)).st (by decide)).up (by decide)).mono (show 3 ≤ 11 by decide)).st (by decide)).up (by decide)).mono (show 11 ≤ 14 by decide)).st (by decide)).up (by decide)).mono (show 14 ≤ 81 by decide)).st (by decide)).st (by decide)).up (by decide)).mono (show 81 ≤ 208 by decide)).st (by decide)).st (by decide)).up (by decide)).mono (show 208 ≤ 211 by decide)).st (by decide)).up (by decide)).mono (show 211 ≤ 219 by decide)).st (by decide)).up (by decide)).mono (show 219 ≤ 222 by decide)).st (by decide)).up (by decide)).mono (by decide)) ((((zS_sn (by decide) ((((((((hS.mono (show 1 ≤ 3 by decide)).mono (show 3 ≤ 11 by decide)).mono (show 11 ≤ 14 by decide)).mono (show 14 ≤ 81 by decide)).up (by decide)).mono (show 81 ≤ 208 by decide)).up (by decide)).mono (show 208 ≤ 211 by decide))).mono (show 211 ≤ 219 by decide)).mono (show 219 ≤ 222 by decide)).mono (by decide))) hx hb hml hl.1 hown hts hK hN hX rfl meI_X1 (in_1 (List.mem_of_getElem? (i := 11) rfl) rfl) ((in_2 (List.mem_of_getElem? (i := 29) rfl) rfl)) (in_2 (List.mem_of_getElem? (i := 30) rfl) rfl) rfl (by decide +kernel) rfl ⟨by show 1 + 1 ≤ R.frames; omega, by show 8 + (2 + 11) + 12 ≤ R.locals; omega⟩ (by simp [Value.category]) (by omega) dX11_init_121 (fun H locs hX => ?_)
  refine cr_putr (r := 222) (i := 0) (C := RX11) (T := TX11) (N := 10) (ci := 11) hx hb hts inX11 tyX11 tyX11_ok nmX11 hown hK hX (by decide) LY_0 rfl 8 (by decide) rfl rfl (in_2 (List.mem_of_getElem? (i := 92) rfl) rfl) rfl hin rfl (tyX11_ok 8 (by decide)) rfl rfl dX11_init_124 (fun H locs hX => ?_)
  refine lv_aload_n hx hb dX11_init_127 rfl (lv_at hl 0 rfl) ?_
  refine cr_new (C := RX4) (T := TX4) (N := 8) (ci := 4) hx hb hts inX4 tyX4 tyX4_ok hown (in_2 (List.mem_of_getElem? (i := 52) rfl) rfl) (in_2 (List.mem_of_getElem? (i := 53) rfl) rfl) (in_1 (List.mem_of_getElem? (i := 12) rfl) rfl) hK hX rfl LY_242 rfl (fun k => (((((((((((((((((((((((((((((hφ.mono (show 1 ≤ 3 by decide)).st (by decide)).up (by decide)).mono (show 3 ≤ 11 by decide)).st (by decide)).up (by decide)).mono (show 11 ≤ 14 by decide)).st (by decide)).up (by decide)).mono (show 14 ≤ 81 by decide)).st (by decide)).st (by decide)).up (by decide)).mono (show 81 ≤ 208 by decide)).st (by decide)).st (by decide)).up (by decide)).mono (show 208 ≤ 211 by decide)).st (by decide)).up (by decide)).mono (show 211 ≤ 219 by decide)).st (by decide)).up (by decide)).mono (show 219 ≤ 222 by decide)).st (by decide)).up (by decide)).mono (show 222 ≤ 242 by decide)).st (by decide)).up (by decide)) 242 (by decide) k) (fun k => congrFun (((((zS_sn (by decide) ((((((((hS.mono (show 1 ≤ 3 by decide)).mono (show 3 ≤ 11 by decide)).mono (show 11 ≤ 14 by decide)).mono (show 14 ≤ 81 by decide)).up (by decide)).mono (show 81 ≤ 208 by decide)).up (by decide)).mono (show 208 ≤ 211 by decide))).mono (show 211 ≤ 219 by decide)).mono (show 219 ≤ 222 by decide)).mono (show 222 ≤ 242 by decide)) 242 (by decide)).1 k) (fun j hj => by rcases (show j = 0 ∨ j = 1 ∨ j = 2 ∨ j = 3 ∨ j = 4 ∨ j = 5 ∨ j = 6 ∨ j = 7 by omega) with rfl | rfl | rfl | rfl | rfl | rfl | rfl | rfl <;> rfl) (by omega) (by omega) dX11_init_128 (fun H hX => ?_)
  refine lv_dup hx hb dX11_init_131 rfl ?_
  refine lv_aload_n hx hb dX11_init_132 rfl (lv_at hl 0 rfl) ?_
  refine cr_get (r := 14) (i := 0) (C := RX11) (T := TX11) (N := 10) (ci := 11) hx hb hts inX11 hown hK hX (by decide) LY_0 rfl 3 (by decide) rfl (by simp [upB, stO]) (in_2 (List.mem_of_getElem? (i := 87) rfl) rfl) dX11_init_133 ?_
  refine lv_aload_n hx hb dX11_init_136 rfl (lv_at hl 0 rfl) ?_
  refine cr_get (r := 81) (i := 0) (C := RX11) (T := TX11) (N := 10) (ci := 11) hx hb hts inX11 hown hK hX (by decide) LY_0 rfl 4 (by decide) rfl (by simp [upB, stO]) (in_2 (List.mem_of_getElem? (i := 88) rfl) rfl) dX11_init_137 ?_
  refine lv_aload_n hx hb dX11_init_140 rfl (lv_at hl 0 rfl) ?_
  refine cr_get (r := 208) (i := 0) (C := RX11) (T := TX11) (N := 10) (ci := 11) hx hb hts inX11 hown hK hX (by decide) LY_0 rfl 5 (by decide) rfl (by simp [upB, stO]) (in_2 (List.mem_of_getElem? (i := 89) rfl) rfl) dX11_init_141 ?_
  refine lv_aload_n hx hb dX11_init_144 rfl (lv_at hl 0 rfl) ?_
  refine cr_get (r := 211) (i := 0) (C := RX11) (T := TX11) (N := 10) (ci := 11) hx hb hts inX11 hown hK hX (by decide) LY_0 rfl 6 (by decide) rfl (by simp [upB, stO]) (in_2 (List.mem_of_getElem? (i := 90) rfl) rfl) dX11_init_145 ?_
  refine lv_aload_n hx hb dX11_init_148 rfl (lv_at hl 0 rfl) ?_
  refine cr_get (r := 219) (i := 0) (C := RX11) (T := TX11) (N := 10) (ci := 11) hx hb hts inX11 hown hK hX (by decide) LY_0 rfl 7 (by decide) rfl (by simp [upB, stO]) (in_2 (List.mem_of_getElem? (i := 91) rfl) rfl) dX11_init_149 ?_
  refine cr_init (as := [.inr (.inr 14), .inr (.inr 81), .inr (.inr 208), .inr (.inr 211), .inr (.inr 219)]) (i := 242) (nA := 5) (ct_242 l ((((((((((((((((((((((((((((((hφ.mono (show 1 ≤ 3 by decide)).st (by decide)).up (by decide)).mono (show 3 ≤ 11 by decide)).st (by decide)).up (by decide)).mono (show 11 ≤ 14 by decide)).st (by decide)).up (by decide)).mono (show 14 ≤ 81 by decide)).st (by decide)).st (by decide)).up (by decide)).mono (show 81 ≤ 208 by decide)).st (by decide)).st (by decide)).up (by decide)).mono (show 208 ≤ 211 by decide)).st (by decide)).up (by decide)).mono (show 211 ≤ 219 by decide)).st (by decide)).up (by decide)).mono (show 219 ≤ 222 by decide)).st (by decide)).up (by decide)).mono (show 222 ≤ 242 by decide)).st (by decide)).up (by decide)).mono (by decide)) (((((zS_sn (by decide) ((((((((hS.mono (show 1 ≤ 3 by decide)).mono (show 3 ≤ 11 by decide)).mono (show 11 ≤ 14 by decide)).mono (show 14 ≤ 81 by decide)).up (by decide)).mono (show 81 ≤ 208 by decide)).up (by decide)).mono (show 208 ≤ 211 by decide))).mono (show 211 ≤ 219 by decide)).mono (show 219 ≤ 222 by decide)).mono (show 222 ≤ 242 by decide)).mono (by decide))) hx hb hml hl.1 hown hts hK hN hX rfl meI_X4 (in_1 (List.mem_of_getElem? (i := 12) rfl) rfl) ((in_2 (List.mem_of_getElem? (i := 54) rfl) rfl)) (in_2 (List.mem_of_getElem? (i := 55) rfl) rfl) rfl (by decide +kernel) rfl ⟨by show 1 + 1 ≤ R.frames; omega, by show 8 + (6 + 11) + 12 ≤ R.locals; omega⟩ (by simp [Value.category]) (by omega) dX11_init_152 (fun H locs hX => ?_)
  refine cr_putr (r := 242) (i := 0) (C := RX11) (T := TX11) (N := 10) (ci := 11) hx hb hts inX11 tyX11 tyX11_ok nmX11 hown hK hX (by decide) LY_0 rfl 9 (by decide) rfl rfl (in_2 (List.mem_of_getElem? (i := 93) rfl) rfl) rfl hin rfl (tyX11_ok 9 (by decide)) rfl rfl dX11_init_155 (fun H locs hX => ?_)
  have hX := cX_O (φ' := (stO (stO (stO (stO (stO (stO (stO (stO (stO (stO (stO (stO (stO φ 1) 3) 11) 18) 14) 85) 81) 208) 211) 219) 222) 242) 0)) hX LY_0 (fun k r hk => match k, hk with | 0, hk => by simp [upB, stO] | 1, hk => by simp [upB, stO] | 2, hk => by simp [upB, stO] | 3, hk => by simp [upB, stO] | 4, hk => by simp [upB, stO] | 5, hk => by simp [upB, stO] | 6, hk => by simp [upB, stO] | 7, hk => by simp [upB, stO] | 8, hk => by simp [upB, stO] | 9, hk => by simp [upB, stO] | (q + 10), hk => absurd hk (by simp)) (fun k => by simp [stO]) (fun a ha => funext fun b => by simp [stO, upB, ha])
  exact cr_ret hx hb hr hX hlocks dX11_init_158 (by decide) (by decide)
