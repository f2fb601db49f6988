theorem inX0 : ∀ w ∈ u_ws RX0 TX0 9, w ∈ gw := all_cons (in_1 (List.mem_of_getElem? (i := 61) rfl) rfl) (all_cons (in_1 (List.mem_of_getElem? (i := 63) rfl) rfl) (all_cons (in_1 (List.mem_of_getElem? (i := 65) rfl) rfl) (all_cons (in_1 (List.mem_of_getElem? (i := 67) rfl) rfl) (all_cons (in_1 (List.mem_of_getElem? (i := 69) rfl) rfl) (all_cons (in_1 (List.mem_of_getElem? (i := 71) rfl) rfl) (all_cons (in_1 (List.mem_of_getElem? (i := 73) rfl) rfl) (all_cons (in_1 (List.mem_of_getElem? (i := 75) rfl) rfl) (all_cons (in_1 (List.mem_of_getElem? (i := 77) rfl) rfl) (all_nil)))))))))
theorem fpkX0_7 : fPk 0 7 := ⟨RX0, TX0, 9, tyX0, rfl, rfl, by decide +kernel, tyX0_ok, nmX0⟩
theorem fpkX0_8 : fPk 0 8 := ⟨RX0, TX0, 9, tyX0, rfl, rfl, by decide +kernel, tyX0_ok, nmX0⟩
theorem inX1 : ∀ w ∈ u_ws RX1 TX1 5, w ∈ gw := all_cons (in_2 (List.mem_of_getElem? (i := 41) rfl) rfl) (all_cons (in_2 (List.mem_of_getElem? (i := 43) rfl) rfl) (all_cons (in_2 (List.mem_of_getElem? (i := 45) rfl) rfl) (all_cons (in_2 (List.mem_of_getElem? (i := 47) rfl) rfl) (all_cons (in_2 (List.mem_of_getElem? (i := 49) rfl) rfl) (all_nil)))))
theorem fpkX1_4 : fPk 1 4 := ⟨RX1, TX1, 5, tyX1, rfl, rfl, by decide +kernel, tyX1_ok, nmX1⟩
theorem inX2 : ∀ w ∈ u_ws RX2 TX2 5, w ∈ gw := all_cons (in_1 (List.mem_of_getElem? (i := 136) rfl) rfl) (all_cons (in_1 (List.mem_of_getElem? (i := 138) rfl) rfl) (all_cons (in_1 (List.mem_of_getElem? (i := 140) rfl) rfl) (all_cons (in_1 (List.mem_of_getElem? (i := 142) rfl) rfl) (all_cons (in_1 (List.mem_of_getElem? (i := 144) rfl) rfl) (all_nil)))))
theorem fpkX2_4 : fPk 2 4 := ⟨RX2, TX2, 5, tyX2, rfl, rfl, by decide +kernel, tyX2_ok, nmX2⟩
theorem inX3 : ∀ w ∈ u_ws RX3 TX3 3, w ∈ gw := all_cons (in_2 (List.mem_of_getElem? (i := 20) rfl) rfl) (all_cons (in_2 (List.mem_of_getElem? (i := 22) rfl) rfl) (all_cons (in_2 (List.mem_of_getElem? (i := 24) rfl) rfl) (all_nil)))
theorem fpkX3_2 : fPk 3 2 := ⟨RX3, TX3, 3, tyX3, rfl, rfl, by decide +kernel, tyX3_ok, nmX3⟩
theorem inX4 : ∀ w ∈ u_ws RX4 TX4 8, w ∈ gw := all_cons (in_2 (List.mem_of_getElem? (i := 66) rfl) rfl) (all_cons (in_2 (List.mem_of_getElem? (i := 68) rfl) rfl) (all_cons (in_2 (List.mem_of_getElem? (i := 70) rfl) rfl) (all_cons (in_2 (List.mem_of_getElem? (i := 72) rfl) rfl) (all_cons (in_2 (List.mem_of_getElem? (i := 74) rfl) rfl) (all_cons (in_2 (List.mem_of_getElem? (i := 76) rfl) rfl) (all_cons (in_2 (List.mem_of_getElem? (i := 78) rfl) rfl) (all_cons (in_2 (List.mem_of_getElem? (i := 80) rfl) rfl) (all_nil))))))))
theorem fpkX4_7 : fPk 4 7 := ⟨RX4, TX4, 8, tyX4, rfl, rfl, by decide +kernel, tyX4_ok, nmX4⟩
theorem inX5 : ∀ w ∈ u_ws RX5 TX5 3, w ∈ gw := all_cons (in_1 (List.mem_of_getElem? (i := 93) rfl) rfl) (all_cons (in_1 (List.mem_of_getElem? (i := 95) rfl) rfl) (all_cons (in_1 (List.mem_of_getElem? (i := 97) rfl) rfl) (all_nil)))
theorem fpkX5_2 : fPk 5 2 := ⟨RX5, TX5, 3, tyX5, rfl, rfl, by decide +kernel, tyX5_ok, nmX5⟩
theorem inX6 : ∀ w ∈ u_ws RX6 TX6 2, w ∈ gw := all_cons (in_1 (List.mem_of_getElem? (i := 195) rfl) rfl) (all_cons (in_1 (List.mem_of_getElem? (i := 197) rfl) rfl) (all_nil))
theorem inX7 : ∀ w ∈ u_ws RX7 TX7 5, w ∈ gw := all_cons (in_1 (List.mem_of_getElem? (i := 171) rfl) rfl) (all_cons (in_1 (List.mem_of_getElem? (i := 173) rfl) rfl) (all_cons (in_1 (List.mem_of_getElem? (i := 175) rfl) rfl) (all_cons (in_1 (List.mem_of_getElem? (i := 177) rfl) rfl) (all_cons (in_1 (List.mem_of_getElem? (i := 179) rfl) rfl) (all_nil)))))
theorem fpkX7_4 : fPk 7 4 := ⟨RX7, TX7, 5, tyX7, rfl, rfl, by decide +kernel, tyX7_ok, nmX7⟩
theorem inX8 : ∀ w ∈ u_ws RX8 TX8 2, w ∈ gw := all_cons (in_1 (List.mem_of_getElem? (i := 32) rfl) rfl) (all_cons (in_1 (List.mem_of_getElem? (i := 34) rfl) rfl) (all_nil))
theorem fpkX8_1 : fPk 8 1 := ⟨RX8, TX8, 2, tyX8, rfl, rfl, by decide +kernel, tyX8_ok, nmX8⟩
theorem inX9 : ∀ w ∈ u_ws RX9 TX9 10, w ∈ gw := all_cons (in_1 (List.mem_of_getElem? (i := 224) rfl) rfl) (all_cons (in_1 (List.mem_of_getElem? (i := 226) rfl) rfl) (all_cons (in_1 (List.mem_of_getElem? (i := 228) rfl) rfl) (all_cons (in_1 (List.mem_of_getElem? (i := 230) rfl) rfl) (all_cons (in_1 (List.mem_of_getElem? (i := 232) rfl) rfl) (all_cons (in_1 (List.mem_of_getElem? (i := 234) rfl) rfl) (all_cons (in_1 (List.mem_of_getElem? (i := 236) rfl) rfl) (all_cons (in_1 (List.mem_of_getElem? (i := 238) rfl) rfl) (all_cons (in_2 (List.mem_of_getElem? (i := 0) rfl) rfl) (all_cons (in_2 (List.mem_of_getElem? (i := 2) rfl) rfl) (all_nil))))))))))
theorem inX10 : ∀ w ∈ u_ws RX10 TX10 4, w ∈ gw := all_cons (in_1 (List.mem_of_getElem? (i := 119) rfl) rfl) (all_cons (in_1 (List.mem_of_getElem? (i := 121) rfl) rfl) (all_cons (in_1 (List.mem_of_getElem? (i := 123) rfl) rfl) (all_cons (in_1 (List.mem_of_getElem? (i := 125) rfl) rfl) (all_nil))))
theorem inX11 : ∀ w ∈ u_ws RX11 TX11 10, w ∈ gw := all_cons (in_2 (List.mem_of_getElem? (i := 94) rfl) rfl) (all_cons (in_2 (List.mem_of_getElem? (i := 96) rfl) rfl) (all_cons (in_2 (List.mem_of_getElem? (i := 98) rfl) rfl) (all_cons (in_2 (List.mem_of_getElem? (i := 100) rfl) rfl) (all_cons (in_2 (List.mem_of_getElem? (i := 102) rfl) rfl) (all_cons (in_2 (List.mem_of_getElem? (i := 104) rfl) rfl) (all_cons (in_2 (List.mem_of_getElem? (i := 106) rfl) rfl) (all_cons (in_2 (List.mem_of_getElem? (i := 108) rfl) rfl) (all_cons (in_2 (List.mem_of_getElem? (i := 110) rfl) rfl) (all_cons (in_2 (List.mem_of_getElem? (i := 112) rfl) rfl) (all_nil))))))))))
theorem inX12 : ∀ w ∈ u_ws RX12 TX12 44, w ∈ gw := all_cons (in_4 (List.mem_of_getElem? (i := 208) rfl) rfl) (all_cons (in_4 (List.mem_of_getElem? (i := 210) rfl) rfl) (all_cons (in_4 (List.mem_of_getElem? (i := 212) rfl) rfl) (all_cons (in_4 (List.mem_of_getElem? (i := 214) rfl) rfl) (all_cons (in_4 (List.mem_of_getElem? (i := 216) rfl) rfl) (all_cons (in_4 (List.mem_of_getElem? (i := 218) rfl) rfl) (all_cons (in_4 (List.mem_of_getElem? (i := 220) rfl) rfl) (all_cons (in_4 (List.mem_of_getElem? (i := 222) rfl) rfl) (all_cons (in_4 (List.mem_of_getElem? (i := 224) rfl) rfl) (all_cons (in_4 (List.mem_of_getElem? (i := 226) rfl) rfl) (all_cons (in_4 (List.mem_of_getElem? (i := 228) rfl) rfl) (all_cons (in_4 (List.mem_of_getElem? (i := 230) rfl) rfl) (all_cons (in_4 (List.mem_of_getElem? (i := 232) rfl) rfl) (all_cons (in_4 (List.mem_of_getElem? (i := 234) rfl) rfl) (all_cons (in_4 (List.mem_of_getElem? (i := 236) rfl) rfl) (all_cons (in_4 (List.mem_of_getElem? (i := 238) rfl) rfl) (all_cons (in_5 (List.mem_of_getElem? (i := 0) rfl) rfl) (all_cons (in_5 (List.mem_of_getElem? (i := 2) rfl) rfl) (all_cons (in_5 (List.mem_of_getElem? (i := 4) rfl) rfl) (all_cons (in_5 (List.mem_of_getElem? (i := 6) rfl) rfl) (all_cons (in_5 (List.mem_of_getElem? (i := 8) rfl) rfl) (all_cons (in_5 (List.mem_of_getElem? (i := 10) rfl) rfl) (all_cons (in_5 (List.mem_of_getElem? (i := 12) rfl) rfl) (all_cons (in_5 (List.mem_of_getElem? (i := 14) rfl) rfl) (all_cons (in_5 (List.mem_of_getElem? (i := 16) rfl) rfl) (all_cons (in_5 (List.mem_of_getElem? (i := 18) rfl) rfl) (all_cons (in_5 (List.mem_of_getElem? (i := 20) rfl) rfl) (all_cons (in_5 (List.mem_of_getElem? (i := 22) rfl) rfl) (all_cons (in_5 (List.mem_of_getElem? (i := 24) rfl) rfl) (all_cons (in_5 (List.mem_of_getElem? (i := 26) rfl) rfl) (all_cons (in_5 (List.mem_of_getElem? (i := 28) rfl) rfl) (all_cons (in_5 (List.mem_of_getElem? (i := 30) rfl) rfl) (all_cons (in_5 (List.mem_of_getElem? (i := 32) rfl) rfl) (all_cons (in_5 (List.mem_of_getElem? (i := 34) rfl) rfl) (all_cons (in_5 (List.mem_of_getElem? (i := 36) rfl) rfl) (all_cons (in_5 (List.mem_of_getElem? (i := 38) rfl) rfl) (all_cons (in_5 (List.mem_of_getElem? (i := 40) rfl) rfl) (all_cons (in_5 (List.mem_of_getElem? (i := 42) rfl) rfl) (all_cons (in_5 (List.mem_of_getElem? (i := 44) rfl) rfl) (all_cons (in_5 (List.mem_of_getElem? (i := 46) rfl) rfl) (all_cons (in_5 (List.mem_of_getElem? (i := 48) rfl) rfl) (all_cons (in_5 (List.mem_of_getElem? (i := 50) rfl) rfl) (all_cons (in_5 (List.mem_of_getElem? (i := 52) rfl) rfl) (all_cons (in_5 (List.mem_of_getElem? (i := 54) rfl) rfl) (all_nil))))))))))))))))))))))))))))))))))))))))))))
theorem fpkX12_2 : fPk 12 2 := ⟨RX12, TX12, 44, tyX12, rfl, rfl, by decide +kernel, tyX12_ok, nmX12⟩
theorem fpkX12_3 : fPk 12 3 := ⟨RX12, TX12, 44, tyX12, rfl, rfl, by decide +kernel, tyX12_ok, nmX12⟩
theorem fpkX12_4 : fPk 12 4 := ⟨RX12, TX12, 44, tyX12, rfl, rfl, by decide +kernel, tyX12_ok, nmX12⟩
theorem fpkX12_12 : fPk 12 12 := ⟨RX12, TX12, 44, tyX12, rfl, rfl, by decide +kernel, tyX12_ok, nmX12⟩
theorem fpkX12_13 : fPk 12 13 := ⟨RX12, TX12, 44, tyX12, rfl, rfl, by decide +kernel, tyX12_ok, nmX12⟩
theorem fpkX12_14 : fPk 12 14 := ⟨RX12, TX12, 44, tyX12, rfl, rfl, by decide +kernel, tyX12_ok, nmX12⟩
theorem fpkX12_29 : fPk 12 29 := ⟨RX12, TX12, 44, tyX12, rfl, rfl, by decide +kernel, tyX12_ok, nmX12⟩
theorem fpkX12_32 : fPk 12 32 := ⟨RX12, TX12, 44, tyX12, rfl, rfl, by decide +kernel, tyX12_ok, nmX12⟩
theorem fpkX12_33 : fPk 12 33 := ⟨RX12, TX12, 44, tyX12, rfl, rfl, by decide +kernel, tyX12_ok, nmX12⟩
theorem fpkX12_34 : fPk 12 34 := ⟨RX12, TX12, 44, tyX12, rfl, rfl, by decide +kernel, tyX12_ok, nmX12⟩
theorem fpkX12_35 : fPk 12 35 := ⟨RX12, TX12, 44, tyX12, rfl, rfl, by decide +kernel, tyX12_ok, nmX12⟩
theorem fpkX12_36 : fPk 12 36 := ⟨RX12, TX12, 44, tyX12, rfl, rfl, by decide +kernel, tyX12_ok, nmX12⟩
theorem fpkX12_37 : fPk 12 37 := ⟨RX12, TX12, 44, tyX12, rfl, rfl, by decide +kernel, tyX12_ok, nmX12⟩
theorem fpkX12_42 : fPk 12 42 := ⟨RX12, TX12, 44, tyX12, rfl, rfl, by decide +kernel, tyX12_ok, nmX12⟩
theorem fokX0_9 : fOK RX0 9 0 0 := ⟨RX0, TX0, 9, rfl, by decide, inX0, Or.inl (in_1 (List.mem_of_getElem? (i := 44) rfl) rfl)⟩
theorem fokX0_15 : fOK RX0 15 0 1 := ⟨RX0, TX0, 9, rfl, by decide, inX0, Or.inl (in_1 (List.mem_of_getElem? (i := 46) rfl) rfl)⟩
theorem fokX0_18 : fOK RX0 18 0 2 := ⟨RX0, TX0, 9, rfl, by decide, inX0, Or.inl (in_1 (List.mem_of_getElem? (i := 48) rfl) rfl)⟩
theorem fokX0_21 : fOK RX0 21 0 3 := ⟨RX0, TX0, 9, rfl, by decide, inX0, Or.inl (in_1 (List.mem_of_getElem? (i := 51) rfl) rfl)⟩
theorem fokX0_24 : fOK RX0 24 0 4 := ⟨RX0, TX0, 9, rfl, by decide, inX0, Or.inl (in_1 (List.mem_of_getElem? (i := 54) rfl) rfl)⟩
theorem fokX0_27 : fOK RX0 27 0 5 := ⟨RX0, TX0, 9, rfl, by decide, inX0, Or.inl (in_1 (List.mem_of_getElem? (i := 55) rfl) rfl)⟩
theorem fokX0_30 : fOK RX0 30 0 6 := ⟨RX0, TX0, 9, rfl, by decide, inX0, Or.inl (in_1 (List.mem_of_getElem? (i := 56) rfl) rfl)⟩
theorem fokX0_33 : fOK RX0 33 0 7 := ⟨RX0, TX0, 9, rfl, by decide, inX0, Or.inl (in_1 (List.mem_of_getElem? (i := 57) rfl) rfl)⟩
theorem fokX0_37 : fOK RX0 37 0 8 := ⟨RX0, TX0, 9, rfl, by decide, inX0, Or.inl (in_1 (List.mem_of_getElem? (i := 59) rfl) rfl)⟩
def fX0l : List (Nat × Nat × Nat) := [(9, 0, 0), (15, 0, 1), (18, 0, 2), (21, 0, 3), (24, 0, 4), (27, 0, 5), (30, 0, 6), (33, 0, 7), (37, 0, 8)]
def fX0 (j : Nat) : Option (Nat × Nat) := lk fX0l j
theorem fX0_9 : fX0 9 = some (0, 0) := rfl
theorem fX0_15 : fX0 15 = some (0, 1) := rfl
theorem fX0_18 : fX0 18 = some (0, 2) := rfl
theorem fX0_21 : fX0 21 = some (0, 3) := rfl
theorem fX0_24 : fX0 24 = some (0, 4) := rfl
theorem fX0_27 : fX0 27 = some (0, 5) := rfl
theorem fX0_30 : fX0 30 = some (0, 6) := rfl
theorem fX0_33 : fX0 33 = some (0, 7) := rfl
theorem fX0_37 : fX0 37 = some (0, 8) := rfl
theorem fX0_all : ∀ e ∈ fX0l, fOK RX0 e.1 e.2.1 e.2.2 := all_cons fokX0_9 (all_cons fokX0_15 (all_cons fokX0_18 (all_cons fokX0_21 (all_cons fokX0_24 (all_cons fokX0_27 (all_cons fokX0_30 (all_cons fokX0_33 (all_cons fokX0_37 (all_nil)))))))))
theorem fX0_ok : ∀ idx ci f, fX0 idx = some (ci, f) → fOK RX0 idx ci f := fun _ _ _ h => fX0_all _ (lk_mem h)
def pX0l : List (Nat × Nat × Nat) := [(33, 0, 7), (37, 0, 8)]
def pX0 (j : Nat) : Option (Nat × Nat) := lk pX0l j
theorem pX0_33 : pX0 33 = some (0, 7) := rfl
theorem pX0_37 : pX0 37 = some (0, 8) := rfl
theorem pX0_all : ∀ e ∈ pX0l, fOK RX0 e.1 e.2.1 e.2.2 ∧ fPk e.2.1 e.2.2 := all_cons ⟨fokX0_33, fpkX0_7⟩ (all_cons ⟨fokX0_37, fpkX0_8⟩ (all_nil))
theorem pX0_ok : ∀ idx ci f, pX0 idx = some (ci, f) → fOK RX0 idx ci f ∧ fPk ci f := fun _ _ _ h => pX0_all _ (lk_mem h)
def kX0 (j : Nat) : Option Int := none
theorem kX0_ok : ∀ idx x, kX0 idx = some x → ∃ v : Int64, x = v.toInt ∧ Cond.constantLong RX0 idx v ∈ gw := by
  intro idx x h
  unfold kX0 at h
  cases h
theorem fokX1_9 : fOK RX1 9 1 1 := ⟨RX1, TX1, 5, rfl, by decide, inX1, Or.inl (in_2 (List.mem_of_getElem? (i := 36) rfl) rfl)⟩
theorem fokX1_17 : fOK RX1 17 1 2 := ⟨RX1, TX1, 5, rfl, by decide, inX1, Or.inl (in_2 (List.mem_of_getElem? (i := 37) rfl) rfl)⟩
theorem fokX1_20 : fOK RX1 20 1 3 := ⟨RX1, TX1, 5, rfl, by decide, inX1, Or.inl (in_2 (List.mem_of_getElem? (i := 38) rfl) rfl)⟩
theorem fokX1_23 : fOK RX1 23 1 0 := ⟨RX1, TX1, 5, rfl, by decide, inX1, Or.inl (in_2 (List.mem_of_getElem? (i := 35) rfl) rfl)⟩
theorem fokX1_27 : fOK RX1 27 1 4 := ⟨RX1, TX1, 5, rfl, by decide, inX1, Or.inl (in_2 (List.mem_of_getElem? (i := 39) rfl) rfl)⟩
theorem fokX1_31 : fOK RX1 31 7 4 := ⟨RX7, TX7, 5, rfl, by decide, inX7, Or.inr ⟨"SlipHouse", List.mem_of_getElem? (i := 26) rfl⟩⟩
theorem fokX1_34 : fOK RX1 34 7 1 := ⟨RX7, TX7, 5, rfl, by decide, inX7, Or.inr ⟨"SlipHouse", List.mem_of_getElem? (i := 27) rfl⟩⟩
theorem fokX1_36 : fOK RX1 36 7 2 := ⟨RX7, TX7, 5, rfl, by decide, inX7, Or.inr ⟨"SlipHouse", List.mem_of_getElem? (i := 28) rfl⟩⟩
def fX1l : List (Nat × Nat × Nat) := [(9, 1, 1), (17, 1, 2), (20, 1, 3), (23, 1, 0), (27, 1, 4), (31, 7, 4), (34, 7, 1), (36, 7, 2)]
def fX1 (j : Nat) : Option (Nat × Nat) := lk fX1l j
theorem fX1_9 : fX1 9 = some (1, 1) := rfl
theorem fX1_17 : fX1 17 = some (1, 2) := rfl
theorem fX1_20 : fX1 20 = some (1, 3) := rfl
theorem fX1_23 : fX1 23 = some (1, 0) := rfl
theorem fX1_27 : fX1 27 = some (1, 4) := rfl
theorem fX1_31 : fX1 31 = some (7, 4) := rfl
theorem fX1_34 : fX1 34 = some (7, 1) := rfl
theorem fX1_36 : fX1 36 = some (7, 2) := rfl
theorem fX1_all : ∀ e ∈ fX1l, fOK RX1 e.1 e.2.1 e.2.2 := all_cons fokX1_9 (all_cons fokX1_17 (all_cons fokX1_20 (all_cons fokX1_23 (all_cons fokX1_27 (all_cons fokX1_31 (all_cons fokX1_34 (all_cons fokX1_36 (all_nil))))))))
theorem fX1_ok : ∀ idx ci f, fX1 idx = some (ci, f) → fOK RX1 idx ci f := fun _ _ _ h => fX1_all _ (lk_mem h)
def pX1l : List (Nat × Nat × Nat) := [(27, 1, 4), (31, 7, 4)]
def pX1 (j : Nat) : Option (Nat × Nat) := lk pX1l j
theorem pX1_27 : pX1 27 = some (1, 4) := rfl
theorem pX1_31 : pX1 31 = some (7, 4) := rfl
theorem pX1_all : ∀ e ∈ pX1l, fOK RX1 e.1 e.2.1 e.2.2 ∧ fPk e.2.1 e.2.2 := all_cons ⟨fokX1_27, fpkX1_4⟩ (all_cons ⟨fokX1_31, fpkX7_4⟩ (all_nil))
theorem pX1_ok : ∀ idx ci f, pX1 idx = some (ci, f) → fOK RX1 idx ci f ∧ fPk ci f := fun _ _ _ h => pX1_all _ (lk_mem h)
def kX1 (j : Nat) : Option Int := none
theorem kX1_ok : ∀ idx x, kX1 idx = some x → ∃ v : Int64, x = v.toInt ∧ Cond.constantLong RX1 idx v ∈ gw := by
  intro idx x h
  unfold kX1 at h
  cases h
theorem fokX2_9 : fOK RX2 9 2 0 := ⟨RX2, TX2, 5, rfl, by decide, inX2, Or.inl (in_1 (List.mem_of_getElem? (i := 128) rfl) rfl)⟩
theorem fokX2_15 : fOK RX2 15 2 1 := ⟨RX2, TX2, 5, rfl, by decide, inX2, Or.inl (in_1 (List.mem_of_getElem? (i := 130) rfl) rfl)⟩
theorem fokX2_18 : fOK RX2 18 2 2 := ⟨RX2, TX2, 5, rfl, by decide, inX2, Or.inl (in_1 (List.mem_of_getElem? (i := 131) rfl) rfl)⟩
theorem fokX2_26 : fOK RX2 26 2 3 := ⟨RX2, TX2, 5, rfl, by decide, inX2, Or.inl (in_1 (List.mem_of_getElem? (i := 132) rfl) rfl)⟩
theorem fokX2_30 : fOK RX2 30 2 4 := ⟨RX2, TX2, 5, rfl, by decide, inX2, Or.inl (in_1 (List.mem_of_getElem? (i := 134) rfl) rfl)⟩
def fX2l : List (Nat × Nat × Nat) := [(9, 2, 0), (15, 2, 1), (18, 2, 2), (26, 2, 3), (30, 2, 4)]
def fX2 (j : Nat) : Option (Nat × Nat) := lk fX2l j
theorem fX2_9 : fX2 9 = some (2, 0) := rfl
theorem fX2_15 : fX2 15 = some (2, 1) := rfl
theorem fX2_18 : fX2 18 = some (2, 2) := rfl
theorem fX2_26 : fX2 26 = some (2, 3) := rfl
theorem fX2_30 : fX2 30 = some (2, 4) := rfl
theorem fX2_all : ∀ e ∈ fX2l, fOK RX2 e.1 e.2.1 e.2.2 := all_cons fokX2_9 (all_cons fokX2_15 (all_cons fokX2_18 (all_cons fokX2_26 (all_cons fokX2_30 (all_nil)))))
theorem fX2_ok : ∀ idx ci f, fX2 idx = some (ci, f) → fOK RX2 idx ci f := fun _ _ _ h => fX2_all _ (lk_mem h)
def pX2l : List (Nat × Nat × Nat) := [(30, 2, 4)]
def pX2 (j : Nat) : Option (Nat × Nat) := lk pX2l j
theorem pX2_30 : pX2 30 = some (2, 4) := rfl
theorem pX2_all : ∀ e ∈ pX2l, fOK RX2 e.1 e.2.1 e.2.2 ∧ fPk e.2.1 e.2.2 := all_cons ⟨fokX2_30, fpkX2_4⟩ (all_nil)
theorem pX2_ok : ∀ idx ci f, pX2 idx = some (ci, f) → fOK RX2 idx ci f ∧ fPk ci f := fun _ _ _ h => pX2_all _ (lk_mem h)
def kX2 (j : Nat) : Option Int := none
theorem kX2_ok : ∀ idx x, kX2 idx = some x → ∃ v : Int64, x = v.toInt ∧ Cond.constantLong RX2 idx v ∈ gw := by
  intro idx x h
  unfold kX2 at h
  cases h
theorem fokX3_9 : fOK RX3 9 3 0 := ⟨RX3, TX3, 3, rfl, by decide, inX3, Or.inl (in_2 (List.mem_of_getElem? (i := 11) rfl) rfl)⟩
theorem fokX3_15 : fOK RX3 15 3 1 := ⟨RX3, TX3, 3, rfl, by decide, inX3, Or.inl (in_2 (List.mem_of_getElem? (i := 14) rfl) rfl)⟩
theorem fokX3_18 : fOK RX3 18 3 2 := ⟨RX3, TX3, 3, rfl, by decide, inX3, Or.inl (in_2 (List.mem_of_getElem? (i := 17) rfl) rfl)⟩
def fX3l : List (Nat × Nat × Nat) := [(9, 3, 0), (15, 3, 1), (18, 3, 2)]
def fX3 (j : Nat) : Option (Nat × Nat) := lk fX3l j
theorem fX3_9 : fX3 9 = some (3, 0) := rfl
theorem fX3_15 : fX3 15 = some (3, 1) := rfl
theorem fX3_18 : fX3 18 = some (3, 2) := rfl
theorem fX3_all : ∀ e ∈ fX3l, fOK RX3 e.1 e.2.1 e.2.2 := all_cons fokX3_9 (all_cons fokX3_15 (all_cons fokX3_18 (all_nil)))
theorem fX3_ok : ∀ idx ci f, fX3 idx = some (ci, f) → fOK RX3 idx ci f := fun _ _ _ h => fX3_all _ (lk_mem h)
def pX3l : List (Nat × Nat × Nat) := [(18, 3, 2)]
def pX3 (j : Nat) : Option (Nat × Nat) := lk pX3l j
theorem pX3_18 : pX3 18 = some (3, 2) := rfl
theorem pX3_all : ∀ e ∈ pX3l, fOK RX3 e.1 e.2.1 e.2.2 ∧ fPk e.2.1 e.2.2 := all_cons ⟨fokX3_18, fpkX3_2⟩ (all_nil)
theorem pX3_ok : ∀ idx ci f, pX3 idx = some (ci, f) → fOK RX3 idx ci f ∧ fPk ci f := fun _ _ _ h => pX3_all _ (lk_mem h)
def kX3 (j : Nat) : Option Int := none
theorem kX3_ok : ∀ idx x, kX3 idx = some x → ∃ v : Int64, x = v.toInt ∧ Cond.constantLong RX3 idx v ∈ gw := by
  intro idx x h
  unfold kX3 at h
  cases h
theorem fokX4_11 : fOK RX4 11 4 5 := ⟨RX4, TX4, 8, rfl, by decide, inX4, Or.inl (in_2 (List.mem_of_getElem? (i := 63) rfl) rfl)⟩
theorem fokX4_15 : fOK RX4 15 4 6 := ⟨RX4, TX4, 8, rfl, by decide, inX4, Or.inl (in_2 (List.mem_of_getElem? (i := 64) rfl) rfl)⟩
theorem fokX4_19 : fOK RX4 19 4 0 := ⟨RX4, TX4, 8, rfl, by decide, inX4, Or.inl (in_2 (List.mem_of_getElem? (i := 58) rfl) rfl)⟩
theorem fokX4_23 : fOK RX4 23 4 1 := ⟨RX4, TX4, 8, rfl, by decide, inX4, Or.inl (in_2 (List.mem_of_getElem? (i := 59) rfl) rfl)⟩
theorem fokX4_27 : fOK RX4 27 4 2 := ⟨RX4, TX4, 8, rfl, by decide, inX4, Or.inl (in_2 (List.mem_of_getElem? (i := 60) rfl) rfl)⟩
theorem fokX4_31 : fOK RX4 31 4 3 := ⟨RX4, TX4, 8, rfl, by decide, inX4, Or.inl (in_2 (List.mem_of_getElem? (i := 61) rfl) rfl)⟩
theorem fokX4_35 : fOK RX4 35 4 4 := ⟨RX4, TX4, 8, rfl, by decide, inX4, Or.inl (in_2 (List.mem_of_getElem? (i := 62) rfl) rfl)⟩
theorem fokX4_39 : fOK RX4 39 4 7 := ⟨RX4, TX4, 8, rfl, by decide, inX4, Or.inl (in_2 (List.mem_of_getElem? (i := 65) rfl) rfl)⟩
theorem fokX4_88 : fOK RX4 88 6 0 := ⟨RX6, TX6, 2, rfl, by decide, inX6, Or.inr ⟨"SlipHouse", List.mem_of_getElem? (i := 29) rfl⟩⟩
theorem fokX4_91 : fOK RX4 91 6 1 := ⟨RX6, TX6, 2, rfl, by decide, inX6, Or.inr ⟨"SlipHouse", List.mem_of_getElem? (i := 30) rfl⟩⟩
theorem fokX4_94 : fOK RX4 94 9 9 := ⟨RX9, TX9, 10, rfl, by decide, inX9, Or.inr ⟨"SlipHouse", List.mem_of_getElem? (i := 31) rfl⟩⟩
theorem fokX4_103 : fOK RX4 103 3 2 := ⟨RX3, TX3, 3, rfl, by decide, inX3, Or.inr ⟨"SlipHouse", List.mem_of_getElem? (i := 32) rfl⟩⟩
theorem fokX4_106 : fOK RX4 106 3 0 := ⟨RX3, TX3, 3, rfl, by decide, inX3, Or.inr ⟨"SlipHouse", List.mem_of_getElem? (i := 33) rfl⟩⟩
theorem fokX4_109 : fOK RX4 109 3 1 := ⟨RX3, TX3, 3, rfl, by decide, inX3, Or.inr ⟨"SlipHouse", List.mem_of_getElem? (i := 34) rfl⟩⟩
theorem fokX4_118 : fOK RX4 118 9 5 := ⟨RX9, TX9, 10, rfl, by decide, inX9, Or.inr ⟨"SlipHouse", List.mem_of_getElem? (i := 35) rfl⟩⟩
theorem fokX4_121 : fOK RX4 121 9 7 := ⟨RX9, TX9, 10, rfl, by decide, inX9, Or.inr ⟨"SlipHouse", List.mem_of_getElem? (i := 36) rfl⟩⟩
theorem fokX4_124 : fOK RX4 124 9 8 := ⟨RX9, TX9, 10, rfl, by decide, inX9, Or.inr ⟨"SlipHouse", List.mem_of_getElem? (i := 37) rfl⟩⟩
def fX4l : List (Nat × Nat × Nat) := [(11, 4, 5), (15, 4, 6), (19, 4, 0), (23, 4, 1), (27, 4, 2), (31, 4, 3), (35, 4, 4), (39, 4, 7), (88, 6, 0), (91, 6, 1), (94, 9, 9), (103, 3, 2), (106, 3, 0), (109, 3, 1), (118, 9, 5), (121, 9, 7), (124, 9, 8)]
def fX4 (j : Nat) : Option (Nat × Nat) := lk fX4l j
theorem fX4_11 : fX4 11 = some (4, 5) := rfl
theorem fX4_15 : fX4 15 = some (4, 6) := rfl
theorem fX4_19 : fX4 19 = some (4, 0) := rfl
theorem fX4_23 : fX4 23 = some (4, 1) := rfl
theorem fX4_27 : fX4 27 = some (4, 2) := rfl
theorem fX4_31 : fX4 31 = some (4, 3) := rfl
theorem fX4_35 : fX4 35 = some (4, 4) := rfl
theorem fX4_39 : fX4 39 = some (4, 7) := rfl
theorem fX4_88 : fX4 88 = some (6, 0) := rfl
theorem fX4_91 : fX4 91 = some (6, 1) := rfl
theorem fX4_94 : fX4 94 = some (9, 9) := rfl
theorem fX4_103 : fX4 103 = some (3, 2) := rfl
theorem fX4_106 : fX4 106 = some (3, 0) := rfl
theorem fX4_109 : fX4 109 = some (3, 1) := rfl
theorem fX4_118 : fX4 118 = some (9, 5) := rfl
theorem fX4_121 : fX4 121 = some (9, 7) := rfl
theorem fX4_124 : fX4 124 = some (9, 8) := rfl
theorem fX4_all : ∀ e ∈ fX4l, fOK RX4 e.1 e.2.1 e.2.2 := all_cons fokX4_11 (all_cons fokX4_15 (all_cons fokX4_19 (all_cons fokX4_23 (all_cons fokX4_27 (all_cons fokX4_31 (all_cons fokX4_35 (all_cons fokX4_39 (all_cons fokX4_88 (all_cons fokX4_91 (all_cons fokX4_94 (all_cons fokX4_103 (all_cons fokX4_106 (all_cons fokX4_109 (all_cons fokX4_118 (all_cons fokX4_121 (all_cons fokX4_124 (all_nil)))))))))))))))))
theorem fX4_ok : ∀ idx ci f, fX4 idx = some (ci, f) → fOK RX4 idx ci f := fun _ _ _ h => fX4_all _ (lk_mem h)
def pX4l : List (Nat × Nat × Nat) := [(39, 4, 7), (103, 3, 2)]
def pX4 (j : Nat) : Option (Nat × Nat) := lk pX4l j
theorem pX4_39 : pX4 39 = some (4, 7) := rfl
theorem pX4_103 : pX4 103 = some (3, 2) := rfl
theorem pX4_all : ∀ e ∈ pX4l, fOK RX4 e.1 e.2.1 e.2.2 ∧ fPk e.2.1 e.2.2 := all_cons ⟨fokX4_39, fpkX4_7⟩ (all_cons ⟨fokX4_103, fpkX3_2⟩ (all_nil))
theorem pX4_ok : ∀ idx ci f, pX4 idx = some (ci, f) → fOK RX4 idx ci f ∧ fPk ci f := fun _ _ _ h => pX4_all _ (lk_mem h)
def kX4 (j : Nat) : Option Int := none
theorem kX4_ok : ∀ idx x, kX4 idx = some x → ∃ v : Int64, x = v.toInt ∧ Cond.constantLong RX4 idx v ∈ gw := by
  intro idx x h
  unfold kX4 at h
  cases h
theorem fokX5_9 : fOK RX5 9 5 0 := ⟨RX5, TX5, 3, rfl, by decide, inX5, Or.inl (in_1 (List.mem_of_getElem? (i := 86) rfl) rfl)⟩
theorem fokX5_15 : fOK RX5 15 5 1 := ⟨RX5, TX5, 3, rfl, by decide, inX5, Or.inl (in_1 (List.mem_of_getElem? (i := 88) rfl) rfl)⟩
theorem fokX5_18 : fOK RX5 18 5 2 := ⟨RX5, TX5, 3, rfl, by decide, inX5, Or.inl (in_1 (List.mem_of_getElem? (i := 90) rfl) rfl)⟩
def fX5l : List (Nat × Nat × Nat) := [(9, 5, 0), (15, 5, 1), (18, 5, 2)]
def fX5 (j : Nat) : Option (Nat × Nat) := lk fX5l j
theorem fX5_9 : fX5 9 = some (5, 0) := rfl
theorem fX5_15 : fX5 15 = some (5, 1) := rfl
theorem fX5_18 : fX5 18 = some (5, 2) := rfl
theorem fX5_all : ∀ e ∈ fX5l, fOK RX5 e.1 e.2.1 e.2.2 := all_cons fokX5_9 (all_cons fokX5_15 (all_cons fokX5_18 (all_nil)))
theorem fX5_ok : ∀ idx ci f, fX5 idx = some (ci, f) → fOK RX5 idx ci f := fun _ _ _ h => fX5_all _ (lk_mem h)
def pX5l : List (Nat × Nat × Nat) := [(18, 5, 2)]
def pX5 (j : Nat) : Option (Nat × Nat) := lk pX5l j
theorem pX5_18 : pX5 18 = some (5, 2) := rfl
theorem pX5_all : ∀ e ∈ pX5l, fOK RX5 e.1 e.2.1 e.2.2 ∧ fPk e.2.1 e.2.2 := all_cons ⟨fokX5_18, fpkX5_2⟩ (all_nil)
theorem pX5_ok : ∀ idx ci f, pX5 idx = some (ci, f) → fOK RX5 idx ci f ∧ fPk ci f := fun _ _ _ h => pX5_all _ (lk_mem h)
def kX5 (j : Nat) : Option Int := none
theorem kX5_ok : ∀ idx x, kX5 idx = some x → ∃ v : Int64, x = v.toInt ∧ Cond.constantLong RX5 idx v ∈ gw := by
  intro idx x h
  unfold kX5 at h
  cases h
theorem fokX6_9 : fOK RX6 9 6 0 := ⟨RX6, TX6, 2, rfl, by decide, inX6, Or.inl (in_1 (List.mem_of_getElem? (i := 188) rfl) rfl)⟩
theorem fokX6_15 : fOK RX6 15 6 1 := ⟨RX6, TX6, 2, rfl, by decide, inX6, Or.inl (in_1 (List.mem_of_getElem? (i := 191) rfl) rfl)⟩
def fX6l : List (Nat × Nat × Nat) := [(9, 6, 0), (15, 6, 1)]
def fX6 (j : Nat) : Option (Nat × Nat) := lk fX6l j
theorem fX6_9 : fX6 9 = some (6, 0) := rfl
theorem fX6_15 : fX6 15 = some (6, 1) := rfl
theorem fX6_all : ∀ e ∈ fX6l, fOK RX6 e.1 e.2.1 e.2.2 := all_cons fokX6_9 (all_cons fokX6_15 (all_nil))
theorem fX6_ok : ∀ idx ci f, fX6 idx = some (ci, f) → fOK RX6 idx ci f := fun _ _ _ h => fX6_all _ (lk_mem h)
def pX6l : List (Nat × Nat × Nat) := []
def pX6 (j : Nat) : Option (Nat × Nat) := lk pX6l j
theorem pX6_all : ∀ e ∈ pX6l, fOK RX6 e.1 e.2.1 e.2.2 ∧ fPk e.2.1 e.2.2 := all_nil
theorem pX6_ok : ∀ idx ci f, pX6 idx = some (ci, f) → fOK RX6 idx ci f ∧ fPk ci f := fun _ _ _ h => pX6_all _ (lk_mem h)
def kX6 (j : Nat) : Option Int := none
theorem kX6_ok : ∀ idx x, kX6 idx = some x → ∃ v : Int64, x = v.toInt ∧ Cond.constantLong RX6 idx v ∈ gw := by
  intro idx x h
  unfold kX6 at h
  cases h
theorem fokX7_9 : fOK RX7 9 7 0 := ⟨RX7, TX7, 5, rfl, by decide, inX7, Or.inl (in_1 (List.mem_of_getElem? (i := 155) rfl) rfl)⟩
theorem fokX7_15 : fOK RX7 15 7 1 := ⟨RX7, TX7, 5, rfl, by decide, inX7, Or.inl (in_1 (List.mem_of_getElem? (i := 158) rfl) rfl)⟩
theorem fokX7_18 : fOK RX7 18 7 2 := ⟨RX7, TX7, 5, rfl, by decide, inX7, Or.inl (in_1 (List.mem_of_getElem? (i := 161) rfl) rfl)⟩
theorem fokX7_26 : fOK RX7 26 7 3 := ⟨RX7, TX7, 5, rfl, by decide, inX7, Or.inl (in_1 (List.mem_of_getElem? (i := 165) rfl) rfl)⟩
theorem fokX7_30 : fOK RX7 30 7 4 := ⟨RX7, TX7, 5, rfl, by decide, inX7, Or.inl (in_1 (List.mem_of_getElem? (i := 167) rfl) rfl)⟩
def fX7l : List (Nat × Nat × Nat) := [(9, 7, 0), (15, 7, 1), (18, 7, 2), (26, 7, 3), (30, 7, 4)]
def fX7 (j : Nat) : Option (Nat × Nat) := lk fX7l j
theorem fX7_9 : fX7 9 = some (7, 0) := rfl
theorem fX7_15 : fX7 15 = some (7, 1) := rfl
theorem fX7_18 : fX7 18 = some (7, 2) := rfl
theorem fX7_26 : fX7 26 = some (7, 3) := rfl
theorem fX7_30 : fX7 30 = some (7, 4) := rfl
theorem fX7_all : ∀ e ∈ fX7l, fOK RX7 e.1 e.2.1 e.2.2 := all_cons fokX7_9 (all_cons fokX7_15 (all_cons fokX7_18 (all_cons fokX7_26 (all_cons fokX7_30 (all_nil)))))
theorem fX7_ok : ∀ idx ci f, fX7 idx = some (ci, f) → fOK RX7 idx ci f := fun _ _ _ h => fX7_all _ (lk_mem h)
def pX7l : List (Nat × Nat × Nat) := [(30, 7, 4)]
def pX7 (j : Nat) : Option (Nat × Nat) := lk pX7l j
theorem pX7_30 : pX7 30 = some (7, 4) := rfl
theorem pX7_all : ∀ e ∈ pX7l, fOK RX7 e.1 e.2.1 e.2.2 ∧ fPk e.2.1 e.2.2 := all_cons ⟨fokX7_30, fpkX7_4⟩ (all_nil)
theorem pX7_ok : ∀ idx ci f, pX7 idx = some (ci, f) → fOK RX7 idx ci f ∧ fPk ci f := fun _ _ _ h => pX7_all _ (lk_mem h)
def kX7 (j : Nat) : Option Int := none
theorem kX7_ok : ∀ idx x, kX7 idx = some x → ∃ v : Int64, x = v.toInt ∧ Cond.constantLong RX7 idx v ∈ gw := by
  intro idx x h
  unfold kX7 at h
  cases h
theorem fokX8_9 : fOK RX8 9 8 0 := ⟨RX8, TX8, 2, rfl, by decide, inX8, Or.inl (in_1 (List.mem_of_getElem? (i := 29) rfl) rfl)⟩
theorem fokX8_15 : fOK RX8 15 8 1 := ⟨RX8, TX8, 2, rfl, by decide, inX8, Or.inl (in_1 (List.mem_of_getElem? (i := 31) rfl) rfl)⟩
def fX8l : List (Nat × Nat × Nat) := [(9, 8, 0), (15, 8, 1)]
def fX8 (j : Nat) : Option (Nat × Nat) := lk fX8l j
theorem fX8_9 : fX8 9 = some (8, 0) := rfl
theorem fX8_15 : fX8 15 = some (8, 1) := rfl
theorem fX8_all : ∀ e ∈ fX8l, fOK RX8 e.1 e.2.1 e.2.2 := all_cons fokX8_9 (all_cons fokX8_15 (all_nil))
theorem fX8_ok : ∀ idx ci f, fX8 idx = some (ci, f) → fOK RX8 idx ci f := fun _ _ _ h => fX8_all _ (lk_mem h)
def pX8l : List (Nat × Nat × Nat) := [(15, 8, 1)]
def pX8 (j : Nat) : Option (Nat × Nat) := lk pX8l j
theorem pX8_15 : pX8 15 = some (8, 1) := rfl
theorem pX8_all : ∀ e ∈ pX8l, fOK RX8 e.1 e.2.1 e.2.2 ∧ fPk e.2.1 e.2.2 := all_cons ⟨fokX8_15, fpkX8_1⟩ (all_nil)
theorem pX8_ok : ∀ idx ci f, pX8 idx = some (ci, f) → fOK RX8 idx ci f ∧ fPk ci f := fun _ _ _ h => pX8_all _ (lk_mem h)
def kX8 (j : Nat) : Option Int := none
theorem kX8_ok : ∀ idx x, kX8 idx = some x → ∃ v : Int64, x = v.toInt ∧ Cond.constantLong RX8 idx v ∈ gw := by
  intro idx x h
  unfold kX8 at h
  cases h
theorem fokX9_9 : fOK RX9 9 9 3 := ⟨RX9, TX9, 10, rfl, by decide, inX9, Or.inl (in_1 (List.mem_of_getElem? (i := 209) rfl) rfl)⟩
theorem fokX9_15 : fOK RX9 15 9 4 := ⟨RX9, TX9, 10, rfl, by decide, inX9, Or.inl (in_1 (List.mem_of_getElem? (i := 211) rfl) rfl)⟩
theorem fokX9_18 : fOK RX9 18 9 5 := ⟨RX9, TX9, 10, rfl, by decide, inX9, Or.inl (in_1 (List.mem_of_getElem? (i := 212) rfl) rfl)⟩
theorem fokX9_21 : fOK RX9 21 9 6 := ⟨RX9, TX9, 10, rfl, by decide, inX9, Or.inl (in_1 (List.mem_of_getElem? (i := 215) rfl) rfl)⟩
theorem fokX9_24 : fOK RX9 24 9 7 := ⟨RX9, TX9, 10, rfl, by decide, inX9, Or.inl (in_1 (List.mem_of_getElem? (i := 217) rfl) rfl)⟩
theorem fokX9_27 : fOK RX9 27 9 8 := ⟨RX9, TX9, 10, rfl, by decide, inX9, Or.inl (in_1 (List.mem_of_getElem? (i := 219) rfl) rfl)⟩
theorem fokX9_30 : fOK RX9 30 9 9 := ⟨RX9, TX9, 10, rfl, by decide, inX9, Or.inl (in_1 (List.mem_of_getElem? (i := 221) rfl) rfl)⟩
theorem fokX9_33 : fOK RX9 33 9 0 := ⟨RX9, TX9, 10, rfl, by decide, inX9, Or.inl (in_1 (List.mem_of_getElem? (i := 206) rfl) rfl)⟩
theorem fokX9_37 : fOK RX9 37 9 1 := ⟨RX9, TX9, 10, rfl, by decide, inX9, Or.inl (in_1 (List.mem_of_getElem? (i := 207) rfl) rfl)⟩
theorem fokX9_41 : fOK RX9 41 9 2 := ⟨RX9, TX9, 10, rfl, by decide, inX9, Or.inl (in_1 (List.mem_of_getElem? (i := 208) rfl) rfl)⟩
theorem fokX9_45 : fOK RX9 45 7 4 := ⟨RX7, TX7, 5, rfl, by decide, inX7, Or.inr ⟨"SlipHouse", List.mem_of_getElem? (i := 38) rfl⟩⟩
theorem fokX9_51 : fOK RX9 51 7 2 := ⟨RX7, TX7, 5, rfl, by decide, inX7, Or.inr ⟨"SlipHouse", List.mem_of_getElem? (i := 39) rfl⟩⟩
theorem fokX9_54 : fOK RX9 54 7 0 := ⟨RX7, TX7, 5, rfl, by decide, inX7, Or.inr ⟨"SlipHouse", List.mem_of_getElem? (i := 40) rfl⟩⟩
theorem fokX9_67 : fOK RX9 67 0 2 := ⟨RX0, TX0, 9, rfl, by decide, inX0, Or.inr ⟨"SlipHouse", List.mem_of_getElem? (i := 41) rfl⟩⟩
theorem fokX9_76 : fOK RX9 76 0 3 := ⟨RX0, TX0, 9, rfl, by decide, inX0, Or.inr ⟨"SlipHouse", List.mem_of_getElem? (i := 42) rfl⟩⟩
theorem fokX9_83 : fOK RX9 83 6 1 := ⟨RX6, TX6, 2, rfl, by decide, inX6, Or.inr ⟨"SlipHouse", List.mem_of_getElem? (i := 43) rfl⟩⟩
def fX9l : List (Nat × Nat × Nat) := [(9, 9, 3), (15, 9, 4), (18, 9, 5), (21, 9, 6), (24, 9, 7), (27, 9, 8), (30, 9, 9), (33, 9, 0), (37, 9, 1), (41, 9, 2), (45, 7, 4), (51, 7, 2), (54, 7, 0), (67, 0, 2), (76, 0, 3), (83, 6, 1)]
def fX9 (j : Nat) : Option (Nat × Nat) := lk fX9l j
theorem fX9_9 : fX9 9 = some (9, 3) := rfl
theorem fX9_15 : fX9 15 = some (9, 4) := rfl
theorem fX9_18 : fX9 18 = some (9, 5) := rfl
theorem fX9_21 : fX9 21 = some (9, 6) := rfl
theorem fX9_24 : fX9 24 = some (9, 7) := rfl
theorem fX9_27 : fX9 27 = some (9, 8) := rfl
theorem fX9_30 : fX9 30 = some (9, 9) := rfl
theorem fX9_33 : fX9 33 = some (9, 0) := rfl
theorem fX9_37 : fX9 37 = some (9, 1) := rfl
theorem fX9_41 : fX9 41 = some (9, 2) := rfl
theorem fX9_45 : fX9 45 = some (7, 4) := rfl
theorem fX9_51 : fX9 51 = some (7, 2) := rfl
theorem fX9_54 : fX9 54 = some (7, 0) := rfl
theorem fX9_67 : fX9 67 = some (0, 2) := rfl
theorem fX9_76 : fX9 76 = some (0, 3) := rfl
theorem fX9_83 : fX9 83 = some (6, 1) := rfl
theorem fX9_all : ∀ e ∈ fX9l, fOK RX9 e.1 e.2.1 e.2.2 := all_cons fokX9_9 (all_cons fokX9_15 (all_cons fokX9_18 (all_cons fokX9_21 (all_cons fokX9_24 (all_cons fokX9_27 (all_cons fokX9_30 (all_cons fokX9_33 (all_cons fokX9_37 (all_cons fokX9_41 (all_cons fokX9_45 (all_cons fokX9_51 (all_cons fokX9_54 (all_cons fokX9_67 (all_cons fokX9_76 (all_cons fokX9_83 (all_nil))))))))))))))))
theorem fX9_ok : ∀ idx ci f, fX9 idx = some (ci, f) → fOK RX9 idx ci f := fun _ _ _ h => fX9_all _ (lk_mem h)
def pX9l : List (Nat × Nat × Nat) := [(45, 7, 4)]
def pX9 (j : Nat) : Option (Nat × Nat) := lk pX9l j
theorem pX9_45 : pX9 45 = some (7, 4) := rfl
theorem pX9_all : ∀ e ∈ pX9l, fOK RX9 e.1 e.2.1 e.2.2 ∧ fPk e.2.1 e.2.2 := all_cons ⟨fokX9_45, fpkX7_4⟩ (all_nil)
theorem pX9_ok : ∀ idx ci f, pX9 idx = some (ci, f) → fOK RX9 idx ci f ∧ fPk ci f := fun _ _ _ h => pX9_all _ (lk_mem h)
def kX9 (j : Nat) : Option Int := none
theorem kX9_ok : ∀ idx x, kX9 idx = some x → ∃ v : Int64, x = v.toInt ∧ Cond.constantLong RX9 idx v ∈ gw := by
  intro idx x h
  unfold kX9 at h
  cases h
theorem fokX10_9 : fOK RX10 9 10 0 := ⟨RX10, TX10, 4, rfl, by decide, inX10, Or.inl (in_1 (List.mem_of_getElem? (i := 115) rfl) rfl)⟩
theorem fokX10_15 : fOK RX10 15 10 1 := ⟨RX10, TX10, 4, rfl, by decide, inX10, Or.inl (in_1 (List.mem_of_getElem? (i := 116) rfl) rfl)⟩
theorem fokX10_21 : fOK RX10 21 10 2 := ⟨RX10, TX10, 4, rfl, by decide, inX10, Or.inl (in_1 (List.mem_of_getElem? (i := 117) rfl) rfl)⟩
theorem fokX10_24 : fOK RX10 24 10 3 := ⟨RX10, TX10, 4, rfl, by decide, inX10, Or.inl (in_1 (List.mem_of_getElem? (i := 118) rfl) rfl)⟩
theorem fokX10_28 : fOK RX10 28 5 2 := ⟨RX5, TX5, 3, rfl, by decide, inX5, Or.inr ⟨"SlipHouse", List.mem_of_getElem? (i := 44) rfl⟩⟩
theorem fokX10_42 : fOK RX10 42 5 1 := ⟨RX5, TX5, 3, rfl, by decide, inX5, Or.inr ⟨"SlipHouse", List.mem_of_getElem? (i := 45) rfl⟩⟩
theorem fokX10_46 : fOK RX10 46 5 0 := ⟨RX5, TX5, 3, rfl, by decide, inX5, Or.inr ⟨"SlipHouse", List.mem_of_getElem? (i := 46) rfl⟩⟩
def fX10l : List (Nat × Nat × Nat) := [(9, 10, 0), (15, 10, 1), (21, 10, 2), (24, 10, 3), (28, 5, 2), (42, 5, 1), (46, 5, 0)]
def fX10 (j : Nat) : Option (Nat × Nat) := lk fX10l j
theorem fX10_9 : fX10 9 = some (10, 0) := rfl
theorem fX10_15 : fX10 15 = some (10, 1) := rfl
theorem fX10_21 : fX10 21 = some (10, 2) := rfl
theorem fX10_24 : fX10 24 = some (10, 3) := rfl
theorem fX10_28 : fX10 28 = some (5, 2) := rfl
theorem fX10_42 : fX10 42 = some (5, 1) := rfl
theorem fX10_46 : fX10 46 = some (5, 0) := rfl
theorem fX10_all : ∀ e ∈ fX10l, fOK RX10 e.1 e.2.1 e.2.2 := all_cons fokX10_9 (all_cons fokX10_15 (all_cons fokX10_21 (all_cons fokX10_24 (all_cons fokX10_28 (all_cons fokX10_42 (all_cons fokX10_46 (all_nil)))))))
theorem fX10_ok : ∀ idx ci f, fX10 idx = some (ci, f) → fOK RX10 idx ci f := fun _ _ _ h => fX10_all _ (lk_mem h)
def pX10l : List (Nat × Nat × Nat) := [(28, 5, 2)]
def pX10 (j : Nat) : Option (Nat × Nat) := lk pX10l j
theorem pX10_28 : pX10 28 = some (5, 2) := rfl
theorem pX10_all : ∀ e ∈ pX10l, fOK RX10 e.1 e.2.1 e.2.2 ∧ fPk e.2.1 e.2.2 := all_cons ⟨fokX10_28, fpkX5_2⟩ (all_nil)
theorem pX10_ok : ∀ idx ci f, pX10 idx = some (ci, f) → fOK RX10 idx ci f ∧ fPk ci f := fun _ _ _ h => pX10_all _ (lk_mem h)
def kX10 (j : Nat) : Option Int := if j = 57 then some 31 else none
theorem kX10_57 : kX10 57 = some 31 := rfl
theorem kX10_ok : ∀ idx x, kX10 idx = some x → ∃ v : Int64, x = v.toInt ∧ Cond.constantLong RX10 idx v ∈ gw := by
  intro idx x h
  unfold kX10 at h
  split at h
  · rename_i e; subst e; cases h; exact ⟨31, rfl, in_4 (List.mem_of_getElem? (i := 31) rfl) rfl⟩
  cases h
theorem fokX11_10 : fOK RX11 10 11 0 := ⟨RX11, TX11, 10, rfl, by decide, inX11, Or.inl (in_2 (List.mem_of_getElem? (i := 84) rfl) rfl)⟩
theorem fokX11_19 : fOK RX11 19 11 1 := ⟨RX11, TX11, 10, rfl, by decide, inX11, Or.inl (in_2 (List.mem_of_getElem? (i := 85) rfl) rfl)⟩
theorem fokX11_26 : fOK RX11 26 11 2 := ⟨RX11, TX11, 10, rfl, by decide, inX11, Or.inl (in_2 (List.mem_of_getElem? (i := 86) rfl) rfl)⟩
theorem fokX11_35 : fOK RX11 35 11 3 := ⟨RX11, TX11, 10, rfl, by decide, inX11, Or.inl (in_2 (List.mem_of_getElem? (i := 87) rfl) rfl)⟩
theorem fokX11_42 : fOK RX11 42 11 4 := ⟨RX11, TX11, 10, rfl, by decide, inX11, Or.inl (in_2 (List.mem_of_getElem? (i := 88) rfl) rfl)⟩
theorem fokX11_49 : fOK RX11 49 11 5 := ⟨RX11, TX11, 10, rfl, by decide, inX11, Or.inl (in_2 (List.mem_of_getElem? (i := 89) rfl) rfl)⟩
theorem fokX11_58 : fOK RX11 58 11 6 := ⟨RX11, TX11, 10, rfl, by decide, inX11, Or.inl (in_2 (List.mem_of_getElem? (i := 90) rfl) rfl)⟩
theorem fokX11_65 : fOK RX11 65 11 7 := ⟨RX11, TX11, 10, rfl, by decide, inX11, Or.inl (in_2 (List.mem_of_getElem? (i := 91) rfl) rfl)⟩
theorem fokX11_74 : fOK RX11 74 11 8 := ⟨RX11, TX11, 10, rfl, by decide, inX11, Or.inl (in_2 (List.mem_of_getElem? (i := 92) rfl) rfl)⟩
theorem fokX11_83 : fOK RX11 83 11 9 := ⟨RX11, TX11, 10, rfl, by decide, inX11, Or.inl (in_2 (List.mem_of_getElem? (i := 93) rfl) rfl)⟩
theorem fokX11_87 : fOK RX11 87 8 1 := ⟨RX8, TX8, 2, rfl, by decide, inX8, Or.inr ⟨"SlipHouse", List.mem_of_getElem? (i := 0) rfl⟩⟩
theorem fokX11_99 : fOK RX11 99 0 7 := ⟨RX0, TX0, 9, rfl, by decide, inX0, Or.inr ⟨"SlipHouse", List.mem_of_getElem? (i := 1) rfl⟩⟩
theorem fokX11_111 : fOK RX11 111 0 2 := ⟨RX0, TX0, 9, rfl, by decide, inX0, Or.inr ⟨"SlipHouse", List.mem_of_getElem? (i := 2) rfl⟩⟩
theorem fokX11_115 : fOK RX11 115 0 3 := ⟨RX0, TX0, 9, rfl, by decide, inX0, Or.inr ⟨"SlipHouse", List.mem_of_getElem? (i := 3) rfl⟩⟩
theorem fokX11_118 : fOK RX11 118 0 0 := ⟨RX0, TX0, 9, rfl, by decide, inX0, Or.inr ⟨"SlipHouse", List.mem_of_getElem? (i := 4) rfl⟩⟩
theorem fokX11_121 : fOK RX11 121 0 1 := ⟨RX0, TX0, 9, rfl, by decide, inX0, Or.inr ⟨"SlipHouse", List.mem_of_getElem? (i := 5) rfl⟩⟩
theorem fokX11_128 : fOK RX11 128 7 4 := ⟨RX7, TX7, 5, rfl, by decide, inX7, Or.inr ⟨"SlipHouse", List.mem_of_getElem? (i := 6) rfl⟩⟩
theorem fokX11_141 : fOK RX11 141 2 4 := ⟨RX2, TX2, 5, rfl, by decide, inX2, Or.inr ⟨"SlipHouse", List.mem_of_getElem? (i := 7) rfl⟩⟩
theorem fokX11_155 : fOK RX11 155 5 2 := ⟨RX5, TX5, 3, rfl, by decide, inX5, Or.inr ⟨"SlipHouse", List.mem_of_getElem? (i := 8) rfl⟩⟩
theorem fokX11_166 : fOK RX11 166 2 3 := ⟨RX2, TX2, 5, rfl, by decide, inX2, Or.inr ⟨"SlipHouse", List.mem_of_getElem? (i := 9) rfl⟩⟩
theorem fokX11_173 : fOK RX11 173 7 3 := ⟨RX7, TX7, 5, rfl, by decide, inX7, Or.inr ⟨"SlipHouse", List.mem_of_getElem? (i := 10) rfl⟩⟩
theorem fokX11_203 : fOK RX11 203 6 0 := ⟨RX6, TX6, 2, rfl, by decide, inX6, Or.inr ⟨"SlipHouse", List.mem_of_getElem? (i := 11) rfl⟩⟩
theorem fokX11_206 : fOK RX11 206 6 1 := ⟨RX6, TX6, 2, rfl, by decide, inX6, Or.inr ⟨"SlipHouse", List.mem_of_getElem? (i := 12) rfl⟩⟩
theorem fokX11_228 : fOK RX11 228 3 2 := ⟨RX3, TX3, 3, rfl, by decide, inX3, Or.inr ⟨"SlipHouse", List.mem_of_getElem? (i := 13) rfl⟩⟩
theorem fokX11_235 : fOK RX11 235 3 0 := ⟨RX3, TX3, 3, rfl, by decide, inX3, Or.inr ⟨"SlipHouse", List.mem_of_getElem? (i := 14) rfl⟩⟩
theorem fokX11_238 : fOK RX11 238 3 1 := ⟨RX3, TX3, 3, rfl, by decide, inX3, Or.inr ⟨"SlipHouse", List.mem_of_getElem? (i := 15) rfl⟩⟩
theorem fokX11_244 : fOK RX11 244 9 5 := ⟨RX9, TX9, 10, rfl, by decide, inX9, Or.inr ⟨"SlipHouse", List.mem_of_getElem? (i := 16) rfl⟩⟩
theorem fokX11_247 : fOK RX11 247 9 6 := ⟨RX9, TX9, 10, rfl, by decide, inX9, Or.inr ⟨"SlipHouse", List.mem_of_getElem? (i := 17) rfl⟩⟩
theorem fokX11_253 : fOK RX11 253 9 3 := ⟨RX9, TX9, 10, rfl, by decide, inX9, Or.inr ⟨"SlipHouse", List.mem_of_getElem? (i := 18) rfl⟩⟩
theorem fokX11_256 : fOK RX11 256 9 9 := ⟨RX9, TX9, 10, rfl, by decide, inX9, Or.inr ⟨"SlipHouse", List.mem_of_getElem? (i := 19) rfl⟩⟩
theorem fokX11_267 : fOK RX11 267 7 1 := ⟨RX7, TX7, 5, rfl, by decide, inX7, Or.inr ⟨"SlipHouse", List.mem_of_getElem? (i := 20) rfl⟩⟩
theorem fokX11_268 : fOK RX11 268 7 2 := ⟨RX7, TX7, 5, rfl, by decide, inX7, Or.inr ⟨"SlipHouse", List.mem_of_getElem? (i := 21) rfl⟩⟩
theorem fokX11_274 : fOK RX11 274 7 0 := ⟨RX7, TX7, 5, rfl, by decide, inX7, Or.inr ⟨"SlipHouse", List.mem_of_getElem? (i := 22) rfl⟩⟩
theorem fokX11_291 : fOK RX11 291 1 4 := ⟨RX1, TX1, 5, rfl, by decide, inX1, Or.inr ⟨"SlipHouse", List.mem_of_getElem? (i := 23) rfl⟩⟩
theorem fokX11_316 : fOK RX11 316 0 8 := ⟨RX0, TX0, 9, rfl, by decide, inX0, Or.inr ⟨"SlipHouse", List.mem_of_getElem? (i := 24) rfl⟩⟩
theorem fokX11_322 : fOK RX11 322 2 0 := ⟨RX2, TX2, 5, rfl, by decide, inX2, Or.inr ⟨"SlipHouse", List.mem_of_getElem? (i := 25) rfl⟩⟩
def fX11l : List (Nat × Nat × Nat) := [(10, 11, 0), (19, 11, 1), (26, 11, 2), (35, 11, 3), (42, 11, 4), (49, 11, 5), (58, 11, 6), (65, 11, 7), (74, 11, 8), (83, 11, 9), (87, 8, 1), (99, 0, 7), (111, 0, 2), (115, 0, 3), (118, 0, 0), (121, 0, 1), (128, 7, 4), (141, 2, 4), (155, 5, 2), (166, 2, 3), (173, 7, 3), (203, 6, 0), (206, 6, 1), (228, 3, 2), (235, 3, 0), (238, 3, 1), (244, 9, 5), (247, 9, 6), (253, 9, 3), (256, 9, 9), (267, 7, 1), (268, 7, 2), (274, 7, 0), (291, 1, 4), (316, 0, 8), (322, 2, 0)]
def fX11 (j : Nat) : Option (Nat × Nat) := lk fX11l j
theorem fX11_10 : fX11 10 = some (11, 0) := rfl
theorem fX11_19 : fX11 19 = some (11, 1) := rfl
theorem fX11_26 : fX11 26 = some (11, 2) := rfl
theorem fX11_35 : fX11 35 = some (11, 3) := rfl
theorem fX11_42 : fX11 42 = some (11, 4) := rfl
theorem fX11_49 : fX11 49 = some (11, 5) := rfl
theorem fX11_58 : fX11 58 = some (11, 6) := rfl
theorem fX11_65 : fX11 65 = some (11, 7) := rfl
theorem fX11_74 : fX11 74 = some (11, 8) := rfl
theorem fX11_83 : fX11 83 = some (11, 9) := rfl
theorem fX11_87 : fX11 87 = some (8, 1) := rfl
theorem fX11_99 : fX11 99 = some (0, 7) := rfl
theorem fX11_111 : fX11 111 = some (0, 2) := rfl
theorem fX11_115 : fX11 115 = some (0, 3) := rfl
theorem fX11_118 : fX11 118 = some (0, 0) := rfl
theorem fX11_121 : fX11 121 = some (0, 1) := rfl
theorem fX11_128 : fX11 128 = some (7, 4) := rfl
theorem fX11_141 : fX11 141 = some (2, 4) := rfl
theorem fX11_155 : fX11 155 = some (5, 2) := rfl
theorem fX11_166 : fX11 166 = some (2, 3) := rfl
theorem fX11_173 : fX11 173 = some (7, 3) := rfl
theorem fX11_203 : fX11 203 = some (6, 0) := rfl
theorem fX11_206 : fX11 206 = some (6, 1) := rfl
theorem fX11_228 : fX11 228 = some (3, 2) := rfl
theorem fX11_235 : fX11 235 = some (3, 0) := rfl
theorem fX11_238 : fX11 238 = some (3, 1) := rfl
theorem fX11_244 : fX11 244 = some (9, 5) := rfl
theorem fX11_247 : fX11 247 = some (9, 6) := rfl
theorem fX11_253 : fX11 253 = some (9, 3) := rfl
theorem fX11_256 : fX11 256 = some (9, 9) := rfl
theorem fX11_267 : fX11 267 = some (7, 1) := rfl
theorem fX11_268 : fX11 268 = some (7, 2) := rfl
theorem fX11_274 : fX11 274 = some (7, 0) := rfl
theorem fX11_291 : fX11 291 = some (1, 4) := rfl
theorem fX11_316 : fX11 316 = some (0, 8) := rfl
theorem fX11_322 : fX11 322 = some (2, 0) := rfl
theorem fX11_all : ∀ e ∈ fX11l, fOK RX11 e.1 e.2.1 e.2.2 := all_cons fokX11_10 (all_cons fokX11_19 (all_cons fokX11_26 (all_cons fokX11_35 (all_cons fokX11_42 (all_cons fokX11_49 (all_cons fokX11_58 (all_cons fokX11_65 (all_cons fokX11_74 (all_cons fokX11_83 (all_cons fokX11_87 (all_cons fokX11_99 (all_cons fokX11_111 (all_cons fokX11_115 (all_cons fokX11_118 (all_cons fokX11_121 (all_cons fokX11_128 (all_cons fokX11_141 (all_cons fokX11_155 (all_cons fokX11_166 (all_cons fokX11_173 (all_cons fokX11_203 (all_cons fokX11_206 (all_cons fokX11_228 (all_cons fokX11_235 (all_cons fokX11_238 (all_cons fokX11_244 (all_cons fokX11_247 (all_cons fokX11_253 (all_cons fokX11_256 (all_cons fokX11_267 (all_cons fokX11_268 (all_cons fokX11_274 (all_cons fokX11_291 (all_cons fokX11_316 (all_cons fokX11_322 (all_nil))))))))))))))))))))))))))))))))))))
theorem fX11_ok : ∀ idx ci f, fX11 idx = some (ci, f) → fOK RX11 idx ci f := fun _ _ _ h => fX11_all _ (lk_mem h)
def pX11l : List (Nat × Nat × Nat) := [(87, 8, 1), (99, 0, 7), (128, 7, 4), (141, 2, 4), (155, 5, 2), (228, 3, 2), (291, 1, 4), (316, 0, 8)]
def pX11 (j : Nat) : Option (Nat × Nat) := lk pX11l j
theorem pX11_87 : pX11 87 = some (8, 1) := rfl
theorem pX11_99 : pX11 99 = some (0, 7) := rfl
theorem pX11_128 : pX11 128 = some (7, 4) := rfl
theorem pX11_141 : pX11 141 = some (2, 4) := rfl
theorem pX11_155 : pX11 155 = some (5, 2) := rfl
theorem pX11_228 : pX11 228 = some (3, 2) := rfl
theorem pX11_291 : pX11 291 = some (1, 4) := rfl
theorem pX11_316 : pX11 316 = some (0, 8) := rfl
theorem pX11_all : ∀ e ∈ pX11l, fOK RX11 e.1 e.2.1 e.2.2 ∧ fPk e.2.1 e.2.2 := all_cons ⟨fokX11_87, fpkX8_1⟩ (all_cons ⟨fokX11_99, fpkX0_7⟩ (all_cons ⟨fokX11_128, fpkX7_4⟩ (all_cons ⟨fokX11_141, fpkX2_4⟩ (all_cons ⟨fokX11_155, fpkX5_2⟩ (all_cons ⟨fokX11_228, fpkX3_2⟩ (all_cons ⟨fokX11_291, fpkX1_4⟩ (all_cons ⟨fokX11_316, fpkX0_8⟩ (all_nil))))))))
theorem pX11_ok : ∀ idx ci f, pX11 idx = some (ci, f) → fOK RX11 idx ci f ∧ fPk ci f := fun _ _ _ h => pX11_all _ (lk_mem h)
def kX11 (j : Nat) : Option Int := none
theorem kX11_ok : ∀ idx x, kX11 idx = some x → ∃ v : Int64, x = v.toInt ∧ Cond.constantLong RX11 idx v ∈ gw := by
  intro idx x h
  unfold kX11 at h
  cases h
theorem fokX12_7 : fOK RX12 7 12 0 := ⟨RX12, TX12, 44, rfl, by decide, inX12, Or.inl (in_4 (List.mem_of_getElem? (i := 164) rfl) rfl)⟩
theorem fokX12_13 : fOK RX12 13 12 1 := ⟨RX12, TX12, 44, rfl, by decide, inX12, Or.inl (in_4 (List.mem_of_getElem? (i := 165) rfl) rfl)⟩
theorem fokX12_16 : fOK RX12 16 12 5 := ⟨RX12, TX12, 44, rfl, by decide, inX12, Or.inl (in_4 (List.mem_of_getElem? (i := 169) rfl) rfl)⟩
theorem fokX12_20 : fOK RX12 20 12 6 := ⟨RX12, TX12, 44, rfl, by decide, inX12, Or.inl (in_4 (List.mem_of_getElem? (i := 170) rfl) rfl)⟩
theorem fokX12_23 : fOK RX12 23 12 7 := ⟨RX12, TX12, 44, rfl, by decide, inX12, Or.inl (in_4 (List.mem_of_getElem? (i := 171) rfl) rfl)⟩
theorem fokX12_26 : fOK RX12 26 12 8 := ⟨RX12, TX12, 44, rfl, by decide, inX12, Or.inl (in_4 (List.mem_of_getElem? (i := 172) rfl) rfl)⟩
theorem fokX12_29 : fOK RX12 29 12 9 := ⟨RX12, TX12, 44, rfl, by decide, inX12, Or.inl (in_4 (List.mem_of_getElem? (i := 173) rfl) rfl)⟩
theorem fokX12_32 : fOK RX12 32 12 10 := ⟨RX12, TX12, 44, rfl, by decide, inX12, Or.inl (in_4 (List.mem_of_getElem? (i := 174) rfl) rfl)⟩
theorem fokX12_35 : fOK RX12 35 12 11 := ⟨RX12, TX12, 44, rfl, by decide, inX12, Or.inl (in_4 (List.mem_of_getElem? (i := 175) rfl) rfl)⟩
theorem fokX12_39 : fOK RX12 39 12 15 := ⟨RX12, TX12, 44, rfl, by decide, inX12, Or.inl (in_4 (List.mem_of_getElem? (i := 179) rfl) rfl)⟩
theorem fokX12_42 : fOK RX12 42 12 16 := ⟨RX12, TX12, 44, rfl, by decide, inX12, Or.inl (in_4 (List.mem_of_getElem? (i := 180) rfl) rfl)⟩
theorem fokX12_45 : fOK RX12 45 12 17 := ⟨RX12, TX12, 44, rfl, by decide, inX12, Or.inl (in_4 (List.mem_of_getElem? (i := 181) rfl) rfl)⟩
theorem fokX12_48 : fOK RX12 48 12 18 := ⟨RX12, TX12, 44, rfl, by decide, inX12, Or.inl (in_4 (List.mem_of_getElem? (i := 182) rfl) rfl)⟩
theorem fokX12_52 : fOK RX12 52 12 19 := ⟨RX12, TX12, 44, rfl, by decide, inX12, Or.inl (in_4 (List.mem_of_getElem? (i := 183) rfl) rfl)⟩
theorem fokX12_55 : fOK RX12 55 12 20 := ⟨RX12, TX12, 44, rfl, by decide, inX12, Or.inl (in_4 (List.mem_of_getElem? (i := 184) rfl) rfl)⟩
theorem fokX12_58 : fOK RX12 58 12 21 := ⟨RX12, TX12, 44, rfl, by decide, inX12, Or.inl (in_4 (List.mem_of_getElem? (i := 185) rfl) rfl)⟩
theorem fokX12_61 : fOK RX12 61 12 22 := ⟨RX12, TX12, 44, rfl, by decide, inX12, Or.inl (in_4 (List.mem_of_getElem? (i := 186) rfl) rfl)⟩
theorem fokX12_64 : fOK RX12 64 12 23 := ⟨RX12, TX12, 44, rfl, by decide, inX12, Or.inl (in_4 (List.mem_of_getElem? (i := 187) rfl) rfl)⟩
theorem fokX12_67 : fOK RX12 67 12 24 := ⟨RX12, TX12, 44, rfl, by decide, inX12, Or.inl (in_4 (List.mem_of_getElem? (i := 188) rfl) rfl)⟩
theorem fokX12_70 : fOK RX12 70 12 25 := ⟨RX12, TX12, 44, rfl, by decide, inX12, Or.inl (in_4 (List.mem_of_getElem? (i := 189) rfl) rfl)⟩
theorem fokX12_73 : fOK RX12 73 12 26 := ⟨RX12, TX12, 44, rfl, by decide, inX12, Or.inl (in_4 (List.mem_of_getElem? (i := 190) rfl) rfl)⟩
theorem fokX12_76 : fOK RX12 76 12 27 := ⟨RX12, TX12, 44, rfl, by decide, inX12, Or.inl (in_4 (List.mem_of_getElem? (i := 191) rfl) rfl)⟩
theorem fokX12_79 : fOK RX12 79 12 28 := ⟨RX12, TX12, 44, rfl, by decide, inX12, Or.inl (in_4 (List.mem_of_getElem? (i := 192) rfl) rfl)⟩
theorem fokX12_82 : fOK RX12 82 12 30 := ⟨RX12, TX12, 44, rfl, by decide, inX12, Or.inl (in_4 (List.mem_of_getElem? (i := 194) rfl) rfl)⟩
theorem fokX12_85 : fOK RX12 85 12 31 := ⟨RX12, TX12, 44, rfl, by decide, inX12, Or.inl (in_4 (List.mem_of_getElem? (i := 195) rfl) rfl)⟩
theorem fokX12_88 : fOK RX12 88 12 38 := ⟨RX12, TX12, 44, rfl, by decide, inX12, Or.inl (in_4 (List.mem_of_getElem? (i := 202) rfl) rfl)⟩
theorem fokX12_91 : fOK RX12 91 12 39 := ⟨RX12, TX12, 44, rfl, by decide, inX12, Or.inl (in_4 (List.mem_of_getElem? (i := 203) rfl) rfl)⟩
theorem fokX12_94 : fOK RX12 94 12 40 := ⟨RX12, TX12, 44, rfl, by decide, inX12, Or.inl (in_4 (List.mem_of_getElem? (i := 204) rfl) rfl)⟩
theorem fokX12_97 : fOK RX12 97 12 41 := ⟨RX12, TX12, 44, rfl, by decide, inX12, Or.inl (in_4 (List.mem_of_getElem? (i := 205) rfl) rfl)⟩
theorem fokX12_100 : fOK RX12 100 12 43 := ⟨RX12, TX12, 44, rfl, by decide, inX12, Or.inl (in_4 (List.mem_of_getElem? (i := 207) rfl) rfl)⟩
theorem fokX12_103 : fOK RX12 103 12 2 := ⟨RX12, TX12, 44, rfl, by decide, inX12, Or.inl (in_4 (List.mem_of_getElem? (i := 166) rfl) rfl)⟩
theorem fokX12_111 : fOK RX12 111 12 3 := ⟨RX12, TX12, 44, rfl, by decide, inX12, Or.inl (in_4 (List.mem_of_getElem? (i := 167) rfl) rfl)⟩
theorem fokX12_122 : fOK RX12 122 12 4 := ⟨RX12, TX12, 44, rfl, by decide, inX12, Or.inl (in_4 (List.mem_of_getElem? (i := 168) rfl) rfl)⟩
theorem fokX12_132 : fOK RX12 132 12 12 := ⟨RX12, TX12, 44, rfl, by decide, inX12, Or.inl (in_4 (List.mem_of_getElem? (i := 176) rfl) rfl)⟩
theorem fokX12_145 : fOK RX12 145 12 13 := ⟨RX12, TX12, 44, rfl, by decide, inX12, Or.inl (in_4 (List.mem_of_getElem? (i := 177) rfl) rfl)⟩
theorem fokX12_155 : fOK RX12 155 12 14 := ⟨RX12, TX12, 44, rfl, by decide, inX12, Or.inl (in_4 (List.mem_of_getElem? (i := 178) rfl) rfl)⟩
theorem fokX12_196 : fOK RX12 196 12 29 := ⟨RX12, TX12, 44, rfl, by decide, inX12, Or.inl (in_4 (List.mem_of_getElem? (i := 193) rfl) rfl)⟩
theorem fokX12_211 : fOK RX12 211 12 32 := ⟨RX12, TX12, 44, rfl, by decide, inX12, Or.inl (in_4 (List.mem_of_getElem? (i := 196) rfl) rfl)⟩
theorem fokX12_218 : fOK RX12 218 12 33 := ⟨RX12, TX12, 44, rfl, by decide, inX12, Or.inl (in_4 (List.mem_of_getElem? (i := 197) rfl) rfl)⟩
theorem fokX12_221 : fOK RX12 221 12 34 := ⟨RX12, TX12, 44, rfl, by decide, inX12, Or.inl (in_4 (List.mem_of_getElem? (i := 198) rfl) rfl)⟩
theorem fokX12_224 : fOK RX12 224 12 35 := ⟨RX12, TX12, 44, rfl, by decide, inX12, Or.inl (in_4 (List.mem_of_getElem? (i := 199) rfl) rfl)⟩
theorem fokX12_227 : fOK RX12 227 12 36 := ⟨RX12, TX12, 44, rfl, by decide, inX12, Or.inl (in_4 (List.mem_of_getElem? (i := 200) rfl) rfl)⟩
theorem fokX12_266 : fOK RX12 266 12 37 := ⟨RX12, TX12, 44, rfl, by decide, inX12, Or.inl (in_4 (List.mem_of_getElem? (i := 201) rfl) rfl)⟩
theorem fokX12_272 : fOK RX12 272 12 42 := ⟨RX12, TX12, 44, rfl, by decide, inX12, Or.inl (in_4 (List.mem_of_getElem? (i := 206) rfl) rfl)⟩
def fX12l : List (Nat × Nat × Nat) := [(7, 12, 0), (13, 12, 1), (16, 12, 5), (20, 12, 6), (23, 12, 7), (26, 12, 8), (29, 12, 9), (32, 12, 10), (35, 12, 11), (39, 12, 15), (42, 12, 16), (45, 12, 17), (48, 12, 18), (52, 12, 19), (55, 12, 20), (58, 12, 21), (61, 12, 22), (64, 12, 23), (67, 12, 24), (70, 12, 25), (73, 12, 26), (76, 12, 27), (79, 12, 28), (82, 12, 30), (85, 12, 31), (88, 12, 38), (91, 12, 39), (94, 12, 40), (97, 12, 41), (100, 12, 43), (103, 12, 2), (111, 12, 3), (122, 12, 4), (132, 12, 12), (145, 12, 13), (155, 12, 14), (196, 12, 29), (211, 12, 32), (218, 12, 33), (221, 12, 34), (224, 12, 35), (227, 12, 36), (266, 12, 37), (272, 12, 42)]
def fX12 (j : Nat) : Option (Nat × Nat) := lk fX12l j
theorem fX12_7 : fX12 7 = some (12, 0) := rfl
theorem fX12_13 : fX12 13 = some (12, 1) := rfl
theorem fX12_16 : fX12 16 = some (12, 5) := rfl
theorem fX12_20 : fX12 20 = some (12, 6) := rfl
theorem fX12_23 : fX12 23 = some (12, 7) := rfl
theorem fX12_26 : fX12 26 = some (12, 8) := rfl
theorem fX12_29 : fX12 29 = some (12, 9) := rfl
theorem fX12_32 : fX12 32 = some (12, 10) := rfl
theorem fX12_35 : fX12 35 = some (12, 11) := rfl
theorem fX12_39 : fX12 39 = some (12, 15) := rfl
theorem fX12_42 : fX12 42 = some (12, 16) := rfl
theorem fX12_45 : fX12 45 = some (12, 17) := rfl
theorem fX12_48 : fX12 48 = some (12, 18) := rfl
theorem fX12_52 : fX12 52 = some (12, 19) := rfl
theorem fX12_55 : fX12 55 = some (12, 20) := rfl
theorem fX12_58 : fX12 58 = some (12, 21) := rfl
theorem fX12_61 : fX12 61 = some (12, 22) := rfl
theorem fX12_64 : fX12 64 = some (12, 23) := rfl
theorem fX12_67 : fX12 67 = some (12, 24) := rfl
theorem fX12_70 : fX12 70 = some (12, 25) := rfl
theorem fX12_73 : fX12 73 = some (12, 26) := rfl
theorem fX12_76 : fX12 76 = some (12, 27) := rfl
theorem fX12_79 : fX12 79 = some (12, 28) := rfl
theorem fX12_82 : fX12 82 = some (12, 30) := rfl
theorem fX12_85 : fX12 85 = some (12, 31) := rfl
theorem fX12_88 : fX12 88 = some (12, 38) := rfl
theorem fX12_91 : fX12 91 = some (12, 39) := rfl
theorem fX12_94 : fX12 94 = some (12, 40) := rfl
theorem fX12_97 : fX12 97 = some (12, 41) := rfl
theorem fX12_100 : fX12 100 = some (12, 43) := rfl
theorem fX12_103 : fX12 103 = some (12, 2) := rfl
theorem fX12_111 : fX12 111 = some (12, 3) := rfl
theorem fX12_122 : fX12 122 = some (12, 4) := rfl
theorem fX12_132 : fX12 132 = some (12, 12) := rfl
theorem fX12_145 : fX12 145 = some (12, 13) := rfl
theorem fX12_155 : fX12 155 = some (12, 14) := rfl
theorem fX12_196 : fX12 196 = some (12, 29) := rfl
theorem fX12_211 : fX12 211 = some (12, 32) := rfl
theorem fX12_218 : fX12 218 = some (12, 33) := rfl
theorem fX12_221 : fX12 221 = some (12, 34) := rfl
theorem fX12_224 : fX12 224 = some (12, 35) := rfl
theorem fX12_227 : fX12 227 = some (12, 36) := rfl
theorem fX12_266 : fX12 266 = some (12, 37) := rfl
theorem fX12_272 : fX12 272 = some (12, 42) := rfl
theorem fX12_all : ∀ e ∈ fX12l, fOK RX12 e.1 e.2.1 e.2.2 := all_cons fokX12_7 (all_cons fokX12_13 (all_cons fokX12_16 (all_cons fokX12_20 (all_cons fokX12_23 (all_cons fokX12_26 (all_cons fokX12_29 (all_cons fokX12_32 (all_cons fokX12_35 (all_cons fokX12_39 (all_cons fokX12_42 (all_cons fokX12_45 (all_cons fokX12_48 (all_cons fokX12_52 (all_cons fokX12_55 (all_cons fokX12_58 (all_cons fokX12_61 (all_cons fokX12_64 (all_cons fokX12_67 (all_cons fokX12_70 (all_cons fokX12_73 (all_cons fokX12_76 (all_cons fokX12_79 (all_cons fokX12_82 (all_cons fokX12_85 (all_cons fokX12_88 (all_cons fokX12_91 (all_cons fokX12_94 (all_cons fokX12_97 (all_cons fokX12_100 (all_cons fokX12_103 (all_cons fokX12_111 (all_cons fokX12_122 (all_cons fokX12_132 (all_cons fokX12_145 (all_cons fokX12_155 (all_cons fokX12_196 (all_cons fokX12_211 (all_cons fokX12_218 (all_cons fokX12_221 (all_cons fokX12_224 (all_cons fokX12_227 (all_cons fokX12_266 (all_cons fokX12_272 (all_nil))))))))))))))))))))))))))))))))))))))))))))
theorem fX12_ok : ∀ idx ci f, fX12 idx = some (ci, f) → fOK RX12 idx ci f := fun _ _ _ h => fX12_all _ (lk_mem h)
def pX12l : List (Nat × Nat × Nat) := [(103, 12, 2), (111, 12, 3), (122, 12, 4), (132, 12, 12), (145, 12, 13), (155, 12, 14), (196, 12, 29), (211, 12, 32), (218, 12, 33), (221, 12, 34), (224, 12, 35), (227, 12, 36), (266, 12, 37), (272, 12, 42)]
def pX12 (j : Nat) : Option (Nat × Nat) := lk pX12l j
theorem pX12_103 : pX12 103 = some (12, 2) := rfl
theorem pX12_111 : pX12 111 = some (12, 3) := rfl
theorem pX12_122 : pX12 122 = some (12, 4) := rfl
theorem pX12_132 : pX12 132 = some (12, 12) := rfl
theorem pX12_145 : pX12 145 = some (12, 13) := rfl
theorem pX12_155 : pX12 155 = some (12, 14) := rfl
theorem pX12_196 : pX12 196 = some (12, 29) := rfl
theorem pX12_211 : pX12 211 = some (12, 32) := rfl
theorem pX12_218 : pX12 218 = some (12, 33) := rfl
theorem pX12_221 : pX12 221 = some (12, 34) := rfl
theorem pX12_224 : pX12 224 = some (12, 35) := rfl
theorem pX12_227 : pX12 227 = some (12, 36) := rfl
theorem pX12_266 : pX12 266 = some (12, 37) := rfl
theorem pX12_272 : pX12 272 = some (12, 42) := rfl
theorem pX12_all : ∀ e ∈ pX12l, fOK RX12 e.1 e.2.1 e.2.2 ∧ fPk e.2.1 e.2.2 := all_cons ⟨fokX12_103, fpkX12_2⟩ (all_cons ⟨fokX12_111, fpkX12_3⟩ (all_cons ⟨fokX12_122, fpkX12_4⟩ (all_cons ⟨fokX12_132, fpkX12_12⟩ (all_cons ⟨fokX12_145, fpkX12_13⟩ (all_cons ⟨fokX12_155, fpkX12_14⟩ (all_cons ⟨fokX12_196, fpkX12_29⟩ (all_cons ⟨fokX12_211, fpkX12_32⟩ (all_cons ⟨fokX12_218, fpkX12_33⟩ (all_cons ⟨fokX12_221, fpkX12_34⟩ (all_cons ⟨fokX12_224, fpkX12_35⟩ (all_cons ⟨fokX12_227, fpkX12_36⟩ (all_cons ⟨fokX12_266, fpkX12_37⟩ (all_cons ⟨fokX12_272, fpkX12_42⟩ (all_nil))))))))))))))
theorem pX12_ok : ∀ idx ci f, pX12 idx = some (ci, f) → fOK RX12 idx ci f ∧ fPk ci f := fun _ _ _ h => pX12_all _ (lk_mem h)
def kX12 (j : Nat) : Option Int := none
theorem kX12_ok : ∀ idx x, kX12 idx = some x → ∃ v : Int64, x = v.toInt ∧ Cond.constantLong RX12 idx v ∈ gw := by
  intro idx x h
  unfold kX12 at h
  cases h
def mX11_feed : aM := (yX11_feed, cX11_feed, 6, (some .int), 1, 22)
theorem meX11_feed : Cond.code mX11_feed.1 mX11_feed.2.1 mX11_feed.2.2.1 mX11_feed.2.2.2.1 ∈ gw := in_2 (List.mem_of_getElem? (i := 118) rfl) rfl
def mX8_addFour : aM := (yX8_addFour, cX8_addFour, 3, none, 0, 0)
theorem meX8_addFour : Cond.code mX8_addFour.1 mX8_addFour.2.1 mX8_addFour.2.2.1 mX8_addFour.2.2.2.1 ∈ gw := in_2 (List.mem_of_getElem? (i := 122) rfl) rfl
def mX11_book : aM := (yX11_book, cX11_book, 3, (some .int), 1, 23)
theorem meX11_book : Cond.code mX11_book.1 mX11_book.2.1 mX11_book.2.2.1 mX11_book.2.2.2.1 ∈ gw := in_2 (List.mem_of_getElem? (i := 126) rfl) rfl
def mX11_areYears : aM := (yX11_areYears, cX11_areYears, 2, (some .boolean), 0, 0)
theorem meX11_areYears : Cond.code mX11_areYears.1 mX11_areYears.2.1 mX11_areYears.2.2.1 mX11_areYears.2.2.2.1 ∈ gw := in_2 (List.mem_of_getElem? (i := 129) rfl) rfl
def mX0_add : aM := (yX0_add, cX0_add, 4, (some .int), 0, 0)
theorem meX0_add : Cond.code mX0_add.1 mX0_add.2.1 mX0_add.2.2.1 mX0_add.2.2.2.1 ∈ gw := in_2 (List.mem_of_getElem? (i := 133) rfl) rfl
def mX11_before : aM := (yX11_before, cX11_before, 3, (some .boolean), 3, 68)
theorem meX11_before : Cond.code mX11_before.1 mX11_before.2.1 mX11_before.2.2.1 mX11_before.2.2.2.1 ∈ gw := in_2 (List.mem_of_getElem? (i := 137) rfl) rfl
def mX0_has : aM := (yX0_has, cX0_has, 2, (some .boolean), 0, 0)
theorem meX0_has : Cond.code mX0_has.1 mX0_has.2.1 mX0_has.2.2.1 mX0_has.2.2.2.1 ∈ gw := in_2 (List.mem_of_getElem? (i := 141) rfl) rfl
def mX0_addBefore : aM := (yX0_addBefore, cX0_addBefore, 3, (some .boolean), 2, 46)
theorem meX0_addBefore : Cond.code mX0_addBefore.1 mX0_addBefore.2.1 mX0_addBefore.2.2.1 mX0_addBefore.2.2.2.1 ∈ gw := in_2 (List.mem_of_getElem? (i := 145) rfl) rfl
def mX0_wasTold : aM := (yX0_wasTold, cX0_wasTold, 4, (some .boolean), 0, 0)
theorem meX0_wasTold : Cond.code mX0_wasTold.1 mX0_wasTold.2.1 mX0_wasTold.2.2.1 mX0_wasTold.2.2.2.1 ∈ gw := in_2 (List.mem_of_getElem? (i := 149) rfl) rfl
def mX0_tighten : aM := (yX0_tighten, cX0_tighten, 3, (some .boolean), 1, 24)
theorem meX0_tighten : Cond.code mX0_tighten.1 mX0_tighten.2.1 mX0_tighten.2.2.1 mX0_tighten.2.2.2.1 ∈ gw := in_2 (List.mem_of_getElem? (i := 153) rfl) rfl
def mX0_tightenOnce : aM := (yX0_tightenOnce, cX0_tightenOnce, 5, (some .boolean), 0, 0)
theorem meX0_tightenOnce : Cond.code mX0_tightenOnce.1 mX0_tightenOnce.2.1 mX0_tightenOnce.2.2.1 mX0_tightenOnce.2.2.2.1 ∈ gw := in_2 (List.mem_of_getElem? (i := 157) rfl) rfl
def mX0_allHaveYears : aM := (yX0_allHaveYears, cX0_allHaveYears, 2, (some .boolean), 0, 0)
theorem meX0_allHaveYears : Cond.code mX0_allHaveYears.1 mX0_allHaveYears.2.1 mX0_allHaveYears.2.2.1 mX0_allHaveYears.2.2.2.1 ∈ gw := in_2 (List.mem_of_getElem? (i := 161) rfl) rfl
def mX0_setBehind : aM := (yX0_setBehind, cX0_setBehind, 5, none, 1, 21)
theorem meX0_setBehind : Cond.code mX0_setBehind.1 mX0_setBehind.2.1 mX0_setBehind.2.2.1 mX0_setBehind.2.2.2.1 ∈ gw := in_2 (List.mem_of_getElem? (i := 165) rfl) rfl
def mX0_isIn : aM := (yX0_isIn, cX0_isIn, 2, (some .boolean), 0, 0)
theorem meX0_isIn : Cond.code mX0_isIn.1 mX0_isIn.2.1 mX0_isIn.2.2.1 mX0_isIn.2.2.2.1 ∈ gw := in_2 (List.mem_of_getElem? (i := 168) rfl) rfl
def mX11_span : aM := (yX11_span, cX11_span, 3, (some .int), 1, 23)
theorem meX11_span : Cond.code mX11_span.1 mX11_span.2.1 mX11_span.2.2.1 mX11_span.2.2.2.1 ∈ gw := in_2 (List.mem_of_getElem? (i := 172) rfl) rfl
def mX7_ofBook : aM := (yX7_ofBook, cX7_ofBook, 4, (some .int), 0, 0)
theorem meX7_ofBook : Cond.code mX7_ofBook.1 mX7_ofBook.2.1 mX7_ofBook.2.2.1 mX7_ofBook.2.2.2.1 ∈ gw := in_2 (List.mem_of_getElem? (i := 176) rfl) rfl
def mX11_slip : aM := (yX11_slip, cX11_slip, 5, (some .int), 5, 134)
theorem meX11_slip : Cond.code mX11_slip.1 mX11_slip.2.1 mX11_slip.2.2.1 mX11_slip.2.2.2.1 ∈ gw := in_2 (List.mem_of_getElem? (i := 180) rfl) rfl
def mX11_tapeHasWord : aM := (yX11_tapeHasWord, cX11_tapeHasWord, 2, (some .boolean), 0, 0)
theorem meX11_tapeHasWord : Cond.code mX11_tapeHasWord.1 mX11_tapeHasWord.2.1 mX11_tapeHasWord.2.2.1 mX11_tapeHasWord.2.2.2.1 ∈ gw := in_2 (List.mem_of_getElem? (i := 184) rfl) rfl
def mX8_takeWord : aM := (yX8_takeWord, cX8_takeWord, 4, (some .long), 2, 47)
theorem meX8_takeWord : Cond.code mX8_takeWord.1 mX8_takeWord.2.1 mX8_takeWord.2.2.1 mX8_takeWord.2.2.2.1 ∈ gw := in_2 (List.mem_of_getElem? (i := 188) rfl) rfl
def mX8_wordAt : aM := (yX8_wordAt, cX8_wordAt, 6, (some .long), 1, 22)
theorem meX8_wordAt : Cond.code mX8_wordAt.1 mX8_wordAt.2.1 mX8_wordAt.2.2.1 mX8_wordAt.2.2.2.1 ∈ gw := in_2 (List.mem_of_getElem? (i := 192) rfl) rfl
def mX10_append : aM := (yX10_append, cX10_append, 3, (some .long), 0, 0)
theorem meX10_append : Cond.code mX10_append.1 mX10_append.2.1 mX10_append.2.2.1 mX10_append.2.2.2.1 ∈ gw := in_2 (List.mem_of_getElem? (i := 195) rfl) rfl
def mX8_clear : aM := (yX8_clear, cX8_clear, 1, none, 0, 0)
theorem meX8_clear : Cond.code mX8_clear.1 mX8_clear.2.1 mX8_clear.2.2.1 mX8_clear.2.2.2.1 ∈ gw := in_2 (List.mem_of_getElem? (i := 199) rfl) rfl
def mX7_add : aM := (yX7_add, cX7_add, 5, (some .int), 4, 110)
theorem meX7_add : Cond.code mX7_add.1 mX7_add.2.1 mX7_add.2.2.1 mX7_add.2.2.2.1 ∈ gw := in_2 (List.mem_of_getElem? (i := 203) rfl) rfl
def mX10_set : aM := (yX10_set, cX10_set, 5, none, 3, 86)
theorem meX10_set : Cond.code mX10_set.1 mX10_set.2.1 mX10_set.2.2.1 mX10_set.2.2.2.1 ∈ gw := in_2 (List.mem_of_getElem? (i := 207) rfl) rfl
def mX10_addNeighboursOf : aM := (yX10_addNeighboursOf, cX10_addNeighboursOf, 10, none, 2, 57)
theorem meX10_addNeighboursOf : Cond.code mX10_addNeighboursOf.1 mX10_addNeighboursOf.2.1 mX10_addNeighboursOf.2.2.1 mX10_addNeighboursOf.2.2.2.1 ∈ gw := in_2 (List.mem_of_getElem? (i := 211) rfl) rfl
def mX10_changed : aM := (yX10_changed, cX10_changed, 16, (some .long), 1, 22)
theorem meX10_changed : Cond.code mX10_changed.1 mX10_changed.2.1 mX10_changed.2.2.1 mX10_changed.2.2.2.1 ∈ gw := in_2 (List.mem_of_getElem? (i := 214) rfl) rfl
def mX10_lettersIn : aM := (yX10_lettersIn, cX10_lettersIn, 3, (some .int), 0, 0)
theorem meX10_lettersIn : Cond.code mX10_lettersIn.1 mX10_lettersIn.2.1 mX10_lettersIn.2.2.1 mX10_lettersIn.2.2.2.1 ∈ gw := in_2 (List.mem_of_getElem? (i := 217) rfl) rfl
def mX10_lowest : aM := (yX10_lowest, cX10_lowest, 3, (some .long), 0, 0)
theorem meX10_lowest : Cond.code mX10_lowest.1 mX10_lowest.2.1 mX10_lowest.2.2.1 mX10_lowest.2.2.2.1 ∈ gw := in_2 (List.mem_of_getElem? (i := 220) rfl) rfl
def mX7_place : aM := (yX7_place, cX7_place, 4, none, 1, 21)
theorem meX7_place : Cond.code mX7_place.1 mX7_place.2.1 mX7_place.2.2.1 mX7_place.2.2.2.1 ∈ gw := in_2 (List.mem_of_getElem? (i := 224) rfl) rfl
def mX7_has : aM := (yX7_has, cX7_has, 2, (some .boolean), 0, 0)
theorem meX7_has : Cond.code mX7_has.1 mX7_has.2.1 mX7_has.2.2.1 mX7_has.2.2.2.1 ∈ gw := in_2 (List.mem_of_getElem? (i := 228) rfl) rfl
def mX11_entry : aM := (yX11_entry, cX11_entry, 6, (some .int), 6, 161)
theorem meX11_entry : Cond.code mX11_entry.1 mX11_entry.2.1 mX11_entry.2.2.1 mX11_entry.2.2.2.1 ∈ gw := in_2 (List.mem_of_getElem? (i := 232) rfl) rfl
def mX2_add : aM := (yX2_add, cX2_add, 6, (some .int), 5, 136)
theorem meX2_add : Cond.code mX2_add.1 mX2_add.2.1 mX2_add.2.2.1 mX2_add.2.2.2.1 ∈ gw := in_2 (List.mem_of_getElem? (i := 236) rfl) rfl
def mX2_addForm : aM := (yX2_addForm, cX2_addForm, 7, (some .int), 4, 110)
theorem meX2_addForm : Cond.code mX2_addForm.1 mX2_addForm.2.1 mX2_addForm.2.2.1 mX2_addForm.2.2.2.1 ∈ gw := in_3 (List.mem_of_getElem? (i := 0) rfl) rfl
def mX2_hasRoomForForm : aM := (yX2_hasRoomForForm, cX2_hasRoomForForm, 2, (some .boolean), 1, 21)
theorem meX2_hasRoomForForm : Cond.code mX2_hasRoomForForm.1 mX2_hasRoomForForm.2.1 mX2_hasRoomForForm.2.2.1 mX2_hasRoomForForm.2.2.2.1 ∈ gw := in_3 (List.mem_of_getElem? (i := 4) rfl) rfl
def mX2_has : aM := (yX2_has, cX2_has, 2, (some .boolean), 0, 0)
theorem meX2_has : Cond.code mX2_has.1 mX2_has.2.1 mX2_has.2.2.1 mX2_has.2.2.2.1 ∈ gw := in_3 (List.mem_of_getElem? (i := 8) rfl) rfl
def mX2_formOf : aM := (yX2_formOf, cX2_formOf, 2, (some .int), 0, 0)
theorem meX2_formOf : Cond.code mX2_formOf.1 mX2_formOf.2.1 mX2_formOf.2.2.1 mX2_formOf.2.2.2.1 ∈ gw := in_3 (List.mem_of_getElem? (i := 11) rfl) rfl
def mX11_form : aM := (yX11_form, cX11_form, 7, (some .int), 5, 136)
theorem meX11_form : Cond.code mX11_form.1 mX11_form.2.1 mX11_form.2.2.1 mX11_form.2.2.2.1 ∈ gw := in_3 (List.mem_of_getElem? (i := 16) rfl) rfl
def mX11_rule : aM := (yX11_rule, cX11_rule, 8, (some .int), 4, 108)
theorem meX11_rule : Cond.code mX11_rule.1 mX11_rule.2.1 mX11_rule.2.2.1 mX11_rule.2.2.2.1 ∈ gw := in_3 (List.mem_of_getElem? (i := 22) rfl) rfl
def mX11_isRuleLength : aM := (yX11_isRuleLength, cX11_isRuleLength, 1, (some .boolean), 0, 0)
theorem meX11_isRuleLength : Cond.code mX11_isRuleLength.1 mX11_isRuleLength.2.1 mX11_isRuleLength.2.2.1 mX11_isRuleLength.2.2.2.1 ∈ gw := in_3 (List.mem_of_getElem? (i := 25) rfl) rfl
def mX5_add : aM := (yX5_add, cX5_add, 6, (some .int), 0, 0)
theorem meX5_add : Cond.code mX5_add.1 mX5_add.2.1 mX5_add.2.2.1 mX5_add.2.2.2.1 ∈ gw := in_3 (List.mem_of_getElem? (i := 31) rfl) rfl
def mX10_addNeighbours : aM := (yX10_addNeighbours, cX10_addNeighbours, 3, none, 3, 86)
theorem meX10_addNeighbours : Cond.code mX10_addNeighbours.1 mX10_addNeighbours.2.1 mX10_addNeighbours.2.2.1 mX10_addNeighbours.2.2.2.1 ∈ gw := in_3 (List.mem_of_getElem? (i := 35) rfl) rfl
def mX10_has : aM := (yX10_has, cX10_has, 2, (some .boolean), 0, 0)
theorem meX10_has : Cond.code mX10_has.1 mX10_has.2.1 mX10_has.2.2.1 mX10_has.2.2.2.1 ∈ gw := in_3 (List.mem_of_getElem? (i := 39) rfl) rfl
def mX11_fits : aM := (yX11_fits, cX11_fits, 3, (some .int), 3, 71)
theorem meX11_fits : Cond.code mX11_fits.1 mX11_fits.2.1 mX11_fits.2.2.1 mX11_fits.2.2.2.1 ∈ gw := in_3 (List.mem_of_getElem? (i := 43) rfl) rfl
def mX11_isFit : aM := (yX11_isFit, cX11_isFit, 6, (some .boolean), 2, 46)
theorem meX11_isFit : Cond.code mX11_isFit.1 mX11_isFit.2.1 mX11_isFit.2.2.1 mX11_isFit.2.2.2.1 ∈ gw := in_3 (List.mem_of_getElem? (i := 49) rfl) rfl
def mX2_isSpelledIn : aM := (yX2_isSpelledIn, cX2_isSpelledIn, 4, (some .boolean), 0, 0)
theorem meX2_isSpelledIn : Cond.code mX2_isSpelledIn.1 mX2_isSpelledIn.2.1 mX2_isSpelledIn.2.2.1 mX2_isSpelledIn.2.2.2.1 ∈ gw := in_3 (List.mem_of_getElem? (i := 54) rfl) rfl
def mX10_meet : aM := (yX10_meet, cX10_meet, 6, (some .boolean), 1, 21)
theorem meX10_meet : Cond.code mX10_meet.1 mX10_meet.2.1 mX10_meet.2.2.1 mX10_meet.2.2.2.1 ∈ gw := in_3 (List.mem_of_getElem? (i := 58) rfl) rfl
def mX11_sort : aM := (yX11_sort, cX11_sort, 3, (some .int), 4, 94)
theorem meX11_sort : Cond.code mX11_sort.1 mX11_sort.2.1 mX11_sort.2.2.1 mX11_sort.2.2.2.1 ∈ gw := in_3 (List.mem_of_getElem? (i := 62) rfl) rfl
def mX7_isLoose : aM := (yX7_isLoose, cX7_isLoose, 2, (some .boolean), 2, 44)
theorem meX7_isLoose : Cond.code mX7_isLoose.1 mX7_isLoose.2.1 mX7_isLoose.2.2.1 mX7_isLoose.2.2.2.1 ∈ gw := in_3 (List.mem_of_getElem? (i := 66) rfl) rfl
def mX7_standsAt : aM := (yX7_standsAt, cX7_standsAt, 4, (some .boolean), 1, 21)
theorem meX7_standsAt : Cond.code mX7_standsAt.1 mX7_standsAt.2.1 mX7_standsAt.2.2.1 mX7_standsAt.2.2.2.1 ∈ gw := in_3 (List.mem_of_getElem? (i := 70) rfl) rfl
def mX11_entriesFitted : aM := (yX11_entriesFitted, cX11_entriesFitted, 4, (some .int), 3, 71)
theorem meX11_entriesFitted : Cond.code mX11_entriesFitted.1 mX11_entriesFitted.2.1 mX11_entriesFitted.2.2.1 mX11_entriesFitted.2.2.2.1 ∈ gw := in_3 (List.mem_of_getElem? (i := 74) rfl) rfl
def mX11_firstEntryFitted : aM := (yX11_firstEntryFitted, cX11_firstEntryFitted, 3, (some .int), 3, 71)
theorem meX11_firstEntryFitted : Cond.code mX11_firstEntryFitted.1 mX11_firstEntryFitted.2.1 mX11_firstEntryFitted.2.2.1 mX11_firstEntryFitted.2.2.2.1 ∈ gw := in_3 (List.mem_of_getElem? (i := 78) rfl) rfl
def mX11_sense : aM := (yX11_sense, cX11_sense, 3, (some .int), 2, 44)
theorem meX11_sense : Cond.code mX11_sense.1 mX11_sense.2.1 mX11_sense.2.2.1 mX11_sense.2.2.2.1 ∈ gw := in_3 (List.mem_of_getElem? (i := 83) rfl) rfl
def mX11_isTopOrSenseOf : aM := (yX11_isTopOrSenseOf, cX11_isTopOrSenseOf, 3, (some .boolean), 1, 21)
theorem meX11_isTopOrSenseOf : Cond.code mX11_isTopOrSenseOf.1 mX11_isTopOrSenseOf.2.1 mX11_isTopOrSenseOf.2.2.1 mX11_isTopOrSenseOf.2.2.2.1 ∈ gw := in_3 (List.mem_of_getElem? (i := 87) rfl) rfl
def mX6_has : aM := (yX6_has, cX6_has, 2, (some .boolean), 0, 0)
theorem meX6_has : Cond.code mX6_has.1 mX6_has.2.1 mX6_has.2.2.1 mX6_has.2.2.2.1 ∈ gw := in_3 (List.mem_of_getElem? (i := 91) rfl) rfl
def mX6_add : aM := (yX6_add, cX6_add, 4, (some .int), 1, 21)
theorem meX6_add : Cond.code mX6_add.1 mX6_add.2.1 mX6_add.2.2.1 mX6_add.2.2.2.1 ∈ gw := in_3 (List.mem_of_getElem? (i := 95) rfl) rfl
def mX11_put : aM := (yX11_put, cX11_put, 5, (some .boolean), 2, 44)
theorem meX11_put : Cond.code mX11_put.1 mX11_put.2.1 mX11_put.2.2.1 mX11_put.2.2.2.1 ∈ gw := in_3 (List.mem_of_getElem? (i := 100) rfl) rfl
def mX11_move : aM := (yX11_move, cX11_move, 3, (some .boolean), 2, 45)
theorem meX11_move : Cond.code mX11_move.1 mX11_move.2.1 mX11_move.2.2.1 mX11_move.2.2.2.1 ∈ gw := in_3 (List.mem_of_getElem? (i := 105) rfl) rfl
def mX6_isWithin : aM := (yX6_isWithin, cX6_isWithin, 5, (some .boolean), 1, 21)
theorem meX6_isWithin : Cond.code mX6_isWithin.1 mX6_isWithin.2.1 mX6_isWithin.2.2.1 mX6_isWithin.2.2.2.1 ∈ gw := in_3 (List.mem_of_getElem? (i := 109) rfl) rfl
def mX11_join : aM := (yX11_join, cX11_join, 3, (some .boolean), 4, 86)
theorem meX11_join : Cond.code mX11_join.1 mX11_join.2.1 mX11_join.2.2.1 mX11_join.2.2.2.1 ∈ gw := in_3 (List.mem_of_getElem? (i := 113) rfl) rfl
def mX7_moveAll : aM := (yX7_moveAll, cX7_moveAll, 4, none, 0, 0)
theorem meX7_moveAll : Cond.code mX7_moveAll.1 mX7_moveAll.2.1 mX7_moveAll.2.2.1 mX7_moveAll.2.2.2.1 ∈ gw := in_3 (List.mem_of_getElem? (i := 117) rfl) rfl
def mX6_moveAllUnder : aM := (yX6_moveAllUnder, cX6_moveAllUnder, 4, none, 1, 21)
theorem meX6_moveAllUnder : Cond.code mX6_moveAllUnder.1 mX6_moveAllUnder.2.1 mX6_moveAllUnder.2.2.1 mX6_moveAllUnder.2.2.2.1 ∈ gw := in_3 (List.mem_of_getElem? (i := 121) rfl) rfl
def mX11_forgetSense : aM := (yX11_forgetSense, cX11_forgetSense, 2, none, 3, 65)
theorem meX11_forgetSense : Cond.code mX11_forgetSense.1 mX11_forgetSense.2.1 mX11_forgetSense.2.2.1 mX11_forgetSense.2.2.2.1 ∈ gw := in_3 (List.mem_of_getElem? (i := 125) rfl) rfl
def mX6_remove : aM := (yX6_remove, cX6_remove, 2, none, 1, 21)
theorem meX6_remove : Cond.code mX6_remove.1 mX6_remove.2.1 mX6_remove.2.2.1 mX6_remove.2.2.2.1 ∈ gw := in_3 (List.mem_of_getElem? (i := 129) rfl) rfl
def mX3_forget : aM := (yX3_forget, cX3_forget, 3, none, 2, 43)
theorem meX3_forget : Cond.code mX3_forget.1 mX3_forget.2.1 mX3_forget.2.2.1 mX3_forget.2.2.2.1 ∈ gw := in_3 (List.mem_of_getElem? (i := 133) rfl) rfl
def mX3_remove : aM := (yX3_remove, cX3_remove, 3, none, 1, 21)
theorem meX3_remove : Cond.code mX3_remove.1 mX3_remove.2.1 mX3_remove.2.2.1 mX3_remove.2.2.2.1 ∈ gw := in_3 (List.mem_of_getElem? (i := 137) rfl) rfl
def mX3_has : aM := (yX3_has, cX3_has, 2, (some .boolean), 0, 0)
theorem meX3_has : Cond.code mX3_has.1 mX3_has.2.1 mX3_has.2.2.1 mX3_has.2.2.2.1 ∈ gw := in_3 (List.mem_of_getElem? (i := 141) rfl) rfl
def mX11_part : aM := (yX11_part, cX11_part, 2, (some .int), 2, 44)
theorem meX11_part : Cond.code mX11_part.1 mX11_part.2.1 mX11_part.2.2.1 mX11_part.2.2.2.1 ∈ gw := in_3 (List.mem_of_getElem? (i := 145) rfl) rfl
def mX11_drop : aM := (yX11_drop, cX11_drop, 2, (some .boolean), 4, 86)
theorem meX11_drop : Cond.code mX11_drop.1 mX11_drop.2.1 mX11_drop.2.2.1 mX11_drop.2.2.2.1 ∈ gw := in_3 (List.mem_of_getElem? (i := 149) rfl) rfl
def mX6_justUnder : aM := (yX6_justUnder, cX6_justUnder, 4, (some .int), 1, 21)
theorem meX6_justUnder : Cond.code mX6_justUnder.1 mX6_justUnder.2.1 mX6_justUnder.2.2.1 mX6_justUnder.2.2.2.1 ∈ gw := in_3 (List.mem_of_getElem? (i := 153) rfl) rfl
def mX7_at : aM := (yX7_at, cX7_at, 5, (some .int), 2, 44)
theorem meX7_at : Cond.code mX7_at.1 mX7_at.2.1 mX7_at.2.2.1 mX7_at.2.2.2.1 ∈ gw := in_3 (List.mem_of_getElem? (i := 157) rfl) rfl
def mX11_point : aM := (yX11_point, cX11_point, 3, (some .int), 1, 23)
theorem meX11_point : Cond.code mX11_point.1 mX11_point.2.1 mX11_point.2.2.1 mX11_point.2.2.2.1 ∈ gw := in_3 (List.mem_of_getElem? (i := 161) rfl) rfl
def mX3_add : aM := (yX3_add, cX3_add, 4, (some .int), 0, 0)
theorem meX3_add : Cond.code mX3_add.1 mX3_add.2.1 mX3_add.2.2.1 mX3_add.2.2.2.1 ∈ gw := in_3 (List.mem_of_getElem? (i := 165) rfl) rfl
def mX11_lead : aM := (yX11_lead, cX11_lead, 3, (some .boolean), 2, 43)
theorem meX11_lead : Cond.code mX11_lead.1 mX11_lead.2.1 mX11_lead.2.2.1 mX11_lead.2.2.2.1 ∈ gw := in_3 (List.mem_of_getElem? (i := 169) rfl) rfl
def mX3_isLoose : aM := (yX3_isLoose, cX3_isLoose, 2, (some .boolean), 1, 21)
theorem meX3_isLoose : Cond.code mX3_isLoose.1 mX3_isLoose.2.1 mX3_isLoose.2.2.1 mX3_isLoose.2.2.2.1 ∈ gw := in_3 (List.mem_of_getElem? (i := 174) rfl) rfl
def mX11_told : aM := (yX11_told, cX11_told, 3, (some .int), 4, 91)
theorem meX11_told : Cond.code mX11_told.1 mX11_told.2.1 mX11_told.2.2.1 mX11_told.2.2.2.1 ∈ gw := in_3 (List.mem_of_getElem? (i := 179) rfl) rfl
def mX9_gather : aM := (yX9_gather, cX9_gather, 2, none, 3, 66)
theorem meX9_gather : Cond.code mX9_gather.1 mX9_gather.2.1 mX9_gather.2.2.1 mX9_gather.2.2.2.1 ∈ gw := in_3 (List.mem_of_getElem? (i := 183) rfl) rfl
def mX9_addSlip : aM := (yX9_addSlip, cX9_addSlip, 5, none, 1, 21)
theorem meX9_addSlip : Cond.code mX9_addSlip.1 mX9_addSlip.2.1 mX9_addSlip.2.2.1 mX9_addSlip.2.2.2.1 ∈ gw := in_3 (List.mem_of_getElem? (i := 187) rfl) rfl
def mX0_least : aM := (yX0_least, cX0_least, 5, (some .int), 1, 21)
theorem meX0_least : Cond.code mX0_least.1 mX0_least.2.1 mX0_least.2.2.1 mX0_least.2.2.2.1 ∈ gw := in_3 (List.mem_of_getElem? (i := 192) rfl) rfl
def mX9_placeOf : aM := (yX9_placeOf, cX9_placeOf, 4, (some .int), 2, 43)
theorem meX9_placeOf : Cond.code mX9_placeOf.1 mX9_placeOf.2.1 mX9_placeOf.2.2.1 mX9_placeOf.2.2.2.1 ∈ gw := in_3 (List.mem_of_getElem? (i := 199) rfl) rfl
def mX6_areBeside : aM := (yX6_areBeside, cX6_areBeside, 3, (some .boolean), 1, 21)
theorem meX6_areBeside : Cond.code mX6_areBeside.1 mX6_areBeside.2.1 mX6_areBeside.2.2.1 mX6_areBeside.2.2.2.1 ∈ gw := in_3 (List.mem_of_getElem? (i := 203) rfl) rfl
def mX9_isAhead : aM := (yX9_isAhead, cX9_isAhead, 3, (some .boolean), 0, 0)
theorem meX9_isAhead : Cond.code mX9_isAhead.1 mX9_isAhead.2.1 mX9_isAhead.2.2.1 mX9_isAhead.2.2.2.1 ∈ gw := in_3 (List.mem_of_getElem? (i := 207) rfl) rfl
def mX11_toldYears : aM := (yX11_toldYears, cX11_toldYears, 3, (some .int), 3, 69)
theorem meX11_toldYears : Cond.code mX11_toldYears.1 mX11_toldYears.2.1 mX11_toldYears.2.2.1 mX11_toldYears.2.2.2.1 ∈ gw := in_3 (List.mem_of_getElem? (i := 211) rfl) rfl
def mX0_greatest : aM := (yX0_greatest, cX0_greatest, 5, (some .int), 1, 21)
theorem meX0_greatest : Cond.code mX0_greatest.1 mX0_greatest.2.1 mX0_greatest.2.2.1 mX0_greatest.2.2.2.1 ∈ gw := in_3 (List.mem_of_getElem? (i := 216) rfl) rfl
def mX0_widestGap : aM := (yX0_widestGap, cX0_widestGap, 4, (some .int), 2, 46)
theorem meX0_widestGap : Cond.code mX0_widestGap.1 mX0_widestGap.2.1 mX0_widestGap.2.2.1 mX0_widestGap.2.2.2.1 ∈ gw := in_3 (List.mem_of_getElem? (i := 223) rfl) rfl
def mX0_gapAhead : aM := (yX0_gapAhead, cX0_gapAhead, 6, (some .int), 1, 21)
theorem meX0_gapAhead : Cond.code mX0_gapAhead.1 mX0_gapAhead.2.1 mX0_gapAhead.2.2.1 mX0_gapAhead.2.2.2.1 ∈ gw := in_3 (List.mem_of_getElem? (i := 227) rfl) rfl
def mX6_depth : aM := (yX6_depth, cX6_depth, 4, (some .int), 1, 21)
theorem meX6_depth : Cond.code mX6_depth.1 mX6_depth.2.1 mX6_depth.2.2.1 mX6_depth.2.2.2.1 ∈ gw := in_3 (List.mem_of_getElem? (i := 231) rfl) rfl
def mX11_older : aM := (yX11_older, cX11_older, 3, (some .int), 4, 87)
theorem meX11_older : Cond.code mX11_older.1 mX11_older.2.1 mX11_older.2.2.1 mX11_older.2.2.2.1 ∈ gw := in_3 (List.mem_of_getElem? (i := 235) rfl) rfl
def mX0_areSurelyOlder : aM := (yX0_areSurelyOlder, cX0_areSurelyOlder, 4, (some .boolean), 2, 45)
theorem meX0_areSurelyOlder : Cond.code mX0_areSurelyOlder.1 mX0_areSurelyOlder.2.1 mX0_areSurelyOlder.2.2.1 mX0_areSurelyOlder.2.2.2.1 ∈ gw := in_3 (List.mem_of_getElem? (i := 239) rfl) rfl
def mX11_flaw : aM := (yX11_flaw, cX11_flaw, 4, (some .int), 4, 90)
theorem meX11_flaw : Cond.code mX11_flaw.1 mX11_flaw.2.1 mX11_flaw.2.2.1 mX11_flaw.2.2.2.1 ∈ gw := in_4 (List.mem_of_getElem? (i := 4) rfl) rfl
def mX9_isFlaw : aM := (yX9_isFlaw, cX9_isFlaw, 3, (some .boolean), 3, 68)
theorem meX9_isFlaw : Cond.code mX9_isFlaw.1 mX9_isFlaw.2.1 mX9_isFlaw.2.2.1 mX9_isFlaw.2.2.2.1 ∈ gw := in_4 (List.mem_of_getElem? (i := 8) rfl) rfl
def mX9_hasOwn : aM := (yX9_hasOwn, cX9_hasOwn, 2, (some .boolean), 1, 21)
theorem meX9_hasOwn : Cond.code mX9_hasOwn.1 mX9_hasOwn.2.1 mX9_hasOwn.2.2.1 mX9_hasOwn.2.2.2.1 ∈ gw := in_4 (List.mem_of_getElem? (i := 12) rfl) rfl
def mX11_where : aM := (yX11_where, cX11_where, 3, (some .int), 5, 115)
theorem meX11_where : Cond.code mX11_where.1 mX11_where.2.1 mX11_where.2.2.1 mX11_where.2.2.2.1 ∈ gw := in_4 (List.mem_of_getElem? (i := 18) rfl) rfl
def mX11_isInDoubt : aM := (yX11_isInDoubt, cX11_isInDoubt, 2, (some .boolean), 4, 94)
theorem meX11_isInDoubt : Cond.code mX11_isInDoubt.1 mX11_isInDoubt.2.1 mX11_isInDoubt.2.2.1 mX11_isInDoubt.2.2.2.1 ∈ gw := in_4 (List.mem_of_getElem? (i := 22) rfl) rfl
def mX10_wordAt : aM := (yX10_wordAt, cX10_wordAt, 2, (some .long), 1, 21)
theorem meX10_wordAt : Cond.code mX10_wordAt.1 mX10_wordAt.2.1 mX10_wordAt.2.2.1 mX10_wordAt.2.2.2.1 ∈ gw := in_4 (List.mem_of_getElem? (i := 26) rfl) rfl
def mX10_letterAt : aM := (yX10_letterAt, cX10_letterAt, 4, (some .int), 1, 22)
theorem meX10_letterAt : Cond.code mX10_letterAt.1 mX10_letterAt.2.1 mX10_letterAt.2.2.1 mX10_letterAt.2.2.2.1 ∈ gw := in_4 (List.mem_of_getElem? (i := 30) rfl) rfl
def mX11_edition : aM := (yX11_edition, cX11_edition, 1, (some .int), 3, 64)
theorem meX11_edition : Cond.code mX11_edition.1 mX11_edition.2.1 mX11_edition.2.2.1 mX11_edition.2.2.2.1 ∈ gw := in_4 (List.mem_of_getElem? (i := 35) rfl) rfl
def mX3_loose : aM := (yX3_loose, cX3_loose, 3, (some .int), 2, 42)
theorem meX3_loose : Cond.code mX3_loose.1 mX3_loose.2.1 mX3_loose.2.2.1 mX3_loose.2.2.2.1 ∈ gw := in_4 (List.mem_of_getElem? (i := 39) rfl) rfl
def mX1_add : aM := (yX1_add, cX1_add, 3, (some .int), 0, 0)
theorem meX1_add : Cond.code mX1_add.1 mX1_add.2.1 mX1_add.2.2.1 mX1_add.2.2.2.1 ∈ gw := in_4 (List.mem_of_getElem? (i := 44) rfl) rfl
def mX11_as : aM := (yX11_as, cX11_as, 4, (some .int), 3, 65)
theorem meX11_as : Cond.code mX11_as.1 mX11_as.2.1 mX11_as.2.2.1 mX11_as.2.2.2.1 ∈ gw := in_4 (List.mem_of_getElem? (i := 48) rfl) rfl
def mX1_has : aM := (yX1_has, cX1_has, 2, (some .boolean), 0, 0)
theorem meX1_has : Cond.code mX1_has.1 mX1_has.2.1 mX1_has.2.2.1 mX1_has.2.2.2.1 ∈ gw := in_4 (List.mem_of_getElem? (i := 52) rfl) rfl
def mX1_entryOf : aM := (yX1_entryOf, cX1_entryOf, 3, (some .int), 2, 43)
theorem meX1_entryOf : Cond.code mX1_entryOf.1 mX1_entryOf.2.1 mX1_entryOf.2.2.1 mX1_entryOf.2.2.2.1 ∈ gw := in_4 (List.mem_of_getElem? (i := 56) rfl) rfl
def mX1_wasThere : aM := (yX1_wasThere, cX1_wasThere, 3, (some .boolean), 1, 21)
theorem meX1_wasThere : Cond.code mX1_wasThere.1 mX1_wasThere.2.1 mX1_wasThere.2.2.1 mX1_wasThere.2.2.2.1 ∈ gw := in_4 (List.mem_of_getElem? (i := 60) rfl) rfl
def mX1_senseOf : aM := (yX1_senseOf, cX1_senseOf, 3, (some .int), 2, 43)
theorem meX1_senseOf : Cond.code mX1_senseOf.1 mX1_senseOf.2.1 mX1_senseOf.2.2.1 mX1_senseOf.2.2.2.1 ∈ gw := in_4 (List.mem_of_getElem? (i := 65) rfl) rfl
def mX11_differ : aM := (yX11_differ, cX11_differ, 6, (some .int), 4, 88)
theorem meX11_differ : Cond.code mX11_differ.1 mX11_differ.2.1 mX11_differ.2.2.1 mX11_differ.2.2.2.1 ∈ gw := in_4 (List.mem_of_getElem? (i := 69) rfl) rfl
def mX1_isOtherwise : aM := (yX1_isOtherwise, cX1_isOtherwise, 4, (some .boolean), 3, 65)
theorem meX1_isOtherwise : Cond.code mX1_isOtherwise.1 mX1_isOtherwise.2.1 mX1_isOtherwise.2.2.1 mX1_isOtherwise.2.2.2.1 ∈ gw := in_4 (List.mem_of_getElem? (i := 73) rfl) rfl
def mX11_print : aM := (yX11_print, cX11_print, 2, (some .int), 6, 135)
theorem meX11_print : Cond.code mX11_print.1 mX11_print.2.1 mX11_print.2.2.1 mX11_print.2.2.2.1 ∈ gw := in_4 (List.mem_of_getElem? (i := 79) rfl) rfl
def mX4_compose : aM := (yX4_compose, cX4_compose, 4, (some .int), 5, 112)
theorem meX4_compose : Cond.code mX4_compose.1 mX4_compose.2.1 mX4_compose.2.2.1 mX4_compose.2.2.2.1 ∈ gw := in_4 (List.mem_of_getElem? (i := 83) rfl) rfl
def mX2_head : aM := (yX2_head, cX2_head, 2, (some .long), 2, 42)
theorem meX2_head : Cond.code mX2_head.1 mX2_head.2.1 mX2_head.2.2.1 mX2_head.2.2.2.1 ∈ gw := in_4 (List.mem_of_getElem? (i := 88) rfl) rfl
def mX4_addWord : aM := (yX4_addWord, cX4_addWord, 5, none, 2, 45)
theorem meX4_addWord : Cond.code mX4_addWord.1 mX4_addWord.2.1 mX4_addWord.2.2.1 mX4_addWord.2.2.2.1 ∈ gw := in_4 (List.mem_of_getElem? (i := 93) rfl) rfl
def mX4_addByte : aM := (yX4_addByte, cX4_addByte, 2, none, 0, 0)
theorem meX4_addByte : Cond.code mX4_addByte.1 mX4_addByte.2.1 mX4_addByte.2.2.1 mX4_addByte.2.2.2.1 ∈ gw := in_4 (List.mem_of_getElem? (i := 99) rfl) rfl
def mX4_senseAt : aM := (yX4_senseAt, cX4_senseAt, 5, (some .int), 1, 21)
theorem meX4_senseAt : Cond.code mX4_senseAt.1 mX4_senseAt.2.1 mX4_senseAt.2.2.1 mX4_senseAt.2.2.2.1 ∈ gw := in_4 (List.mem_of_getElem? (i := 103) rfl) rfl
def mX4_addSense : aM := (yX4_addSense, cX4_addSense, 3, none, 4, 90)
theorem meX4_addSense : Cond.code mX4_addSense.1 mX4_addSense.2.1 mX4_addSense.2.2.1 mX4_addSense.2.2.2.1 ∈ gw := in_4 (List.mem_of_getElem? (i := 108) rfl) rfl
def mX4_addMark : aM := (yX4_addMark, cX4_addMark, 4, none, 2, 43)
theorem meX4_addMark : Cond.code mX4_addMark.1 mX4_addMark.2.1 mX4_addMark.2.2.1 mX4_addMark.2.2.2.1 ∈ gw := in_4 (List.mem_of_getElem? (i := 112) rfl) rfl
def mX4_addNumber : aM := (yX4_addNumber, cX4_addNumber, 3, none, 1, 21)
theorem meX4_addNumber : Cond.code mX4_addNumber.1 mX4_addNumber.2.1 mX4_addNumber.2.2.1 mX4_addNumber.2.2.2.1 ∈ gw := in_4 (List.mem_of_getElem? (i := 116) rfl) rfl
def mX4_addWitnesses : aM := (yX4_addWitnesses, cX4_addWitnesses, 2, none, 2, 43)
theorem meX4_addWitnesses : Cond.code mX4_addWitnesses.1 mX4_addWitnesses.2.1 mX4_addWitnesses.2.2.1 mX4_addWitnesses.2.2.2.1 ∈ gw := in_4 (List.mem_of_getElem? (i := 120) rfl) rfl
def mX4_addPointer : aM := (yX4_addPointer, cX4_addPointer, 2, none, 3, 69)
theorem meX4_addPointer : Cond.code mX4_addPointer.1 mX4_addPointer.2.1 mX4_addPointer.2.2.1 mX4_addPointer.2.2.2.1 ∈ gw := in_4 (List.mem_of_getElem? (i := 124) rfl) rfl
def mX4_senseBehind : aM := (yX4_senseBehind, cX4_senseBehind, 6, (some .int), 2, 45)
theorem meX4_senseBehind : Cond.code mX4_senseBehind.1 mX4_senseBehind.2.1 mX4_senseBehind.2.2.1 mX4_senseBehind.2.2.2.1 ∈ gw := in_4 (List.mem_of_getElem? (i := 128) rfl) rfl
def mX4_addHeap : aM := (yX4_addHeap, cX4_addHeap, 2, none, 2, 43)
theorem meX4_addHeap : Cond.code mX4_addHeap.1 mX4_addHeap.2.1 mX4_addHeap.2.2.1 mX4_addHeap.2.2.2.1 ∈ gw := in_4 (List.mem_of_getElem? (i := 133) rfl) rfl
def mX11_octet : aM := (yX11_octet, cX11_octet, 2, (some .int), 1, 21)
theorem meX11_octet : Cond.code mX11_octet.1 mX11_octet.2.1 mX11_octet.2.2.1 mX11_octet.2.2.2.1 ∈ gw := in_4 (List.mem_of_getElem? (i := 137) rfl) rfl
def mX4_byteAt : aM := (yX4_byteAt, cX4_byteAt, 2, (some .int), 0, 0)
theorem meX4_byteAt : Cond.code mX4_byteAt.1 mX4_byteAt.2.1 mX4_byteAt.2.2.1 mX4_byteAt.2.2.2.1 ∈ gw := in_4 (List.mem_of_getElem? (i := 141) rfl) rfl
def mX11_count : aM := (yX11_count, cX11_count, 2, (some .int), 6, 137)
theorem meX11_count : Cond.code mX11_count.1 mX11_count.2.1 mX11_count.2.2.1 mX11_count.2.2.2.1 ∈ gw := in_4 (List.mem_of_getElem? (i := 145) rfl) rfl
def mX6_inUse : aM := (yX6_inUse, cX6_inUse, 3, (some .int), 1, 21)
theorem meX6_inUse : Cond.code mX6_inUse.1 mX6_inUse.2.1 mX6_inUse.2.2.1 mX6_inUse.2.2.2.1 ∈ gw := in_4 (List.mem_of_getElem? (i := 149) rfl) rfl
def mX11_slipsInDoubt : aM := (yX11_slipsInDoubt, cX11_slipsInDoubt, 3, (some .int), 5, 115)
theorem meX11_slipsInDoubt : Cond.code mX11_slipsInDoubt.1 mX11_slipsInDoubt.2.1 mX11_slipsInDoubt.2.2.1 mX11_slipsInDoubt.2.2.2.1 ∈ gw := in_4 (List.mem_of_getElem? (i := 153) rfl) rfl
def mX11_flaws : aM := (yX11_flaws, cX11_flaws, 3, (some .int), 4, 90)
theorem meX11_flaws : Cond.code mX11_flaws.1 mX11_flaws.2.1 mX11_flaws.2.2.1 mX11_flaws.2.2.2.1 ∈ gw := in_4 (List.mem_of_getElem? (i := 157) rfl) rfl
def mX12_feed : aM := (yX12_feed, cX12_feed, 6, (some .int), 1, 22)
theorem meX12_feed : Cond.code mX12_feed.1 mX12_feed.2.1 mX12_feed.2.2.1 mX12_feed.2.2.2.1 ∈ gw := in_5 (List.mem_of_getElem? (i := 61) rfl) rfl
def mX12_types : aM := (yX12_types, cX12_types, 3, none, 0, 0)
theorem meX12_types : Cond.code mX12_types.1 mX12_types.2.1 mX12_types.2.2.1 mX12_types.2.2.2.1 ∈ gw := in_5 (List.mem_of_getElem? (i := 65) rfl) rfl
def mX12_book : aM := (yX12_book, cX12_book, 3, (some .int), 1, 24)
theorem meX12_book : Cond.code mX12_book.1 mX12_book.2.1 mX12_book.2.2.1 mX12_book.2.2.2.1 ∈ gw := in_5 (List.mem_of_getElem? (i := 69) rfl) rfl
def mX12_areYears : aM := (yX12_areYears, cX12_areYears, 2, (some .boolean), 0, 0)
theorem meX12_areYears : Cond.code mX12_areYears.1 mX12_areYears.2.1 mX12_areYears.2.2.1 mX12_areYears.2.2.2.1 ∈ gw := in_5 (List.mem_of_getElem? (i := 72) rfl) rfl
def mX12_tightens : aM := (yX12_tightens, cX12_tightens, 5, (some .boolean), 0, 0)
theorem meX12_tightens : Cond.code mX12_tightens.1 mX12_tightens.2.1 mX12_tightens.2.2.1 mX12_tightens.2.2.2.1 ∈ gw := in_5 (List.mem_of_getElem? (i := 76) rfl) rfl
def mX12_before : aM := (yX12_before, cX12_before, 4, (some .boolean), 1, 24)
theorem meX12_before : Cond.code mX12_before.1 mX12_before.2.1 mX12_before.2.2.1 mX12_before.2.2.2.1 ∈ gw := in_5 (List.mem_of_getElem? (i := 80) rfl) rfl
def mX12_isBook : aM := (yX12_isBook, cX12_isBook, 2, (some .boolean), 0, 0)
theorem meX12_isBook : Cond.code mX12_isBook.1 mX12_isBook.2.1 mX12_isBook.2.2.1 mX12_isBook.2.2.2.1 ∈ gw := in_5 (List.mem_of_getElem? (i := 84) rfl) rfl
def mX12_closes : aM := (yX12_closes, cX12_closes, 4, none, 0, 0)
theorem meX12_closes : Cond.code mX12_closes.1 mX12_closes.2.1 mX12_closes.2.2.1 mX12_closes.2.2.2.1 ∈ gw := in_5 (List.mem_of_getElem? (i := 88) rfl) rfl
def mX12_span : aM := (yX12_span, cX12_span, 5, (some .int), 1, 21)
theorem meX12_span : Cond.code mX12_span.1 mX12_span.2.1 mX12_span.2.2.1 mX12_span.2.2.2.1 ∈ gw := in_5 (List.mem_of_getElem? (i := 92) rfl) rfl
def mX12_slip : aM := (yX12_slip, cX12_slip, 5, (some .int), 1, 25)
theorem meX12_slip : Cond.code mX12_slip.1 mX12_slip.2.1 mX12_slip.2.2.1 mX12_slip.2.2.2.1 ∈ gw := in_5 (List.mem_of_getElem? (i := 96) rfl) rfl
def mX12_isWordSize : aM := (yX12_isWordSize, cX12_isWordSize, 2, (some .boolean), 0, 0)
theorem meX12_isWordSize : Cond.code mX12_isWordSize.1 mX12_isWordSize.2.1 mX12_isWordSize.2.2.1 mX12_isWordSize.2.2.2.1 ∈ gw := in_5 (List.mem_of_getElem? (i := 100) rfl) rfl
def mX12_takes : aM := (yX12_takes, cX12_takes, 3, none, 0, 0)
theorem meX12_takes : Cond.code mX12_takes.1 mX12_takes.2.1 mX12_takes.2.2.1 mX12_takes.2.2.2.1 ∈ gw := in_5 (List.mem_of_getElem? (i := 104) rfl) rfl
def mX12_word : aM := (yX12_word, cX12_word, 6, (some .long), 0, 0)
theorem meX12_word : Cond.code mX12_word.1 mX12_word.2.1 mX12_word.2.2.1 mX12_word.2.2.2.1 ∈ gw := in_5 (List.mem_of_getElem? (i := 108) rfl) rfl
def mX12_entry : aM := (yX12_entry, cX12_entry, 6, (some .int), 1, 26)
theorem meX12_entry : Cond.code mX12_entry.1 mX12_entry.2.1 mX12_entry.2.2.1 mX12_entry.2.2.2.1 ∈ gw := in_5 (List.mem_of_getElem? (i := 112) rfl) rfl
def mX12_lays : aM := (yX12_lays, cX12_lays, 7, none, 0, 0)
theorem meX12_lays : Cond.code mX12_lays.1 mX12_lays.2.1 mX12_lays.2.2.1 mX12_lays.2.2.2.1 ∈ gw := in_5 (List.mem_of_getElem? (i := 116) rfl) rfl
def mX12_form : aM := (yX12_form, cX12_form, 7, (some .int), 1, 26)
theorem meX12_form : Cond.code mX12_form.1 mX12_form.2.1 mX12_form.2.2.1 mX12_form.2.2.2.1 ∈ gw := in_5 (List.mem_of_getElem? (i := 120) rfl) rfl
def mX12_isEntry : aM := (yX12_isEntry, cX12_isEntry, 2, (some .boolean), 0, 0)
theorem meX12_isEntry : Cond.code mX12_isEntry.1 mX12_isEntry.2.1 mX12_isEntry.2.2.1 mX12_isEntry.2.2.2.1 ∈ gw := in_5 (List.mem_of_getElem? (i := 124) rfl) rfl
def mX12_rule : aM := (yX12_rule, cX12_rule, 8, (some .int), 1, 25)
theorem meX12_rule : Cond.code mX12_rule.1 mX12_rule.2.1 mX12_rule.2.2.1 mX12_rule.2.2.2.1 ∈ gw := in_5 (List.mem_of_getElem? (i := 128) rfl) rfl
def mX12_fits : aM := (yX12_fits, cX12_fits, 3, (some .int), 6, 158)
theorem meX12_fits : Cond.code mX12_fits.1 mX12_fits.2.1 mX12_fits.2.2.1 mX12_fits.2.2.2.1 ∈ gw := in_5 (List.mem_of_getElem? (i := 132) rfl) rfl
def mX12_isSlip : aM := (yX12_isSlip, cX12_isSlip, 2, (some .boolean), 0, 0)
theorem meX12_isSlip : Cond.code mX12_isSlip.1 mX12_isSlip.2.1 mX12_isSlip.2.2.1 mX12_isSlip.2.2.2.1 ∈ gw := in_5 (List.mem_of_getElem? (i := 136) rfl) rfl
def mX12_isFitting : aM := (yX12_isFitting, cX12_isFitting, 5, (some .boolean), 5, 134)
theorem meX12_isFitting : Cond.code mX12_isFitting.1 mX12_isFitting.2.1 mX12_isFitting.2.2.1 mX12_isFitting.2.2.2.1 ∈ gw := in_5 (List.mem_of_getElem? (i := 140) rfl) rfl
def mX12_isLed : aM := (yX12_isLed, cX12_isLed, 4, (some .boolean), 4, 111)
theorem meX12_isLed : Cond.code mX12_isLed.1 mX12_isLed.2.1 mX12_isLed.2.2.1 mX12_isLed.2.2.2.1 ∈ gw := in_5 (List.mem_of_getElem? (i := 144) rfl) rfl
def mX12_leads : aM := (yX12_leads, cX12_leads, 9, (some .boolean), 3, 83)
theorem meX12_leads : Cond.code mX12_leads.1 mX12_leads.2.1 mX12_leads.2.2.1 mX12_leads.2.2.2.1 ∈ gw := in_5 (List.mem_of_getElem? (i := 148) rfl) rfl
def mX12_leadsByOne : aM := (yX12_leadsByOne, cX12_leadsByOne, 7, (some .boolean), 2, 57)
theorem meX12_leadsByOne : Cond.code mX12_leadsByOne.1 mX12_leadsByOne.2.1 mX12_leadsByOne.2.2.1 mX12_leadsByOne.2.2.2.1 ∈ gw := in_5 (List.mem_of_getElem? (i := 152) rfl) rfl
def mX12_changed : aM := (yX12_changed, cX12_changed, 16, (some .long), 1, 22)
theorem meX12_changed : Cond.code mX12_changed.1 mX12_changed.2.1 mX12_changed.2.2.1 mX12_changed.2.2.2.1 ∈ gw := in_5 (List.mem_of_getElem? (i := 156) rfl) rfl
def mX12_size : aM := (yX12_size, cX12_size, 3, (some .int), 0, 0)
theorem meX12_size : Cond.code mX12_size.1 mX12_size.2.1 mX12_size.2.2.1 mX12_size.2.2.2.1 ∈ gw := in_5 (List.mem_of_getElem? (i := 159) rfl) rfl
def mX12_sort : aM := (yX12_sort, cX12_sort, 4, (some .int), 7, 181)
theorem meX12_sort : Cond.code mX12_sort.1 mX12_sort.2.1 mX12_sort.2.2.1 mX12_sort.2.2.2.1 ∈ gw := in_5 (List.mem_of_getElem? (i := 163) rfl) rfl
def mX12_fitting : aM := (yX12_fitting, cX12_fitting, 4, (some .int), 6, 158)
theorem meX12_fitting : Cond.code mX12_fitting.1 mX12_fitting.2.1 mX12_fitting.2.2.1 mX12_fitting.2.2.2.1 ∈ gw := in_5 (List.mem_of_getElem? (i := 167) rfl) rfl
def mX12_sense : aM := (yX12_sense, cX12_sense, 3, (some .int), 1, 23)
theorem meX12_sense : Cond.code mX12_sense.1 mX12_sense.2.1 mX12_sense.2.2.1 mX12_sense.2.2.2.1 ∈ gw := in_5 (List.mem_of_getElem? (i := 171) rfl) rfl
def mX12_isSense : aM := (yX12_isSense, cX12_isSense, 2, (some .boolean), 0, 0)
theorem meX12_isSense : Cond.code mX12_isSense.1 mX12_isSense.2.1 mX12_isSense.2.2.1 mX12_isSense.2.2.2.1 ∈ gw := in_5 (List.mem_of_getElem? (i := 175) rfl) rfl
def mX12_makes : aM := (yX12_makes, cX12_makes, 4, (some .int), 0, 0)
theorem meX12_makes : Cond.code mX12_makes.1 mX12_makes.2.1 mX12_makes.2.2.1 mX12_makes.2.2.2.1 ∈ gw := in_5 (List.mem_of_getElem? (i := 179) rfl) rfl
def mX12_put : aM := (yX12_put, cX12_put, 4, (some .boolean), 1, 21)
theorem meX12_put : Cond.code mX12_put.1 mX12_put.2.1 mX12_put.2.2.1 mX12_put.2.2.2.1 ∈ gw := in_5 (List.mem_of_getElem? (i := 183) rfl) rfl
def mX12_move : aM := (yX12_move, cX12_move, 3, (some .boolean), 1, 23)
theorem meX12_move : Cond.code mX12_move.1 mX12_move.2.1 mX12_move.2.2.1 mX12_move.2.2.2.1 ∈ gw := in_5 (List.mem_of_getElem? (i := 187) rfl) rfl
def mX12_isWithin : aM := (yX12_isWithin, cX12_isWithin, 4, (some .boolean), 0, 0)
theorem meX12_isWithin : Cond.code mX12_isWithin.1 mX12_isWithin.2.1 mX12_isWithin.2.2.1 mX12_isWithin.2.2.2.1 ∈ gw := in_5 (List.mem_of_getElem? (i := 191) rfl) rfl
def mX12_join : aM := (yX12_join, cX12_join, 4, (some .boolean), 2, 44)
theorem meX12_join : Cond.code mX12_join.1 mX12_join.2.1 mX12_join.2.2.1 mX12_join.2.2.2.1 ∈ gw := in_5 (List.mem_of_getElem? (i := 195) rfl) rfl
def mX12_goes : aM := (yX12_goes, cX12_goes, 3, none, 1, 22)
theorem meX12_goes : Cond.code mX12_goes.1 mX12_goes.2.1 mX12_goes.2.2.1 mX12_goes.2.2.2.1 ∈ gw := in_5 (List.mem_of_getElem? (i := 199) rfl) rfl
def mX12_removes : aM := (yX12_removes, cX12_removes, 3, none, 0, 0)
theorem meX12_removes : Cond.code mX12_removes.1 mX12_removes.2.1 mX12_removes.2.2.1 mX12_removes.2.2.2.1 ∈ gw := in_5 (List.mem_of_getElem? (i := 203) rfl) rfl
def mX12_part : aM := (yX12_part, cX12_part, 2, (some .int), 1, 23)
theorem meX12_part : Cond.code mX12_part.1 mX12_part.2.1 mX12_part.2.2.1 mX12_part.2.2.2.1 ∈ gw := in_5 (List.mem_of_getElem? (i := 207) rfl) rfl
def mX12_drop : aM := (yX12_drop, cX12_drop, 2, (some .boolean), 2, 44)
theorem meX12_drop : Cond.code mX12_drop.1 mX12_drop.2.1 mX12_drop.2.2.1 mX12_drop.2.2.2.1 ∈ gw := in_5 (List.mem_of_getElem? (i := 211) rfl) rfl
def mX12_own : aM := (yX12_own, cX12_own, 4, (some .int), 0, 0)
theorem meX12_own : Cond.code mX12_own.1 mX12_own.2.1 mX12_own.2.2.1 mX12_own.2.2.2.1 ∈ gw := in_5 (List.mem_of_getElem? (i := 215) rfl) rfl
def mX12_below : aM := (yX12_below, cX12_below, 4, (some .int), 0, 0)
theorem meX12_below : Cond.code mX12_below.1 mX12_below.2.1 mX12_below.2.2.1 mX12_below.2.2.2.1 ∈ gw := in_5 (List.mem_of_getElem? (i := 219) rfl) rfl
def mX12_point : aM := (yX12_point, cX12_point, 3, (some .int), 1, 21)
theorem meX12_point : Cond.code mX12_point.1 mX12_point.2.1 mX12_point.2.2.1 mX12_point.2.2.2.1 ∈ gw := in_5 (List.mem_of_getElem? (i := 223) rfl) rfl
def mX12_lead : aM := (yX12_lead, cX12_lead, 3, (some .boolean), 1, 22)
theorem meX12_lead : Cond.code mX12_lead.1 mX12_lead.2.1 mX12_lead.2.2.1 mX12_lead.2.2.2.1 ∈ gw := in_5 (List.mem_of_getElem? (i := 227) rfl) rfl
def mX12_told : aM := (yX12_told, cX12_told, 3, (some .int), 5, 119)
theorem meX12_told : Cond.code mX12_told.1 mX12_told.2.1 mX12_told.2.2.1 mX12_told.2.2.2.1 ∈ gw := in_5 (List.mem_of_getElem? (i := 231) rfl) rfl
def mX12_witnesses : aM := (yX12_witnesses, cX12_witnesses, 6, none, 2, 46)
theorem meX12_witnesses : Cond.code mX12_witnesses.1 mX12_witnesses.2.1 mX12_witnesses.2.2.1 mX12_witnesses.2.2.2.1 ∈ gw := in_5 (List.mem_of_getElem? (i := 235) rfl) rfl
def mX12_isWitness : aM := (yX12_isWitness, cX12_isWitness, 4, (some .boolean), 1, 23)
theorem meX12_isWitness : Cond.code mX12_isWitness.1 mX12_isWitness.2.1 mX12_isWitness.2.2.1 mX12_isWitness.2.2.2.1 ∈ gw := in_5 (List.mem_of_getElem? (i := 239) rfl) rfl
def mX12_gap : aM := (yX12_gap, cX12_gap, 8, (some .int), 3, 71)
theorem meX12_gap : Cond.code mX12_gap.1 mX12_gap.2.1 mX12_gap.2.2.1 mX12_gap.2.2.2.1 ∈ gw := in_6 (List.mem_of_getElem? (i := 3) rfl) rfl
def mX12_place : aM := (yX12_place, cX12_place, 4, (some .int), 4, 96)
theorem meX12_place : Cond.code mX12_place.1 mX12_place.2.1 mX12_place.2.2.1 mX12_place.2.2.2.1 ∈ gw := in_6 (List.mem_of_getElem? (i := 7) rfl) rfl
def mX12_isAhead : aM := (yX12_isAhead, cX12_isAhead, 6, (some .boolean), 3, 71)
theorem meX12_isAhead : Cond.code mX12_isAhead.1 mX12_isAhead.2.1 mX12_isAhead.2.2.1 mX12_isAhead.2.2.2.1 ∈ gw := in_6 (List.mem_of_getElem? (i := 11) rfl) rfl
def mX12_depth : aM := (yX12_depth, cX12_depth, 4, (some .int), 0, 0)
theorem meX12_depth : Cond.code mX12_depth.1 mX12_depth.2.1 mX12_depth.2.2.1 mX12_depth.2.2.2.1 ∈ gw := in_6 (List.mem_of_getElem? (i := 15) rfl) rfl
def mX12_older : aM := (yX12_older, cX12_older, 4, (some .int), 4, 97)
theorem meX12_older : Cond.code mX12_older.1 mX12_older.2.1 mX12_older.2.2.1 mX12_older.2.2.2.1 ∈ gw := in_6 (List.mem_of_getElem? (i := 19) rfl) rfl
def mX12_isOlder : aM := (yX12_isOlder, cX12_isOlder, 6, (some .boolean), 3, 72)
theorem meX12_isOlder : Cond.code mX12_isOlder.1 mX12_isOlder.2.1 mX12_isOlder.2.2.1 mX12_isOlder.2.2.2.1 ∈ gw := in_6 (List.mem_of_getElem? (i := 23) rfl) rfl
def mX12_isAheadOfAll : aM := (yX12_isAheadOfAll, cX12_isAheadOfAll, 7, (some .boolean), 2, 46)
theorem meX12_isAheadOfAll : Cond.code mX12_isAheadOfAll.1 mX12_isAheadOfAll.2.1 mX12_isAheadOfAll.2.2.1 mX12_isAheadOfAll.2.2.2.1 ∈ gw := in_6 (List.mem_of_getElem? (i := 27) rfl) rfl
def mX12_flaw : aM := (yX12_flaw, cX12_flaw, 2, (some .int), 5, 121)
theorem meX12_flaw : Cond.code mX12_flaw.1 mX12_flaw.2.1 mX12_flaw.2.2.1 mX12_flaw.2.2.2.1 ∈ gw := in_6 (List.mem_of_getElem? (i := 31) rfl) rfl
def mX12_flaws : aM := (yX12_flaws, cX12_flaws, 5, (some .int), 4, 97)
theorem meX12_flaws : Cond.code mX12_flaws.1 mX12_flaws.2.1 mX12_flaws.2.2.1 mX12_flaws.2.2.2.1 ∈ gw := in_6 (List.mem_of_getElem? (i := 35) rfl) rfl
def mX12_where : aM := (yX12_where, cX12_where, 3, (some .int), 8, 202)
theorem meX12_where : Cond.code mX12_where.1 mX12_where.2.1 mX12_where.2.2.1 mX12_where.2.2.2.1 ∈ gw := in_6 (List.mem_of_getElem? (i := 39) rfl) rfl
def mX12_isDoubted : aM := (yX12_isDoubted, cX12_isDoubted, 2, (some .boolean), 7, 181)
theorem meX12_isDoubted : Cond.code mX12_isDoubted.1 mX12_isDoubted.2.1 mX12_isDoubted.2.2.1 mX12_isDoubted.2.2.2.1 ∈ gw := in_6 (List.mem_of_getElem? (i := 43) rfl) rfl
def mX12_byteOf : aM := (yX12_byteOf, cX12_byteOf, 3, (some .int), 1, 22)
theorem meX12_byteOf : Cond.code mX12_byteOf.1 mX12_byteOf.2.1 mX12_byteOf.2.2.1 mX12_byteOf.2.2.2.1 ∈ gw := in_6 (List.mem_of_getElem? (i := 46) rfl) rfl
def mX12_edition : aM := (yX12_edition, cX12_edition, 2, (some .int), 1, 22)
theorem meX12_edition : Cond.code mX12_edition.1 mX12_edition.2.1 mX12_edition.2.2.1 mX12_edition.2.2.2.1 ∈ gw := in_6 (List.mem_of_getElem? (i := 50) rfl) rfl
def mX12_loosePointers : aM := (yX12_loosePointers, cX12_loosePointers, 3, (some .int), 0, 0)
theorem meX12_loosePointers : Cond.code mX12_loosePointers.1 mX12_loosePointers.2.1 mX12_loosePointers.2.2.1 mX12_loosePointers.2.2.2.1 ∈ gw := in_6 (List.mem_of_getElem? (i := 54) rfl) rfl
def mX12_as : aM := (yX12_as, cX12_as, 4, (some .int), 1, 21)
theorem meX12_as : Cond.code mX12_as.1 mX12_as.2.1 mX12_as.2.2.1 mX12_as.2.2.2.1 ∈ gw := in_6 (List.mem_of_getElem? (i := 58) rfl) rfl
def mX12_isEdition : aM := (yX12_isEdition, cX12_isEdition, 2, (some .boolean), 0, 0)
theorem meX12_isEdition : Cond.code mX12_isEdition.1 mX12_isEdition.2.1 mX12_isEdition.2.2.1 mX12_isEdition.2.2.2.1 ∈ gw := in_6 (List.mem_of_getElem? (i := 62) rfl) rfl
def mX12_differ : aM := (yX12_differ, cX12_differ, 9, (some .int), 1, 21)
theorem meX12_differ : Cond.code mX12_differ.1 mX12_differ.2.1 mX12_differ.2.2.1 mX12_differ.2.2.2.1 ∈ gw := in_6 (List.mem_of_getElem? (i := 66) rfl) rfl
def mX12_print : aM := (yX12_print, cX12_print, 5, (some .int), 7, 166)
theorem meX12_print : Cond.code mX12_print.1 mX12_print.2.1 mX12_print.2.2.1 mX12_print.2.2.2.1 ∈ gw := in_6 (List.mem_of_getElem? (i := 70) rfl) rfl
def mX12_letters : aM := (yX12_letters, cX12_letters, 4, none, 2, 44)
theorem meX12_letters : Cond.code mX12_letters.1 mX12_letters.2.1 mX12_letters.2.2.1 mX12_letters.2.2.2.1 ∈ gw := in_6 (List.mem_of_getElem? (i := 74) rfl) rfl
def mX12_puts : aM := (yX12_puts, cX12_puts, 2, none, 0, 0)
theorem meX12_puts : Cond.code mX12_puts.1 mX12_puts.2.1 mX12_puts.2.2.1 mX12_puts.2.2.2.1 ∈ gw := in_6 (List.mem_of_getElem? (i := 78) rfl) rfl
def mX12_at : aM := (yX12_at, cX12_at, 5, (some .int), 5, 119)
theorem meX12_at : Cond.code mX12_at.1 mX12_at.2.1 mX12_at.2.2.1 mX12_at.2.2.2.1 ∈ gw := in_6 (List.mem_of_getElem? (i := 82) rfl) rfl
def mX12_prints : aM := (yX12_prints, cX12_prints, 5, none, 6, 142)
theorem meX12_prints : Cond.code mX12_prints.1 mX12_prints.2.1 mX12_prints.2.2.1 mX12_prints.2.2.2.1 ∈ gw := in_6 (List.mem_of_getElem? (i := 86) rfl) rfl
def mX12_mark : aM := (yX12_mark, cX12_mark, 4, none, 5, 119)
theorem meX12_mark : Cond.code mX12_mark.1 mX12_mark.2.1 mX12_mark.2.2.1 mX12_mark.2.2.2.1 ∈ gw := in_6 (List.mem_of_getElem? (i := 90) rfl) rfl
def mX12_number : aM := (yX12_number, cX12_number, 4, none, 1, 21)
theorem meX12_number : Cond.code mX12_number.1 mX12_number.2.1 mX12_number.2.2.1 mX12_number.2.2.2.1 ∈ gw := in_6 (List.mem_of_getElem? (i := 94) rfl) rfl
def mX12_heap : aM := (yX12_heap, cX12_heap, 4, (some .int), 0, 0)
theorem meX12_heap : Cond.code mX12_heap.1 mX12_heap.2.1 mX12_heap.2.2.1 mX12_heap.2.2.2.1 ∈ gw := in_6 (List.mem_of_getElem? (i := 98) rfl) rfl
def mX12_octet : aM := (yX12_octet, cX12_octet, 2, (some .int), 0, 0)
theorem meX12_octet : Cond.code mX12_octet.1 mX12_octet.2.1 mX12_octet.2.2.1 mX12_octet.2.2.2.1 ∈ gw := in_6 (List.mem_of_getElem? (i := 102) rfl) rfl
def mX12_count : aM := (yX12_count, cX12_count, 4, (some .int), 8, 202)
theorem meX12_count : Cond.code mX12_count.1 mX12_count.2.1 mX12_count.2.2.1 mX12_count.2.2.2.1 ∈ gw := in_6 (List.mem_of_getElem? (i := 106) rfl) rfl
theorem cfX11_91 : cF RX11 91 mX8_addFour (some 8) 2 := ⟨in_2 (List.mem_of_getElem? (i := 119) rfl) rfl, in_1 (List.mem_of_getElem? (i := 2) rfl) rfl, by decide +kernel, ⟨by decide, ⟨TX8, 2, rfl⟩, in_2 (List.mem_of_getElem? (i := 120) rfl) rfl, in_2 (List.mem_of_getElem? (i := 121) rfl) rfl⟩⟩
theorem cfX11_95 : cF RX11 95 mX11_areYears none 2 := ⟨in_2 (List.mem_of_getElem? (i := 127) rfl) rfl, in_1 (List.mem_of_getElem? (i := 1) rfl) rfl, by decide +kernel, in_2 (List.mem_of_getElem? (i := 128) rfl) rfl⟩
theorem cfX11_100 : cF RX11 100 mX0_add (some 0) 3 := ⟨in_2 (List.mem_of_getElem? (i := 130) rfl) rfl, in_1 (List.mem_of_getElem? (i := 3) rfl) rfl, by decide +kernel, ⟨by decide, ⟨TX0, 9, rfl⟩, in_2 (List.mem_of_getElem? (i := 131) rfl) rfl, in_2 (List.mem_of_getElem? (i := 132) rfl) rfl⟩⟩
theorem cfX11_104 : cF RX11 104 mX0_has (some 0) 2 := ⟨in_2 (List.mem_of_getElem? (i := 138) rfl) rfl, in_1 (List.mem_of_getElem? (i := 3) rfl) rfl, by decide +kernel, ⟨by decide, ⟨TX0, 9, rfl⟩, in_2 (List.mem_of_getElem? (i := 139) rfl) rfl, in_2 (List.mem_of_getElem? (i := 140) rfl) rfl⟩⟩
theorem cfX11_108 : cF RX11 108 mX0_addBefore (some 0) 3 := ⟨in_2 (List.mem_of_getElem? (i := 142) rfl) rfl, in_1 (List.mem_of_getElem? (i := 3) rfl) rfl, by decide +kernel, ⟨by decide, ⟨TX0, 9, rfl⟩, in_2 (List.mem_of_getElem? (i := 143) rfl) rfl, in_2 (List.mem_of_getElem? (i := 144) rfl) rfl⟩⟩
theorem cfX0_40 : cF RX0 40 mX0_wasTold (some 0) 3 := ⟨in_2 (List.mem_of_getElem? (i := 146) rfl) rfl, in_1 (List.mem_of_getElem? (i := 3) rfl) rfl, by decide +kernel, ⟨by decide, ⟨TX0, 9, rfl⟩, in_2 (List.mem_of_getElem? (i := 148) rfl) rfl, in_0 (List.mem_of_getElem? (i := 0) rfl) rfl⟩⟩
theorem cfX0_44 : cF RX0 44 mX0_tighten (some 0) 1 := ⟨in_2 (List.mem_of_getElem? (i := 150) rfl) rfl, in_1 (List.mem_of_getElem? (i := 3) rfl) rfl, by decide +kernel, ⟨by decide, ⟨TX0, 9, rfl⟩, in_2 (List.mem_of_getElem? (i := 152) rfl) rfl, in_0 (List.mem_of_getElem? (i := 1) rfl) rfl⟩⟩
theorem cfX0_48 : cF RX0 48 mX0_setBehind (some 0) 3 := ⟨in_2 (List.mem_of_getElem? (i := 162) rfl) rfl, in_1 (List.mem_of_getElem? (i := 3) rfl) rfl, by decide +kernel, ⟨by decide, ⟨TX0, 9, rfl⟩, in_2 (List.mem_of_getElem? (i := 164) rfl) rfl, in_0 (List.mem_of_getElem? (i := 4) rfl) rfl⟩⟩
theorem cfX0_52 : cF RX0 52 mX0_tightenOnce (some 0) 1 := ⟨in_2 (List.mem_of_getElem? (i := 154) rfl) rfl, in_1 (List.mem_of_getElem? (i := 3) rfl) rfl, by decide +kernel, ⟨by decide, ⟨TX0, 9, rfl⟩, in_2 (List.mem_of_getElem? (i := 156) rfl) rfl, in_0 (List.mem_of_getElem? (i := 2) rfl) rfl⟩⟩
theorem cfX0_55 : cF RX0 55 mX0_allHaveYears (some 0) 1 := ⟨in_2 (List.mem_of_getElem? (i := 158) rfl) rfl, in_1 (List.mem_of_getElem? (i := 3) rfl) rfl, by decide +kernel, ⟨by decide, ⟨TX0, 9, rfl⟩, in_2 (List.mem_of_getElem? (i := 160) rfl) rfl, in_0 (List.mem_of_getElem? (i := 3) rfl) rfl⟩⟩
theorem cfX0_58 : cF RX0 58 mX0_isIn none 2 := ⟨in_2 (List.mem_of_getElem? (i := 166) rfl) rfl, in_1 (List.mem_of_getElem? (i := 3) rfl) rfl, by decide +kernel, in_2 (List.mem_of_getElem? (i := 167) rfl) rfl⟩
theorem cfX11_124 : cF RX11 124 mX7_ofBook (some 7) 2 := ⟨in_2 (List.mem_of_getElem? (i := 173) rfl) rfl, in_1 (List.mem_of_getElem? (i := 7) rfl) rfl, by decide +kernel, ⟨by decide, ⟨TX7, 5, rfl⟩, in_2 (List.mem_of_getElem? (i := 174) rfl) rfl, in_2 (List.mem_of_getElem? (i := 175) rfl) rfl⟩⟩
theorem cfX11_129 : cF RX11 129 mX11_tapeHasWord (some 11) 2 := ⟨in_2 (List.mem_of_getElem? (i := 181) rfl) rfl, in_1 (List.mem_of_getElem? (i := 1) rfl) rfl, by decide +kernel, ⟨by decide, ⟨TX11, 10, rfl⟩, in_2 (List.mem_of_getElem? (i := 183) rfl) rfl, in_0 (List.mem_of_getElem? (i := 5) rfl) rfl⟩⟩
theorem cfX11_132 : cF RX11 132 mX8_takeWord (some 8) 2 := ⟨in_2 (List.mem_of_getElem? (i := 185) rfl) rfl, in_1 (List.mem_of_getElem? (i := 2) rfl) rfl, by decide +kernel, ⟨by decide, ⟨TX8, 2, rfl⟩, in_2 (List.mem_of_getElem? (i := 186) rfl) rfl, in_2 (List.mem_of_getElem? (i := 187) rfl) rfl⟩⟩
theorem cfX11_138 : cF RX11 138 mX7_add (some 7) 3 := ⟨in_2 (List.mem_of_getElem? (i := 200) rfl) rfl, in_1 (List.mem_of_getElem? (i := 7) rfl) rfl, by decide +kernel, ⟨by decide, ⟨TX7, 5, rfl⟩, in_2 (List.mem_of_getElem? (i := 201) rfl) rfl, in_2 (List.mem_of_getElem? (i := 202) rfl) rfl⟩⟩
theorem cfX8_19 : cF RX8 19 mX8_wordAt (some 8) 3 := ⟨in_2 (List.mem_of_getElem? (i := 189) rfl) rfl, in_1 (List.mem_of_getElem? (i := 2) rfl) rfl, by decide +kernel, ⟨by decide, ⟨TX8, 2, rfl⟩, in_2 (List.mem_of_getElem? (i := 190) rfl) rfl, in_2 (List.mem_of_getElem? (i := 191) rfl) rfl⟩⟩
theorem cfX8_23 : cF RX8 23 mX8_clear (some 8) 1 := ⟨in_2 (List.mem_of_getElem? (i := 196) rfl) rfl, in_1 (List.mem_of_getElem? (i := 2) rfl) rfl, by decide +kernel, ⟨by decide, ⟨TX8, 2, rfl⟩, in_2 (List.mem_of_getElem? (i := 197) rfl) rfl, in_2 (List.mem_of_getElem? (i := 198) rfl) rfl⟩⟩
theorem cfX8_28 : cF RX8 28 mX10_append none 2 := ⟨in_2 (List.mem_of_getElem? (i := 193) rfl) rfl, in_1 (List.mem_of_getElem? (i := 6) rfl) rfl, by decide +kernel, in_2 (List.mem_of_getElem? (i := 194) rfl) rfl⟩
theorem cfX7_34 : cF RX7 34 mX10_set (some 10) 3 := ⟨in_2 (List.mem_of_getElem? (i := 204) rfl) rfl, in_1 (List.mem_of_getElem? (i := 6) rfl) rfl, by decide +kernel, ⟨by decide, ⟨TX10, 4, rfl⟩, in_2 (List.mem_of_getElem? (i := 205) rfl) rfl, in_2 (List.mem_of_getElem? (i := 206) rfl) rfl⟩⟩
theorem cfX7_38 : cF RX7 38 mX7_place (some 7) 4 := ⟨in_2 (List.mem_of_getElem? (i := 221) rfl) rfl, in_1 (List.mem_of_getElem? (i := 7) rfl) rfl, by decide +kernel, ⟨by decide, ⟨TX7, 5, rfl⟩, in_2 (List.mem_of_getElem? (i := 222) rfl) rfl, in_2 (List.mem_of_getElem? (i := 223) rfl) rfl⟩⟩
theorem cfX10_34 : cF RX10 34 mX10_addNeighboursOf (some 10) 3 := ⟨in_2 (List.mem_of_getElem? (i := 208) rfl) rfl, in_1 (List.mem_of_getElem? (i := 6) rfl) rfl, by decide +kernel, ⟨by decide, ⟨TX10, 4, rfl⟩, in_2 (List.mem_of_getElem? (i := 210) rfl) rfl, in_0 (List.mem_of_getElem? (i := 6) rfl) rfl⟩⟩
theorem cfX10_49 : cF RX10 49 mX10_changed none 4 := ⟨in_2 (List.mem_of_getElem? (i := 212) rfl) rfl, in_1 (List.mem_of_getElem? (i := 6) rfl) rfl, by decide +kernel, in_2 (List.mem_of_getElem? (i := 213) rfl) rfl⟩
theorem cfX10_53 : cF RX10 53 mX10_lettersIn none 1 := ⟨in_2 (List.mem_of_getElem? (i := 215) rfl) rfl, in_1 (List.mem_of_getElem? (i := 6) rfl) rfl, by decide +kernel, in_2 (List.mem_of_getElem? (i := 216) rfl) rfl⟩
theorem cfX10_59 : cF RX10 59 mX10_lowest none 2 := ⟨in_2 (List.mem_of_getElem? (i := 218) rfl) rfl, in_1 (List.mem_of_getElem? (i := 6) rfl) rfl, by decide +kernel, in_2 (List.mem_of_getElem? (i := 219) rfl) rfl⟩
theorem cfX7_42 : cF RX7 42 mX7_has (some 7) 2 := ⟨in_2 (List.mem_of_getElem? (i := 225) rfl) rfl, in_1 (List.mem_of_getElem? (i := 7) rfl) rfl, by decide +kernel, ⟨by decide, ⟨TX7, 5, rfl⟩, in_2 (List.mem_of_getElem? (i := 226) rfl) rfl, in_2 (List.mem_of_getElem? (i := 227) rfl) rfl⟩⟩
theorem cfX11_142 : cF RX11 142 mX2_add (some 2) 4 := ⟨in_2 (List.mem_of_getElem? (i := 233) rfl) rfl, in_1 (List.mem_of_getElem? (i := 5) rfl) rfl, by decide +kernel, ⟨by decide, ⟨TX2, 5, rfl⟩, in_2 (List.mem_of_getElem? (i := 234) rfl) rfl, in_2 (List.mem_of_getElem? (i := 235) rfl) rfl⟩⟩
theorem cfX2_38 : cF RX2 38 mX2_addForm (some 2) 5 := ⟨in_2 (List.mem_of_getElem? (i := 237) rfl) rfl, in_1 (List.mem_of_getElem? (i := 5) rfl) rfl, by decide +kernel, ⟨by decide, ⟨TX2, 5, rfl⟩, in_2 (List.mem_of_getElem? (i := 238) rfl) rfl, in_2 (List.mem_of_getElem? (i := 239) rfl) rfl⟩⟩
theorem cfX2_42 : cF RX2 42 mX2_hasRoomForForm (some 2) 2 := ⟨in_3 (List.mem_of_getElem? (i := 1) rfl) rfl, in_1 (List.mem_of_getElem? (i := 5) rfl) rfl, by decide +kernel, ⟨by decide, ⟨TX2, 5, rfl⟩, in_3 (List.mem_of_getElem? (i := 2) rfl) rfl, in_3 (List.mem_of_getElem? (i := 3) rfl) rfl⟩⟩
theorem cfX2_45 : cF RX2 45 mX2_formOf none 2 := ⟨in_3 (List.mem_of_getElem? (i := 9) rfl) rfl, in_1 (List.mem_of_getElem? (i := 5) rfl) rfl, by decide +kernel, in_3 (List.mem_of_getElem? (i := 10) rfl) rfl⟩
theorem cfX2_49 : cF RX2 49 mX10_set (some 10) 3 := ⟨in_3 (List.mem_of_getElem? (i := 12) rfl) rfl, in_1 (List.mem_of_getElem? (i := 6) rfl) rfl, by decide +kernel, ⟨by decide, ⟨TX10, 4, rfl⟩, in_2 (List.mem_of_getElem? (i := 205) rfl) rfl, in_2 (List.mem_of_getElem? (i := 206) rfl) rfl⟩⟩
theorem cfX2_34 : cF RX2 34 mX2_has (some 2) 2 := ⟨in_3 (List.mem_of_getElem? (i := 5) rfl) rfl, in_1 (List.mem_of_getElem? (i := 5) rfl) rfl, by decide +kernel, ⟨by decide, ⟨TX2, 5, rfl⟩, in_3 (List.mem_of_getElem? (i := 6) rfl) rfl, in_3 (List.mem_of_getElem? (i := 7) rfl) rfl⟩⟩
theorem cfX11_145 : cF RX11 145 mX2_hasRoomForForm (some 2) 2 := ⟨in_3 (List.mem_of_getElem? (i := 17) rfl) rfl, in_1 (List.mem_of_getElem? (i := 5) rfl) rfl, by decide +kernel, ⟨by decide, ⟨TX2, 5, rfl⟩, in_3 (List.mem_of_getElem? (i := 2) rfl) rfl, in_3 (List.mem_of_getElem? (i := 3) rfl) rfl⟩⟩
theorem cfX11_148 : cF RX11 148 mX2_addForm (some 2) 5 := ⟨in_3 (List.mem_of_getElem? (i := 18) rfl) rfl, in_1 (List.mem_of_getElem? (i := 5) rfl) rfl, by decide +kernel, ⟨by decide, ⟨TX2, 5, rfl⟩, in_2 (List.mem_of_getElem? (i := 238) rfl) rfl, in_2 (List.mem_of_getElem? (i := 239) rfl) rfl⟩⟩
theorem cfX11_152 : cF RX11 152 mX11_isRuleLength none 1 := ⟨in_3 (List.mem_of_getElem? (i := 23) rfl) rfl, in_1 (List.mem_of_getElem? (i := 1) rfl) rfl, by decide +kernel, in_3 (List.mem_of_getElem? (i := 24) rfl) rfl⟩
theorem cfX11_156 : cF RX11 156 mX8_wordAt (some 8) 3 := ⟨in_3 (List.mem_of_getElem? (i := 26) rfl) rfl, in_1 (List.mem_of_getElem? (i := 2) rfl) rfl, by decide +kernel, ⟨by decide, ⟨TX8, 2, rfl⟩, in_2 (List.mem_of_getElem? (i := 190) rfl) rfl, in_2 (List.mem_of_getElem? (i := 191) rfl) rfl⟩⟩
theorem cfX11_160 : cF RX11 160 mX8_clear (some 8) 1 := ⟨in_3 (List.mem_of_getElem? (i := 27) rfl) rfl, in_1 (List.mem_of_getElem? (i := 2) rfl) rfl, by decide +kernel, ⟨by decide, ⟨TX8, 2, rfl⟩, in_2 (List.mem_of_getElem? (i := 197) rfl) rfl, in_2 (List.mem_of_getElem? (i := 198) rfl) rfl⟩⟩
theorem cfX11_163 : cF RX11 163 mX5_add (some 5) 3 := ⟨in_3 (List.mem_of_getElem? (i := 28) rfl) rfl, in_1 (List.mem_of_getElem? (i := 4) rfl) rfl, by decide +kernel, ⟨by decide, ⟨TX5, 3, rfl⟩, in_3 (List.mem_of_getElem? (i := 29) rfl) rfl, in_3 (List.mem_of_getElem? (i := 30) rfl) rfl⟩⟩
theorem cfX11_170 : cF RX11 170 mX10_addNeighbours (some 10) 2 := ⟨in_3 (List.mem_of_getElem? (i := 32) rfl) rfl, in_1 (List.mem_of_getElem? (i := 6) rfl) rfl, by decide +kernel, ⟨by decide, ⟨TX10, 4, rfl⟩, in_3 (List.mem_of_getElem? (i := 33) rfl) rfl, in_3 (List.mem_of_getElem? (i := 34) rfl) rfl⟩⟩
theorem cfX10_38 : cF RX10 38 mX10_has (some 10) 2 := ⟨in_3 (List.mem_of_getElem? (i := 36) rfl) rfl, in_1 (List.mem_of_getElem? (i := 6) rfl) rfl, by decide +kernel, ⟨by decide, ⟨TX10, 4, rfl⟩, in_3 (List.mem_of_getElem? (i := 37) rfl) rfl, in_3 (List.mem_of_getElem? (i := 38) rfl) rfl⟩⟩
theorem cfX11_176 : cF RX11 176 mX7_has (some 7) 2 := ⟨in_3 (List.mem_of_getElem? (i := 44) rfl) rfl, in_1 (List.mem_of_getElem? (i := 7) rfl) rfl, by decide +kernel, ⟨by decide, ⟨TX7, 5, rfl⟩, in_2 (List.mem_of_getElem? (i := 226) rfl) rfl, in_2 (List.mem_of_getElem? (i := 227) rfl) rfl⟩⟩
theorem cfX11_177 : cF RX11 177 mX2_has (some 2) 2 := ⟨in_3 (List.mem_of_getElem? (i := 45) rfl) rfl, in_1 (List.mem_of_getElem? (i := 5) rfl) rfl, by decide +kernel, ⟨by decide, ⟨TX2, 5, rfl⟩, in_3 (List.mem_of_getElem? (i := 6) rfl) rfl, in_3 (List.mem_of_getElem? (i := 7) rfl) rfl⟩⟩
theorem cfX11_178 : cF RX11 178 mX11_isFit (some 11) 3 := ⟨in_3 (List.mem_of_getElem? (i := 46) rfl) rfl, in_1 (List.mem_of_getElem? (i := 1) rfl) rfl, by decide +kernel, ⟨by decide, ⟨TX11, 10, rfl⟩, in_3 (List.mem_of_getElem? (i := 48) rfl) rfl, in_0 (List.mem_of_getElem? (i := 7) rfl) rfl⟩⟩
theorem cfX11_325 : cF RX11 325 mX2_formOf none 2 := ⟨in_3 (List.mem_of_getElem? (i := 50) rfl) rfl, in_1 (List.mem_of_getElem? (i := 5) rfl) rfl, by decide +kernel, in_3 (List.mem_of_getElem? (i := 10) rfl) rfl⟩
theorem cfX11_328 : cF RX11 328 mX2_isSpelledIn (some 2) 4 := ⟨in_3 (List.mem_of_getElem? (i := 51) rfl) rfl, in_1 (List.mem_of_getElem? (i := 5) rfl) rfl, by decide +kernel, ⟨by decide, ⟨TX2, 5, rfl⟩, in_3 (List.mem_of_getElem? (i := 52) rfl) rfl, in_3 (List.mem_of_getElem? (i := 53) rfl) rfl⟩⟩
theorem cfX11_331 : cF RX11 331 mX10_meet (some 10) 4 := ⟨in_3 (List.mem_of_getElem? (i := 55) rfl) rfl, in_1 (List.mem_of_getElem? (i := 6) rfl) rfl, by decide +kernel, ⟨by decide, ⟨TX10, 4, rfl⟩, in_3 (List.mem_of_getElem? (i := 56) rfl) rfl, in_3 (List.mem_of_getElem? (i := 57) rfl) rfl⟩⟩
theorem cfX11_181 : cF RX11 181 mX7_isLoose (some 7) 2 := ⟨in_3 (List.mem_of_getElem? (i := 63) rfl) rfl, in_1 (List.mem_of_getElem? (i := 7) rfl) rfl, by decide +kernel, ⟨by decide, ⟨TX7, 5, rfl⟩, in_3 (List.mem_of_getElem? (i := 64) rfl) rfl, in_3 (List.mem_of_getElem? (i := 65) rfl) rfl⟩⟩
theorem cfX11_184 : cF RX11 184 mX11_entriesFitted (some 11) 2 := ⟨in_3 (List.mem_of_getElem? (i := 71) rfl) rfl, in_1 (List.mem_of_getElem? (i := 1) rfl) rfl, by decide +kernel, ⟨by decide, ⟨TX11, 10, rfl⟩, in_3 (List.mem_of_getElem? (i := 73) rfl) rfl, in_0 (List.mem_of_getElem? (i := 8) rfl) rfl⟩⟩
theorem cfX11_187 : cF RX11 187 mX11_firstEntryFitted (some 11) 2 := ⟨in_3 (List.mem_of_getElem? (i := 75) rfl) rfl, in_1 (List.mem_of_getElem? (i := 1) rfl) rfl, by decide +kernel, ⟨by decide, ⟨TX11, 10, rfl⟩, in_3 (List.mem_of_getElem? (i := 77) rfl) rfl, in_0 (List.mem_of_getElem? (i := 9) rfl) rfl⟩⟩
theorem cfX11_190 : cF RX11 190 mX7_place (some 7) 4 := ⟨in_3 (List.mem_of_getElem? (i := 79) rfl) rfl, in_1 (List.mem_of_getElem? (i := 7) rfl) rfl, by decide +kernel, ⟨by decide, ⟨TX7, 5, rfl⟩, in_2 (List.mem_of_getElem? (i := 222) rfl) rfl, in_2 (List.mem_of_getElem? (i := 223) rfl) rfl⟩⟩
theorem cfX7_46 : cF RX7 46 mX7_standsAt (some 7) 4 := ⟨in_3 (List.mem_of_getElem? (i := 67) rfl) rfl, in_1 (List.mem_of_getElem? (i := 7) rfl) rfl, by decide +kernel, ⟨by decide, ⟨TX7, 5, rfl⟩, in_3 (List.mem_of_getElem? (i := 68) rfl) rfl, in_3 (List.mem_of_getElem? (i := 69) rfl) rfl⟩⟩
theorem cfX11_194 : cF RX11 194 mX11_isTopOrSenseOf (some 11) 3 := ⟨in_3 (List.mem_of_getElem? (i := 84) rfl) rfl, in_1 (List.mem_of_getElem? (i := 1) rfl) rfl, by decide +kernel, ⟨by decide, ⟨TX11, 10, rfl⟩, in_3 (List.mem_of_getElem? (i := 86) rfl) rfl, in_0 (List.mem_of_getElem? (i := 10) rfl) rfl⟩⟩
theorem cfX11_197 : cF RX11 197 mX6_add (some 6) 3 := ⟨in_3 (List.mem_of_getElem? (i := 92) rfl) rfl, in_1 (List.mem_of_getElem? (i := 8) rfl) rfl, by decide +kernel, ⟨by decide, ⟨TX6, 2, rfl⟩, in_3 (List.mem_of_getElem? (i := 93) rfl) rfl, in_3 (List.mem_of_getElem? (i := 94) rfl) rfl⟩⟩
theorem cfX11_202 : cF RX11 202 mX6_has (some 6) 2 := ⟨in_3 (List.mem_of_getElem? (i := 88) rfl) rfl, in_1 (List.mem_of_getElem? (i := 8) rfl) rfl, by decide +kernel, ⟨by decide, ⟨TX6, 2, rfl⟩, in_3 (List.mem_of_getElem? (i := 89) rfl) rfl, in_3 (List.mem_of_getElem? (i := 90) rfl) rfl⟩⟩
theorem cfX6_18 : cF RX6 18 mX6_has (some 6) 2 := ⟨in_3 (List.mem_of_getElem? (i := 96) rfl) rfl, in_1 (List.mem_of_getElem? (i := 8) rfl) rfl, by decide +kernel, ⟨by decide, ⟨TX6, 2, rfl⟩, in_3 (List.mem_of_getElem? (i := 89) rfl) rfl, in_3 (List.mem_of_getElem? (i := 90) rfl) rfl⟩⟩
theorem cfX11_198 : cF RX11 198 mX7_standsAt (some 7) 4 := ⟨in_3 (List.mem_of_getElem? (i := 101) rfl) rfl, in_1 (List.mem_of_getElem? (i := 7) rfl) rfl, by decide +kernel, ⟨by decide, ⟨TX7, 5, rfl⟩, in_3 (List.mem_of_getElem? (i := 68) rfl) rfl, in_3 (List.mem_of_getElem? (i := 69) rfl) rfl⟩⟩
theorem cfX11_209 : cF RX11 209 mX6_isWithin (some 6) 3 := ⟨in_3 (List.mem_of_getElem? (i := 106) rfl) rfl, in_1 (List.mem_of_getElem? (i := 8) rfl) rfl, by decide +kernel, ⟨by decide, ⟨TX6, 2, rfl⟩, in_3 (List.mem_of_getElem? (i := 107) rfl) rfl, in_3 (List.mem_of_getElem? (i := 108) rfl) rfl⟩⟩
theorem cfX11_212 : cF RX11 212 mX7_moveAll (some 7) 3 := ⟨in_3 (List.mem_of_getElem? (i := 114) rfl) rfl, in_1 (List.mem_of_getElem? (i := 7) rfl) rfl, by decide +kernel, ⟨by decide, ⟨TX7, 5, rfl⟩, in_3 (List.mem_of_getElem? (i := 115) rfl) rfl, in_3 (List.mem_of_getElem? (i := 116) rfl) rfl⟩⟩
theorem cfX11_216 : cF RX11 216 mX6_moveAllUnder (some 6) 3 := ⟨in_3 (List.mem_of_getElem? (i := 118) rfl) rfl, in_1 (List.mem_of_getElem? (i := 8) rfl) rfl, by decide +kernel, ⟨by decide, ⟨TX6, 2, rfl⟩, in_3 (List.mem_of_getElem? (i := 119) rfl) rfl, in_3 (List.mem_of_getElem? (i := 120) rfl) rfl⟩⟩
theorem cfX11_219 : cF RX11 219 mX11_forgetSense (some 11) 2 := ⟨in_3 (List.mem_of_getElem? (i := 122) rfl) rfl, in_1 (List.mem_of_getElem? (i := 1) rfl) rfl, by decide +kernel, ⟨by decide, ⟨TX11, 10, rfl⟩, in_3 (List.mem_of_getElem? (i := 124) rfl) rfl, in_0 (List.mem_of_getElem? (i := 11) rfl) rfl⟩⟩
theorem cfX11_345 : cF RX11 345 mX6_remove (some 6) 2 := ⟨in_3 (List.mem_of_getElem? (i := 126) rfl) rfl, in_1 (List.mem_of_getElem? (i := 8) rfl) rfl, by decide +kernel, ⟨by decide, ⟨TX6, 2, rfl⟩, in_3 (List.mem_of_getElem? (i := 127) rfl) rfl, in_3 (List.mem_of_getElem? (i := 128) rfl) rfl⟩⟩
theorem cfX11_346 : cF RX11 346 mX3_forget (some 3) 2 := ⟨in_3 (List.mem_of_getElem? (i := 130) rfl) rfl, in_1 (List.mem_of_getElem? (i := 10) rfl) rfl, by decide +kernel, ⟨by decide, ⟨TX3, 3, rfl⟩, in_3 (List.mem_of_getElem? (i := 131) rfl) rfl, in_3 (List.mem_of_getElem? (i := 132) rfl) rfl⟩⟩
theorem cfX3_29 : cF RX3 29 mX3_remove (some 3) 2 := ⟨in_3 (List.mem_of_getElem? (i := 134) rfl) rfl, in_1 (List.mem_of_getElem? (i := 10) rfl) rfl, by decide +kernel, ⟨by decide, ⟨TX3, 3, rfl⟩, in_3 (List.mem_of_getElem? (i := 135) rfl) rfl, in_3 (List.mem_of_getElem? (i := 136) rfl) rfl⟩⟩
theorem cfX3_22 : cF RX3 22 mX3_has (some 3) 2 := ⟨in_3 (List.mem_of_getElem? (i := 138) rfl) rfl, in_1 (List.mem_of_getElem? (i := 10) rfl) rfl, by decide +kernel, ⟨by decide, ⟨TX3, 3, rfl⟩, in_3 (List.mem_of_getElem? (i := 139) rfl) rfl, in_3 (List.mem_of_getElem? (i := 140) rfl) rfl⟩⟩
theorem cfX11_222 : cF RX11 222 mX6_justUnder (some 6) 2 := ⟨in_3 (List.mem_of_getElem? (i := 150) rfl) rfl, in_1 (List.mem_of_getElem? (i := 8) rfl) rfl, by decide +kernel, ⟨by decide, ⟨TX6, 2, rfl⟩, in_3 (List.mem_of_getElem? (i := 151) rfl) rfl, in_3 (List.mem_of_getElem? (i := 152) rfl) rfl⟩⟩
theorem cfX11_225 : cF RX11 225 mX7_at (some 7) 3 := ⟨in_3 (List.mem_of_getElem? (i := 154) rfl) rfl, in_1 (List.mem_of_getElem? (i := 7) rfl) rfl, by decide +kernel, ⟨by decide, ⟨TX7, 5, rfl⟩, in_3 (List.mem_of_getElem? (i := 155) rfl) rfl, in_3 (List.mem_of_getElem? (i := 156) rfl) rfl⟩⟩
theorem cfX11_229 : cF RX11 229 mX3_add (some 3) 3 := ⟨in_3 (List.mem_of_getElem? (i := 162) rfl) rfl, in_1 (List.mem_of_getElem? (i := 10) rfl) rfl, by decide +kernel, ⟨by decide, ⟨TX3, 3, rfl⟩, in_3 (List.mem_of_getElem? (i := 163) rfl) rfl, in_3 (List.mem_of_getElem? (i := 164) rfl) rfl⟩⟩
theorem cfX11_230 : cF RX11 230 mX3_has (some 3) 2 := ⟨in_3 (List.mem_of_getElem? (i := 170) rfl) rfl, in_1 (List.mem_of_getElem? (i := 10) rfl) rfl, by decide +kernel, ⟨by decide, ⟨TX3, 3, rfl⟩, in_3 (List.mem_of_getElem? (i := 139) rfl) rfl, in_3 (List.mem_of_getElem? (i := 140) rfl) rfl⟩⟩
theorem cfX11_231 : cF RX11 231 mX3_isLoose (some 3) 2 := ⟨in_3 (List.mem_of_getElem? (i := 171) rfl) rfl, in_1 (List.mem_of_getElem? (i := 10) rfl) rfl, by decide +kernel, ⟨by decide, ⟨TX3, 3, rfl⟩, in_3 (List.mem_of_getElem? (i := 172) rfl) rfl, in_3 (List.mem_of_getElem? (i := 173) rfl) rfl⟩⟩
theorem cfX11_232 : cF RX11 232 mX3_remove (some 3) 2 := ⟨in_3 (List.mem_of_getElem? (i := 175) rfl) rfl, in_1 (List.mem_of_getElem? (i := 10) rfl) rfl, by decide +kernel, ⟨by decide, ⟨TX3, 3, rfl⟩, in_3 (List.mem_of_getElem? (i := 135) rfl) rfl, in_3 (List.mem_of_getElem? (i := 136) rfl) rfl⟩⟩
theorem cfX11_241 : cF RX11 241 mX9_gather (some 9) 1 := ⟨in_3 (List.mem_of_getElem? (i := 180) rfl) rfl, in_1 (List.mem_of_getElem? (i := 9) rfl) rfl, by decide +kernel, ⟨by decide, ⟨TX9, 10, rfl⟩, in_3 (List.mem_of_getElem? (i := 181) rfl) rfl, in_3 (List.mem_of_getElem? (i := 182) rfl) rfl⟩⟩
theorem cfX11_250 : cF RX11 250 mX11_toldYears (some 11) 3 := ⟨in_3 (List.mem_of_getElem? (i := 208) rfl) rfl, in_1 (List.mem_of_getElem? (i := 1) rfl) rfl, by decide +kernel, ⟨by decide, ⟨TX11, 10, rfl⟩, in_3 (List.mem_of_getElem? (i := 210) rfl) rfl, in_0 (List.mem_of_getElem? (i := 15) rfl) rfl⟩⟩
theorem cfX11_258 : cF RX11 258 mX6_depth (some 6) 2 := ⟨in_3 (List.mem_of_getElem? (i := 228) rfl) rfl, in_1 (List.mem_of_getElem? (i := 8) rfl) rfl, by decide +kernel, ⟨by decide, ⟨TX6, 2, rfl⟩, in_3 (List.mem_of_getElem? (i := 229) rfl) rfl, in_3 (List.mem_of_getElem? (i := 230) rfl) rfl⟩⟩
theorem cfX9_57 : cF RX9 57 mX9_addSlip (some 9) 3 := ⟨in_3 (List.mem_of_getElem? (i := 184) rfl) rfl, in_1 (List.mem_of_getElem? (i := 9) rfl) rfl, by decide +kernel, ⟨by decide, ⟨TX9, 10, rfl⟩, in_3 (List.mem_of_getElem? (i := 186) rfl) rfl, in_0 (List.mem_of_getElem? (i := 12) rfl) rfl⟩⟩
theorem cfX9_61 : cF RX9 61 mX6_has (some 6) 2 := ⟨in_3 (List.mem_of_getElem? (i := 188) rfl) rfl, in_1 (List.mem_of_getElem? (i := 8) rfl) rfl, by decide +kernel, ⟨by decide, ⟨TX6, 2, rfl⟩, in_3 (List.mem_of_getElem? (i := 89) rfl) rfl, in_3 (List.mem_of_getElem? (i := 90) rfl) rfl⟩⟩
theorem cfX9_72 : cF RX9 72 mX0_least (some 0) 3 := ⟨in_3 (List.mem_of_getElem? (i := 189) rfl) rfl, in_1 (List.mem_of_getElem? (i := 3) rfl) rfl, by decide +kernel, ⟨by decide, ⟨TX0, 9, rfl⟩, in_3 (List.mem_of_getElem? (i := 190) rfl) rfl, in_3 (List.mem_of_getElem? (i := 191) rfl) rfl⟩⟩
theorem cfX9_79 : cF RX9 79 mX9_placeOf (some 9) 2 := ⟨in_3 (List.mem_of_getElem? (i := 196) rfl) rfl, in_1 (List.mem_of_getElem? (i := 9) rfl) rfl, by decide +kernel, ⟨by decide, ⟨TX9, 10, rfl⟩, in_3 (List.mem_of_getElem? (i := 198) rfl) rfl, in_0 (List.mem_of_getElem? (i := 13) rfl) rfl⟩⟩
theorem cmX0_61 {Y : aM} (hY : Y.1.cls = RX0) (h1 : 1 ≤ Y.2.2.2.2.1) (h2 : 21 ≤ Y.2.2.2.2.2) {l : Launch} : cOK l Y 61 none 2 spMn ∨ mOK Y 61 none 2 spMn := .inr ⟨rfl, rfl, h1, h2, in_1 (List.mem_of_getElem? (i := 14) rfl) rfl, .inr ⟨by rw [hY]; exact in_3 (List.mem_of_getElem? (i := 193) rfl) rfl, in_3 (List.mem_of_getElem? (i := 194) rfl) rfl, in_3 (List.mem_of_getElem? (i := 195) rfl) rfl, rfl⟩⟩
theorem cfX9_86 : cF RX9 86 mX6_areBeside (some 6) 3 := ⟨in_3 (List.mem_of_getElem? (i := 200) rfl) rfl, in_1 (List.mem_of_getElem? (i := 8) rfl) rfl, by decide +kernel, ⟨by decide, ⟨TX6, 2, rfl⟩, in_3 (List.mem_of_getElem? (i := 201) rfl) rfl, in_3 (List.mem_of_getElem? (i := 202) rfl) rfl⟩⟩
theorem cfX9_90 : cF RX9 90 mX9_isAhead (some 9) 3 := ⟨in_3 (List.mem_of_getElem? (i := 204) rfl) rfl, in_1 (List.mem_of_getElem? (i := 9) rfl) rfl, by decide +kernel, ⟨by decide, ⟨TX9, 10, rfl⟩, in_3 (List.mem_of_getElem? (i := 206) rfl) rfl, in_0 (List.mem_of_getElem? (i := 14) rfl) rfl⟩⟩
theorem cfX11_335 : cF RX11 335 mX0_least (some 0) 3 := ⟨in_3 (List.mem_of_getElem? (i := 212) rfl) rfl, in_1 (List.mem_of_getElem? (i := 3) rfl) rfl, by decide +kernel, ⟨by decide, ⟨TX0, 9, rfl⟩, in_3 (List.mem_of_getElem? (i := 190) rfl) rfl, in_3 (List.mem_of_getElem? (i := 191) rfl) rfl⟩⟩
theorem cfX11_339 : cF RX11 339 mX0_greatest (some 0) 3 := ⟨in_3 (List.mem_of_getElem? (i := 213) rfl) rfl, in_1 (List.mem_of_getElem? (i := 3) rfl) rfl, by decide +kernel, ⟨by decide, ⟨TX0, 9, rfl⟩, in_3 (List.mem_of_getElem? (i := 214) rfl) rfl, in_3 (List.mem_of_getElem? (i := 215) rfl) rfl⟩⟩
theorem cfX11_342 : cF RX11 342 mX0_widestGap (some 0) 2 := ⟨in_3 (List.mem_of_getElem? (i := 220) rfl) rfl, in_1 (List.mem_of_getElem? (i := 3) rfl) rfl, by decide +kernel, ⟨by decide, ⟨TX0, 9, rfl⟩, in_3 (List.mem_of_getElem? (i := 221) rfl) rfl, in_3 (List.mem_of_getElem? (i := 222) rfl) rfl⟩⟩
theorem cmX0_67 {Y : aM} (hY : Y.1.cls = RX0) (h1 : 1 ≤ Y.2.2.2.2.1) (h2 : 21 ≤ Y.2.2.2.2.2) {l : Launch} : cOK l Y 67 none 2 spMx ∨ mOK Y 67 none 2 spMx := .inr ⟨rfl, rfl, h1, h2, in_1 (List.mem_of_getElem? (i := 14) rfl) rfl, .inl ⟨by rw [hY]; exact in_3 (List.mem_of_getElem? (i := 217) rfl) rfl, in_3 (List.mem_of_getElem? (i := 218) rfl) rfl, in_3 (List.mem_of_getElem? (i := 219) rfl) rfl, rfl⟩⟩
theorem cfX0_70 : cF RX0 70 mX0_gapAhead (some 0) 3 := ⟨in_3 (List.mem_of_getElem? (i := 224) rfl) rfl, in_1 (List.mem_of_getElem? (i := 3) rfl) rfl, by decide +kernel, ⟨by decide, ⟨TX0, 9, rfl⟩, in_3 (List.mem_of_getElem? (i := 226) rfl) rfl, in_0 (List.mem_of_getElem? (i := 16) rfl) rfl⟩⟩
theorem cfX11_261 : cF RX11 261 mX0_areSurelyOlder (some 0) 3 := ⟨in_3 (List.mem_of_getElem? (i := 236) rfl) rfl, in_1 (List.mem_of_getElem? (i := 3) rfl) rfl, by decide +kernel, ⟨by decide, ⟨TX0, 9, rfl⟩, in_3 (List.mem_of_getElem? (i := 237) rfl) rfl, in_3 (List.mem_of_getElem? (i := 238) rfl) rfl⟩⟩
theorem cfX0_73 : cF RX0 73 mX0_least (some 0) 3 := ⟨in_4 (List.mem_of_getElem? (i := 0) rfl) rfl, in_1 (List.mem_of_getElem? (i := 3) rfl) rfl, by decide +kernel, ⟨by decide, ⟨TX0, 9, rfl⟩, in_3 (List.mem_of_getElem? (i := 190) rfl) rfl, in_3 (List.mem_of_getElem? (i := 191) rfl) rfl⟩⟩
theorem cfX11_264 : cF RX11 264 mX9_isFlaw (some 9) 3 := ⟨in_4 (List.mem_of_getElem? (i := 5) rfl) rfl, in_1 (List.mem_of_getElem? (i := 9) rfl) rfl, by decide +kernel, ⟨by decide, ⟨TX9, 10, rfl⟩, in_4 (List.mem_of_getElem? (i := 6) rfl) rfl, in_4 (List.mem_of_getElem? (i := 7) rfl) rfl⟩⟩
theorem cfX9_93 : cF RX9 93 mX9_hasOwn (some 9) 2 := ⟨in_4 (List.mem_of_getElem? (i := 9) rfl) rfl, in_1 (List.mem_of_getElem? (i := 9) rfl) rfl, by decide +kernel, ⟨by decide, ⟨TX9, 10, rfl⟩, in_4 (List.mem_of_getElem? (i := 11) rfl) rfl, in_0 (List.mem_of_getElem? (i := 17) rfl) rfl⟩⟩
theorem cfX9_96 : cF RX9 96 mX6_isWithin (some 6) 3 := ⟨in_4 (List.mem_of_getElem? (i := 13) rfl) rfl, in_1 (List.mem_of_getElem? (i := 8) rfl) rfl, by decide +kernel, ⟨by decide, ⟨TX6, 2, rfl⟩, in_3 (List.mem_of_getElem? (i := 107) rfl) rfl, in_3 (List.mem_of_getElem? (i := 108) rfl) rfl⟩⟩
theorem cfX9_99 : cF RX9 99 mX0_areSurelyOlder (some 0) 3 := ⟨in_4 (List.mem_of_getElem? (i := 14) rfl) rfl, in_1 (List.mem_of_getElem? (i := 3) rfl) rfl, by decide +kernel, ⟨by decide, ⟨TX0, 9, rfl⟩, in_3 (List.mem_of_getElem? (i := 237) rfl) rfl, in_3 (List.mem_of_getElem? (i := 238) rfl) rfl⟩⟩
theorem cfX11_271 : cF RX11 271 mX11_isInDoubt (some 11) 2 := ⟨in_4 (List.mem_of_getElem? (i := 19) rfl) rfl, in_1 (List.mem_of_getElem? (i := 1) rfl) rfl, by decide +kernel, ⟨by decide, ⟨TX11, 10, rfl⟩, in_4 (List.mem_of_getElem? (i := 21) rfl) rfl, in_0 (List.mem_of_getElem? (i := 18) rfl) rfl⟩⟩
theorem cfX11_277 : cF RX11 277 mX10_wordAt (some 10) 2 := ⟨in_4 (List.mem_of_getElem? (i := 23) rfl) rfl, in_1 (List.mem_of_getElem? (i := 6) rfl) rfl, by decide +kernel, ⟨by decide, ⟨TX10, 4, rfl⟩, in_4 (List.mem_of_getElem? (i := 24) rfl) rfl, in_4 (List.mem_of_getElem? (i := 25) rfl) rfl⟩⟩
theorem cfX11_279 : cF RX11 279 mX10_lettersIn none 1 := ⟨in_4 (List.mem_of_getElem? (i := 27) rfl) rfl, in_1 (List.mem_of_getElem? (i := 6) rfl) rfl, by decide +kernel, in_2 (List.mem_of_getElem? (i := 216) rfl) rfl⟩
theorem cfX11_283 : cF RX11 283 mX10_letterAt none 2 := ⟨in_4 (List.mem_of_getElem? (i := 28) rfl) rfl, in_1 (List.mem_of_getElem? (i := 6) rfl) rfl, by decide +kernel, in_4 (List.mem_of_getElem? (i := 29) rfl) rfl⟩
theorem cfX11_287 : cF RX11 287 mX3_loose (some 3) 1 := ⟨in_4 (List.mem_of_getElem? (i := 36) rfl) rfl, in_1 (List.mem_of_getElem? (i := 10) rfl) rfl, by decide +kernel, ⟨by decide, ⟨TX3, 3, rfl⟩, in_4 (List.mem_of_getElem? (i := 37) rfl) rfl, in_4 (List.mem_of_getElem? (i := 38) rfl) rfl⟩⟩
theorem cfX11_292 : cF RX11 292 mX1_add (some 1) 1 := ⟨in_4 (List.mem_of_getElem? (i := 41) rfl) rfl, in_1 (List.mem_of_getElem? (i := 11) rfl) rfl, by decide +kernel, ⟨by decide, ⟨TX1, 5, rfl⟩, in_4 (List.mem_of_getElem? (i := 42) rfl) rfl, in_4 (List.mem_of_getElem? (i := 43) rfl) rfl⟩⟩
theorem cfX3_26 : cF RX3 26 mX3_isLoose (some 3) 2 := ⟨in_4 (List.mem_of_getElem? (i := 40) rfl) rfl, in_1 (List.mem_of_getElem? (i := 10) rfl) rfl, by decide +kernel, ⟨by decide, ⟨TX3, 3, rfl⟩, in_3 (List.mem_of_getElem? (i := 172) rfl) rfl, in_3 (List.mem_of_getElem? (i := 173) rfl) rfl⟩⟩
theorem cfX11_294 : cF RX11 294 mX1_has (some 1) 2 := ⟨in_4 (List.mem_of_getElem? (i := 49) rfl) rfl, in_1 (List.mem_of_getElem? (i := 11) rfl) rfl, by decide +kernel, ⟨by decide, ⟨TX1, 5, rfl⟩, in_4 (List.mem_of_getElem? (i := 50) rfl) rfl, in_4 (List.mem_of_getElem? (i := 51) rfl) rfl⟩⟩
theorem cfX11_295 : cF RX11 295 mX1_entryOf (some 1) 3 := ⟨in_4 (List.mem_of_getElem? (i := 53) rfl) rfl, in_1 (List.mem_of_getElem? (i := 11) rfl) rfl, by decide +kernel, ⟨by decide, ⟨TX1, 5, rfl⟩, in_4 (List.mem_of_getElem? (i := 54) rfl) rfl, in_4 (List.mem_of_getElem? (i := 55) rfl) rfl⟩⟩
theorem cfX11_298 : cF RX11 298 mX1_senseOf (some 1) 3 := ⟨in_4 (List.mem_of_getElem? (i := 62) rfl) rfl, in_1 (List.mem_of_getElem? (i := 11) rfl) rfl, by decide +kernel, ⟨by decide, ⟨TX1, 5, rfl⟩, in_4 (List.mem_of_getElem? (i := 63) rfl) rfl, in_4 (List.mem_of_getElem? (i := 64) rfl) rfl⟩⟩
theorem cfX1_38 : cF RX1 38 mX1_wasThere (some 1) 3 := ⟨in_4 (List.mem_of_getElem? (i := 57) rfl) rfl, in_1 (List.mem_of_getElem? (i := 11) rfl) rfl, by decide +kernel, ⟨by decide, ⟨TX1, 5, rfl⟩, in_4 (List.mem_of_getElem? (i := 59) rfl) rfl, in_0 (List.mem_of_getElem? (i := 19) rfl) rfl⟩⟩
theorem cfX1_42 : cF RX1 42 mX1_has (some 1) 2 := ⟨in_4 (List.mem_of_getElem? (i := 61) rfl) rfl, in_1 (List.mem_of_getElem? (i := 11) rfl) rfl, by decide +kernel, ⟨by decide, ⟨TX1, 5, rfl⟩, in_4 (List.mem_of_getElem? (i := 50) rfl) rfl, in_4 (List.mem_of_getElem? (i := 51) rfl) rfl⟩⟩
theorem cfX11_301 : cF RX11 301 mX1_isOtherwise (some 1) 4 := ⟨in_4 (List.mem_of_getElem? (i := 70) rfl) rfl, in_1 (List.mem_of_getElem? (i := 11) rfl) rfl, by decide +kernel, ⟨by decide, ⟨TX1, 5, rfl⟩, in_4 (List.mem_of_getElem? (i := 71) rfl) rfl, in_4 (List.mem_of_getElem? (i := 72) rfl) rfl⟩⟩
theorem cfX1_46 : cF RX1 46 mX1_entryOf (some 1) 3 := ⟨in_4 (List.mem_of_getElem? (i := 74) rfl) rfl, in_1 (List.mem_of_getElem? (i := 11) rfl) rfl, by decide +kernel, ⟨by decide, ⟨TX1, 5, rfl⟩, in_4 (List.mem_of_getElem? (i := 54) rfl) rfl, in_4 (List.mem_of_getElem? (i := 55) rfl) rfl⟩⟩
theorem cfX1_50 : cF RX1 50 mX1_senseOf (some 1) 3 := ⟨in_4 (List.mem_of_getElem? (i := 75) rfl) rfl, in_1 (List.mem_of_getElem? (i := 11) rfl) rfl, by decide +kernel, ⟨by decide, ⟨TX1, 5, rfl⟩, in_4 (List.mem_of_getElem? (i := 63) rfl) rfl, in_4 (List.mem_of_getElem? (i := 64) rfl) rfl⟩⟩
theorem cfX11_304 : cF RX11 304 mX4_compose (some 4) 2 := ⟨in_4 (List.mem_of_getElem? (i := 80) rfl) rfl, in_1 (List.mem_of_getElem? (i := 12) rfl) rfl, by decide +kernel, ⟨by decide, ⟨TX4, 8, rfl⟩, in_4 (List.mem_of_getElem? (i := 81) rfl) rfl, in_4 (List.mem_of_getElem? (i := 82) rfl) rfl⟩⟩
theorem cfX4_43 : cF RX4 43 mX9_gather (some 9) 1 := ⟨in_4 (List.mem_of_getElem? (i := 84) rfl) rfl, in_1 (List.mem_of_getElem? (i := 9) rfl) rfl, by decide +kernel, ⟨by decide, ⟨TX9, 10, rfl⟩, in_3 (List.mem_of_getElem? (i := 181) rfl) rfl, in_3 (List.mem_of_getElem? (i := 182) rfl) rfl⟩⟩
theorem cfX4_48 : cF RX4 48 mX2_head (some 2) 2 := ⟨in_4 (List.mem_of_getElem? (i := 85) rfl) rfl, in_1 (List.mem_of_getElem? (i := 5) rfl) rfl, by decide +kernel, ⟨by decide, ⟨TX2, 5, rfl⟩, in_4 (List.mem_of_getElem? (i := 86) rfl) rfl, in_4 (List.mem_of_getElem? (i := 87) rfl) rfl⟩⟩
theorem cfX4_54 : cF RX4 54 mX4_addWord (some 4) 2 := ⟨in_4 (List.mem_of_getElem? (i := 90) rfl) rfl, in_1 (List.mem_of_getElem? (i := 12) rfl) rfl, by decide +kernel, ⟨by decide, ⟨TX4, 8, rfl⟩, in_4 (List.mem_of_getElem? (i := 92) rfl) rfl, in_0 (List.mem_of_getElem? (i := 20) rfl) rfl⟩⟩
theorem cfX4_58 : cF RX4 58 mX4_addByte (some 4) 2 := ⟨in_4 (List.mem_of_getElem? (i := 96) rfl) rfl, in_1 (List.mem_of_getElem? (i := 12) rfl) rfl, by decide +kernel, ⟨by decide, ⟨TX4, 8, rfl⟩, in_4 (List.mem_of_getElem? (i := 98) rfl) rfl, in_0 (List.mem_of_getElem? (i := 21) rfl) rfl⟩⟩
theorem cfX4_62 : cF RX4 62 mX4_senseAt (some 4) 4 := ⟨in_4 (List.mem_of_getElem? (i := 100) rfl) rfl, in_1 (List.mem_of_getElem? (i := 12) rfl) rfl, by decide +kernel, ⟨by decide, ⟨TX4, 8, rfl⟩, in_4 (List.mem_of_getElem? (i := 102) rfl) rfl, in_0 (List.mem_of_getElem? (i := 22) rfl) rfl⟩⟩
theorem cfX4_66 : cF RX4 66 mX6_has (some 6) 2 := ⟨in_4 (List.mem_of_getElem? (i := 104) rfl) rfl, in_1 (List.mem_of_getElem? (i := 8) rfl) rfl, by decide +kernel, ⟨by decide, ⟨TX6, 2, rfl⟩, in_3 (List.mem_of_getElem? (i := 89) rfl) rfl, in_3 (List.mem_of_getElem? (i := 90) rfl) rfl⟩⟩
theorem cfX4_72 : cF RX4 72 mX4_addSense (some 4) 2 := ⟨in_4 (List.mem_of_getElem? (i := 105) rfl) rfl, in_1 (List.mem_of_getElem? (i := 12) rfl) rfl, by decide +kernel, ⟨by decide, ⟨TX4, 8, rfl⟩, in_4 (List.mem_of_getElem? (i := 107) rfl) rfl, in_0 (List.mem_of_getElem? (i := 23) rfl) rfl⟩⟩
theorem cfX4_75 : cF RX4 75 mX4_senseBehind (some 4) 2 := ⟨in_4 (List.mem_of_getElem? (i := 125) rfl) rfl, in_1 (List.mem_of_getElem? (i := 12) rfl) rfl, by decide +kernel, ⟨by decide, ⟨TX4, 8, rfl⟩, in_4 (List.mem_of_getElem? (i := 127) rfl) rfl, in_0 (List.mem_of_getElem? (i := 28) rfl) rfl⟩⟩
theorem cfX4_79 : cF RX4 79 mX7_at (some 7) 3 := ⟨in_4 (List.mem_of_getElem? (i := 129) rfl) rfl, in_1 (List.mem_of_getElem? (i := 7) rfl) rfl, by decide +kernel, ⟨by decide, ⟨TX7, 5, rfl⟩, in_3 (List.mem_of_getElem? (i := 155) rfl) rfl, in_3 (List.mem_of_getElem? (i := 156) rfl) rfl⟩⟩
theorem cfX4_85 : cF RX4 85 mX4_addHeap (some 4) 2 := ⟨in_4 (List.mem_of_getElem? (i := 130) rfl) rfl, in_1 (List.mem_of_getElem? (i := 12) rfl) rfl, by decide +kernel, ⟨by decide, ⟨TX4, 8, rfl⟩, in_4 (List.mem_of_getElem? (i := 132) rfl) rfl, in_0 (List.mem_of_getElem? (i := 29) rfl) rfl⟩⟩
theorem cfX2_53 : cF RX2 53 mX10_wordAt (some 10) 2 := ⟨in_4 (List.mem_of_getElem? (i := 89) rfl) rfl, in_1 (List.mem_of_getElem? (i := 6) rfl) rfl, by decide +kernel, ⟨by decide, ⟨TX10, 4, rfl⟩, in_4 (List.mem_of_getElem? (i := 24) rfl) rfl, in_4 (List.mem_of_getElem? (i := 25) rfl) rfl⟩⟩
theorem cfX4_127 : cF RX4 127 mX10_lettersIn none 1 := ⟨in_4 (List.mem_of_getElem? (i := 94) rfl) rfl, in_1 (List.mem_of_getElem? (i := 6) rfl) rfl, by decide +kernel, in_2 (List.mem_of_getElem? (i := 216) rfl) rfl⟩
theorem cfX4_133 : cF RX4 133 mX10_letterAt none 2 := ⟨in_4 (List.mem_of_getElem? (i := 95) rfl) rfl, in_1 (List.mem_of_getElem? (i := 6) rfl) rfl, by decide +kernel, in_4 (List.mem_of_getElem? (i := 29) rfl) rfl⟩
theorem cfX4_97 : cF RX4 97 mX4_addMark (some 4) 2 := ⟨in_4 (List.mem_of_getElem? (i := 109) rfl) rfl, in_1 (List.mem_of_getElem? (i := 12) rfl) rfl, by decide +kernel, ⟨by decide, ⟨TX4, 8, rfl⟩, in_4 (List.mem_of_getElem? (i := 111) rfl) rfl, in_0 (List.mem_of_getElem? (i := 24) rfl) rfl⟩⟩
theorem cfX4_100 : cF RX4 100 mX4_addWitnesses (some 4) 2 := ⟨in_4 (List.mem_of_getElem? (i := 117) rfl) rfl, in_1 (List.mem_of_getElem? (i := 12) rfl) rfl, by decide +kernel, ⟨by decide, ⟨TX4, 8, rfl⟩, in_4 (List.mem_of_getElem? (i := 119) rfl) rfl, in_0 (List.mem_of_getElem? (i := 26) rfl) rfl⟩⟩
theorem cfX4_112 : cF RX4 112 mX4_addPointer (some 4) 2 := ⟨in_4 (List.mem_of_getElem? (i := 121) rfl) rfl, in_1 (List.mem_of_getElem? (i := 12) rfl) rfl, by decide +kernel, ⟨by decide, ⟨TX4, 8, rfl⟩, in_4 (List.mem_of_getElem? (i := 123) rfl) rfl, in_0 (List.mem_of_getElem? (i := 27) rfl) rfl⟩⟩
theorem cfX4_115 : cF RX4 115 mX4_addNumber (some 4) 2 := ⟨in_4 (List.mem_of_getElem? (i := 113) rfl) rfl, in_1 (List.mem_of_getElem? (i := 12) rfl) rfl, by decide +kernel, ⟨by decide, ⟨TX4, 8, rfl⟩, in_4 (List.mem_of_getElem? (i := 115) rfl) rfl, in_0 (List.mem_of_getElem? (i := 25) rfl) rfl⟩⟩
theorem cfX11_307 : cF RX11 307 mX4_byteAt (some 4) 2 := ⟨in_4 (List.mem_of_getElem? (i := 138) rfl) rfl, in_1 (List.mem_of_getElem? (i := 12) rfl) rfl, by decide +kernel, ⟨by decide, ⟨TX4, 8, rfl⟩, in_4 (List.mem_of_getElem? (i := 139) rfl) rfl, in_4 (List.mem_of_getElem? (i := 140) rfl) rfl⟩⟩
theorem cfX11_310 : cF RX11 310 mX6_inUse (some 6) 1 := ⟨in_4 (List.mem_of_getElem? (i := 146) rfl) rfl, in_1 (List.mem_of_getElem? (i := 8) rfl) rfl, by decide +kernel, ⟨by decide, ⟨TX6, 2, rfl⟩, in_4 (List.mem_of_getElem? (i := 147) rfl) rfl, in_4 (List.mem_of_getElem? (i := 148) rfl) rfl⟩⟩
theorem cfX11_313 : cF RX11 313 mX11_slipsInDoubt (some 11) 1 := ⟨in_4 (List.mem_of_getElem? (i := 150) rfl) rfl, in_1 (List.mem_of_getElem? (i := 1) rfl) rfl, by decide +kernel, ⟨by decide, ⟨TX11, 10, rfl⟩, in_4 (List.mem_of_getElem? (i := 152) rfl) rfl, in_0 (List.mem_of_getElem? (i := 30) rfl) rfl⟩⟩
theorem cfX11_319 : cF RX11 319 mX11_flaws (some 11) 1 := ⟨in_4 (List.mem_of_getElem? (i := 154) rfl) rfl, in_1 (List.mem_of_getElem? (i := 1) rfl) rfl, by decide +kernel, ⟨by decide, ⟨TX11, 10, rfl⟩, in_4 (List.mem_of_getElem? (i := 156) rfl) rfl, in_0 (List.mem_of_getElem? (i := 31) rfl) rfl⟩⟩
theorem cfX12_107 : cF RX12 107 mX12_types (some 12) 2 := ⟨in_5 (List.mem_of_getElem? (i := 62) rfl) rfl, in_1 (List.mem_of_getElem? (i := 13) rfl) rfl, by decide +kernel, ⟨by decide, ⟨TX12, 44, rfl⟩, in_5 (List.mem_of_getElem? (i := 64) rfl) rfl, in_0 (List.mem_of_getElem? (i := 32) rfl) rfl⟩⟩
theorem cfX12_114 : cF RX12 114 mX12_areYears none 2 := ⟨in_5 (List.mem_of_getElem? (i := 70) rfl) rfl, in_1 (List.mem_of_getElem? (i := 13) rfl) rfl, by decide +kernel, in_5 (List.mem_of_getElem? (i := 71) rfl) rfl⟩
theorem cfX12_118 : cF RX12 118 mX12_tightens (some 12) 1 := ⟨in_5 (List.mem_of_getElem? (i := 73) rfl) rfl, in_1 (List.mem_of_getElem? (i := 13) rfl) rfl, by decide +kernel, ⟨by decide, ⟨TX12, 44, rfl⟩, in_5 (List.mem_of_getElem? (i := 75) rfl) rfl, in_0 (List.mem_of_getElem? (i := 33) rfl) rfl⟩⟩
theorem cfX12_125 : cF RX12 125 mX12_isBook (some 12) 2 := ⟨in_5 (List.mem_of_getElem? (i := 81) rfl) rfl, in_1 (List.mem_of_getElem? (i := 13) rfl) rfl, by decide +kernel, ⟨by decide, ⟨TX12, 44, rfl⟩, in_5 (List.mem_of_getElem? (i := 83) rfl) rfl, in_0 (List.mem_of_getElem? (i := 34) rfl) rfl⟩⟩
theorem cfX12_129 : cF RX12 129 mX12_closes (some 12) 1 := ⟨in_5 (List.mem_of_getElem? (i := 85) rfl) rfl, in_1 (List.mem_of_getElem? (i := 13) rfl) rfl, by decide +kernel, ⟨by decide, ⟨TX12, 44, rfl⟩, in_5 (List.mem_of_getElem? (i := 87) rfl) rfl, in_0 (List.mem_of_getElem? (i := 35) rfl) rfl⟩⟩
theorem cfX12_135 : cF RX12 135 mX12_isWordSize (some 12) 2 := ⟨in_5 (List.mem_of_getElem? (i := 97) rfl) rfl, in_1 (List.mem_of_getElem? (i := 13) rfl) rfl, by decide +kernel, ⟨by decide, ⟨TX12, 44, rfl⟩, in_5 (List.mem_of_getElem? (i := 99) rfl) rfl, in_0 (List.mem_of_getElem? (i := 36) rfl) rfl⟩⟩
theorem cfX12_138 : cF RX12 138 mX12_takes (some 12) 2 := ⟨in_5 (List.mem_of_getElem? (i := 101) rfl) rfl, in_1 (List.mem_of_getElem? (i := 13) rfl) rfl, by decide +kernel, ⟨by decide, ⟨TX12, 44, rfl⟩, in_5 (List.mem_of_getElem? (i := 103) rfl) rfl, in_0 (List.mem_of_getElem? (i := 37) rfl) rfl⟩⟩
theorem cfX12_141 : cF RX12 141 mX12_word (some 12) 3 := ⟨in_5 (List.mem_of_getElem? (i := 105) rfl) rfl, in_1 (List.mem_of_getElem? (i := 13) rfl) rfl, by decide +kernel, ⟨by decide, ⟨TX12, 44, rfl⟩, in_5 (List.mem_of_getElem? (i := 107) rfl) rfl, in_0 (List.mem_of_getElem? (i := 38) rfl) rfl⟩⟩
theorem cfX12_148 : cF RX12 148 mX12_lays (some 12) 5 := ⟨in_5 (List.mem_of_getElem? (i := 113) rfl) rfl, in_1 (List.mem_of_getElem? (i := 13) rfl) rfl, by decide +kernel, ⟨by decide, ⟨TX12, 44, rfl⟩, in_5 (List.mem_of_getElem? (i := 115) rfl) rfl, in_0 (List.mem_of_getElem? (i := 39) rfl) rfl⟩⟩
theorem cfX12_152 : cF RX12 152 mX12_isEntry (some 12) 2 := ⟨in_5 (List.mem_of_getElem? (i := 121) rfl) rfl, in_1 (List.mem_of_getElem? (i := 13) rfl) rfl, by decide +kernel, ⟨by decide, ⟨TX12, 44, rfl⟩, in_5 (List.mem_of_getElem? (i := 123) rfl) rfl, in_0 (List.mem_of_getElem? (i := 40) rfl) rfl⟩⟩
theorem cfX12_183 : cF RX12 183 mX12_isSlip (some 12) 2 := ⟨in_5 (List.mem_of_getElem? (i := 133) rfl) rfl, in_1 (List.mem_of_getElem? (i := 13) rfl) rfl, by decide +kernel, ⟨by decide, ⟨TX12, 44, rfl⟩, in_5 (List.mem_of_getElem? (i := 135) rfl) rfl, in_0 (List.mem_of_getElem? (i := 41) rfl) rfl⟩⟩
theorem cfX12_173 : cF RX12 173 mX12_isFitting (some 12) 3 := ⟨in_5 (List.mem_of_getElem? (i := 137) rfl) rfl, in_1 (List.mem_of_getElem? (i := 13) rfl) rfl, by decide +kernel, ⟨by decide, ⟨TX12, 44, rfl⟩, in_5 (List.mem_of_getElem? (i := 139) rfl) rfl, in_0 (List.mem_of_getElem? (i := 42) rfl) rfl⟩⟩
theorem cfX12_180 : cF RX12 180 mX12_isLed (some 12) 3 := ⟨in_5 (List.mem_of_getElem? (i := 141) rfl) rfl, in_1 (List.mem_of_getElem? (i := 13) rfl) rfl, by decide +kernel, ⟨by decide, ⟨TX12, 44, rfl⟩, in_5 (List.mem_of_getElem? (i := 143) rfl) rfl, in_0 (List.mem_of_getElem? (i := 43) rfl) rfl⟩⟩
theorem cfX12_170 : cF RX12 170 mX12_leads (some 12) 3 := ⟨in_5 (List.mem_of_getElem? (i := 145) rfl) rfl, in_1 (List.mem_of_getElem? (i := 13) rfl) rfl, by decide +kernel, ⟨by decide, ⟨TX12, 44, rfl⟩, in_5 (List.mem_of_getElem? (i := 147) rfl) rfl, in_0 (List.mem_of_getElem? (i := 44) rfl) rfl⟩⟩
theorem cfX12_166 : cF RX12 166 mX12_leadsByOne (some 12) 3 := ⟨in_5 (List.mem_of_getElem? (i := 149) rfl) rfl, in_1 (List.mem_of_getElem? (i := 13) rfl) rfl, by decide +kernel, ⟨by decide, ⟨TX12, 44, rfl⟩, in_5 (List.mem_of_getElem? (i := 151) rfl) rfl, in_0 (List.mem_of_getElem? (i := 45) rfl) rfl⟩⟩
theorem cfX12_162 : cF RX12 162 mX12_changed (some 12) 4 := ⟨in_5 (List.mem_of_getElem? (i := 153) rfl) rfl, in_1 (List.mem_of_getElem? (i := 13) rfl) rfl, by decide +kernel, ⟨by decide, ⟨TX12, 44, rfl⟩, in_5 (List.mem_of_getElem? (i := 155) rfl) rfl, in_0 (List.mem_of_getElem? (i := 46) rfl) rfl⟩⟩
theorem cfX12_158 : cF RX12 158 mX12_size none 1 := ⟨in_5 (List.mem_of_getElem? (i := 157) rfl) rfl, in_1 (List.mem_of_getElem? (i := 13) rfl) rfl, by decide +kernel, in_5 (List.mem_of_getElem? (i := 158) rfl) rfl⟩
theorem cfX12_176 : cF RX12 176 mX12_fitting (some 12) 2 := ⟨in_5 (List.mem_of_getElem? (i := 164) rfl) rfl, in_1 (List.mem_of_getElem? (i := 13) rfl) rfl, by decide +kernel, ⟨by decide, ⟨TX12, 44, rfl⟩, in_5 (List.mem_of_getElem? (i := 166) rfl) rfl, in_0 (List.mem_of_getElem? (i := 47) rfl) rfl⟩⟩
theorem cfX12_186 : cF RX12 186 mX12_isSense (some 12) 2 := ⟨in_5 (List.mem_of_getElem? (i := 172) rfl) rfl, in_1 (List.mem_of_getElem? (i := 13) rfl) rfl, by decide +kernel, ⟨by decide, ⟨TX12, 44, rfl⟩, in_5 (List.mem_of_getElem? (i := 174) rfl) rfl, in_0 (List.mem_of_getElem? (i := 48) rfl) rfl⟩⟩
theorem cfX12_189 : cF RX12 189 mX12_makes (some 12) 3 := ⟨in_5 (List.mem_of_getElem? (i := 176) rfl) rfl, in_1 (List.mem_of_getElem? (i := 13) rfl) rfl, by decide +kernel, ⟨by decide, ⟨TX12, 44, rfl⟩, in_5 (List.mem_of_getElem? (i := 178) rfl) rfl, in_0 (List.mem_of_getElem? (i := 49) rfl) rfl⟩⟩
theorem cfX12_193 : cF RX12 193 mX12_isWithin (some 12) 3 := ⟨in_5 (List.mem_of_getElem? (i := 188) rfl) rfl, in_1 (List.mem_of_getElem? (i := 13) rfl) rfl, by decide +kernel, ⟨by decide, ⟨TX12, 44, rfl⟩, in_5 (List.mem_of_getElem? (i := 190) rfl) rfl, in_0 (List.mem_of_getElem? (i := 50) rfl) rfl⟩⟩
theorem cfX12_202 : cF RX12 202 mX12_goes (some 12) 2 := ⟨in_5 (List.mem_of_getElem? (i := 196) rfl) rfl, in_1 (List.mem_of_getElem? (i := 13) rfl) rfl, by decide +kernel, ⟨by decide, ⟨TX12, 44, rfl⟩, in_5 (List.mem_of_getElem? (i := 198) rfl) rfl, in_0 (List.mem_of_getElem? (i := 51) rfl) rfl⟩⟩
theorem cfX12_199 : cF RX12 199 mX12_removes (some 12) 2 := ⟨in_5 (List.mem_of_getElem? (i := 200) rfl) rfl, in_1 (List.mem_of_getElem? (i := 13) rfl) rfl, by decide +kernel, ⟨by decide, ⟨TX12, 44, rfl⟩, in_5 (List.mem_of_getElem? (i := 202) rfl) rfl, in_0 (List.mem_of_getElem? (i := 52) rfl) rfl⟩⟩
theorem cfX12_205 : cF RX12 205 mX12_own (some 12) 2 := ⟨in_5 (List.mem_of_getElem? (i := 212) rfl) rfl, in_1 (List.mem_of_getElem? (i := 13) rfl) rfl, by decide +kernel, ⟨by decide, ⟨TX12, 44, rfl⟩, in_5 (List.mem_of_getElem? (i := 214) rfl) rfl, in_0 (List.mem_of_getElem? (i := 53) rfl) rfl⟩⟩
theorem cfX12_208 : cF RX12 208 mX12_below (some 12) 2 := ⟨in_5 (List.mem_of_getElem? (i := 216) rfl) rfl, in_1 (List.mem_of_getElem? (i := 13) rfl) rfl, by decide +kernel, ⟨by decide, ⟨TX12, 44, rfl⟩, in_5 (List.mem_of_getElem? (i := 218) rfl) rfl, in_0 (List.mem_of_getElem? (i := 54) rfl) rfl⟩⟩
theorem cfX12_230 : cF RX12 230 mX12_witnesses (some 12) 3 := ⟨in_5 (List.mem_of_getElem? (i := 232) rfl) rfl, in_1 (List.mem_of_getElem? (i := 13) rfl) rfl, by decide +kernel, ⟨by decide, ⟨TX12, 44, rfl⟩, in_5 (List.mem_of_getElem? (i := 234) rfl) rfl, in_0 (List.mem_of_getElem? (i := 55) rfl) rfl⟩⟩
theorem cfX12_237 : cF RX12 237 mX12_gap (some 12) 2 := ⟨in_6 (List.mem_of_getElem? (i := 0) rfl) rfl, in_1 (List.mem_of_getElem? (i := 13) rfl) rfl, by decide +kernel, ⟨by decide, ⟨TX12, 44, rfl⟩, in_6 (List.mem_of_getElem? (i := 2) rfl) rfl, in_0 (List.mem_of_getElem? (i := 57) rfl) rfl⟩⟩
theorem cfX12_240 : cF RX12 240 mX12_place (some 12) 2 := ⟨in_6 (List.mem_of_getElem? (i := 4) rfl) rfl, in_1 (List.mem_of_getElem? (i := 13) rfl) rfl, by decide +kernel, ⟨by decide, ⟨TX12, 44, rfl⟩, in_6 (List.mem_of_getElem? (i := 6) rfl) rfl, in_0 (List.mem_of_getElem? (i := 58) rfl) rfl⟩⟩
theorem cfX12_243 : cF RX12 243 mX12_depth (some 12) 2 := ⟨in_6 (List.mem_of_getElem? (i := 12) rfl) rfl, in_1 (List.mem_of_getElem? (i := 13) rfl) rfl, by decide +kernel, ⟨by decide, ⟨TX12, 44, rfl⟩, in_6 (List.mem_of_getElem? (i := 14) rfl) rfl, in_0 (List.mem_of_getElem? (i := 60) rfl) rfl⟩⟩
theorem cfX12_214 : cF RX12 214 mX12_isWitness (some 12) 4 := ⟨in_5 (List.mem_of_getElem? (i := 236) rfl) rfl, in_1 (List.mem_of_getElem? (i := 13) rfl) rfl, by decide +kernel, ⟨by decide, ⟨TX12, 44, rfl⟩, in_5 (List.mem_of_getElem? (i := 238) rfl) rfl, in_0 (List.mem_of_getElem? (i := 56) rfl) rfl⟩⟩
theorem cfX12_234 : cF RX12 234 mX12_isAhead (some 12) 3 := ⟨in_6 (List.mem_of_getElem? (i := 8) rfl) rfl, in_1 (List.mem_of_getElem? (i := 13) rfl) rfl, by decide +kernel, ⟨by decide, ⟨TX12, 44, rfl⟩, in_6 (List.mem_of_getElem? (i := 10) rfl) rfl, in_0 (List.mem_of_getElem? (i := 59) rfl) rfl⟩⟩
theorem cfX12_249 : cF RX12 249 mX12_isOlder (some 12) 4 := ⟨in_6 (List.mem_of_getElem? (i := 20) rfl) rfl, in_1 (List.mem_of_getElem? (i := 13) rfl) rfl, by decide +kernel, ⟨by decide, ⟨TX12, 44, rfl⟩, in_6 (List.mem_of_getElem? (i := 22) rfl) rfl, in_0 (List.mem_of_getElem? (i := 61) rfl) rfl⟩⟩
theorem cfX12_246 : cF RX12 246 mX12_isAheadOfAll (some 12) 4 := ⟨in_6 (List.mem_of_getElem? (i := 24) rfl) rfl, in_1 (List.mem_of_getElem? (i := 13) rfl) rfl, by decide +kernel, ⟨by decide, ⟨TX12, 44, rfl⟩, in_6 (List.mem_of_getElem? (i := 26) rfl) rfl, in_0 (List.mem_of_getElem? (i := 62) rfl) rfl⟩⟩
theorem cfX12_252 : cF RX12 252 mX12_flaws (some 12) 2 := ⟨in_6 (List.mem_of_getElem? (i := 32) rfl) rfl, in_1 (List.mem_of_getElem? (i := 13) rfl) rfl, by decide +kernel, ⟨by decide, ⟨TX12, 44, rfl⟩, in_6 (List.mem_of_getElem? (i := 34) rfl) rfl, in_0 (List.mem_of_getElem? (i := 63) rfl) rfl⟩⟩
theorem cfX12_255 : cF RX12 255 mX12_isDoubted (some 12) 2 := ⟨in_6 (List.mem_of_getElem? (i := 40) rfl) rfl, in_1 (List.mem_of_getElem? (i := 13) rfl) rfl, by decide +kernel, ⟨by decide, ⟨TX12, 44, rfl⟩, in_6 (List.mem_of_getElem? (i := 42) rfl) rfl, in_0 (List.mem_of_getElem? (i := 64) rfl) rfl⟩⟩
theorem cfX12_258 : cF RX12 258 mX12_byteOf none 2 := ⟨in_6 (List.mem_of_getElem? (i := 44) rfl) rfl, in_1 (List.mem_of_getElem? (i := 13) rfl) rfl, by decide +kernel, in_6 (List.mem_of_getElem? (i := 45) rfl) rfl⟩
theorem cfX12_262 : cF RX12 262 mX12_loosePointers (some 12) 1 := ⟨in_6 (List.mem_of_getElem? (i := 51) rfl) rfl, in_1 (List.mem_of_getElem? (i := 13) rfl) rfl, by decide +kernel, ⟨by decide, ⟨TX12, 44, rfl⟩, in_6 (List.mem_of_getElem? (i := 53) rfl) rfl, in_0 (List.mem_of_getElem? (i := 65) rfl) rfl⟩⟩
theorem cfX12_269 : cF RX12 269 mX12_isEdition (some 12) 2 := ⟨in_6 (List.mem_of_getElem? (i := 59) rfl) rfl, in_1 (List.mem_of_getElem? (i := 13) rfl) rfl, by decide +kernel, ⟨by decide, ⟨TX12, 44, rfl⟩, in_6 (List.mem_of_getElem? (i := 61) rfl) rfl, in_0 (List.mem_of_getElem? (i := 66) rfl) rfl⟩⟩
theorem cfX12_284 : cF RX12 284 mX12_letters (some 12) 2 := ⟨in_6 (List.mem_of_getElem? (i := 71) rfl) rfl, in_1 (List.mem_of_getElem? (i := 13) rfl) rfl, by decide +kernel, ⟨by decide, ⟨TX12, 44, rfl⟩, in_6 (List.mem_of_getElem? (i := 73) rfl) rfl, in_0 (List.mem_of_getElem? (i := 67) rfl) rfl⟩⟩
theorem cfX12_275 : cF RX12 275 mX12_puts (some 12) 2 := ⟨in_6 (List.mem_of_getElem? (i := 75) rfl) rfl, in_1 (List.mem_of_getElem? (i := 13) rfl) rfl, by decide +kernel, ⟨by decide, ⟨TX12, 44, rfl⟩, in_6 (List.mem_of_getElem? (i := 77) rfl) rfl, in_0 (List.mem_of_getElem? (i := 68) rfl) rfl⟩⟩
theorem cfX12_288 : cF RX12 288 mX12_at (some 12) 4 := ⟨in_6 (List.mem_of_getElem? (i := 79) rfl) rfl, in_1 (List.mem_of_getElem? (i := 13) rfl) rfl, by decide +kernel, ⟨by decide, ⟨TX12, 44, rfl⟩, in_6 (List.mem_of_getElem? (i := 81) rfl) rfl, in_0 (List.mem_of_getElem? (i := 69) rfl) rfl⟩⟩
theorem cfX12_292 : cF RX12 292 mX12_prints (some 12) 2 := ⟨in_6 (List.mem_of_getElem? (i := 83) rfl) rfl, in_1 (List.mem_of_getElem? (i := 13) rfl) rfl, by decide +kernel, ⟨by decide, ⟨TX12, 44, rfl⟩, in_6 (List.mem_of_getElem? (i := 85) rfl) rfl, in_0 (List.mem_of_getElem? (i := 70) rfl) rfl⟩⟩
theorem cfX12_295 : cF RX12 295 mX12_heap (some 12) 2 := ⟨in_6 (List.mem_of_getElem? (i := 95) rfl) rfl, in_1 (List.mem_of_getElem? (i := 13) rfl) rfl, by decide +kernel, ⟨by decide, ⟨TX12, 44, rfl⟩, in_6 (List.mem_of_getElem? (i := 97) rfl) rfl, in_0 (List.mem_of_getElem? (i := 73) rfl) rfl⟩⟩
theorem cfX12_278 : cF RX12 278 mX12_number (some 12) 2 := ⟨in_6 (List.mem_of_getElem? (i := 91) rfl) rfl, in_1 (List.mem_of_getElem? (i := 13) rfl) rfl, by decide +kernel, ⟨by decide, ⟨TX12, 44, rfl⟩, in_6 (List.mem_of_getElem? (i := 93) rfl) rfl, in_0 (List.mem_of_getElem? (i := 72) rfl) rfl⟩⟩
theorem cfX12_281 : cF RX12 281 mX12_mark (some 12) 2 := ⟨in_6 (List.mem_of_getElem? (i := 87) rfl) rfl, in_1 (List.mem_of_getElem? (i := 13) rfl) rfl, by decide +kernel, ⟨by decide, ⟨TX12, 44, rfl⟩, in_6 (List.mem_of_getElem? (i := 89) rfl) rfl, in_0 (List.mem_of_getElem? (i := 71) rfl) rfl⟩⟩
