section
-- ===== PART A: goes FIRST, ahead of the names: the tables' words, and 'selects' of the private methods out of them =====
/-- a private method of a class that the tables say can be made, by its rows of tables_1 -/
def lw_okq (q : MethodName × Nat) : Prop := (q.1.cls ≠ "java/lang/invoke/MethodHandle" ∧ q.1.cls ≠ "java/lang/invoke/VarHandle") ∧ Cond.instantiable q.1.cls q.2 ∈ tables_1 ∧ Cond.privateMethod q.1 ∈ tables_1 ∧ Cond.instanceMethod q.1 ∈ tables_1
theorem lw_p0 : lw_okq (⟨"SlipHouse$Books", "wasTold", "(II)Z"⟩, 9) := ⟨⟨by decide +kernel, by decide +kernel⟩, List.mem_of_getElem? (i := 39) (by decide +kernel), List.mem_of_getElem? (i := 387) (by decide +kernel), List.mem_of_getElem? (i := 388) (by decide +kernel)⟩
theorem lw_p1 : lw_okq (⟨"SlipHouse$Books", "tighten", "()Z"⟩, 9) := ⟨⟨by decide +kernel, by decide +kernel⟩, List.mem_of_getElem? (i := 39) (by decide +kernel), List.mem_of_getElem? (i := 391) (by decide +kernel), List.mem_of_getElem? (i := 392) (by decide +kernel)⟩
theorem lw_p2 : lw_okq (⟨"SlipHouse$Books", "tightenOnce", "()Z"⟩, 9) := ⟨⟨by decide +kernel, by decide +kernel⟩, List.mem_of_getElem? (i := 39) (by decide +kernel), List.mem_of_getElem? (i := 395) (by decide +kernel), List.mem_of_getElem? (i := 396) (by decide +kernel)⟩
theorem lw_p3 : lw_okq (⟨"SlipHouse$Books", "allHaveYears", "()Z"⟩, 9) := ⟨⟨by decide +kernel, by decide +kernel⟩, List.mem_of_getElem? (i := 39) (by decide +kernel), List.mem_of_getElem? (i := 399) (by decide +kernel), List.mem_of_getElem? (i := 400) (by decide +kernel)⟩
theorem lw_p4 : lw_okq (⟨"SlipHouse$Books", "setBehind", "(II)V"⟩, 9) := ⟨⟨by decide +kernel, by decide +kernel⟩, List.mem_of_getElem? (i := 39) (by decide +kernel), List.mem_of_getElem? (i := 403) (by decide +kernel), List.mem_of_getElem? (i := 404) (by decide +kernel)⟩
theorem lw_p5 : lw_okq (⟨"SlipHouse", "tapeHasWord", "(I)Z"⟩, 10) := ⟨⟨by decide +kernel, by decide +kernel⟩, List.mem_of_getElem? (i := 16) (by decide +kernel), List.mem_of_getElem? (i := 422) (by decide +kernel), List.mem_of_getElem? (i := 423) (by decide +kernel)⟩
theorem lw_p6 : lw_okq (⟨"SlipHouse$Words", "addNeighboursOf", "(II)V"⟩, 4) := ⟨⟨by decide +kernel, by decide +kernel⟩, List.mem_of_getElem? (i := 108) (by decide +kernel), List.mem_of_getElem? (i := 449) (by decide +kernel), List.mem_of_getElem? (i := 450) (by decide +kernel)⟩
theorem lw_p7 : lw_okq (⟨"SlipHouse", "isFit", "(II)Z"⟩, 10) := ⟨⟨by decide +kernel, by decide +kernel⟩, List.mem_of_getElem? (i := 16) (by decide +kernel), List.mem_of_getElem? (i := 527) (by decide +kernel), List.mem_of_getElem? (i := 528) (by decide +kernel)⟩
theorem lw_p8 : lw_okq (⟨"SlipHouse", "entriesFitted", "(I)I"⟩, 10) := ⟨⟨by decide +kernel, by decide +kernel⟩, List.mem_of_getElem? (i := 16) (by decide +kernel), List.mem_of_getElem? (i := 552) (by decide +kernel), List.mem_of_getElem? (i := 553) (by decide +kernel)⟩
theorem lw_p9 : lw_okq (⟨"SlipHouse", "firstEntryFitted", "(I)I"⟩, 10) := ⟨⟨by decide +kernel, by decide +kernel⟩, List.mem_of_getElem? (i := 16) (by decide +kernel), List.mem_of_getElem? (i := 556) (by decide +kernel), List.mem_of_getElem? (i := 557) (by decide +kernel)⟩
theorem lw_p10 : lw_okq (⟨"SlipHouse", "isTopOrSenseOf", "(II)Z"⟩, 10) := ⟨⟨by decide +kernel, by decide +kernel⟩, List.mem_of_getElem? (i := 16) (by decide +kernel), List.mem_of_getElem? (i := 565) (by decide +kernel), List.mem_of_getElem? (i := 566) (by decide +kernel)⟩
theorem lw_p11 : lw_okq (⟨"SlipHouse", "forgetSense", "(I)V"⟩, 10) := ⟨⟨by decide +kernel, by decide +kernel⟩, List.mem_of_getElem? (i := 16) (by decide +kernel), List.mem_of_getElem? (i := 603) (by decide +kernel), List.mem_of_getElem? (i := 604) (by decide +kernel)⟩
theorem lw_p12 : lw_okq (⟨"SlipHouse$Witnesses", "addSlip", "(II)V"⟩, 10) := ⟨⟨by decide +kernel, by decide +kernel⟩, List.mem_of_getElem? (i := 201) (by decide +kernel), List.mem_of_getElem? (i := 665) (by decide +kernel), List.mem_of_getElem? (i := 666) (by decide +kernel)⟩
theorem lw_p13 : lw_okq (⟨"SlipHouse$Witnesses", "placeOf", "(I)I"⟩, 10) := ⟨⟨by decide +kernel, by decide +kernel⟩, List.mem_of_getElem? (i := 201) (by decide +kernel), List.mem_of_getElem? (i := 677) (by decide +kernel), List.mem_of_getElem? (i := 678) (by decide +kernel)⟩
theorem lw_p14 : lw_okq (⟨"SlipHouse$Witnesses", "isAhead", "(II)Z"⟩, 10) := ⟨⟨by decide +kernel, by decide +kernel⟩, List.mem_of_getElem? (i := 201) (by decide +kernel), List.mem_of_getElem? (i := 685) (by decide +kernel), List.mem_of_getElem? (i := 686) (by decide +kernel)⟩
theorem lw_p15 : lw_okq (⟨"SlipHouse", "toldYears", "(II)I"⟩, 10) := ⟨⟨by decide +kernel, by decide +kernel⟩, List.mem_of_getElem? (i := 16) (by decide +kernel), List.mem_of_getElem? (i := 689) (by decide +kernel), List.mem_of_getElem? (i := 690) (by decide +kernel)⟩
def lw_privs_1 : List (MethodName × Nat) := [(⟨"SlipHouse$Books", "wasTold", "(II)Z"⟩, 9), (⟨"SlipHouse$Books", "tighten", "()Z"⟩, 9), (⟨"SlipHouse$Books", "tightenOnce", "()Z"⟩, 9), (⟨"SlipHouse$Books", "allHaveYears", "()Z"⟩, 9), (⟨"SlipHouse$Books", "setBehind", "(II)V"⟩, 9), (⟨"SlipHouse", "tapeHasWord", "(I)Z"⟩, 10), (⟨"SlipHouse$Words", "addNeighboursOf", "(II)V"⟩, 4), (⟨"SlipHouse", "isFit", "(II)Z"⟩, 10), (⟨"SlipHouse", "entriesFitted", "(I)I"⟩, 10), (⟨"SlipHouse", "firstEntryFitted", "(I)I"⟩, 10), (⟨"SlipHouse", "isTopOrSenseOf", "(II)Z"⟩, 10), (⟨"SlipHouse", "forgetSense", "(I)V"⟩, 10), (⟨"SlipHouse$Witnesses", "addSlip", "(II)V"⟩, 10), (⟨"SlipHouse$Witnesses", "placeOf", "(I)I"⟩, 10), (⟨"SlipHouse$Witnesses", "isAhead", "(II)Z"⟩, 10), (⟨"SlipHouse", "toldYears", "(II)I"⟩, 10)]
theorem lw_r1 : ∀ q ∈ lw_privs_1, lw_okq q := List.forall_mem_cons.mpr ⟨lw_p0, List.forall_mem_cons.mpr ⟨lw_p1, List.forall_mem_cons.mpr ⟨lw_p2, List.forall_mem_cons.mpr ⟨lw_p3, List.forall_mem_cons.mpr ⟨lw_p4, List.forall_mem_cons.mpr ⟨lw_p5, List.forall_mem_cons.mpr ⟨lw_p6, List.forall_mem_cons.mpr ⟨lw_p7, List.forall_mem_cons.mpr ⟨lw_p8, List.forall_mem_cons.mpr ⟨lw_p9, List.forall_mem_cons.mpr ⟨lw_p10, List.forall_mem_cons.mpr ⟨lw_p11, List.forall_mem_cons.mpr ⟨lw_p12, List.forall_mem_cons.mpr ⟨lw_p13, List.forall_mem_cons.mpr ⟨lw_p14, List.forall_mem_cons.mpr ⟨lw_p15, fun _ h => absurd h List.not_mem_nil⟩⟩⟩⟩⟩⟩⟩⟩⟩⟩⟩⟩⟩⟩⟩⟩
theorem lw_p16 : lw_okq (⟨"SlipHouse$Books", "gapAhead", "(II)I"⟩, 9) := ⟨⟨by decide +kernel, by decide +kernel⟩, List.mem_of_getElem? (i := 39) (by decide +kernel), List.mem_of_getElem? (i := 705) (by decide +kernel), List.mem_of_getElem? (i := 706) (by decide +kernel)⟩
theorem lw_p17 : lw_okq (⟨"SlipHouse$Witnesses", "hasOwn", "(I)Z"⟩, 10) := ⟨⟨by decide +kernel, by decide +kernel⟩, List.mem_of_getElem? (i := 201) (by decide +kernel), List.mem_of_getElem? (i := 730) (by decide +kernel), List.mem_of_getElem? (i := 731) (by decide +kernel)⟩
theorem lw_p18 : lw_okq (⟨"SlipHouse", "isInDoubt", "(I)Z"⟩, 10) := ⟨⟨by decide +kernel, by decide +kernel⟩, List.mem_of_getElem? (i := 16) (by decide +kernel), List.mem_of_getElem? (i := 740) (by decide +kernel), List.mem_of_getElem? (i := 741) (by decide +kernel)⟩
theorem lw_p19 : lw_okq (⟨"SlipHouse$Editions", "wasThere", "(II)Z"⟩, 5) := ⟨⟨by decide +kernel, by decide +kernel⟩, List.mem_of_getElem? (i := 268) (by decide +kernel), List.mem_of_getElem? (i := 778) (by decide +kernel), List.mem_of_getElem? (i := 779) (by decide +kernel)⟩
theorem lw_p20 : lw_okq (⟨"SlipHouse$Printer", "addWord", "(J)V"⟩, 8) := ⟨⟨by decide +kernel, by decide +kernel⟩, List.mem_of_getElem? (i := 293) (by decide +kernel), List.mem_of_getElem? (i := 811) (by decide +kernel), List.mem_of_getElem? (i := 812) (by decide +kernel)⟩
theorem lw_p21 : lw_okq (⟨"SlipHouse$Printer", "addByte", "(I)V"⟩, 8) := ⟨⟨by decide +kernel, by decide +kernel⟩, List.mem_of_getElem? (i := 293) (by decide +kernel), List.mem_of_getElem? (i := 817) (by decide +kernel), List.mem_of_getElem? (i := 818) (by decide +kernel)⟩
theorem lw_p22 : lw_okq (⟨"SlipHouse$Printer", "senseAt", "(III)I"⟩, 8) := ⟨⟨by decide +kernel, by decide +kernel⟩, List.mem_of_getElem? (i := 293) (by decide +kernel), List.mem_of_getElem? (i := 821) (by decide +kernel), List.mem_of_getElem? (i := 822) (by decide +kernel)⟩
theorem lw_p23 : lw_okq (⟨"SlipHouse$Printer", "addSense", "(I)V"⟩, 8) := ⟨⟨by decide +kernel, by decide +kernel⟩, List.mem_of_getElem? (i := 293) (by decide +kernel), List.mem_of_getElem? (i := 826) (by decide +kernel), List.mem_of_getElem? (i := 827) (by decide +kernel)⟩
theorem lw_p24 : lw_okq (⟨"SlipHouse$Printer", "addMark", "(I)V"⟩, 8) := ⟨⟨by decide +kernel, by decide +kernel⟩, List.mem_of_getElem? (i := 293) (by decide +kernel), List.mem_of_getElem? (i := 830) (by decide +kernel), List.mem_of_getElem? (i := 831) (by decide +kernel)⟩
theorem lw_p25 : lw_okq (⟨"SlipHouse$Printer", "addNumber", "(I)V"⟩, 8) := ⟨⟨by decide +kernel, by decide +kernel⟩, List.mem_of_getElem? (i := 293) (by decide +kernel), List.mem_of_getElem? (i := 834) (by decide +kernel), List.mem_of_getElem? (i := 835) (by decide +kernel)⟩
theorem lw_p26 : lw_okq (⟨"SlipHouse$Printer", "addWitnesses", "(I)V"⟩, 8) := ⟨⟨by decide +kernel, by decide +kernel⟩, List.mem_of_getElem? (i := 293) (by decide +kernel), List.mem_of_getElem? (i := 838) (by decide +kernel), List.mem_of_getElem? (i := 839) (by decide +kernel)⟩
theorem lw_p27 : lw_okq (⟨"SlipHouse$Printer", "addPointer", "(I)V"⟩, 8) := ⟨⟨by decide +kernel, by decide +kernel⟩, List.mem_of_getElem? (i := 293) (by decide +kernel), List.mem_of_getElem? (i := 842) (by decide +kernel), List.mem_of_getElem? (i := 843) (by decide +kernel)⟩
theorem lw_p28 : lw_okq (⟨"SlipHouse$Printer", "senseBehind", "(I)I"⟩, 8) := ⟨⟨by decide +kernel, by decide +kernel⟩, List.mem_of_getElem? (i := 293) (by decide +kernel), List.mem_of_getElem? (i := 846) (by decide +kernel), List.mem_of_getElem? (i := 847) (by decide +kernel)⟩
theorem lw_p29 : lw_okq (⟨"SlipHouse$Printer", "addHeap", "(I)V"⟩, 8) := ⟨⟨by decide +kernel, by decide +kernel⟩, List.mem_of_getElem? (i := 293) (by decide +kernel), List.mem_of_getElem? (i := 851) (by decide +kernel), List.mem_of_getElem? (i := 852) (by decide +kernel)⟩
theorem lw_p30 : lw_okq (⟨"SlipHouse", "slipsInDoubt", "()I"⟩, 10) := ⟨⟨by decide +kernel, by decide +kernel⟩, List.mem_of_getElem? (i := 16) (by decide +kernel), List.mem_of_getElem? (i := 871) (by decide +kernel), List.mem_of_getElem? (i := 872) (by decide +kernel)⟩
theorem lw_p31 : lw_okq (⟨"SlipHouse", "flaws", "()I"⟩, 10) := ⟨⟨by decide +kernel, by decide +kernel⟩, List.mem_of_getElem? (i := 16) (by decide +kernel), List.mem_of_getElem? (i := 875) (by decide +kernel), List.mem_of_getElem? (i := 876) (by decide +kernel)⟩
def lw_privs_2 : List (MethodName × Nat) := [(⟨"SlipHouse$Books", "gapAhead", "(II)I"⟩, 9), (⟨"SlipHouse$Witnesses", "hasOwn", "(I)Z"⟩, 10), (⟨"SlipHouse", "isInDoubt", "(I)Z"⟩, 10), (⟨"SlipHouse$Editions", "wasThere", "(II)Z"⟩, 5), (⟨"SlipHouse$Printer", "addWord", "(J)V"⟩, 8), (⟨"SlipHouse$Printer", "addByte", "(I)V"⟩, 8), (⟨"SlipHouse$Printer", "senseAt", "(III)I"⟩, 8), (⟨"SlipHouse$Printer", "addSense", "(I)V"⟩, 8), (⟨"SlipHouse$Printer", "addMark", "(I)V"⟩, 8), (⟨"SlipHouse$Printer", "addNumber", "(I)V"⟩, 8), (⟨"SlipHouse$Printer", "addWitnesses", "(I)V"⟩, 8), (⟨"SlipHouse$Printer", "addPointer", "(I)V"⟩, 8), (⟨"SlipHouse$Printer", "senseBehind", "(I)I"⟩, 8), (⟨"SlipHouse$Printer", "addHeap", "(I)V"⟩, 8), (⟨"SlipHouse", "slipsInDoubt", "()I"⟩, 10), (⟨"SlipHouse", "flaws", "()I"⟩, 10)]
theorem lw_r2 : ∀ q ∈ lw_privs_2, lw_okq q := List.forall_mem_cons.mpr ⟨lw_p16, List.forall_mem_cons.mpr ⟨lw_p17, List.forall_mem_cons.mpr ⟨lw_p18, List.forall_mem_cons.mpr ⟨lw_p19, List.forall_mem_cons.mpr ⟨lw_p20, List.forall_mem_cons.mpr ⟨lw_p21, List.forall_mem_cons.mpr ⟨lw_p22, List.forall_mem_cons.mpr ⟨lw_p23, List.forall_mem_cons.mpr ⟨lw_p24, List.forall_mem_cons.mpr ⟨lw_p25, List.forall_mem_cons.mpr ⟨lw_p26, List.forall_mem_cons.mpr ⟨lw_p27, List.forall_mem_cons.mpr ⟨lw_p28, List.forall_mem_cons.mpr ⟨lw_p29, List.forall_mem_cons.mpr ⟨lw_p30, List.forall_mem_cons.mpr ⟨lw_p31, fun _ h => absurd h List.not_mem_nil⟩⟩⟩⟩⟩⟩⟩⟩⟩⟩⟩⟩⟩⟩⟩⟩
theorem lw_p32 : lw_okq (⟨"SlipHouseModel", "types", "(I)V"⟩, 44) := ⟨⟨by decide +kernel, by decide +kernel⟩, List.mem_of_getElem? (i := 879) (by decide +kernel), List.mem_of_getElem? (i := 1023) (by decide +kernel), List.mem_of_getElem? (i := 1024) (by decide +kernel)⟩
theorem lw_p33 : lw_okq (⟨"SlipHouseModel", "tightens", "()Z"⟩, 44) := ⟨⟨by decide +kernel, by decide +kernel⟩, List.mem_of_getElem? (i := 879) (by decide +kernel), List.mem_of_getElem? (i := 1034) (by decide +kernel), List.mem_of_getElem? (i := 1035) (by decide +kernel)⟩
theorem lw_p34 : lw_okq (⟨"SlipHouseModel", "isBook", "(I)Z"⟩, 44) := ⟨⟨by decide +kernel, by decide +kernel⟩, List.mem_of_getElem? (i := 879) (by decide +kernel), List.mem_of_getElem? (i := 1042) (by decide +kernel), List.mem_of_getElem? (i := 1043) (by decide +kernel)⟩
theorem lw_p35 : lw_okq (⟨"SlipHouseModel", "closes", "()V"⟩, 44) := ⟨⟨by decide +kernel, by decide +kernel⟩, List.mem_of_getElem? (i := 879) (by decide +kernel), List.mem_of_getElem? (i := 1046) (by decide +kernel), List.mem_of_getElem? (i := 1047) (by decide +kernel)⟩
theorem lw_p36 : lw_okq (⟨"SlipHouseModel", "isWordSize", "(I)Z"⟩, 44) := ⟨⟨by decide +kernel, by decide +kernel⟩, List.mem_of_getElem? (i := 879) (by decide +kernel), List.mem_of_getElem? (i := 1058) (by decide +kernel), List.mem_of_getElem? (i := 1059) (by decide +kernel)⟩
theorem lw_p37 : lw_okq (⟨"SlipHouseModel", "takes", "(I)V"⟩, 44) := ⟨⟨by decide +kernel, by decide +kernel⟩, List.mem_of_getElem? (i := 879) (by decide +kernel), List.mem_of_getElem? (i := 1062) (by decide +kernel), List.mem_of_getElem? (i := 1063) (by decide +kernel)⟩
theorem lw_p38 : lw_okq (⟨"SlipHouseModel", "word", "(II)J"⟩, 44) := ⟨⟨by decide +kernel, by decide +kernel⟩, List.mem_of_getElem? (i := 879) (by decide +kernel), List.mem_of_getElem? (i := 1066) (by decide +kernel), List.mem_of_getElem? (i := 1067) (by decide +kernel)⟩
theorem lw_p39 : lw_okq (⟨"SlipHouseModel", "lays", "(IJII)V"⟩, 44) := ⟨⟨by decide +kernel, by decide +kernel⟩, List.mem_of_getElem? (i := 879) (by decide +kernel), List.mem_of_getElem? (i := 1074) (by decide +kernel), List.mem_of_getElem? (i := 1075) (by decide +kernel)⟩
theorem lw_p40 : lw_okq (⟨"SlipHouseModel", "isEntry", "(I)Z"⟩, 44) := ⟨⟨by decide +kernel, by decide +kernel⟩, List.mem_of_getElem? (i := 879) (by decide +kernel), List.mem_of_getElem? (i := 1082) (by decide +kernel), List.mem_of_getElem? (i := 1083) (by decide +kernel)⟩
theorem lw_p41 : lw_okq (⟨"SlipHouseModel", "isSlip", "(I)Z"⟩, 44) := ⟨⟨by decide +kernel, by decide +kernel⟩, List.mem_of_getElem? (i := 879) (by decide +kernel), List.mem_of_getElem? (i := 1094) (by decide +kernel), List.mem_of_getElem? (i := 1095) (by decide +kernel)⟩
theorem lw_p42 : lw_okq (⟨"SlipHouseModel", "isFitting", "(II)Z"⟩, 44) := ⟨⟨by decide +kernel, by decide +kernel⟩, List.mem_of_getElem? (i := 879) (by decide +kernel), List.mem_of_getElem? (i := 1098) (by decide +kernel), List.mem_of_getElem? (i := 1099) (by decide +kernel)⟩
theorem lw_p43 : lw_okq (⟨"SlipHouseModel", "isLed", "(II)Z"⟩, 44) := ⟨⟨by decide +kernel, by decide +kernel⟩, List.mem_of_getElem? (i := 879) (by decide +kernel), List.mem_of_getElem? (i := 1102) (by decide +kernel), List.mem_of_getElem? (i := 1103) (by decide +kernel)⟩
theorem lw_p44 : lw_okq (⟨"SlipHouseModel", "leads", "(JJ)Z"⟩, 44) := ⟨⟨by decide +kernel, by decide +kernel⟩, List.mem_of_getElem? (i := 879) (by decide +kernel), List.mem_of_getElem? (i := 1106) (by decide +kernel), List.mem_of_getElem? (i := 1107) (by decide +kernel)⟩
theorem lw_p45 : lw_okq (⟨"SlipHouseModel", "leadsByOne", "(JJ)Z"⟩, 44) := ⟨⟨by decide +kernel, by decide +kernel⟩, List.mem_of_getElem? (i := 879) (by decide +kernel), List.mem_of_getElem? (i := 1110) (by decide +kernel), List.mem_of_getElem? (i := 1111) (by decide +kernel)⟩
theorem lw_p46 : lw_okq (⟨"SlipHouseModel", "changed", "(JII)J"⟩, 44) := ⟨⟨by decide +kernel, by decide +kernel⟩, List.mem_of_getElem? (i := 879) (by decide +kernel), List.mem_of_getElem? (i := 1114) (by decide +kernel), List.mem_of_getElem? (i := 1115) (by decide +kernel)⟩
theorem lw_p47 : lw_okq (⟨"SlipHouseModel", "fitting", "(I)I"⟩, 44) := ⟨⟨by decide +kernel, by decide +kernel⟩, List.mem_of_getElem? (i := 879) (by decide +kernel), List.mem_of_getElem? (i := 1125) (by decide +kernel), List.mem_of_getElem? (i := 1126) (by decide +kernel)⟩
def lw_privs_3 : List (MethodName × Nat) := [(⟨"SlipHouseModel", "types", "(I)V"⟩, 44), (⟨"SlipHouseModel", "tightens", "()Z"⟩, 44), (⟨"SlipHouseModel", "isBook", "(I)Z"⟩, 44), (⟨"SlipHouseModel", "closes", "()V"⟩, 44), (⟨"SlipHouseModel", "isWordSize", "(I)Z"⟩, 44), (⟨"SlipHouseModel", "takes", "(I)V"⟩, 44), (⟨"SlipHouseModel", "word", "(II)J"⟩, 44), (⟨"SlipHouseModel", "lays", "(IJII)V"⟩, 44), (⟨"SlipHouseModel", "isEntry", "(I)Z"⟩, 44), (⟨"SlipHouseModel", "isSlip", "(I)Z"⟩, 44), (⟨"SlipHouseModel", "isFitting", "(II)Z"⟩, 44), (⟨"SlipHouseModel", "isLed", "(II)Z"⟩, 44), (⟨"SlipHouseModel", "leads", "(JJ)Z"⟩, 44), (⟨"SlipHouseModel", "leadsByOne", "(JJ)Z"⟩, 44), (⟨"SlipHouseModel", "changed", "(JII)J"⟩, 44), (⟨"SlipHouseModel", "fitting", "(I)I"⟩, 44)]
theorem lw_r3 : ∀ q ∈ lw_privs_3, lw_okq q := List.forall_mem_cons.mpr ⟨lw_p32, List.forall_mem_cons.mpr ⟨lw_p33, List.forall_mem_cons.mpr ⟨lw_p34, List.forall_mem_cons.mpr ⟨lw_p35, List.forall_mem_cons.mpr ⟨lw_p36, List.forall_mem_cons.mpr ⟨lw_p37, List.forall_mem_cons.mpr ⟨lw_p38, List.forall_mem_cons.mpr ⟨lw_p39, List.forall_mem_cons.mpr ⟨lw_p40, List.forall_mem_cons.mpr ⟨lw_p41, List.forall_mem_cons.mpr ⟨lw_p42, List.forall_mem_cons.mpr ⟨lw_p43, List.forall_mem_cons.mpr ⟨lw_p44, List.forall_mem_cons.mpr ⟨lw_p45, List.forall_mem_cons.mpr ⟨lw_p46, List.forall_mem_cons.mpr ⟨lw_p47, fun _ h => absurd h List.not_mem_nil⟩⟩⟩⟩⟩⟩⟩⟩⟩⟩⟩⟩⟩⟩⟩⟩
theorem lw_p48 : lw_okq (⟨"SlipHouseModel", "isSense", "(I)Z"⟩, 44) := ⟨⟨by decide +kernel, by decide +kernel⟩, List.mem_of_getElem? (i := 879) (by decide +kernel), List.mem_of_getElem? (i := 1133) (by decide +kernel), List.mem_of_getElem? (i := 1134) (by decide +kernel)⟩
theorem lw_p49 : lw_okq (⟨"SlipHouseModel", "makes", "(II)I"⟩, 44) := ⟨⟨by decide +kernel, by decide +kernel⟩, List.mem_of_getElem? (i := 879) (by decide +kernel), List.mem_of_getElem? (i := 1137) (by decide +kernel), List.mem_of_getElem? (i := 1138) (by decide +kernel)⟩
theorem lw_p50 : lw_okq (⟨"SlipHouseModel", "isWithin", "(II)Z"⟩, 44) := ⟨⟨by decide +kernel, by decide +kernel⟩, List.mem_of_getElem? (i := 879) (by decide +kernel), List.mem_of_getElem? (i := 1149) (by decide +kernel), List.mem_of_getElem? (i := 1150) (by decide +kernel)⟩
theorem lw_p51 : lw_okq (⟨"SlipHouseModel", "goes", "(I)V"⟩, 44) := ⟨⟨by decide +kernel, by decide +kernel⟩, List.mem_of_getElem? (i := 879) (by decide +kernel), List.mem_of_getElem? (i := 1157) (by decide +kernel), List.mem_of_getElem? (i := 1158) (by decide +kernel)⟩
theorem lw_p52 : lw_okq (⟨"SlipHouseModel", "removes", "(I)V"⟩, 44) := ⟨⟨by decide +kernel, by decide +kernel⟩, List.mem_of_getElem? (i := 879) (by decide +kernel), List.mem_of_getElem? (i := 1161) (by decide +kernel), List.mem_of_getElem? (i := 1162) (by decide +kernel)⟩
theorem lw_p53 : lw_okq (⟨"SlipHouseModel", "own", "(I)I"⟩, 44) := ⟨⟨by decide +kernel, by decide +kernel⟩, List.mem_of_getElem? (i := 879) (by decide +kernel), List.mem_of_getElem? (i := 1173) (by decide +kernel), List.mem_of_getElem? (i := 1174) (by decide +kernel)⟩
theorem lw_p54 : lw_okq (⟨"SlipHouseModel", "below", "(I)I"⟩, 44) := ⟨⟨by decide +kernel, by decide +kernel⟩, List.mem_of_getElem? (i := 879) (by decide +kernel), List.mem_of_getElem? (i := 1177) (by decide +kernel), List.mem_of_getElem? (i := 1178) (by decide +kernel)⟩
theorem lw_p55 : lw_okq (⟨"SlipHouseModel", "witnesses", "(IZ)V"⟩, 44) := ⟨⟨by decide +kernel, by decide +kernel⟩, List.mem_of_getElem? (i := 879) (by decide +kernel), List.mem_of_getElem? (i := 1193) (by decide +kernel), List.mem_of_getElem? (i := 1194) (by decide +kernel)⟩
theorem lw_p56 : lw_okq (⟨"SlipHouseModel", "isWitness", "(IIZ)Z"⟩, 44) := ⟨⟨by decide +kernel, by decide +kernel⟩, List.mem_of_getElem? (i := 879) (by decide +kernel), List.mem_of_getElem? (i := 1197) (by decide +kernel), List.mem_of_getElem? (i := 1198) (by decide +kernel)⟩
theorem lw_p57 : lw_okq (⟨"SlipHouseModel", "gap", "(I)I"⟩, 44) := ⟨⟨by decide +kernel, by decide +kernel⟩, List.mem_of_getElem? (i := 879) (by decide +kernel), List.mem_of_getElem? (i := 1201) (by decide +kernel), List.mem_of_getElem? (i := 1202) (by decide +kernel)⟩
theorem lw_p58 : lw_okq (⟨"SlipHouseModel", "place", "(I)I"⟩, 44) := ⟨⟨by decide +kernel, by decide +kernel⟩, List.mem_of_getElem? (i := 879) (by decide +kernel), List.mem_of_getElem? (i := 1205) (by decide +kernel), List.mem_of_getElem? (i := 1206) (by decide +kernel)⟩
theorem lw_p59 : lw_okq (⟨"SlipHouseModel", "isAhead", "(II)Z"⟩, 44) := ⟨⟨by decide +kernel, by decide +kernel⟩, List.mem_of_getElem? (i := 879) (by decide +kernel), List.mem_of_getElem? (i := 1209) (by decide +kernel), List.mem_of_getElem? (i := 1210) (by decide +kernel)⟩
theorem lw_p60 : lw_okq (⟨"SlipHouseModel", "depth", "(I)I"⟩, 44) := ⟨⟨by decide +kernel, by decide +kernel⟩, List.mem_of_getElem? (i := 879) (by decide +kernel), List.mem_of_getElem? (i := 1213) (by decide +kernel), List.mem_of_getElem? (i := 1214) (by decide +kernel)⟩
theorem lw_p61 : lw_okq (⟨"SlipHouseModel", "isOlder", "(IIZ)Z"⟩, 44) := ⟨⟨by decide +kernel, by decide +kernel⟩, List.mem_of_getElem? (i := 879) (by decide +kernel), List.mem_of_getElem? (i := 1221) (by decide +kernel), List.mem_of_getElem? (i := 1222) (by decide +kernel)⟩
theorem lw_p62 : lw_okq (⟨"SlipHouseModel", "isAheadOfAll", "(IIZ)Z"⟩, 44) := ⟨⟨by decide +kernel, by decide +kernel⟩, List.mem_of_getElem? (i := 879) (by decide +kernel), List.mem_of_getElem? (i := 1225) (by decide +kernel), List.mem_of_getElem? (i := 1226) (by decide +kernel)⟩
theorem lw_p63 : lw_okq (⟨"SlipHouseModel", "flaws", "(I)I"⟩, 44) := ⟨⟨by decide +kernel, by decide +kernel⟩, List.mem_of_getElem? (i := 879) (by decide +kernel), List.mem_of_getElem? (i := 1233) (by decide +kernel), List.mem_of_getElem? (i := 1234) (by decide +kernel)⟩
def lw_privs_4 : List (MethodName × Nat) := [(⟨"SlipHouseModel", "isSense", "(I)Z"⟩, 44), (⟨"SlipHouseModel", "makes", "(II)I"⟩, 44), (⟨"SlipHouseModel", "isWithin", "(II)Z"⟩, 44), (⟨"SlipHouseModel", "goes", "(I)V"⟩, 44), (⟨"SlipHouseModel", "removes", "(I)V"⟩, 44), (⟨"SlipHouseModel", "own", "(I)I"⟩, 44), (⟨"SlipHouseModel", "below", "(I)I"⟩, 44), (⟨"SlipHouseModel", "witnesses", "(IZ)V"⟩, 44), (⟨"SlipHouseModel", "isWitness", "(IIZ)Z"⟩, 44), (⟨"SlipHouseModel", "gap", "(I)I"⟩, 44), (⟨"SlipHouseModel", "place", "(I)I"⟩, 44), (⟨"SlipHouseModel", "isAhead", "(II)Z"⟩, 44), (⟨"SlipHouseModel", "depth", "(I)I"⟩, 44), (⟨"SlipHouseModel", "isOlder", "(IIZ)Z"⟩, 44), (⟨"SlipHouseModel", "isAheadOfAll", "(IIZ)Z"⟩, 44), (⟨"SlipHouseModel", "flaws", "(I)I"⟩, 44)]
theorem lw_r4 : ∀ q ∈ lw_privs_4, lw_okq q := List.forall_mem_cons.mpr ⟨lw_p48, List.forall_mem_cons.mpr ⟨lw_p49, List.forall_mem_cons.mpr ⟨lw_p50, List.forall_mem_cons.mpr ⟨lw_p51, List.forall_mem_cons.mpr ⟨lw_p52, List.forall_mem_cons.mpr ⟨lw_p53, List.forall_mem_cons.mpr ⟨lw_p54, List.forall_mem_cons.mpr ⟨lw_p55, List.forall_mem_cons.mpr ⟨lw_p56, List.forall_mem_cons.mpr ⟨lw_p57, List.forall_mem_cons.mpr ⟨lw_p58, List.forall_mem_cons.mpr ⟨lw_p59, List.forall_mem_cons.mpr ⟨lw_p60, List.forall_mem_cons.mpr ⟨lw_p61, List.forall_mem_cons.mpr ⟨lw_p62, List.forall_mem_cons.mpr ⟨lw_p63, fun _ h => absurd h List.not_mem_nil⟩⟩⟩⟩⟩⟩⟩⟩⟩⟩⟩⟩⟩⟩⟩⟩
theorem lw_p64 : lw_okq (⟨"SlipHouseModel", "isDoubted", "(I)Z"⟩, 44) := ⟨⟨by decide +kernel, by decide +kernel⟩, List.mem_of_getElem? (i := 879) (by decide +kernel), List.mem_of_getElem? (i := 1241) (by decide +kernel), List.mem_of_getElem? (i := 1242) (by decide +kernel)⟩
theorem lw_p65 : lw_okq (⟨"SlipHouseModel", "loosePointers", "()I"⟩, 44) := ⟨⟨by decide +kernel, by decide +kernel⟩, List.mem_of_getElem? (i := 879) (by decide +kernel), List.mem_of_getElem? (i := 1252) (by decide +kernel), List.mem_of_getElem? (i := 1253) (by decide +kernel)⟩
theorem lw_p66 : lw_okq (⟨"SlipHouseModel", "isEdition", "(I)Z"⟩, 44) := ⟨⟨by decide +kernel, by decide +kernel⟩, List.mem_of_getElem? (i := 879) (by decide +kernel), List.mem_of_getElem? (i := 1260) (by decide +kernel), List.mem_of_getElem? (i := 1261) (by decide +kernel)⟩
theorem lw_p67 : lw_okq (⟨"SlipHouseModel", "letters", "(J)V"⟩, 44) := ⟨⟨by decide +kernel, by decide +kernel⟩, List.mem_of_getElem? (i := 879) (by decide +kernel), List.mem_of_getElem? (i := 1272) (by decide +kernel), List.mem_of_getElem? (i := 1273) (by decide +kernel)⟩
theorem lw_p68 : lw_okq (⟨"SlipHouseModel", "puts", "(I)V"⟩, 44) := ⟨⟨by decide +kernel, by decide +kernel⟩, List.mem_of_getElem? (i := 879) (by decide +kernel), List.mem_of_getElem? (i := 1276) (by decide +kernel), List.mem_of_getElem? (i := 1277) (by decide +kernel)⟩
theorem lw_p69 : lw_okq (⟨"SlipHouseModel", "at", "(III)I"⟩, 44) := ⟨⟨by decide +kernel, by decide +kernel⟩, List.mem_of_getElem? (i := 879) (by decide +kernel), List.mem_of_getElem? (i := 1280) (by decide +kernel), List.mem_of_getElem? (i := 1281) (by decide +kernel)⟩
theorem lw_p70 : lw_okq (⟨"SlipHouseModel", "prints", "(I)V"⟩, 44) := ⟨⟨by decide +kernel, by decide +kernel⟩, List.mem_of_getElem? (i := 879) (by decide +kernel), List.mem_of_getElem? (i := 1284) (by decide +kernel), List.mem_of_getElem? (i := 1285) (by decide +kernel)⟩
theorem lw_p71 : lw_okq (⟨"SlipHouseModel", "mark", "(I)V"⟩, 44) := ⟨⟨by decide +kernel, by decide +kernel⟩, List.mem_of_getElem? (i := 879) (by decide +kernel), List.mem_of_getElem? (i := 1288) (by decide +kernel), List.mem_of_getElem? (i := 1289) (by decide +kernel)⟩
theorem lw_p72 : lw_okq (⟨"SlipHouseModel", "number", "(I)V"⟩, 44) := ⟨⟨by decide +kernel, by decide +kernel⟩, List.mem_of_getElem? (i := 879) (by decide +kernel), List.mem_of_getElem? (i := 1292) (by decide +kernel), List.mem_of_getElem? (i := 1293) (by decide +kernel)⟩
theorem lw_p73 : lw_okq (⟨"SlipHouseModel", "heap", "(I)I"⟩, 44) := ⟨⟨by decide +kernel, by decide +kernel⟩, List.mem_of_getElem? (i := 879) (by decide +kernel), List.mem_of_getElem? (i := 1296) (by decide +kernel), List.mem_of_getElem? (i := 1297) (by decide +kernel)⟩
def lw_privs_5 : List (MethodName × Nat) := [(⟨"SlipHouseModel", "isDoubted", "(I)Z"⟩, 44), (⟨"SlipHouseModel", "loosePointers", "()I"⟩, 44), (⟨"SlipHouseModel", "isEdition", "(I)Z"⟩, 44), (⟨"SlipHouseModel", "letters", "(J)V"⟩, 44), (⟨"SlipHouseModel", "puts", "(I)V"⟩, 44), (⟨"SlipHouseModel", "at", "(III)I"⟩, 44), (⟨"SlipHouseModel", "prints", "(I)V"⟩, 44), (⟨"SlipHouseModel", "mark", "(I)V"⟩, 44), (⟨"SlipHouseModel", "number", "(I)V"⟩, 44), (⟨"SlipHouseModel", "heap", "(I)I"⟩, 44)]
theorem lw_r5 : ∀ q ∈ lw_privs_5, lw_okq q := List.forall_mem_cons.mpr ⟨lw_p64, List.forall_mem_cons.mpr ⟨lw_p65, List.forall_mem_cons.mpr ⟨lw_p66, List.forall_mem_cons.mpr ⟨lw_p67, List.forall_mem_cons.mpr ⟨lw_p68, List.forall_mem_cons.mpr ⟨lw_p69, List.forall_mem_cons.mpr ⟨lw_p70, List.forall_mem_cons.mpr ⟨lw_p71, List.forall_mem_cons.mpr ⟨lw_p72, List.forall_mem_cons.mpr ⟨lw_p73, fun _ h => absurd h List.not_mem_nil⟩⟩⟩⟩⟩⟩⟩⟩⟩⟩
def lw_privs : List (MethodName × Nat) := lw_privs_1 ++ (lw_privs_2 ++ (lw_privs_3 ++ (lw_privs_4 ++ (lw_privs_5))))
def lw_tbl : List Cond := k2_sels lw_privs ++ tables_1
theorem lw_privs_ok : ∀ q ∈ lw_privs, lw_okq q := by
  show ∀ q ∈ lw_privs_1 ++ (lw_privs_2 ++ (lw_privs_3 ++ (lw_privs_4 ++ (lw_privs_5)))), lw_okq q
  exact List.forall_mem_append.mpr ⟨lw_r1, List.forall_mem_append.mpr ⟨lw_r2, List.forall_mem_append.mpr ⟨lw_r3, List.forall_mem_append.mpr ⟨lw_r4, lw_r5⟩⟩⟩⟩
/-! ===== BEGIN words of one list among another's, by their places ===== -/
theorem goodIn_r {big : List Cond} (ws : List Cond) (ps : List Nat) (hp : ws = ps.filterMap (fun i => big[i]?)) (h : ws.all goodWord = true) : GoodIn big ws := by
  intro w hw
  have h1 := List.all_eq_true.mp h w hw
  rw [hp] at hw
  obtain ⟨i, -, hi⟩ := List.mem_filterMap.mp hw
  have hm : w ∈ big := by first | exact List.mem_of_getElem? hi | exact List.getElem?_mem hi
  exact ⟨hm, good_of_word h1⟩
theorem goodIn_app {big a b : List Cond} (ha : GoodIn big a) (hb : GoodIn big b) : GoodIn big (a ++ b) := fun w h => (List.mem_append.mp h).elim (ha w) (hb w)
theorem goodIn_ca {big a b : List Cond} {c : Cond} (ha : GoodIn big (c :: a)) (hb : GoodIn big b) : GoodIn big (c :: (a ++ b)) := fun w h => (List.mem_cons.mp h).elim (fun e => ha w (List.mem_cons.mpr (Or.inl e))) (fun h => (List.mem_append.mp h).elim (fun h => ha w (List.mem_cons.mpr (Or.inr h))) (hb w))
theorem goodIn_sub {big ws : List Cond} (hm : ∀ w ∈ ws, w ∈ big) (h : ws.all goodWord = true) : GoodIn big ws := fun w hw => ⟨hm w hw, good_of_word (List.all_eq_true.mp h w hw)⟩
/-! ===== END ===== -/
def RX0 : String := "SlipHouse$Books"
def TX0 : u_T := fun k => match k with
  | 0 => ("SlipHouse$Books", "toldFrom", "[I", true)
  | 1 => ("SlipHouse$Books", "toldTo", "[I", true)
  | 2 => ("SlipHouse$Books", "first", "[I", true)
  | 3 => ("SlipHouse$Books", "last", "[I", true)
  | 4 => ("SlipHouse$Books", "behind", "[I", true)
  | 5 => ("SlipHouse$Books", "earlier", "[I", true)
  | 6 => ("SlipHouse$Books", "later", "[I", true)
  | 7 => ("SlipHouse$Books", "size", "I", false)
  | _ => ("SlipHouse$Books", "befores", "I", false)
def tyX0 : Nat → FieldType := fun k => match k with
  | 0 => .array .int
  | 1 => .array .int
  | 2 => .array .int
  | 3 => .array .int
  | 4 => .array .int
  | 5 => .array .int
  | 6 => .array .int
  | 7 => .int
  | _ => .int
abbrev wsX00 : List Cond := u_ws RX0 TX0 9
theorem nmX0 : ∀ a, a < 9 → ∀ b, b < 9 → a ≠ b → (TX0 a).2.1 ≠ (TX0 b).2.1 := by decide +kernel
theorem tyX0_ok : ∀ k, k < 9 → parseFieldDescriptor (TX0 k).2.2.1 = some (tyX0 k) := by decide +kernel
abbrev cX0_init : ByteArray := prog_2_method_1_code
def yX0_init : MethodName := ⟨RX0, "<init>", "()V"⟩
abbrev cX0_has : ByteArray := prog_2_method_2_code
def yX0_has : MethodName := ⟨RX0, "has", "(I)Z"⟩
abbrev cX0_add : ByteArray := prog_2_method_3_code
def yX0_add : MethodName := ⟨RX0, "add", "(II)I"⟩
abbrev cX0_addBefore : ByteArray := prog_2_method_4_code
def yX0_addBefore : MethodName := ⟨RX0, "addBefore", "(II)Z"⟩
abbrev cX0_wasTold : ByteArray := prog_2_method_5_code
def yX0_wasTold : MethodName := ⟨RX0, "wasTold", "(II)Z"⟩
abbrev cX0_tighten : ByteArray := prog_2_method_6_code
def yX0_tighten : MethodName := ⟨RX0, "tighten", "()Z"⟩
abbrev cX0_tightenOnce : ByteArray := prog_2_method_7_code
def yX0_tightenOnce : MethodName := ⟨RX0, "tightenOnce", "()Z"⟩
abbrev cX0_allHaveYears : ByteArray := prog_2_method_8_code
def yX0_allHaveYears : MethodName := ⟨RX0, "allHaveYears", "()Z"⟩
abbrev cX0_setBehind : ByteArray := prog_2_method_9_code
def yX0_setBehind : MethodName := ⟨RX0, "setBehind", "(II)V"⟩
abbrev cX0_isIn : ByteArray := prog_2_method_10_code
def yX0_isIn : MethodName := ⟨RX0, "isIn", "(II)Z"⟩
abbrev cX0_least : ByteArray := prog_2_method_11_code
def yX0_least : MethodName := ⟨RX0, "least", "([II)I"⟩
abbrev cX0_greatest : ByteArray := prog_2_method_12_code
def yX0_greatest : MethodName := ⟨RX0, "greatest", "([II)I"⟩
abbrev cX0_widestGap : ByteArray := prog_2_method_13_code
def yX0_widestGap : MethodName := ⟨RX0, "widestGap", "(I)I"⟩
abbrev cX0_gapAhead : ByteArray := prog_2_method_14_code
def yX0_gapAhead : MethodName := ⟨RX0, "gapAhead", "(II)I"⟩
abbrev cX0_areSurelyOlder : ByteArray := prog_2_method_15_code
def yX0_areSurelyOlder : MethodName := ⟨RX0, "areSurelyOlder", "(II)Z"⟩
def RX1 : String := "SlipHouse$Editions"
def TX1 : u_T := fun k => match k with
  | 0 => ("SlipHouse$Editions", "slips", "LSlipHouse$Slips;", true)
  | 1 => ("SlipHouse$Editions", "slipsIn", "[I", true)
  | 2 => ("SlipHouse$Editions", "entry", "[[I", true)
  | 3 => ("SlipHouse$Editions", "sense", "[[I", true)
  | _ => ("SlipHouse$Editions", "size", "I", false)
def tyX1 : Nat → FieldType := fun k => match k with
  | 0 => .object "SlipHouse$Slips"
  | 1 => .array .int
  | 2 => .array (.array .int)
  | 3 => .array (.array .int)
  | _ => .int
abbrev wsX10 : List Cond := u_ws RX1 TX1 5
theorem nmX1 : ∀ a, a < 5 → ∀ b, b < 5 → a ≠ b → (TX1 a).2.1 ≠ (TX1 b).2.1 := by decide +kernel
theorem tyX1_ok : ∀ k, k < 5 → parseFieldDescriptor (TX1 k).2.2.1 = some (tyX1 k) := by decide +kernel
abbrev cX1_init : ByteArray := prog_3_method_1_code
def yX1_init : MethodName := ⟨RX1, "<init>", "(LSlipHouse$Slips;)V"⟩
abbrev cX1_has : ByteArray := prog_3_method_2_code
def yX1_has : MethodName := ⟨RX1, "has", "(I)Z"⟩
abbrev cX1_add : ByteArray := prog_3_method_3_code
def yX1_add : MethodName := ⟨RX1, "add", "()I"⟩
abbrev cX1_entryOf : ByteArray := prog_3_method_4_code
def yX1_entryOf : MethodName := ⟨RX1, "entryOf", "(II)I"⟩
abbrev cX1_senseOf : ByteArray := prog_3_method_5_code
def yX1_senseOf : MethodName := ⟨RX1, "senseOf", "(II)I"⟩
abbrev cX1_wasThere : ByteArray := prog_3_method_6_code
def yX1_wasThere : MethodName := ⟨RX1, "wasThere", "(II)Z"⟩
abbrev cX1_isOtherwise : ByteArray := prog_3_method_7_code
def yX1_isOtherwise : MethodName := ⟨RX1, "isOtherwise", "(III)Z"⟩
def RX2 : String := "SlipHouse$Entries"
def TX2 : u_T := fun k => match k with
  | 0 => ("SlipHouse$Entries", "formsOf", "[I", true)
  | 1 => ("SlipHouse$Entries", "from", "[I", true)
  | 2 => ("SlipHouse$Entries", "to", "[I", true)
  | 3 => ("SlipHouse$Entries", "forms", "LSlipHouse$Words;", true)
  | _ => ("SlipHouse$Entries", "size", "I", false)
def tyX2 : Nat → FieldType := fun k => match k with
  | 0 => .array .int
  | 1 => .array .int
  | 2 => .array .int
  | 3 => .object "SlipHouse$Words"
  | _ => .int
abbrev wsX20 : List Cond := u_ws RX2 TX2 5
theorem nmX2 : ∀ a, a < 5 → ∀ b, b < 5 → a ≠ b → (TX2 a).2.1 ≠ (TX2 b).2.1 := by decide +kernel
theorem tyX2_ok : ∀ k, k < 5 → parseFieldDescriptor (TX2 k).2.2.1 = some (tyX2 k) := by decide +kernel
abbrev cX2_init : ByteArray := prog_4_method_1_code
def yX2_init : MethodName := ⟨RX2, "<init>", "(LSlipHouse$Rules;)V"⟩
abbrev cX2_formOf : ByteArray := prog_4_method_2_code
def yX2_formOf : MethodName := ⟨RX2, "formOf", "(II)I"⟩
abbrev cX2_has : ByteArray := prog_4_method_3_code
def yX2_has : MethodName := ⟨RX2, "has", "(I)Z"⟩
abbrev cX2_hasRoomForForm : ByteArray := prog_4_method_4_code
def yX2_hasRoomForForm : MethodName := ⟨RX2, "hasRoomForForm", "(I)Z"⟩
abbrev cX2_add : ByteArray := prog_4_method_5_code
def yX2_add : MethodName := ⟨RX2, "add", "(JII)I"⟩
abbrev cX2_addForm : ByteArray := prog_4_method_6_code
def yX2_addForm : MethodName := ⟨RX2, "addForm", "(IJII)I"⟩
abbrev cX2_isSpelledIn : ByteArray := prog_4_method_7_code
def yX2_isSpelledIn : MethodName := ⟨RX2, "isSpelledIn", "(III)Z"⟩
abbrev cX2_head : ByteArray := prog_4_method_8_code
def yX2_head : MethodName := ⟨RX2, "head", "(I)J"⟩
def RX3 : String := "SlipHouse$Pointers"
def TX3 : u_T := fun k => match k with
  | 0 => ("SlipHouse$Pointers", "from", "[I", true)
  | 1 => ("SlipHouse$Pointers", "to", "[I", true)
  | _ => ("SlipHouse$Pointers", "size", "I", false)
def tyX3 : Nat → FieldType := fun k => match k with
  | 0 => .array .int
  | 1 => .array .int
  | _ => .int
abbrev wsX30 : List Cond := u_ws RX3 TX3 3
theorem nmX3 : ∀ a, a < 3 → ∀ b, b < 3 → a ≠ b → (TX3 a).2.1 ≠ (TX3 b).2.1 := by decide +kernel
theorem tyX3_ok : ∀ k, k < 3 → parseFieldDescriptor (TX3 k).2.2.1 = some (tyX3 k) := by decide +kernel
abbrev cX3_init : ByteArray := prog_5_method_1_code
def yX3_init : MethodName := ⟨RX3, "<init>", "()V"⟩
abbrev cX3_has : ByteArray := prog_5_method_2_code
def yX3_has : MethodName := ⟨RX3, "has", "(I)Z"⟩
abbrev cX3_isLoose : ByteArray := prog_5_method_3_code
def yX3_isLoose : MethodName := ⟨RX3, "isLoose", "(I)Z"⟩
abbrev cX3_loose : ByteArray := prog_5_method_4_code
def yX3_loose : MethodName := ⟨RX3, "loose", "()I"⟩
abbrev cX3_add : ByteArray := prog_5_method_5_code
def yX3_add : MethodName := ⟨RX3, "add", "(II)I"⟩
abbrev cX3_remove : ByteArray := prog_5_method_6_code
def yX3_remove : MethodName := ⟨RX3, "remove", "(I)V"⟩
abbrev cX3_forget : ByteArray := prog_5_method_7_code
def yX3_forget : MethodName := ⟨RX3, "forget", "(I)V"⟩
def RX4 : String := "SlipHouse$Printer"
def TX4 : u_T := fun k => match k with
  | 0 => ("SlipHouse$Printer", "entries", "LSlipHouse$Entries;", true)
  | 1 => ("SlipHouse$Printer", "slips", "LSlipHouse$Slips;", true)
  | 2 => ("SlipHouse$Printer", "senses", "LSlipHouse$Senses;", true)
  | 3 => ("SlipHouse$Printer", "witnesses", "LSlipHouse$Witnesses;", true)
  | 4 => ("SlipHouse$Printer", "pointers", "LSlipHouse$Pointers;", true)
  | 5 => ("SlipHouse$Printer", "bytes", "[B", true)
  | 6 => ("SlipHouse$Printer", "way", "[I", true)
  | _ => ("SlipHouse$Printer", "size", "I", false)
def tyX4 : Nat → FieldType := fun k => match k with
  | 0 => .object "SlipHouse$Entries"
  | 1 => .object "SlipHouse$Slips"
  | 2 => .object "SlipHouse$Senses"
  | 3 => .object "SlipHouse$Witnesses"
  | 4 => .object "SlipHouse$Pointers"
  | 5 => .array .byte
  | 6 => .array .int
  | _ => .int
abbrev wsX40 : List Cond := u_ws RX4 TX4 8
theorem nmX4 : ∀ a, a < 8 → ∀ b, b < 8 → a ≠ b → (TX4 a).2.1 ≠ (TX4 b).2.1 := by decide +kernel
theorem tyX4_ok : ∀ k, k < 8 → parseFieldDescriptor (TX4 k).2.2.1 = some (tyX4 k) := by decide +kernel
abbrev cX4_init : ByteArray := prog_6_method_1_code
def yX4_init : MethodName := ⟨RX4, "<init>", "(LSlipHouse$Entries;LSlipHouse$Slips;LSlipHouse$Senses;LSlipHouse$Witnesses;LSlipHouse$Pointers;)V"⟩
abbrev cX4_byteAt : ByteArray := prog_6_method_2_code
def yX4_byteAt : MethodName := ⟨RX4, "byteAt", "(I)I"⟩
abbrev cX4_compose : ByteArray := prog_6_method_3_code
def yX4_compose : MethodName := ⟨RX4, "compose", "(I)I"⟩
abbrev cX4_senseAt : ByteArray := prog_6_method_4_code
def yX4_senseAt : MethodName := ⟨RX4, "senseAt", "(III)I"⟩
abbrev cX4_senseBehind : ByteArray := prog_6_method_5_code
def yX4_senseBehind : MethodName := ⟨RX4, "senseBehind", "(I)I"⟩
abbrev cX4_addSense : ByteArray := prog_6_method_6_code
def yX4_addSense : MethodName := ⟨RX4, "addSense", "(I)V"⟩
abbrev cX4_addMark : ByteArray := prog_6_method_7_code
def yX4_addMark : MethodName := ⟨RX4, "addMark", "(I)V"⟩
abbrev cX4_addWitnesses : ByteArray := prog_6_method_8_code
def yX4_addWitnesses : MethodName := ⟨RX4, "addWitnesses", "(I)V"⟩
abbrev cX4_addPointer : ByteArray := prog_6_method_9_code
def yX4_addPointer : MethodName := ⟨RX4, "addPointer", "(I)V"⟩
abbrev cX4_addHeap : ByteArray := prog_6_method_10_code
def yX4_addHeap : MethodName := ⟨RX4, "addHeap", "(I)V"⟩
abbrev cX4_addWord : ByteArray := prog_6_method_11_code
def yX4_addWord : MethodName := ⟨RX4, "addWord", "(J)V"⟩
abbrev cX4_addNumber : ByteArray := prog_6_method_12_code
def yX4_addNumber : MethodName := ⟨RX4, "addNumber", "(I)V"⟩
abbrev cX4_addByte : ByteArray := prog_6_method_13_code
def yX4_addByte : MethodName := ⟨RX4, "addByte", "(I)V"⟩
def RX5 : String := "SlipHouse$Rules"
def TX5 : u_T := fun k => match k with
  | 0 => ("SlipHouse$Rules", "old", "[J", true)
  | 1 => ("SlipHouse$Rules", "fresh", "[J", true)
  | _ => ("SlipHouse$Rules", "size", "I", false)
def tyX5 : Nat → FieldType := fun k => match k with
  | 0 => .array .long
  | 1 => .array .long
  | _ => .int
abbrev wsX50 : List Cond := u_ws RX5 TX5 3
theorem nmX5 : ∀ a, a < 3 → ∀ b, b < 3 → a ≠ b → (TX5 a).2.1 ≠ (TX5 b).2.1 := by decide +kernel
theorem tyX5_ok : ∀ k, k < 3 → parseFieldDescriptor (TX5 k).2.2.1 = some (tyX5 k) := by decide +kernel
abbrev cX5_init : ByteArray := prog_7_method_1_code
def yX5_init : MethodName := ⟨RX5, "<init>", "()V"⟩
abbrev cX5_add : ByteArray := prog_7_method_2_code
def yX5_add : MethodName := ⟨RX5, "add", "(JJ)I"⟩
def RX6 : String := "SlipHouse$Senses"
def TX6 : u_T := fun k => match k with
  | 0 => ("SlipHouse$Senses", "entry", "[I", true)
  | _ => ("SlipHouse$Senses", "parent", "[I", true)
def tyX6 : Nat → FieldType := fun k => match k with
  | 0 => .array .int
  | _ => .array .int
abbrev wsX60 : List Cond := u_ws RX6 TX6 2
theorem nmX6 : ∀ a, a < 2 → ∀ b, b < 2 → a ≠ b → (TX6 a).2.1 ≠ (TX6 b).2.1 := by decide +kernel
theorem tyX6_ok : ∀ k, k < 2 → parseFieldDescriptor (TX6 k).2.2.1 = some (tyX6 k) := by decide +kernel
abbrev cX6_init : ByteArray := prog_8_method_1_code
def yX6_init : MethodName := ⟨RX6, "<init>", "()V"⟩
abbrev cX6_has : ByteArray := prog_8_method_2_code
def yX6_has : MethodName := ⟨RX6, "has", "(I)Z"⟩
abbrev cX6_add : ByteArray := prog_8_method_3_code
def yX6_add : MethodName := ⟨RX6, "add", "(II)I"⟩
abbrev cX6_remove : ByteArray := prog_8_method_4_code
def yX6_remove : MethodName := ⟨RX6, "remove", "(I)V"⟩
abbrev cX6_inUse : ByteArray := prog_8_method_5_code
def yX6_inUse : MethodName := ⟨RX6, "inUse", "()I"⟩
abbrev cX6_justUnder : ByteArray := prog_8_method_6_code
def yX6_justUnder : MethodName := ⟨RX6, "justUnder", "(I)I"⟩
abbrev cX6_moveAllUnder : ByteArray := prog_8_method_7_code
def yX6_moveAllUnder : MethodName := ⟨RX6, "moveAllUnder", "(II)V"⟩
abbrev cX6_depth : ByteArray := prog_8_method_8_code
def yX6_depth : MethodName := ⟨RX6, "depth", "(I)I"⟩
abbrev cX6_isWithin : ByteArray := prog_8_method_9_code
def yX6_isWithin : MethodName := ⟨RX6, "isWithin", "(II)Z"⟩
abbrev cX6_areBeside : ByteArray := prog_8_method_10_code
def yX6_areBeside : MethodName := ⟨RX6, "areBeside", "(II)Z"⟩
def RX7 : String := "SlipHouse$Slips"
def TX7 : u_T := fun k => match k with
  | 0 => ("SlipHouse$Slips", "book", "[I", true)
  | 1 => ("SlipHouse$Slips", "entry", "[I", true)
  | 2 => ("SlipHouse$Slips", "sense", "[I", true)
  | 3 => ("SlipHouse$Slips", "words", "LSlipHouse$Words;", true)
  | _ => ("SlipHouse$Slips", "size", "I", false)
def tyX7 : Nat → FieldType := fun k => match k with
  | 0 => .array .int
  | 1 => .array .int
  | 2 => .array .int
  | 3 => .object "SlipHouse$Words"
  | _ => .int
abbrev wsX70 : List Cond := u_ws RX7 TX7 5
theorem nmX7 : ∀ a, a < 5 → ∀ b, b < 5 → a ≠ b → (TX7 a).2.1 ≠ (TX7 b).2.1 := by decide +kernel
theorem tyX7_ok : ∀ k, k < 5 → parseFieldDescriptor (TX7 k).2.2.1 = some (tyX7 k) := by decide +kernel
abbrev cX7_init : ByteArray := prog_9_method_1_code
def yX7_init : MethodName := ⟨RX7, "<init>", "(LSlipHouse$Rules;)V"⟩
abbrev cX7_has : ByteArray := prog_9_method_2_code
def yX7_has : MethodName := ⟨RX7, "has", "(I)Z"⟩
abbrev cX7_add : ByteArray := prog_9_method_3_code
def yX7_add : MethodName := ⟨RX7, "add", "(IJ)I"⟩
abbrev cX7_place : ByteArray := prog_9_method_4_code
def yX7_place : MethodName := ⟨RX7, "place", "(III)V"⟩
abbrev cX7_isLoose : ByteArray := prog_9_method_5_code
def yX7_isLoose : MethodName := ⟨RX7, "isLoose", "(I)Z"⟩
abbrev cX7_standsAt : ByteArray := prog_9_method_6_code
def yX7_standsAt : MethodName := ⟨RX7, "standsAt", "(III)Z"⟩
abbrev cX7_at : ByteArray := prog_9_method_7_code
def yX7_at : MethodName := ⟨RX7, "at", "(II)I"⟩
abbrev cX7_ofBook : ByteArray := prog_9_method_8_code
def yX7_ofBook : MethodName := ⟨RX7, "ofBook", "(I)I"⟩
abbrev cX7_moveAll : ByteArray := prog_9_method_9_code
def yX7_moveAll : MethodName := ⟨RX7, "moveAll", "(II)V"⟩
def RX8 : String := "SlipHouse$Tape"
def TX8 : u_T := fun k => match k with
  | 0 => ("SlipHouse$Tape", "bytes", "[I", true)
  | _ => ("SlipHouse$Tape", "size", "I", false)
def tyX8 : Nat → FieldType := fun k => match k with
  | 0 => .array .int
  | _ => .int
abbrev wsX80 : List Cond := u_ws RX8 TX8 2
theorem nmX8 : ∀ a, a < 2 → ∀ b, b < 2 → a ≠ b → (TX8 a).2.1 ≠ (TX8 b).2.1 := by decide +kernel
theorem tyX8_ok : ∀ k, k < 2 → parseFieldDescriptor (TX8 k).2.2.1 = some (tyX8 k) := by decide +kernel
abbrev cX8_init : ByteArray := prog_10_method_1_code
def yX8_init : MethodName := ⟨RX8, "<init>", "()V"⟩
abbrev cX8_addFour : ByteArray := prog_10_method_2_code
def yX8_addFour : MethodName := ⟨RX8, "addFour", "(I)V"⟩
abbrev cX8_clear : ByteArray := prog_10_method_3_code
def yX8_clear : MethodName := ⟨RX8, "clear", "()V"⟩
abbrev cX8_takeWord : ByteArray := prog_10_method_4_code
def yX8_takeWord : MethodName := ⟨RX8, "takeWord", "(I)J"⟩
abbrev cX8_wordAt : ByteArray := prog_10_method_5_code
def yX8_wordAt : MethodName := ⟨RX8, "wordAt", "(II)J"⟩
def RX9 : String := "SlipHouse$Witnesses"
def TX9 : u_T := fun k => match k with
  | 0 => ("SlipHouse$Witnesses", "books", "LSlipHouse$Books;", true)
  | 1 => ("SlipHouse$Witnesses", "slips", "LSlipHouse$Slips;", true)
  | 2 => ("SlipHouse$Witnesses", "senses", "LSlipHouse$Senses;", true)
  | 3 => ("SlipHouse$Witnesses", "own", "[I", true)
  | 4 => ("SlipHouse$Witnesses", "ownBooks", "[I", true)
  | 5 => ("SlipHouse$Witnesses", "all", "[I", true)
  | 6 => ("SlipHouse$Witnesses", "allBooks", "[I", true)
  | 7 => ("SlipHouse$Witnesses", "firstFrom", "[I", true)
  | 8 => ("SlipHouse$Witnesses", "firstTo", "[I", true)
  | _ => ("SlipHouse$Witnesses", "place", "[I", true)
def tyX9 : Nat → FieldType := fun k => match k with
  | 0 => .object "SlipHouse$Books"
  | 1 => .object "SlipHouse$Slips"
  | 2 => .object "SlipHouse$Senses"
  | 3 => .array .int
  | 4 => .array .int
  | 5 => .array .int
  | 6 => .array .int
  | 7 => .array .int
  | 8 => .array .int
  | _ => .array .int
abbrev wsX90 : List Cond := u_ws RX9 TX9 10
theorem nmX9 : ∀ a, a < 10 → ∀ b, b < 10 → a ≠ b → (TX9 a).2.1 ≠ (TX9 b).2.1 := by decide +kernel
theorem tyX9_ok : ∀ k, k < 10 → parseFieldDescriptor (TX9 k).2.2.1 = some (tyX9 k) := by decide +kernel
abbrev cX9_init : ByteArray := prog_11_method_1_code
def yX9_init : MethodName := ⟨RX9, "<init>", "(LSlipHouse$Books;LSlipHouse$Slips;LSlipHouse$Senses;)V"⟩
abbrev cX9_gather : ByteArray := prog_11_method_2_code
def yX9_gather : MethodName := ⟨RX9, "gather", "()V"⟩
abbrev cX9_addSlip : ByteArray := prog_11_method_3_code
def yX9_addSlip : MethodName := ⟨RX9, "addSlip", "(II)V"⟩
abbrev cX9_placeOf : ByteArray := prog_11_method_4_code
def yX9_placeOf : MethodName := ⟨RX9, "placeOf", "(I)I"⟩
abbrev cX9_isAhead : ByteArray := prog_11_method_5_code
def yX9_isAhead : MethodName := ⟨RX9, "isAhead", "(II)Z"⟩
abbrev cX9_isFlaw : ByteArray := prog_11_method_6_code
def yX9_isFlaw : MethodName := ⟨RX9, "isFlaw", "(II)Z"⟩
abbrev cX9_hasOwn : ByteArray := prog_11_method_7_code
def yX9_hasOwn : MethodName := ⟨RX9, "hasOwn", "(I)Z"⟩
def RX10 : String := "SlipHouse$Words"
def TX10 : u_T := fun k => match k with
  | 0 => ("SlipHouse$Words", "rules", "LSlipHouse$Rules;", true)
  | 1 => ("SlipHouse$Words", "readBack", "Z", true)
  | 2 => ("SlipHouse$Words", "rows", "[[J", true)
  | _ => ("SlipHouse$Words", "lengths", "[I", true)
def tyX10 : Nat → FieldType := fun k => match k with
  | 0 => .object "SlipHouse$Rules"
  | 1 => .boolean
  | 2 => .array (.array .long)
  | _ => .array .int
abbrev wsX100 : List Cond := u_ws RX10 TX10 4
theorem nmX10 : ∀ a, a < 4 → ∀ b, b < 4 → a ≠ b → (TX10 a).2.1 ≠ (TX10 b).2.1 := by decide +kernel
theorem tyX10_ok : ∀ k, k < 4 → parseFieldDescriptor (TX10 k).2.2.1 = some (tyX10 k) := by decide +kernel
abbrev cX10_init : ByteArray := prog_12_method_1_code
def yX10_init : MethodName := ⟨RX10, "<init>", "(ILSlipHouse$Rules;Z)V"⟩
abbrev cX10_has : ByteArray := prog_12_method_2_code
def yX10_has : MethodName := ⟨RX10, "has", "(I)Z"⟩
abbrev cX10_set : ByteArray := prog_12_method_3_code
def yX10_set : MethodName := ⟨RX10, "set", "(IJ)V"⟩
abbrev cX10_wordAt : ByteArray := prog_12_method_4_code
def yX10_wordAt : MethodName := ⟨RX10, "wordAt", "(I)J"⟩
abbrev cX10_addNeighbours : ByteArray := prog_12_method_5_code
def yX10_addNeighbours : MethodName := ⟨RX10, "addNeighbours", "(I)V"⟩
abbrev cX10_addNeighboursOf : ByteArray := prog_12_method_6_code
def yX10_addNeighboursOf : MethodName := ⟨RX10, "addNeighboursOf", "(II)V"⟩
abbrev cX10_meet : ByteArray := prog_12_method_7_code
def yX10_meet : MethodName := ⟨RX10, "meet", "(ILSlipHouse$Words;I)Z"⟩
abbrev cX10_append : ByteArray := prog_12_method_8_code
def yX10_append : MethodName := ⟨RX10, "append", "(JI)J"⟩
abbrev cX10_lettersIn : ByteArray := prog_12_method_9_code
def yX10_lettersIn : MethodName := ⟨RX10, "lettersIn", "(J)I"⟩
abbrev cX10_letterAt : ByteArray := prog_12_method_10_code
def yX10_letterAt : MethodName := ⟨RX10, "letterAt", "(JI)I"⟩
abbrev cX10_changed : ByteArray := prog_12_method_11_code
def yX10_changed : MethodName := ⟨RX10, "changed", "(JIJJ)J"⟩
abbrev cX10_lowest : ByteArray := prog_12_method_12_code
def yX10_lowest : MethodName := ⟨RX10, "lowest", "(IJ)J"⟩
def RX11 : String := "SlipHouse"
def TX11 : u_T := fun k => match k with
  | 0 => ("SlipHouse", "tape", "LSlipHouse$Tape;", true)
  | 1 => ("SlipHouse", "books", "LSlipHouse$Books;", true)
  | 2 => ("SlipHouse", "rules", "LSlipHouse$Rules;", true)
  | 3 => ("SlipHouse", "entries", "LSlipHouse$Entries;", true)
  | 4 => ("SlipHouse", "slips", "LSlipHouse$Slips;", true)
  | 5 => ("SlipHouse", "senses", "LSlipHouse$Senses;", true)
  | 6 => ("SlipHouse", "witnesses", "LSlipHouse$Witnesses;", true)
  | 7 => ("SlipHouse", "pointers", "LSlipHouse$Pointers;", true)
  | 8 => ("SlipHouse", "editions", "LSlipHouse$Editions;", true)
  | _ => ("SlipHouse", "printer", "LSlipHouse$Printer;", true)
def tyX11 : Nat → FieldType := fun k => match k with
  | 0 => .object "SlipHouse$Tape"
  | 1 => .object "SlipHouse$Books"
  | 2 => .object "SlipHouse$Rules"
  | 3 => .object "SlipHouse$Entries"
  | 4 => .object "SlipHouse$Slips"
  | 5 => .object "SlipHouse$Senses"
  | 6 => .object "SlipHouse$Witnesses"
  | 7 => .object "SlipHouse$Pointers"
  | 8 => .object "SlipHouse$Editions"
  | _ => .object "SlipHouse$Printer"
abbrev wsX110 : List Cond := u_ws RX11 TX11 10
theorem nmX11 : ∀ a, a < 10 → ∀ b, b < 10 → a ≠ b → (TX11 a).2.1 ≠ (TX11 b).2.1 := by decide +kernel
theorem tyX11_ok : ∀ k, k < 10 → parseFieldDescriptor (TX11 k).2.2.1 = some (tyX11 k) := by decide +kernel
abbrev cX11_init : ByteArray := prog_1_method_1_code
def yX11_init : MethodName := ⟨RX11, "<init>", "()V"⟩
abbrev cX11_feed : ByteArray := prog_1_method_2_code
def yX11_feed : MethodName := ⟨RX11, "feed", "(IIIII)I"⟩
abbrev cX11_book : ByteArray := prog_1_method_3_code
def yX11_book : MethodName := ⟨RX11, "book", "(II)I"⟩
abbrev cX11_before : ByteArray := prog_1_method_4_code
def yX11_before : MethodName := ⟨RX11, "before", "(II)Z"⟩
abbrev cX11_span : ByteArray := prog_1_method_5_code
def yX11_span : MethodName := ⟨RX11, "span", "(II)I"⟩
abbrev cX11_slip : ByteArray := prog_1_method_6_code
def yX11_slip : MethodName := ⟨RX11, "slip", "(II)I"⟩
abbrev cX11_entry : ByteArray := prog_1_method_7_code
def yX11_entry : MethodName := ⟨RX11, "entry", "(III)I"⟩
abbrev cX11_form : ByteArray := prog_1_method_8_code
def yX11_form : MethodName := ⟨RX11, "form", "(IIII)I"⟩
abbrev cX11_rule : ByteArray := prog_1_method_9_code
def yX11_rule : MethodName := ⟨RX11, "rule", "(II)I"⟩
abbrev cX11_fits : ByteArray := prog_1_method_10_code
def yX11_fits : MethodName := ⟨RX11, "fits", "(II)I"⟩
abbrev cX11_sort : ByteArray := prog_1_method_11_code
def yX11_sort : MethodName := ⟨RX11, "sort", "()I"⟩
abbrev cX11_sense : ByteArray := prog_1_method_12_code
def yX11_sense : MethodName := ⟨RX11, "sense", "(II)I"⟩
abbrev cX11_put : ByteArray := prog_1_method_13_code
def yX11_put : MethodName := ⟨RX11, "put", "(III)Z"⟩
abbrev cX11_move : ByteArray := prog_1_method_14_code
def yX11_move : MethodName := ⟨RX11, "move", "(II)Z"⟩
abbrev cX11_join : ByteArray := prog_1_method_15_code
def yX11_join : MethodName := ⟨RX11, "join", "(II)Z"⟩
abbrev cX11_part : ByteArray := prog_1_method_16_code
def yX11_part : MethodName := ⟨RX11, "part", "(I)I"⟩
abbrev cX11_drop : ByteArray := prog_1_method_17_code
def yX11_drop : MethodName := ⟨RX11, "drop", "(I)Z"⟩
abbrev cX11_point : ByteArray := prog_1_method_18_code
def yX11_point : MethodName := ⟨RX11, "point", "(II)I"⟩
abbrev cX11_lead : ByteArray := prog_1_method_19_code
def yX11_lead : MethodName := ⟨RX11, "lead", "(II)Z"⟩
abbrev cX11_told : ByteArray := prog_1_method_20_code
def yX11_told : MethodName := ⟨RX11, "told", "(II)I"⟩
abbrev cX11_older : ByteArray := prog_1_method_21_code
def yX11_older : MethodName := ⟨RX11, "older", "(II)I"⟩
abbrev cX11_flaw : ByteArray := prog_1_method_22_code
def yX11_flaw : MethodName := ⟨RX11, "flaw", "(I)I"⟩
abbrev cX11_where : ByteArray := prog_1_method_23_code
def yX11_where : MethodName := ⟨RX11, "where", "(II)I"⟩
abbrev cX11_edition : ByteArray := prog_1_method_24_code
def yX11_edition : MethodName := ⟨RX11, "edition", "()I"⟩
abbrev cX11_as : ByteArray := prog_1_method_25_code
def yX11_as : MethodName := ⟨RX11, "as", "(III)I"⟩
abbrev cX11_differ : ByteArray := prog_1_method_26_code
def yX11_differ : MethodName := ⟨RX11, "differ", "(III)I"⟩
abbrev cX11_print : ByteArray := prog_1_method_27_code
def yX11_print : MethodName := ⟨RX11, "print", "(I)I"⟩
abbrev cX11_octet : ByteArray := prog_1_method_28_code
def yX11_octet : MethodName := ⟨RX11, "octet", "(I)I"⟩
abbrev cX11_count : ByteArray := prog_1_method_29_code
def yX11_count : MethodName := ⟨RX11, "count", "(I)I"⟩
abbrev cX11_areYears : ByteArray := prog_1_method_30_code
def yX11_areYears : MethodName := ⟨RX11, "areYears", "(II)Z"⟩
abbrev cX11_isRuleLength : ByteArray := prog_1_method_31_code
def yX11_isRuleLength : MethodName := ⟨RX11, "isRuleLength", "(I)Z"⟩
abbrev cX11_tapeHasWord : ByteArray := prog_1_method_32_code
def yX11_tapeHasWord : MethodName := ⟨RX11, "tapeHasWord", "(I)Z"⟩
abbrev cX11_isTopOrSenseOf : ByteArray := prog_1_method_33_code
def yX11_isTopOrSenseOf : MethodName := ⟨RX11, "isTopOrSenseOf", "(II)Z"⟩
abbrev cX11_isFit : ByteArray := prog_1_method_34_code
def yX11_isFit : MethodName := ⟨RX11, "isFit", "(II)Z"⟩
abbrev cX11_entriesFitted : ByteArray := prog_1_method_35_code
def yX11_entriesFitted : MethodName := ⟨RX11, "entriesFitted", "(I)I"⟩
abbrev cX11_firstEntryFitted : ByteArray := prog_1_method_36_code
def yX11_firstEntryFitted : MethodName := ⟨RX11, "firstEntryFitted", "(I)I"⟩
abbrev cX11_isInDoubt : ByteArray := prog_1_method_37_code
def yX11_isInDoubt : MethodName := ⟨RX11, "isInDoubt", "(I)Z"⟩
abbrev cX11_slipsInDoubt : ByteArray := prog_1_method_38_code
def yX11_slipsInDoubt : MethodName := ⟨RX11, "slipsInDoubt", "()I"⟩
abbrev cX11_toldYears : ByteArray := prog_1_method_39_code
def yX11_toldYears : MethodName := ⟨RX11, "toldYears", "(II)I"⟩
abbrev cX11_flaws : ByteArray := prog_1_method_40_code
def yX11_flaws : MethodName := ⟨RX11, "flaws", "()I"⟩
abbrev cX11_forgetSense : ByteArray := prog_1_method_41_code
def yX11_forgetSense : MethodName := ⟨RX11, "forgetSense", "(I)V"⟩
def RX12 : String := "SlipHouseModel"
def TX12 : u_T := fun k => match k with
  | 0 => ("SlipHouseModel", "tape", "[B", true)
  | 1 => ("SlipHouseModel", "taken", "[B", true)
  | 2 => ("SlipHouseModel", "taped", "I", false)
  | 3 => ("SlipHouseModel", "books", "I", false)
  | 4 => ("SlipHouseModel", "befores", "I", false)
  | 5 => ("SlipHouseModel", "toldFrom", "[I", true)
  | 6 => ("SlipHouseModel", "toldTo", "[I", true)
  | 7 => ("SlipHouseModel", "first", "[I", true)
  | 8 => ("SlipHouseModel", "last", "[I", true)
  | 9 => ("SlipHouseModel", "earlier", "[I", true)
  | 10 => ("SlipHouseModel", "later", "[I", true)
  | 11 => ("SlipHouseModel", "isEarlier", "[Z", true)
  | 12 => ("SlipHouseModel", "slips", "I", false)
  | 13 => ("SlipHouseModel", "entries", "I", false)
  | 14 => ("SlipHouseModel", "rules", "I", false)
  | 15 => ("SlipHouseModel", "bookOf", "[I", true)
  | 16 => ("SlipHouseModel", "entryOf", "[I", true)
  | 17 => ("SlipHouseModel", "senseOf", "[I", true)
  | 18 => ("SlipHouseModel", "wordOf", "[J", true)
  | 19 => ("SlipHouseModel", "known", "[B", true)
  | 20 => ("SlipHouseModel", "formMany", "[I", true)
  | 21 => ("SlipHouseModel", "formFrom", "[I", true)
  | 22 => ("SlipHouseModel", "formTo", "[I", true)
  | 23 => ("SlipHouseModel", "form", "[J", true)
  | 24 => ("SlipHouseModel", "ruleFrom", "[J", true)
  | 25 => ("SlipHouseModel", "ruleTo", "[J", true)
  | 26 => ("SlipHouseModel", "isSense0", "[Z", true)
  | 27 => ("SlipHouseModel", "ofEntry", "[I", true)
  | 28 => ("SlipHouseModel", "under", "[I", true)
  | 29 => ("SlipHouseModel", "pointers", "I", false)
  | 30 => ("SlipHouseModel", "pointFrom", "[I", true)
  | 31 => ("SlipHouseModel", "pointTo", "[I", true)
  | 32 => ("SlipHouseModel", "many", "I", false)
  | 33 => ("SlipHouseModel", "minFirst", "I", false)
  | 34 => ("SlipHouseModel", "minLast", "I", false)
  | 35 => ("SlipHouseModel", "maxFirst", "I", false)
  | 36 => ("SlipHouseModel", "maxLast", "I", false)
  | 37 => ("SlipHouseModel", "editions", "I", false)
  | 38 => ("SlipHouseModel", "editionSlips", "[I", true)
  | 39 => ("SlipHouseModel", "editionEntry", "[I", true)
  | 40 => ("SlipHouseModel", "editionSense", "[I", true)
  | 41 => ("SlipHouseModel", "out", "[B", true)
  | 42 => ("SlipHouseModel", "written", "I", false)
  | _ => ("SlipHouseModel", "up", "[I", true)
def tyX12 : Nat → FieldType := fun k => match k with
  | 0 => .array .byte
  | 1 => .array .byte
  | 2 => .int
  | 3 => .int
  | 4 => .int
  | 5 => .array .int
  | 6 => .array .int
  | 7 => .array .int
  | 8 => .array .int
  | 9 => .array .int
  | 10 => .array .int
  | 11 => .array .boolean
  | 12 => .int
  | 13 => .int
  | 14 => .int
  | 15 => .array .int
  | 16 => .array .int
  | 17 => .array .int
  | 18 => .array .long
  | 19 => .array .byte
  | 20 => .array .int
  | 21 => .array .int
  | 22 => .array .int
  | 23 => .array .long
  | 24 => .array .long
  | 25 => .array .long
  | 26 => .array .boolean
  | 27 => .array .int
  | 28 => .array .int
  | 29 => .int
  | 30 => .array .int
  | 31 => .array .int
  | 32 => .int
  | 33 => .int
  | 34 => .int
  | 35 => .int
  | 36 => .int
  | 37 => .int
  | 38 => .array .int
  | 39 => .array .int
  | 40 => .array .int
  | 41 => .array .byte
  | 42 => .int
  | _ => .array .int
abbrev wsX120 : List Cond := u_ws RX12 TX12 44
theorem nmX12 : ∀ a, a < 44 → ∀ b, b < 44 → a ≠ b → (TX12 a).2.1 ≠ (TX12 b).2.1 := by decide +kernel
theorem tyX12_ok : ∀ k, k < 44 → parseFieldDescriptor (TX12 k).2.2.1 = some (tyX12 k) := by decide +kernel
abbrev cX12_init : ByteArray := prog_14_method_1_code
def yX12_init : MethodName := ⟨RX12, "<init>", "()V"⟩
abbrev cX12_types : ByteArray := prog_14_method_2_code
def yX12_types : MethodName := ⟨RX12, "types", "(I)V"⟩
abbrev cX12_feed : ByteArray := prog_14_method_3_code
def yX12_feed : MethodName := ⟨RX12, "feed", "(IIIII)I"⟩
abbrev cX12_takes : ByteArray := prog_14_method_4_code
def yX12_takes : MethodName := ⟨RX12, "takes", "(I)V"⟩
abbrev cX12_word : ByteArray := prog_14_method_5_code
def yX12_word : MethodName := ⟨RX12, "word", "(II)J"⟩
abbrev cX12_size : ByteArray := prog_14_method_6_code
def yX12_size : MethodName := ⟨RX12, "size", "(J)I"⟩
abbrev cX12_areYears : ByteArray := prog_14_method_7_code
def yX12_areYears : MethodName := ⟨RX12, "areYears", "(II)Z"⟩
abbrev cX12_isBook : ByteArray := prog_14_method_8_code
def yX12_isBook : MethodName := ⟨RX12, "isBook", "(I)Z"⟩
abbrev cX12_book : ByteArray := prog_14_method_9_code
def yX12_book : MethodName := ⟨RX12, "book", "(II)I"⟩
abbrev cX12_tightens : ByteArray := prog_14_method_10_code
def yX12_tightens : MethodName := ⟨RX12, "tightens", "()Z"⟩
abbrev cX12_before : ByteArray := prog_14_method_11_code
def yX12_before : MethodName := ⟨RX12, "before", "(II)Z"⟩
abbrev cX12_closes : ByteArray := prog_14_method_12_code
def yX12_closes : MethodName := ⟨RX12, "closes", "()V"⟩
abbrev cX12_span : ByteArray := prog_14_method_13_code
def yX12_span : MethodName := ⟨RX12, "span", "(II)I"⟩
abbrev cX12_isWordSize : ByteArray := prog_14_method_14_code
def yX12_isWordSize : MethodName := ⟨RX12, "isWordSize", "(I)Z"⟩
abbrev cX12_slip : ByteArray := prog_14_method_15_code
def yX12_slip : MethodName := ⟨RX12, "slip", "(II)I"⟩
abbrev cX12_lays : ByteArray := prog_14_method_16_code
def yX12_lays : MethodName := ⟨RX12, "lays", "(IJII)V"⟩
abbrev cX12_entry : ByteArray := prog_14_method_17_code
def yX12_entry : MethodName := ⟨RX12, "entry", "(III)I"⟩
abbrev cX12_isEntry : ByteArray := prog_14_method_18_code
def yX12_isEntry : MethodName := ⟨RX12, "isEntry", "(I)Z"⟩
abbrev cX12_form : ByteArray := prog_14_method_19_code
def yX12_form : MethodName := ⟨RX12, "form", "(IIII)I"⟩
abbrev cX12_rule : ByteArray := prog_14_method_20_code
def yX12_rule : MethodName := ⟨RX12, "rule", "(II)I"⟩
abbrev cX12_changed : ByteArray := prog_14_method_21_code
def yX12_changed : MethodName := ⟨RX12, "changed", "(JII)J"⟩
abbrev cX12_leadsByOne : ByteArray := prog_14_method_22_code
def yX12_leadsByOne : MethodName := ⟨RX12, "leadsByOne", "(JJ)Z"⟩
abbrev cX12_leads : ByteArray := prog_14_method_23_code
def yX12_leads : MethodName := ⟨RX12, "leads", "(JJ)Z"⟩
abbrev cX12_isLed : ByteArray := prog_14_method_24_code
def yX12_isLed : MethodName := ⟨RX12, "isLed", "(II)Z"⟩
abbrev cX12_fitting : ByteArray := prog_14_method_25_code
def yX12_fitting : MethodName := ⟨RX12, "fitting", "(I)I"⟩
abbrev cX12_isDoubted : ByteArray := prog_14_method_26_code
def yX12_isDoubted : MethodName := ⟨RX12, "isDoubted", "(I)Z"⟩
abbrev cX12_isFitting : ByteArray := prog_14_method_27_code
def yX12_isFitting : MethodName := ⟨RX12, "isFitting", "(II)Z"⟩
abbrev cX12_isSlip : ByteArray := prog_14_method_28_code
def yX12_isSlip : MethodName := ⟨RX12, "isSlip", "(I)Z"⟩
abbrev cX12_fits : ByteArray := prog_14_method_29_code
def yX12_fits : MethodName := ⟨RX12, "fits", "(II)I"⟩
abbrev cX12_sort : ByteArray := prog_14_method_30_code
def yX12_sort : MethodName := ⟨RX12, "sort", "()I"⟩
abbrev cX12_isSense : ByteArray := prog_14_method_31_code
def yX12_isSense : MethodName := ⟨RX12, "isSense", "(I)Z"⟩
abbrev cX12_makes : ByteArray := prog_14_method_32_code
def yX12_makes : MethodName := ⟨RX12, "makes", "(II)I"⟩
abbrev cX12_sense : ByteArray := prog_14_method_33_code
def yX12_sense : MethodName := ⟨RX12, "sense", "(II)I"⟩
abbrev cX12_put : ByteArray := prog_14_method_34_code
def yX12_put : MethodName := ⟨RX12, "put", "(III)Z"⟩
abbrev cX12_isWithin : ByteArray := prog_14_method_35_code
def yX12_isWithin : MethodName := ⟨RX12, "isWithin", "(II)Z"⟩
abbrev cX12_move : ByteArray := prog_14_method_36_code
def yX12_move : MethodName := ⟨RX12, "move", "(II)Z"⟩
abbrev cX12_goes : ByteArray := prog_14_method_37_code
def yX12_goes : MethodName := ⟨RX12, "goes", "(I)V"⟩
abbrev cX12_join : ByteArray := prog_14_method_38_code
def yX12_join : MethodName := ⟨RX12, "join", "(II)Z"⟩
abbrev cX12_part : ByteArray := prog_14_method_39_code
def yX12_part : MethodName := ⟨RX12, "part", "(I)I"⟩
abbrev cX12_own : ByteArray := prog_14_method_40_code
def yX12_own : MethodName := ⟨RX12, "own", "(I)I"⟩
abbrev cX12_below : ByteArray := prog_14_method_41_code
def yX12_below : MethodName := ⟨RX12, "below", "(I)I"⟩
abbrev cX12_drop : ByteArray := prog_14_method_42_code
def yX12_drop : MethodName := ⟨RX12, "drop", "(I)Z"⟩
abbrev cX12_removes : ByteArray := prog_14_method_43_code
def yX12_removes : MethodName := ⟨RX12, "removes", "(I)V"⟩
abbrev cX12_point : ByteArray := prog_14_method_44_code
def yX12_point : MethodName := ⟨RX12, "point", "(II)I"⟩
abbrev cX12_lead : ByteArray := prog_14_method_45_code
def yX12_lead : MethodName := ⟨RX12, "lead", "(II)Z"⟩
abbrev cX12_isWitness : ByteArray := prog_14_method_46_code
def yX12_isWitness : MethodName := ⟨RX12, "isWitness", "(IIZ)Z"⟩
abbrev cX12_witnesses : ByteArray := prog_14_method_47_code
def yX12_witnesses : MethodName := ⟨RX12, "witnesses", "(IZ)V"⟩
abbrev cX12_gap : ByteArray := prog_14_method_48_code
def yX12_gap : MethodName := ⟨RX12, "gap", "(I)I"⟩
abbrev cX12_isAhead : ByteArray := prog_14_method_49_code
def yX12_isAhead : MethodName := ⟨RX12, "isAhead", "(II)Z"⟩
abbrev cX12_place : ByteArray := prog_14_method_50_code
def yX12_place : MethodName := ⟨RX12, "place", "(I)I"⟩
abbrev cX12_depth : ByteArray := prog_14_method_51_code
def yX12_depth : MethodName := ⟨RX12, "depth", "(I)I"⟩
abbrev cX12_told : ByteArray := prog_14_method_52_code
def yX12_told : MethodName := ⟨RX12, "told", "(II)I"⟩
abbrev cX12_isOlder : ByteArray := prog_14_method_53_code
def yX12_isOlder : MethodName := ⟨RX12, "isOlder", "(IIZ)Z"⟩
abbrev cX12_isAheadOfAll : ByteArray := prog_14_method_54_code
def yX12_isAheadOfAll : MethodName := ⟨RX12, "isAheadOfAll", "(IIZ)Z"⟩
abbrev cX12_older : ByteArray := prog_14_method_55_code
def yX12_older : MethodName := ⟨RX12, "older", "(II)I"⟩
abbrev cX12_flaws : ByteArray := prog_14_method_56_code
def yX12_flaws : MethodName := ⟨RX12, "flaws", "(I)I"⟩
abbrev cX12_flaw : ByteArray := prog_14_method_57_code
def yX12_flaw : MethodName := ⟨RX12, "flaw", "(I)I"⟩
abbrev cX12_byteOf : ByteArray := prog_14_method_58_code
def yX12_byteOf : MethodName := ⟨RX12, "byteOf", "(JI)I"⟩
abbrev cX12_where : ByteArray := prog_14_method_59_code
def yX12_where : MethodName := ⟨RX12, "where", "(II)I"⟩
abbrev cX12_loosePointers : ByteArray := prog_14_method_60_code
def yX12_loosePointers : MethodName := ⟨RX12, "loosePointers", "()I"⟩
abbrev cX12_edition : ByteArray := prog_14_method_61_code
def yX12_edition : MethodName := ⟨RX12, "edition", "()I"⟩
abbrev cX12_isEdition : ByteArray := prog_14_method_62_code
def yX12_isEdition : MethodName := ⟨RX12, "isEdition", "(I)Z"⟩
abbrev cX12_as : ByteArray := prog_14_method_63_code
def yX12_as : MethodName := ⟨RX12, "as", "(III)I"⟩
abbrev cX12_differ : ByteArray := prog_14_method_64_code
def yX12_differ : MethodName := ⟨RX12, "differ", "(III)I"⟩
abbrev cX12_puts : ByteArray := prog_14_method_65_code
def yX12_puts : MethodName := ⟨RX12, "puts", "(I)V"⟩
abbrev cX12_number : ByteArray := prog_14_method_66_code
def yX12_number : MethodName := ⟨RX12, "number", "(I)V"⟩
abbrev cX12_letters : ByteArray := prog_14_method_67_code
def yX12_letters : MethodName := ⟨RX12, "letters", "(J)V"⟩
abbrev cX12_mark : ByteArray := prog_14_method_68_code
def yX12_mark : MethodName := ⟨RX12, "mark", "(I)V"⟩
abbrev cX12_at : ByteArray := prog_14_method_69_code
def yX12_at : MethodName := ⟨RX12, "at", "(III)I"⟩
abbrev cX12_prints : ByteArray := prog_14_method_70_code
def yX12_prints : MethodName := ⟨RX12, "prints", "(I)V"⟩
abbrev cX12_heap : ByteArray := prog_14_method_71_code
def yX12_heap : MethodName := ⟨RX12, "heap", "(I)I"⟩
abbrev cX12_print : ByteArray := prog_14_method_72_code
def yX12_print : MethodName := ⟨RX12, "print", "(I)I"⟩
abbrev cX12_octet : ByteArray := prog_14_method_73_code
def yX12_octet : MethodName := ⟨RX12, "octet", "(I)I"⟩
abbrev cX12_count : ByteArray := prog_14_method_74_code
def yX12_count : MethodName := ⟨RX12, "count", "(I)I"⟩
def RJ9 : String := "java/lang/Math"
def TJ9 : u_T := fun k => match k with
  | _ => ("", "", "", false)
def tyJ9 : Nat → FieldType := fun k => match k with
  | _ => .int
theorem nmJ9 : ∀ a, a < 0 → ∀ b, b < 0 → a ≠ b → (TJ9 a).2.1 ≠ (TJ9 b).2.1 := by decide +kernel
theorem tyJ9_ok : ∀ k, k < 0 → parseFieldDescriptor (TJ9 k).2.2.1 = some (tyJ9 k) := by decide +kernel
abbrev cJ9_max_7cf53 : ByteArray := prog_15_method_65_code
def yJ9_max_7cf53 : MethodName := ⟨RJ9, "max", "(II)I"⟩
abbrev cJ9_min_7cf53 : ByteArray := prog_15_method_69_code
def yJ9_min_7cf53 : MethodName := ⟨RJ9, "min", "(II)I"⟩
def RL : String := "SlipHouseLaw"
abbrev cL_law : ByteArray := code
def yL_law : MethodName := ⟨RL, "law", "([I)Z"⟩
abbrev vwCl : List vw_C := [(RX0, TX0, 9), (RX1, TX1, 5), (RX2, TX2, 5), (RX3, TX3, 3), (RX4, TX4, 8), (RX5, TX5, 3), (RX6, TX6, 2), (RX7, TX7, 5), (RX8, TX8, 2), (RX9, TX9, 10), (RX10, TX10, 4), (RX11, TX11, 10), (RX12, TX12, 44)]
end
section
/-! THE ABSTRACT MACHINE: values, the static layout's cells, one step as a predicate transformer -/
abbrev aV : Type := Int ⊕ Int ⊕ Nat
abbrev aS : Type := (Nat → Nat → Int) × (Nat → Nat → Int)
abbrev aL : Type := List (Nat × aV)
/-- a cell: an object (its class, its fields: a reference or a number), or an array (its kind, its length, its first row) -/
abbrev aC : Type := (Nat × List (Option Nat)) ⊕ (Nat × Nat × Nat)
abbrev aSp : Type := List aV → aS → (Option aV → aS → Prop) → Prop
def inI (a : Int) : Prop := -2147483648 ≤ a ∧ a < 2147483648
def inL (a : Int) : Prop := -9223372036854775808 ≤ a ∧ a < 9223372036854775808
def aOk : aV → Prop
  | .inl a => inI a
  | .inr (.inl a) => inL a
  | .inr (.inr _) => True
def aRg (S : aS) : Prop := (∀ i j, inI (S.1 i j)) ∧ ∀ i j, inL (S.2 i j)
def mv (ad : Nat → Nat) : aV → Value
  | .inl a => .int (Int32.ofInt a)
  | .inr (.inl a) => .long (Int64.ofInt a)
  | .inr (.inr r) => .ref (ad r)
def isL : aV → Bool
  | .inr (.inl _) => true
  | _ => false
theorem inI_toInt (x : Int32) : inI x.toInt := by
  have h1 := Int32.le_toInt x
  have h2 := Int32.toInt_lt x
  exact ⟨by simpa using h1, by simpa using h2⟩
theorem inL_toInt (x : Int64) : inL x.toInt := by
  have h1 := Int64.le_toInt x
  have h2 := Int64.toInt_lt x
  exact ⟨by simpa using h1, by simpa using h2⟩
theorem ofI_toInt {a : Int} (h : inI a) : (Int32.ofInt a).toInt = a := Int32.toInt_ofInt_of_le (by simpa [inI] using h.1) (by simpa [inI] using h.2)
theorem ofL_toInt {a : Int} (h : inL a) : (Int64.ofInt a).toInt = a := Int64.toInt_ofInt_of_le (by simpa [inL] using h.1) (by simpa [inL] using h.2)
theorem mv_int (ad : Nat → Nat) (x : Int32) : mv ad (.inl x.toInt) = .int x := by simp [mv]
theorem mv_long (ad : Nat → Nat) (x : Int64) : mv ad (.inr (.inl x.toInt)) = .long x := by simp [mv]
theorem mv_cat (ad : Nat → Nat) (v : aV) : (mv ad v).category = if isL v then 2 else 1 := by
  rcases v with a | a | a <;> rfl
/-! updates -/
def up2 (f : Nat → Nat → Int) (i j : Nat) (v : Int) : Nat → Nat → Int := fun a b => if a = i ∧ b = j then v else f a b
def upI (S : aS) (i j : Nat) (v : Int) : aS := (up2 S.1 i j v, S.2)
def upL (S : aS) (i j : Nat) (v : Int) : aS := (S.1, up2 S.2 i j v)
theorem aRg.upI {S : aS} (h : aRg S) {i j : Nat} {v : Int} (hv : inI v) : aRg (upI S i j v) := by
  refine ⟨fun a b => ?_, h.2⟩
  show inI (if a = i ∧ b = j then v else S.1 a b)
  split
  · exact hv
  · exact h.1 a b
theorem aRg.upL {S : aS} (h : aRg S) {i j : Nat} {v : Int} (hv : inL v) : aRg (upL S i j v) := by
  refine ⟨h.1, fun a b => ?_⟩
  show inL (if a = i ∧ b = j then v else S.2 a b)
  split
  · exact hv
  · exact h.2 a b
/-! locals -/
def lget : aL → Nat → Option aV
  | [], _ => none
  | (k, v) :: r, i => if k = i then some v else lget r i
def lput (i : Nat) (v : aV) : aL → aL
  | [] => [(i, v)]
  | (k, w) :: r => if i < k then (i, v) :: (k, w) :: r else (k, w) :: lput i v r
def lclr (i : Nat) (vl : Bool) : aL → aL
  | [] => []
  | (k, w) :: r => if (k == i || (k + 1 == i && isL w) || (vl && k == i + 1)) = true then lclr i vl r else (k, w) :: lclr i vl r
def lset (i : Nat) (v : aV) (l : aL) : aL := lput i v (lclr i (isL v) l)
def mL (ad : Nat → Nat) (l : aL) : List (Nat × Value) := l.map (fun q => (q.1, mv ad q.2))
theorem lget_mem : ∀ {l : aL} {i : Nat} {v : aV}, lget l i = some v → (i, v) ∈ l
  | (k, w) :: r, i, v, h => by
    unfold lget at h
    split at h
    · rename_i hk
      cases h; subst hk; exact List.mem_cons_self
    · exact List.mem_cons_of_mem _ (lget_mem h)
theorem lput_mem {i : Nat} {v : aV} : ∀ {l : aL} {q : Nat × aV}, q ∈ lput i v l → q = (i, v) ∨ q ∈ l
  | [], q, h => by simp [lput] at h; exact Or.inl h
  | (k, w) :: r, q, h => by
    unfold lput at h
    split at h
    · simpa using h
    · rcases List.mem_cons.mp h with h | h
      · exact Or.inr (by rw [h]; exact List.mem_cons_self)
      · rcases lput_mem h with h | h
        · exact Or.inl h
        · exact Or.inr (List.mem_cons_of_mem _ h)
theorem lclr_mem {i : Nat} {vl : Bool} : ∀ {l : aL} {q : Nat × aV}, q ∈ lclr i vl l → q ∈ l ∧ (q.1 == i || (q.1 + 1 == i && isL q.2) || (vl && q.1 == i + 1)) = false
  | [], q, h => by simp [lclr] at h
  | (k, w) :: r, q, h => by
    unfold lclr at h
    split at h
    · have := lclr_mem h
      exact ⟨List.mem_cons_of_mem _ this.1, this.2⟩
    · rename_i hc
      rcases List.mem_cons.mp h with h | h
      · rw [h]; exact ⟨List.mem_cons_self, by simpa using hc⟩
      · have := lclr_mem h
        exact ⟨List.mem_cons_of_mem _ this.1, this.2⟩
theorem lset_mem {i : Nat} {v : aV} {l : aL} {q : Nat × aV} (h : q ∈ lset i v l) : q = (i, v) ∨ q ∈ l := by
  rcases lput_mem h with h | h
  · exact Or.inl h
  · exact Or.inr (lclr_mem h).1
theorem has_get {ad : Nat → Nat} {jl : Array Slot} {n : Nat} {l : aL} (h : lv_has jl n (mL ad l)) {i : Nat} {v : aV} (hg : lget l i = some v) : jl[i]? = some (.val (mv ad v)) :=
  h.2.2 (i, mv ad v) (List.mem_map.mpr ⟨(i, v), lget_mem hg, rfl⟩)
theorem has_sub {jl : Array Slot} {n : Nat} {l l' : List (Nat × Value)} (h : lv_has jl n l) (hs : ∀ q ∈ l', q ∈ l) : lv_has jl n l' := ⟨h.1, h.2.1, fun q hq => h.2.2 q (hs q hq)⟩
theorem has_set1 {ad : Nat → Nat} {jl : Array Slot} {n i : Nat} {v : aV} {l : aL} (hv : isL v = false) (h : lv_has jl n ((i, mv ad v) :: (mL ad l).filter (fun q => !(q.1 == i) && !(q.1 + 1 == i && q.2.category == 2)))) : lv_has jl n (mL ad (lset i v l)) := by
  refine has_sub h fun q hq => ?_
  obtain ⟨⟨k, w⟩, hm, rfl⟩ := List.mem_map.mp hq
  rcases lput_mem hm with h1 | h1
  · cases h1; exact List.mem_cons_self
  · obtain ⟨h2, h3⟩ := lclr_mem h1
    refine List.mem_cons_of_mem _ (List.mem_filter.mpr ⟨List.mem_map.mpr ⟨(k, w), h2, rfl⟩, ?_⟩)
    rw [hv] at h3
    simp only [Bool.or_eq_false_iff, Bool.false_and, and_true] at h3
    rw [mv_cat]
    cases hw : isL w <;> simp_all
theorem has_set2 {ad : Nat → Nat} {jl : Array Slot} {n i : Nat} {v : aV} {l : aL} (hv : isL v = true) (h : lv_has jl n ((i, mv ad v) :: (mL ad l).filter (fun q => !(q.1 == i) && (!(q.1 == i + 1) && !(q.1 + 1 == i && q.2.category == 2))))) : lv_has jl n (mL ad (lset i v l)) := by
  refine has_sub h fun q hq => ?_
  obtain ⟨⟨k, w⟩, hm, rfl⟩ := List.mem_map.mp hq
  rcases lput_mem hm with h1 | h1
  · cases h1; exact List.mem_cons_self
  · obtain ⟨h2, h3⟩ := lclr_mem h1
    refine List.mem_cons_of_mem _ (List.mem_filter.mpr ⟨List.mem_map.mpr ⟨(k, w), h2, rfl⟩, ?_⟩)
    rw [hv] at h3
    simp only [Bool.or_eq_false_iff, Bool.true_and] at h3
    rw [mv_cat]
    cases hw : isL w <;> simp_all
end
section
/-- a literal's place in the layout of all cells, in the order in which the constructors make them -/
def LYf0 : List aC := [.inl (11, [some 1, some 3, some 11, some 14, some 81, some 208, some 211, some 219, some 222, some 242]), .inl (8, [some 2, none]), .inr (0, 40, 0), .inl (0, [some 4, some 5, some 6, some 7, some 8, some 9, some 10, none, none]), .inr (0, 30, 0), .inr (0, 30, 0), .inr (0, 30, 0), .inr (0, 30, 0), .inr (0, 30, 0), .inr (0, 60, 0), .inr (0, 60, 0), .inl (5, [some 12, some 13, none]), .inr (3, 10, 0), .inr (3, 10, 0), .inl (2, [some 15, some 16, some 17, some 18, none]), .inr (0, 12, 0), .inr (0, 60, 0), .inr (0, 60, 0), .inl (10, [some 11, none, some 19, some 80]), .inr (5, 60, 20)]
def LYf2 : List aC := [.inr (0, 60, 0), .inl (7, [some 82, some 83, some 84, some 85, none]), .inr (0, 120, 0), .inr (0, 120, 0), .inr (0, 120, 0), .inl (10, [some 11, none, some 86, some 207]), .inr (5, 120, 87)]
def LYf4 : List aC := [.inr (0, 120, 0), .inl (6, [some 209, some 210]), .inr (0, 40, 0), .inr (0, 40, 0), .inl (9, [some 3, some 81, some 208, some 212, some 213, some 214, some 215, some 216, some 217, some 218]), .inr (0, 40, 0), .inr (0, 40, 0), .inr (0, 40, 0), .inr (0, 40, 0), .inr (0, 40, 0), .inr (0, 40, 0), .inr (0, 40, 0), .inl (3, [some 220, some 221, none]), .inr (0, 20, 0), .inr (0, 20, 0), .inl (1, [some 81, some 223, some 224, some 233, none]), .inr (0, 8, 0), .inr (4, 8, 225)]
def LYf6 : List aC := [.inr (4, 8, 234)]
def LYf8 : List aC := [.inl (4, [some 14, some 81, some 208, some 211, some 219, some 243, some 244, none]), .inr (1, 8000, 0), .inr (0, 40, 0), .inl (12, [some 246, some 247, none, none, none, some 248, some 249, some 250, some 251, some 252, some 253, some 254, none, none, none, some 255, some 256, some 257, some 258, some 259, some 260, some 261, some 262, some 263, some 264, some 265, some 266, some 267, some 268, none, some 269, some 270, none, none, none, none, none, none, some 271, some 272, some 273, some 274, none, some 275]), .inr (1, 40, 0), .inr (1, 40, 0), .inr (0, 30, 0), .inr (0, 30, 0), .inr (0, 30, 0), .inr (0, 30, 0), .inr (0, 60, 0), .inr (0, 60, 0), .inr (2, 900, 0), .inr (0, 120, 0), .inr (0, 120, 0), .inr (0, 120, 0), .inr (3, 120, 0), .inr (1, 7200, 0), .inr (0, 12, 0), .inr (0, 60, 0), .inr (0, 60, 0), .inr (3, 60, 0), .inr (3, 10, 0), .inr (3, 10, 0), .inr (2, 40, 0), .inr (0, 40, 0), .inr (0, 40, 0), .inr (0, 20, 0), .inr (0, 20, 0), .inr (0, 8, 0), .inr (0, 960, 0), .inr (0, 960, 0), .inr (1, 20000, 0), .inr (0, 40, 0)]
def LY (i : Nat) : aC := if i < 20 then LYf0.getD (i - 0) (.inr (0, 0, 0)) else if i < 80 then .inr (3, 81, 0) else if i < 87 then LYf2.getD (i - 80) (.inr (0, 0, 0)) else if i < 207 then .inr (3, 81, 0) else if i < 225 then LYf4.getD (i - 207) (.inr (0, 0, 0)) else if i < 233 then .inr (0, 120, 0) else if i < 234 then LYf6.getD (i - 233) (.inr (0, 0, 0)) else if i < 242 then .inr (0, 120, 0) else if i < 276 then LYf8.getD (i - 242) (.inr (0, 0, 0)) else .inr (0, 0, 0)
def aN : Nat := 276
theorem LY_0 : LY 0 = .inl (11, [some 1, some 3, some 11, some 14, some 81, some 208, some 211, some 219, some 222, some 242]) := rfl
theorem LY_1 : LY 1 = .inl (8, [some 2, none]) := rfl
theorem LY_2 : LY 2 = .inr (0, 40, 0) := rfl
theorem LY_3 : LY 3 = .inl (0, [some 4, some 5, some 6, some 7, some 8, some 9, some 10, none, none]) := rfl
theorem LY_4 : LY 4 = .inr (0, 30, 0) := rfl
theorem LY_5 : LY 5 = .inr (0, 30, 0) := rfl
theorem LY_6 : LY 6 = .inr (0, 30, 0) := rfl
theorem LY_7 : LY 7 = .inr (0, 30, 0) := rfl
theorem LY_8 : LY 8 = .inr (0, 30, 0) := rfl
theorem LY_9 : LY 9 = .inr (0, 60, 0) := rfl
theorem LY_10 : LY 10 = .inr (0, 60, 0) := rfl
theorem LY_11 : LY 11 = .inl (5, [some 12, some 13, none]) := rfl
theorem LY_12 : LY 12 = .inr (3, 10, 0) := rfl
theorem LY_13 : LY 13 = .inr (3, 10, 0) := rfl
theorem LY_14 : LY 14 = .inl (2, [some 15, some 16, some 17, some 18, none]) := rfl
theorem LY_15 : LY 15 = .inr (0, 12, 0) := rfl
theorem LY_16 : LY 16 = .inr (0, 60, 0) := rfl
theorem LY_17 : LY 17 = .inr (0, 60, 0) := rfl
theorem LY_18 : LY 18 = .inl (10, [some 11, none, some 19, some 80]) := rfl
theorem LY_19 : LY 19 = .inr (5, 60, 20) := rfl
theorem LY_80 : LY 80 = .inr (0, 60, 0) := rfl
theorem LY_81 : LY 81 = .inl (7, [some 82, some 83, some 84, some 85, none]) := rfl
theorem LY_82 : LY 82 = .inr (0, 120, 0) := rfl
theorem LY_83 : LY 83 = .inr (0, 120, 0) := rfl
theorem LY_84 : LY 84 = .inr (0, 120, 0) := rfl
theorem LY_85 : LY 85 = .inl (10, [some 11, none, some 86, some 207]) := rfl
theorem LY_86 : LY 86 = .inr (5, 120, 87) := rfl
theorem LY_207 : LY 207 = .inr (0, 120, 0) := rfl
theorem LY_208 : LY 208 = .inl (6, [some 209, some 210]) := rfl
theorem LY_209 : LY 209 = .inr (0, 40, 0) := rfl
theorem LY_210 : LY 210 = .inr (0, 40, 0) := rfl
theorem LY_211 : LY 211 = .inl (9, [some 3, some 81, some 208, some 212, some 213, some 214, some 215, some 216, some 217, some 218]) := rfl
theorem LY_212 : LY 212 = .inr (0, 40, 0) := rfl
theorem LY_213 : LY 213 = .inr (0, 40, 0) := rfl
theorem LY_214 : LY 214 = .inr (0, 40, 0) := rfl
theorem LY_215 : LY 215 = .inr (0, 40, 0) := rfl
theorem LY_216 : LY 216 = .inr (0, 40, 0) := rfl
theorem LY_217 : LY 217 = .inr (0, 40, 0) := rfl
theorem LY_218 : LY 218 = .inr (0, 40, 0) := rfl
theorem LY_219 : LY 219 = .inl (3, [some 220, some 221, none]) := rfl
theorem LY_220 : LY 220 = .inr (0, 20, 0) := rfl
theorem LY_221 : LY 221 = .inr (0, 20, 0) := rfl
theorem LY_222 : LY 222 = .inl (1, [some 81, some 223, some 224, some 233, none]) := rfl
theorem LY_223 : LY 223 = .inr (0, 8, 0) := rfl
theorem LY_224 : LY 224 = .inr (4, 8, 225) := rfl
theorem LY_233 : LY 233 = .inr (4, 8, 234) := rfl
theorem LY_242 : LY 242 = .inl (4, [some 14, some 81, some 208, some 211, some 219, some 243, some 244, none]) := rfl
theorem LY_243 : LY 243 = .inr (1, 8000, 0) := rfl
theorem LY_244 : LY 244 = .inr (0, 40, 0) := rfl
theorem LY_245 : LY 245 = .inl (12, [some 246, some 247, none, none, none, some 248, some 249, some 250, some 251, some 252, some 253, some 254, none, none, none, some 255, some 256, some 257, some 258, some 259, some 260, some 261, some 262, some 263, some 264, some 265, some 266, some 267, some 268, none, some 269, some 270, none, none, none, none, none, none, some 271, some 272, some 273, some 274, none, some 275]) := rfl
theorem LY_246 : LY 246 = .inr (1, 40, 0) := rfl
theorem LY_247 : LY 247 = .inr (1, 40, 0) := rfl
theorem LY_248 : LY 248 = .inr (0, 30, 0) := rfl
theorem LY_249 : LY 249 = .inr (0, 30, 0) := rfl
theorem LY_250 : LY 250 = .inr (0, 30, 0) := rfl
theorem LY_251 : LY 251 = .inr (0, 30, 0) := rfl
theorem LY_252 : LY 252 = .inr (0, 60, 0) := rfl
theorem LY_253 : LY 253 = .inr (0, 60, 0) := rfl
theorem LY_254 : LY 254 = .inr (2, 900, 0) := rfl
theorem LY_255 : LY 255 = .inr (0, 120, 0) := rfl
theorem LY_256 : LY 256 = .inr (0, 120, 0) := rfl
theorem LY_257 : LY 257 = .inr (0, 120, 0) := rfl
theorem LY_258 : LY 258 = .inr (3, 120, 0) := rfl
theorem LY_259 : LY 259 = .inr (1, 7200, 0) := rfl
theorem LY_260 : LY 260 = .inr (0, 12, 0) := rfl
theorem LY_261 : LY 261 = .inr (0, 60, 0) := rfl
theorem LY_262 : LY 262 = .inr (0, 60, 0) := rfl
theorem LY_263 : LY 263 = .inr (3, 60, 0) := rfl
theorem LY_264 : LY 264 = .inr (3, 10, 0) := rfl
theorem LY_265 : LY 265 = .inr (3, 10, 0) := rfl
theorem LY_266 : LY 266 = .inr (2, 40, 0) := rfl
theorem LY_267 : LY 267 = .inr (0, 40, 0) := rfl
theorem LY_268 : LY 268 = .inr (0, 40, 0) := rfl
theorem LY_269 : LY 269 = .inr (0, 20, 0) := rfl
theorem LY_270 : LY 270 = .inr (0, 20, 0) := rfl
theorem LY_271 : LY 271 = .inr (0, 8, 0) := rfl
theorem LY_272 : LY 272 = .inr (0, 960, 0) := rfl
theorem LY_273 : LY 273 = .inr (0, 960, 0) := rfl
theorem LY_274 : LY 274 = .inr (1, 20000, 0) := rfl
theorem LY_275 : LY 275 = .inr (0, 40, 0) := rfl
theorem LYr_20 {j : Nat} (h : j < 60) : LY (20 + j) = .inr (3, 81, 0) := by
  unfold LY
  rw [if_neg (by omega), if_pos (by omega)]
theorem LYr_87 {j : Nat} (h : j < 120) : LY (87 + j) = .inr (3, 81, 0) := by
  unfold LY
  rw [if_neg (by omega), if_neg (by omega), if_neg (by omega), if_pos (by omega)]
theorem LYr_225 {j : Nat} (h : j < 8) : LY (225 + j) = .inr (0, 120, 0) := by
  unfold LY
  rw [if_neg (by omega), if_neg (by omega), if_neg (by omega), if_neg (by omega), if_neg (by omega), if_pos (by omega)]
theorem LYr_234 {j : Nat} (h : j < 8) : LY (234 + j) = .inr (0, 120, 0) := by
  unfold LY
  rw [if_neg (by omega), if_neg (by omega), if_neg (by omega), if_neg (by omega), if_neg (by omega), if_neg (by omega), if_neg (by omega), if_pos (by omega)]
/-! one step -/
abbrev aK : Type := Nat → aL → List aV → aS → Prop
def lyC (r : Nat) : Option Nat := match LY r with
  | .inl (c, _) => some c
  | .inr _ => none
def lyF (r k : Nat) : Option (Option Nat) := match LY r with
  | .inl (_, fs) => fs[k]?
  | .inr _ => none
def lyT (r : Nat) : Nat := match LY r with
  | .inl _ => 9
  | .inr (t, _, _) => t
def lyN (r : Nat) : Nat := match LY r with
  | .inl _ => 0
  | .inr (_, n, _) => n
def lyB (r : Nat) : Nat := match LY r with
  | .inl _ => 0
  | .inr (_, _, b) => b
def wI (x : Int) : Int := (Int32.ofInt x).toInt
def wL (x : Int) : Int := (Int64.ofInt x).toInt
def bAnd (a b : Int) : Int := (Int32.ofInt a &&& Int32.ofInt b).toInt
def bOr (a b : Int) : Int := (Int32.ofInt a ||| Int32.ofInt b).toInt
def bXor (a b : Int) : Int := (Int32.ofInt a ^^^ Int32.ofInt b).toInt
def bShl (a b : Int) : Int := (Int32.ofInt a <<< (Int32.ofInt b &&& 31)).toInt
def bShr (a b : Int) : Int := (Int32.ofInt a >>> (Int32.ofInt b &&& 31)).toInt
def bUshr (a b : Int) : Int := ((Int32.ofInt a).toUInt32 >>> ((Int32.ofInt b).toUInt32 &&& Int32.toUInt32 31)).toInt32.toInt
def lAnd (a b : Int) : Int := (Int64.ofInt a &&& Int64.ofInt b).toInt
def lOr (a b : Int) : Int := (Int64.ofInt a ||| Int64.ofInt b).toInt
def lShl (a b : Int) : Int := (Int64.ofInt a <<< ((Int32.ofInt b).toInt64 &&& 63)).toInt
def lUshr (a b : Int) : Int := ((Int64.ofInt a).toUInt64 >>> ((Int32.ofInt b).toInt64.toUInt64 &&& Int64.toUInt64 63)).toInt64.toInt
def lCmp (a b : Int) : Int := if b < a then 1 else if a = b then 0 else -1
def narB (a : Int) : Int := (vp_nar .byte (Int32.ofInt a)).toInt
def narZ (a : Int) : Int := (vp_nar .boolean (Int32.ofInt a)).toInt
def jt (pc : Nat) (off : Int) : Option Nat := if 0 ≤ (pc : Int) + off then some ((pc : Int) + off).toNat else none
def wJ (k : aK) (pc : Nat) (off : Int) (ls : aL) (r : List aV) (S : aS) : Prop := match jt pc off with
  | some t => k t ls r S
  | none => False
def wLd (ty : Nat) (i : Nat) (k : aK) (pc : Nat) (ls : aL) (stk : List aV) (S : aS) : Prop := match ty, lget ls i with
  | 0, some (.inl a) => k pc ls (.inl a :: stk) S
  | 1, some (.inr (.inl a)) => k pc ls (.inr (.inl a) :: stk) S
  | 2, some (.inr (.inr a)) => k pc ls (.inr (.inr a) :: stk) S
  | _, _ => False
def wSt (nL ty i : Nat) (k : aK) (pc : Nat) (ls : aL) (stk : List aV) (S : aS) : Prop := match ty, stk with
  | 0, .inl a :: r => i < nL ∧ k pc (lset i (.inl a) ls) r S
  | 1, .inr (.inl a) :: r => i + 1 < nL ∧ k pc (lset i (.inr (.inl a)) ls) r S
  | 2, .inr (.inr a) :: r => i < nL ∧ k pc (lset i (.inr (.inr a)) ls) r S
  | _, _ => False
def wI2 (f : Int → Int → Int) (k : aK) (pc : Nat) (ls : aL) (stk : List aV) (S : aS) : Prop := match stk with
  | .inl b :: .inl a :: r => k pc ls (.inl (f a b) :: r) S
  | _ => False
def wD2 (f : Int → Int → Int) (k : aK) (pc : Nat) (ls : aL) (stk : List aV) (S : aS) : Prop := match stk with
  | .inl b :: .inl a :: r => b ≠ 0 ∧ k pc ls (.inl (f a b) :: r) S
  | _ => False
def wL2 (f : Int → Int → Int) (k : aK) (pc : Nat) (ls : aL) (stk : List aV) (S : aS) : Prop := match stk with
  | .inr (.inl b) :: .inr (.inl a) :: r => k pc ls (.inr (.inl (f a b)) :: r) S
  | _ => False
def wLI2 (f : Int → Int → Int) (k : aK) (pc : Nat) (ls : aL) (stk : List aV) (S : aS) : Prop := match stk with
  | .inl b :: .inr (.inl a) :: r => k pc ls (.inr (.inl (f a b)) :: r) S
  | _ => False
def wCmp (k : aK) (pc : Nat) (ls : aL) (stk : List aV) (S : aS) : Prop := match stk with
  | .inr (.inl b) :: .inr (.inl a) :: r => k pc ls (.inl (lCmp a b) :: r) S
  | _ => False
def wI2L (k : aK) (pc : Nat) (ls : aL) (stk : List aV) (S : aS) : Prop := match stk with
  | .inl a :: r => k pc ls (.inr (.inl a) :: r) S
  | _ => False
def wL2I (k : aK) (pc : Nat) (ls : aL) (stk : List aV) (S : aS) : Prop := match stk with
  | .inr (.inl a) :: r => k pc ls (.inl (wI a) :: r) S
  | _ => False
def wI2B (k : aK) (pc : Nat) (ls : aL) (stk : List aV) (S : aS) : Prop := match stk with
  | .inl a :: r => k pc ls (.inl ((Int32.ofInt a).toInt8.toInt32).toInt :: r) S
  | _ => False
def wDup (k : aK) (pc : Nat) (ls : aL) (stk : List aV) (S : aS) : Prop := match stk with
  | .inl a :: r => k pc ls (.inl a :: .inl a :: r) S
  | .inr (.inr a) :: r => k pc ls (.inr (.inr a) :: .inr (.inr a) :: r) S
  | _ => False
def wDup2 (k : aK) (pc : Nat) (ls : aL) (stk : List aV) (S : aS) : Prop := match stk with
  | .inl b :: .inr (.inr a) :: r => k pc ls (.inl b :: .inr (.inr a) :: .inl b :: .inr (.inr a) :: r) S
  | _ => False
def wPop (k : aK) (pc : Nat) (ls : aL) (stk : List aV) (S : aS) : Prop := match stk with
  | .inl _ :: r => k pc ls r S
  | _ => False
def wInc (nL i : Nat) (n : Int) (k : aK) (pc : Nat) (ls : aL) (stk : List aV) (S : aS) : Prop := match lget ls i with
  | some (.inl a) => i < nL ∧ k pc (lset i (.inl (wI (a + n))) ls) stk S
  | _ => False
/-- a condition: 0 eq, 1 ne, 2 lt, 3 ge, 4 gt, 5 le -/
def wIf (c : Nat) (jo : Option Nat) (k : aK) (pc : Nat) (ls : aL) (stk : List aV) (S : aS) : Prop := match c, jo, stk with
  | 0, some t, .inl a :: r => (a = 0 → k t ls r S) ∧ (¬ a = 0 → k (pc + 3) ls r S)
  | 1, some t, .inl a :: r => (¬ a = 0 → k t ls r S) ∧ (a = 0 → k (pc + 3) ls r S)
  | 2, some t, .inl a :: r => (a < 0 → k t ls r S) ∧ (¬ a < 0 → k (pc + 3) ls r S)
  | 3, some t, .inl a :: r => (0 ≤ a → k t ls r S) ∧ (¬ 0 ≤ a → k (pc + 3) ls r S)
  | 4, some t, .inl a :: r => (0 < a → k t ls r S) ∧ (¬ 0 < a → k (pc + 3) ls r S)
  | 5, some t, .inl a :: r => (a ≤ 0 → k t ls r S) ∧ (¬ a ≤ 0 → k (pc + 3) ls r S)
  | _, _, _ => False
def wIc (c : Nat) (jo : Option Nat) (k : aK) (pc : Nat) (ls : aL) (stk : List aV) (S : aS) : Prop := match c, jo, stk with
  | 0, some t, .inl b :: .inl a :: r => (a = b → k t ls r S) ∧ (¬ a = b → k (pc + 3) ls r S)
  | 1, some t, .inl b :: .inl a :: r => (¬ a = b → k t ls r S) ∧ (a = b → k (pc + 3) ls r S)
  | 2, some t, .inl b :: .inl a :: r => (a < b → k t ls r S) ∧ (¬ a < b → k (pc + 3) ls r S)
  | 3, some t, .inl b :: .inl a :: r => (b ≤ a → k t ls r S) ∧ (¬ b ≤ a → k (pc + 3) ls r S)
  | 4, some t, .inl b :: .inl a :: r => (b < a → k t ls r S) ∧ (¬ b < a → k (pc + 3) ls r S)
  | 5, some t, .inl b :: .inl a :: r => (a ≤ b → k t ls r S) ∧ (¬ a ≤ b → k (pc + 3) ls r S)
  | _, _, _ => False
def tsw (k : aK) (pc : Nat) (a : Int) (ls : aL) (r : List aV) (S : aS) : Int → List Int → Prop
  | _, [] => True
  | v, off :: os => (a = v → wJ k pc off ls r S) ∧ tsw k pc a ls r S (v + 1) os
def wTsw (dflt lo hi : Int) (offs : List Int) (k : aK) (pc : Nat) (ls : aL) (stk : List aV) (S : aS) : Prop := match stk with
  | .inl a :: r => (hi - lo < offs.length) ∧ (a < lo ∨ hi < a → wJ k pc dflt ls r S) ∧ tsw k pc a ls r S lo offs
  | _ => False
def lsw (k : aK) (pc : Nat) (a : Int) (ls : aL) (r : List aV) (S : aS) (dflt : Int) : List (Int × Int) → Prop
  | [] => wJ k pc dflt ls r S
  | (v, off) :: os => (a = v → wJ k pc off ls r S) ∧ (¬ a = v → lsw k pc a ls r S dflt os)
def wLsw (dflt : Int) (ps : Array (Int × Int)) (k : aK) (pc : Nat) (ls : aL) (stk : List aV) (S : aS) : Prop := match stk with
  | .inl a :: r => (ps.toList.zip (ps.toList.drop 1)).all (fun (a, next) => a.1 < next.1) = true ∧ lsw k pc a ls r S dflt ps.toList
  | _ => False
def wGet (fo : Option (Nat × Nat)) (k : aK) (pc : Nat) (ls : aL) (stk : List aV) (S : aS) : Prop := match fo, stk with
  | some (ci, f), .inr (.inr a) :: r => a < aN ∧ lyC a = some ci ∧ match lyF a f with
    | some (some b) => k pc ls (.inr (.inr b) :: r) S
    | some none => k pc ls (.inl (S.1 a f) :: r) S
    | none => False
  | _, _ => False
def wPut (fo : Option (Nat × Nat)) (k : aK) (pc : Nat) (ls : aL) (stk : List aV) (S : aS) : Prop := match fo, stk with
  | some (ci, f), .inl v :: .inr (.inr a) :: r => a < aN ∧ lyC a = some ci ∧ match lyF a f with
    | some none => k pc ls r (upI S a f v)
    | _ => False
  | _, _ => False
/-- a load of an int array's element (kind t) -/
def wAld (ts : Nat → Bool) (k : aK) (pc : Nat) (ls : aL) (stk : List aV) (S : aS) : Prop := match stk with
  | .inl j :: .inr (.inr a) :: r => a < aN ∧ ts (lyT a) = true ∧ 0 ≤ j ∧ j < lyN a ∧ k pc ls (.inl (S.1 a j.toNat) :: r) S
  | _ => False
def wAll (k : aK) (pc : Nat) (ls : aL) (stk : List aV) (S : aS) : Prop := match stk with
  | .inl j :: .inr (.inr a) :: r => a < aN ∧ lyT a = 3 ∧ 0 ≤ j ∧ j < lyN a ∧ k pc ls (.inr (.inl (S.2 a j.toNat)) :: r) S
  | _ => False
def wAlr (k : aK) (pc : Nat) (ls : aL) (stk : List aV) (S : aS) : Prop := match stk with
  | .inl j :: .inr (.inr a) :: r => a < aN ∧ (lyT a = 4 ∨ lyT a = 5) ∧ 0 ≤ j ∧ j < lyN a ∧ k pc ls (.inr (.inr (lyB a + j.toNat)) :: r) S
  | _ => False
def wAln (k : aK) (pc : Nat) (ls : aL) (stk : List aV) (S : aS) : Prop := match stk with
  | .inr (.inr a) :: r => a < aN ∧ lyT a < 6 ∧ lyN a < 2000000 ∧ k pc ls (.inl (lyN a : Int) :: r) S
  | _ => False
def wAst (k : aK) (pc : Nat) (ls : aL) (stk : List aV) (S : aS) : Prop := match stk with
  | .inl v :: .inl j :: .inr (.inr a) :: r => a < aN ∧ lyT a = 0 ∧ 0 ≤ j ∧ j < lyN a ∧ k pc ls r (upI S a j.toNat v)
  | _ => False
def wBst (k : aK) (pc : Nat) (ls : aL) (stk : List aV) (S : aS) : Prop := match stk with
  | .inl v :: .inl j :: .inr (.inr a) :: r => a < aN ∧ 0 ≤ j ∧ j < lyN a ∧ ((lyT a = 1 ∧ k pc ls r (upI S a j.toNat (narB v))) ∨ (lyT a = 2 ∧ k pc ls r (upI S a j.toNat (narZ v))))
  | _ => False
def wLst (k : aK) (pc : Nat) (ls : aL) (stk : List aV) (S : aS) : Prop := match stk with
  | .inr (.inl v) :: .inl j :: .inr (.inr a) :: r => a < aN ∧ lyT a = 3 ∧ 0 ≤ j ∧ j < lyN a ∧ k pc ls r (upL S a j.toNat v)
  | _ => False
def pop : Nat → List aV → List aV → Option (List aV × List aV)
  | 0, acc, stk => some (acc, stk)
  | n + 1, acc, v :: stk => pop n (v :: acc) stk
  | _ + 1, _, [] => none
def few : List aV → Bool
  | [] => true
  | [_] => true
  | [_, _] => true
  | [_, _, _] => true
  | [_, _, _, _] => true
  | _ => false
/-- the callee: for a method of an object the class of the receiver, how many arguments it takes (the receiver among them), what it promises -/
def wCall (co : Option (Option Nat × Nat × aSp)) (vt : Bool) (k : aK) (pc : Nat) (ls : aL) (stk : List aV) (S : aS) : Prop := match co with
  | some (cr, n, sp) => match pop n [] stk with
    | some (as, r) => few r = true ∧ (match cr, vt, as with
        | some c, true, .inr (.inr b) :: _ => b < aN ∧ lyC b = some c
        | none, false, _ => True
        | _, _, _ => False) ∧ sp as S (fun v S' => k pc ls (v.toList ++ r) S')
    | none => False
  | none => False
def wRi (rt : Option FieldType) (Q : Option aV → aS → Prop) (stk : List aV) (S : aS) : Prop := match rt, stk with
  | some .int, [.inl a] => Q (some (.inl a)) S
  | some .boolean, [.inl a] => (a = 0 ∨ a = 1) ∧ Q (some (.inl a)) S
  | _, _ => False
def wRl (rt : Option FieldType) (Q : Option aV → aS → Prop) (stk : List aV) (S : aS) : Prop := match rt, stk with
  | some .long, [.inr (.inl a)] => Q (some (.inr (.inl a))) S
  | _, _ => False
def wRv (rt : Option FieldType) (Q : Option aV → aS → Prop) (stk : List aV) (S : aS) : Prop := match rt, stk with
  | none, [] => Q none S
  | _, _ => False
abbrev aTb : Type := (Nat → Option (Nat × Nat)) × (Nat → Option (Nat × Nat)) × (Nat → Option (Option Nat × Nat × aSp)) × (Nat → Option Int)
def cN : Jvm.ClassFile.Cond → Nat
  | .eq => 0
  | .ne => 1
  | .lt => 2
  | .ge => 3
  | .gt => 4
  | .le => 5
def ws1 (tb : aTb) (nL : Nat) (rt : Option FieldType) (Q : Option aV → aS → Prop) (k : aK) (i : Instr) (len : Nat) (pc : Nat) (ls : aL) (stk : List aV) (S : aS) : Prop := match i, len with
  | .aload_n j, 1 => wLd 2 j k (pc + 1) ls stk S
  | .aload j, 2 => wLd 2 j k (pc + 2) ls stk S
  | .iload_n j, 1 => wLd 0 j k (pc + 1) ls stk S
  | .iload j, 2 => wLd 0 j k (pc + 2) ls stk S
  | .lload_n j, 1 => wLd 1 j k (pc + 1) ls stk S
  | .lload j, 2 => wLd 1 j k (pc + 2) ls stk S
  | .istore_n j, 1 => wSt nL 0 j k (pc + 1) ls stk S
  | .istore j, 2 => wSt nL 0 j k (pc + 2) ls stk S
  | .lstore_n j, 1 => wSt nL 1 j k (pc + 1) ls stk S
  | .lstore j, 2 => wSt nL 1 j k (pc + 2) ls stk S
  | .astore_n j, 1 => wSt nL 2 j k (pc + 1) ls stk S
  | .astore j, 2 => wSt nL 2 j k (pc + 2) ls stk S
  | .iconst n, 1 => k (pc + 1) ls (.inl (wI n) :: stk) S
  | .bipush n, 2 => k (pc + 2) ls (.inl ((Int8.ofInt n).toInt32).toInt :: stk) S
  | .sipush n, 3 => k (pc + 3) ls (.inl ((Int16.ofInt n).toInt32).toInt :: stk) S
  | .lconst n, 1 => k (pc + 1) ls (.inr (.inl (Int64.ofNat (n : Nat)).toInt) :: stk) S
  | .ldc2_w n, 3 => match tb.2.2.2 n with
    | some x => k (pc + 3) ls (.inr (.inl x) :: stk) S
    | none => False
  | .iadd, 1 => wI2 (fun a b => wI (a + b)) k (pc + 1) ls stk S
  | .isub, 1 => wI2 (fun a b => wI (a - b)) k (pc + 1) ls stk S
  | .imul, 1 => wI2 (fun a b => wI (a * b)) k (pc + 1) ls stk S
  | .idiv, 1 => wD2 (fun a b => wI (a.tdiv b)) k (pc + 1) ls stk S
  | .irem, 1 => wD2 (fun a b => wI (a.tmod b)) k (pc + 1) ls stk S
  | .iand, 1 => wI2 bAnd k (pc + 1) ls stk S
  | .ior, 1 => wI2 bOr k (pc + 1) ls stk S
  | .ixor, 1 => wI2 bXor k (pc + 1) ls stk S
  | .ishl, 1 => wI2 bShl k (pc + 1) ls stk S
  | .ishr, 1 => wI2 bShr k (pc + 1) ls stk S
  | .iushr, 1 => wI2 bUshr k (pc + 1) ls stk S
  | .lsub, 1 => wL2 (fun a b => wL (a - b)) k (pc + 1) ls stk S
  | .land, 1 => wL2 lAnd k (pc + 1) ls stk S
  | .lor, 1 => wL2 lOr k (pc + 1) ls stk S
  | .lshl, 1 => wLI2 lShl k (pc + 1) ls stk S
  | .lushr, 1 => wLI2 lUshr k (pc + 1) ls stk S
  | .lcmp, 1 => wCmp k (pc + 1) ls stk S
  | .i2l, 1 => wI2L k (pc + 1) ls stk S
  | .l2i, 1 => wL2I k (pc + 1) ls stk S
  | .i2b, 1 => wI2B k (pc + 1) ls stk S
  | .dup, 1 => wDup k (pc + 1) ls stk S
  | .dup2, 1 => wDup2 k (pc + 1) ls stk S
  | .pop, 1 => wPop k (pc + 1) ls stk S
  | .iinc j n, 3 => wInc nL j n k (pc + 3) ls stk S
  | .ifCond c off, 3 => wIf (cN c) (jt pc off) k pc ls stk S
  | .if_icmp c off, 3 => wIc (cN c) (jt pc off) k pc ls stk S
  | .goto off, 3 => wJ k pc off ls stk S
  | .tableswitch d lo hi offs, _ => wTsw d lo hi offs.toList k pc ls stk S
  | .lookupswitch d ps, _ => wLsw d ps k pc ls stk S
  | .getfield j, 3 => wGet (tb.1 j) k (pc + 3) ls stk S
  | .putfield j, 3 => wPut (tb.2.1 j) k (pc + 3) ls stk S
  | .iaload, 1 => wAld (fun t => t == 0) k (pc + 1) ls stk S
  | .baload, 1 => wAld (fun t => t == 1 || t == 2) k (pc + 1) ls stk S
  | .laload, 1 => wAll k (pc + 1) ls stk S
  | .aaload, 1 => wAlr k (pc + 1) ls stk S
  | .arraylength, 1 => wAln k (pc + 1) ls stk S
  | .iastore, 1 => wAst k (pc + 1) ls stk S
  | .bastore, 1 => wBst k (pc + 1) ls stk S
  | .lastore, 1 => wLst k (pc + 1) ls stk S
  | .invokevirtual j, 3 => wCall (tb.2.2.1 j) true k (pc + 3) ls stk S
  | .invokestatic j, 3 => wCall (tb.2.2.1 j) false k (pc + 3) ls stk S
  | .ireturn, 1 => wRi rt Q stk S
  | .lreturn, 1 => wRl rt Q stk S
  | .return_, 1 => wRv rt Q stk S
  | _, _ => False
/-- the way from a place: the steps to the next cuts, at most n of them -/
def wp (cc : ByteArray) (tb : aTb) (nL : Nat) (rt : Option FieldType) (Q : Option aV → aS → Prop) (cut : Nat → Bool) (G : aK) : Nat → aK
  | 0 => G
  | n + 1 => fun pc ls stk S => bif cut pc then G pc ls stk S else match decode cc pc with
    | .ok (i, len) => ws1 tb nL rt Q (wp cc tb nL rt Q cut G n) i len pc ls stk S
    | .error _ => False
end
section
/-! THE WORLD of the layout's cells, and what a way from a place means on the machine -/
def aTys (cy : Nat → ClassId) : List (ClassId × FieldType) := [(cy 0, .int), (cy 1, .byte), (cy 2, .boolean), (cy 3, .long), (cy 4, .array .int), (cy 5, .array .long)]
def aFv (ad : Nat → Nat) (S : aS) (i k : Nat) : Option Nat → Value
  | some r => .ref (ad r)
  | none => .int (Int32.ofInt (S.1 i k))
def aE (cy : Nat → ClassId) (ad : Nat → Nat) (S : aS) (i : Nat) : aC → va_E
  | .inl (c, fs) => .inr (c, fs.mapIdx (aFv ad S i))
  | .inr (t, n, b) => .inl (cy t, n, if t = 3 then .inr (.inl fun j => Int64.ofInt (S.2 i j)) else if t < 3 then .inl (fun j => Int32.ofInt (S.1 i j)) else .inr (.inr (.inr (.inr fun j => some (ad (b + j))))))
def aW (cy : Nat → ClassId) (ad : Nat → Nat) (S : aS) : va_W := (List.range aN).map fun i => (ad i, aE cy ad S i (LY i))
theorem aW_get {cy : Nat → ClassId} {ad : Nat → Nat} {S : aS} {i : Nat} (h : i < aN) : (aW cy ad S)[i]? = some (ad i, aE cy ad S i (LY i)) := by
  simp [aW, h]
theorem aW_set {cy : Nat → ClassId} {ad : Nat → Nat} {S S' : aS} {i : Nat} {x : va_E} (h : i < aN) (hx : aE cy ad S' i (LY i) = x) (ho : ∀ j, j ≠ i → aE cy ad S' j (LY j) = aE cy ad S j (LY j)) : (aW cy ad S).set i (ad i, x) = aW cy ad S' := by
  apply List.ext_getElem?
  intro j
  rw [List.getElem?_set]
  by_cases hj : i = j
  · subst hj
    rw [if_pos rfl, aW_get h, hx, if_pos (by simpa [aW] using h)]
  · rw [if_neg hj]
    by_cases hN : j < aN
    · rw [aW_get hN, aW_get hN, ho j (fun e => hj e.symm)]
    · simp [aW, hN]
theorem aFv_upI {ad : Nat → Nat} {S : aS} {i k : Nat} {v : Int} {j m : Nat} (h : ¬ (j = i ∧ m = k)) (x : Option Nat) : aFv ad (upI S i k v) j m x = aFv ad S j m x := by
  cases x with
  | some r => rfl
  | none => simp [aFv, upI, up2, h]
theorem aE_upI {cy : Nat → ClassId} {ad : Nat → Nat} {S : aS} {i k : Nat} {v : Int} {j : Nat} (h : j ≠ i) (x : aC) : aE cy ad (upI S i k v) j x = aE cy ad S j x := by
  rcases x with ⟨c, fs⟩ | ⟨t, n, b⟩
  · show Sum.inr (c, fs.mapIdx _) = Sum.inr (c, fs.mapIdx _)
    congr 3
    funext m x
    exact aFv_upI (fun q => h q.1) x
  · simp only [aE]
    congr 3
    · split
      · rfl
      · split
        · congr 1; funext m; simp [upI, up2, h]
        · rfl
theorem aE_upL {cy : Nat → ClassId} {ad : Nat → Nat} {S : aS} {i k : Nat} {v : Int} {j : Nat} (h : j ≠ i) (x : aC) : aE cy ad (upL S i k v) j x = aE cy ad S j x := by
  rcases x with ⟨c, fs⟩ | ⟨t, n, b⟩
  · rfl
  · simp only [aE]
    congr 3
    · split
      · congr 2; funext m; simp [upL, up2, h]
      · rfl
/-- a method: its name, its code, how many locals, what it returns, how many frames and words of locals its calls take -/
abbrev aM : Type := MethodName × ByteArray × Nat × Option FieldType × Nat × Nat
def aWs (Y : aM) : List Cond := .code Y.1 Y.2.1 Y.2.2.1 Y.2.2.2.1 :: lw_tbl
def aRm (Y : aM) : Room := { frames := Y.2.2.2.2.1, cells := 0, slots := 0, locals := Y.2.2.2.2.2 }
def aCtx (Y : aM) (p : Program) (R : Room) (s : State) (m : MethodId) (args : Array Value) (meth : Method) (c : Code) (cells slots : Nat) : Prop :=
  p.tables.exec = Jvm.exec ∧ c.code = Y.2.1 ∧ c.maxLocals = Y.2.2.1 ∧ s.vm.findClass Y.1.cls = some m.cls ∧ (∀ w ∈ lw_tbl, w.before args s = true) ∧ Y.2.2.2.2.1 ≤ R.frames ∧ Y.2.2.2.2.2 ≤ R.locals ∧ cells ≤ R.cells ∧ slots ≤ R.slots
def aHp (D : va_G) (cy : Nat → ClassId) (ad : Nat → Nat) (A : Nat → Prop) (S : aS) (H0 H : Heap) (locs : List Loc) : Prop :=
  va_P D vwCl (aW cy ad S) H ∧ va_D A (aW cy ad S) ∧ va_S A H0 H locs
def aIn (ls : aL) (stk : List aV) (S : aS) : Prop := aRg S ∧ (∀ q ∈ ls, aOk q.2) ∧ ∀ v ∈ stk, aOk v
def aRet (i : Instr) (rt : Option FieldType) (v : Option aV) : Prop := match i, rt, v with
  | .ireturn, some .int, some (.inl _) => True
  | .ireturn, some .boolean, some (.inl a) => a = 0 ∨ a = 1
  | .lreturn, some .long, some (.inr (.inl _)) => True
  | .return_, none, none => True
  | _, _, _ => False
/-- what is behind the method's end -/
def aEnd (Y : aM) (Q : Option aV → aS → Prop) (p : Program) (l : Launch) (e : Env) (R : Room) (s : State) (m : MethodId) (args : Array Value) (below : List Frame) (meth : Method) (c : Code) (cells slots : Nat) (Z : State → Prop) (D : va_G) (cy : Nat → ClassId) (ad : Nat → Nat) (A : Nat → Prop) : Prop :=
  ∀ (v : Option aV) (S : aS) (H : Heap) (locs : List Loc) (pc : Nat) (jl : Array Slot) (i : Instr), Q v S → aRg S → (∀ w, v = some w → aOk w) → aHp D cy ad A S s.heap H locs → decode Y.2.1 pc = .ok (i, 1) → aRet i Y.2.2.2.1 v → W p l e R s m args below meth c H locs cells slots Z (F0 m pc jl (v.toList.map (mv ad)))
def aGo (l : Launch) (Y : aM) (Q : Option aV → aS → Prop) : aK := fun pc ls stk S => aIn ls stk S →
  ∀ (p : Program) (e : Env) (R : Room) (s : State) (m : MethodId) (args : Array Value) (below : List Frame) (meth : Method) (c : Code) (cells slots : Nat) (Z : State → Prop) (D : va_G) (cy : Nat → ClassId) (ad : Nat → Nat) (A : Nat → Prop),
    aCtx Y p R s m args meth c cells slots → va_K D vwCl (aTys cy) s → (∀ q, s.heap.size ≤ q → A q) → aEnd Y Q p l e R s m args below meth c cells slots Z D cy ad A →
    ∀ (H : Heap) (locs : List Loc) (jl : Array Slot), aHp D cy ad A S s.heap H locs → lv_has jl Y.2.2.1 (mL ad ls) → W p l e R s m args below meth c H locs cells slots Z (F0 m pc jl (stk.map (mv ad)))
/-- a method's contract for a way of calling it -/
def aMt (l : Launch) (Y : aM) (as : List aV) (S : aS) (Q : Option aV → aS → Prop) : Prop := aRg S → (∀ v ∈ as, aOk v) → ∀ (D : va_G) (cy : Nat → ClassId) (ad : Nat → Nat) (sz : Nat),
  Met l Y.1 (aWs Y) (aRm Y) (va_Pc (as.map (mv ad)) (fun U => U.heap.size = sz ∧ va_P D vwCl (aW cy ad S) U.heap ∧ va_K D vwCl (aTys cy) U ∧ va_D (fun _ => True) (aW cy ad S)))
    (fun _ st oc t => (∃ (v : Option aV) (S' : aS), oc = .returned (v.map (mv ad)) ∧ Q v S' ∧ aRg S' ∧ (∀ w, v = some w → aOk w) ∧ va_P D vwCl (aW cy ad S') t.heap ∧ va_K D vwCl (aTys cy) t ∧ va_D (va_A (aW cy ad S) sz) (aW cy ad S')) ∧ va_F (va_A (aW cy ad S) sz) st t) 0 0 (va_A (aW cy ad S) sz)
def aOK (l : Launch) (Y : aM) (sp : aSp) : Prop := ∀ as S Q, sp as S Q → aMt l Y as S Q
end
section
def fOK (own : String) (idx ci f : Nat) : Prop := ∃ (C : String) (T : u_T) (N : Nat), vwCl[ci]? = some (C, T, N) ∧ f < N ∧ (∀ w ∈ u_ws C T N, w ∈ lw_tbl) ∧ (Cond.fieldLink own idx (T f).1 (T f).2.1 (T f).2.2.1 ∈ lw_tbl ∨ ∃ host, Cond.fieldLinkNest own idx (T f).1 (T f).2.1 (T f).2.2.1 host ∈ lw_tbl)
def fPk (ci f : Nat) : Prop := ∃ (C : String) (T : u_T) (N : Nat) (ty0 : Nat → FieldType), vwCl[ci]? = some (C, T, N) ∧ (T f).2.2.2 = false ∧ parseFieldDescriptor (T f).2.2.1 = some .int ∧ (∀ k, k < N → parseFieldDescriptor (T k).2.2.1 = some (ty0 k)) ∧ (∀ a, a < N → ∀ b, b < N → a ≠ b → (T a).2.1 ≠ (T b).2.1)
def cOK (l : Launch) (Y : aM) (idx : Nat) (cr : Option Nat) (n : Nat) (sp : aSp) : Prop := ∃ Y' : aM, aOK l Y' sp ∧ GoodIn lw_tbl (aWs Y') ∧ Cond.methodLink Y.1.cls idx Y'.1 ∈ lw_tbl ∧ Cond.initialized Y'.1.cls ∈ lw_tbl ∧
  (Y'.1.cls ≠ "java/lang/invoke/MethodHandle" ∧ Y'.1.cls ≠ "java/lang/invoke/VarHandle" ∧ (parseMethodDescriptor Y'.1.desc).map (fun d => d.parameters.length) = some (if cr.isSome then n - 1 else n)) ∧
  Y'.2.2.2.2.1 + 1 ≤ Y.2.2.2.2.1 ∧ 8 + (Y'.2.2.1 + 11) + Y'.2.2.2.2.2 ≤ Y.2.2.2.2.2 ∧
  match cr with
    | some ci => 0 < n ∧ (∃ T N, vwCl[ci]? = some (Y'.1.cls, T, N)) ∧ Cond.instanceMethod Y'.1 ∈ lw_tbl ∧ Cond.selects Y'.1.cls Y'.1 Y'.1 ∈ lw_tbl
    | none => Cond.static Y'.1 ∈ lw_tbl
def tOK (l : Launch) (Y : aM) (tb : aTb) : Prop :=
  (∀ idx ci f, tb.1 idx = some (ci, f) → fOK Y.1.cls idx ci f) ∧ (∀ idx ci f, tb.2.1 idx = some (ci, f) → fOK Y.1.cls idx ci f ∧ fPk ci f) ∧
  (∀ idx cr n sp, tb.2.2.1 idx = some (cr, n, sp) → cOK l Y idx cr n sp) ∧ (∀ idx x, tb.2.2.2 idx = some x → ∃ v : Int64, x = v.toInt ∧ Cond.constantLong Y.1.cls idx v ∈ lw_tbl)
def aKt (l : Launch) (Y : aM) (p : Program) (e : Env) (R : Room) (s : State) (m : MethodId) (args : Array Value) (below : List Frame) (meth : Method) (c : Code) (cells slots : Nat) (Z : State → Prop) (D : va_G) (cy : Nat → ClassId) (ad : Nat → Nat) (A : Nat → Prop) (k : aK) : Prop :=
  ∀ pc ls stk S, k pc ls stk S → aIn ls stk S → ∀ (H : Heap) (locs : List Loc) (jl : Array Slot), aHp D cy ad A S s.heap H locs → lv_has jl Y.2.2.1 (mL ad ls) → W p l e R s m args below meth c H locs cells slots Z (F0 m pc jl (stk.map (mv ad)))
theorem aIn.push {ls : aL} {stk : List aV} {S : aS} {v : aV} (h : aIn ls stk S) (hv : aOk v) : aIn ls (v :: stk) S :=
  ⟨h.1, h.2.1, fun w hw => (List.mem_cons.mp hw).elim (fun q => q ▸ hv) (h.2.2 w)⟩
theorem aIn.popd {ls : aL} {stk : List aV} {S : aS} {v : aV} (h : aIn ls (v :: stk) S) : aIn ls stk S := ⟨h.1, h.2.1, fun w hw => h.2.2 w (List.mem_cons_of_mem _ hw)⟩
theorem aIn.top {ls : aL} {stk : List aV} {S : aS} {v : aV} (h : aIn ls (v :: stk) S) : aOk v := h.2.2 v List.mem_cons_self
theorem aIn.set {ls : aL} {stk : List aV} {S : aS} {v : aV} {i : Nat} (h : aIn ls stk S) (hv : aOk v) : aIn (lset i v ls) stk S :=
  ⟨h.1, fun q hq => (lset_mem hq).elim (fun e => by rw [e]; exact hv) (fun hq => h.2.1 q hq), h.2.2⟩
theorem aIn.get {ls : aL} {stk : List aV} {S : aS} {v : aV} {i : Nat} (h : aIn ls stk S) (hg : lget ls i = some v) : aOk v := h.2.1 (i, v) (lget_mem hg)
section SOUND
variable {l : Launch} {Y : aM} {p : Program} {e : Env} {R : Room} {s : State} {m : MethodId} {args : Array Value} {below : List Frame} {meth : Method} {c : Code} {cells slots : Nat} {Z : State → Prop} {D : va_G} {cy : Nat → ClassId} {ad : Nat → Nat} {A : Nat → Prop}
variable {k : aK} {pc : Nat} {ls : aL} {stk : List aV} {S : aS} {H : Heap} {locs : List Loc} {jl : Array Slot}
theorem s_ld (hx : p.tables.exec = Jvm.exec) (hb : c.code = Y.2.1) (hk : aKt l Y p e R s m args below meth c cells slots Z D cy ad A k) (hi : aIn ls stk S) (hH : aHp D cy ad A S s.heap H locs) (hl : lv_has jl Y.2.2.1 (mL ad ls)) {ty i pc' : Nat} (h : wLd ty i k pc' ls stk S)
    (hrow : ∀ v : aV, (ty = 0 → ∃ a, v = .inl a) → (ty = 1 → ∃ a, v = .inr (.inl a)) → (ty = 2 → ∃ a, v = .inr (.inr a)) → ty < 3 → jl[i]? = some (.val (mv ad v)) → W p l e R s m args below meth c H locs cells slots Z (F0 m pc' jl (mv ad v :: stk.map (mv ad))) → W p l e R s m args below meth c H locs cells slots Z (F0 m pc jl (stk.map (mv ad)))) :
    W p l e R s m args below meth c H locs cells slots Z (F0 m pc jl (stk.map (mv ad))) := by
  unfold wLd at h
  split at h
  · rename_i a hg
    exact hrow (.inl a) (fun _ => ⟨a, rfl⟩) (fun q => by cases q) (fun q => by cases q) (by decide) (has_get hl hg) (hk _ _ _ _ h (hi.push (hi.get hg)) H locs jl hH hl)
  · rename_i a hg
    exact hrow (.inr (.inl a)) (fun q => by cases q) (fun _ => ⟨a, rfl⟩) (fun q => by cases q) (by decide) (has_get hl hg) (hk _ _ _ _ h (hi.push (hi.get hg)) H locs jl hH hl)
  · rename_i a hg
    exact hrow (.inr (.inr a)) (fun q => by cases q) (fun q => by cases q) (fun _ => ⟨a, rfl⟩) (by decide) (has_get hl hg) (hk _ _ _ _ h (hi.push (hi.get hg)) H locs jl hH hl)
  · exact h.elim
theorem s_iload (hx : p.tables.exec = Jvm.exec) (hb : c.code = Y.2.1) (hk : aKt l Y p e R s m args below meth c cells slots Z D cy ad A k) (hi : aIn ls stk S) (hH : aHp D cy ad A S s.heap H locs) (hl : lv_has jl Y.2.2.1 (mL ad ls)) {i : Nat} (h : wLd 0 i k (pc + 2) ls stk S) (hd : decode Y.2.1 pc = .ok (.iload i, 2)) : W p l e R s m args below meth c H locs cells slots Z (F0 m pc jl (stk.map (mv ad))) :=
  s_ld hx hb hk hi hH hl h fun v h0 _ _ _ hg hw => by obtain ⟨a, rfl⟩ := h0 rfl; exact lv_iload hx hb hd hg hw
theorem s_iload_n (hx : p.tables.exec = Jvm.exec) (hb : c.code = Y.2.1) (hk : aKt l Y p e R s m args below meth c cells slots Z D cy ad A k) (hi : aIn ls stk S) (hH : aHp D cy ad A S s.heap H locs) (hl : lv_has jl Y.2.2.1 (mL ad ls)) {i : Fin 4} (h : wLd 0 i k (pc + 1) ls stk S) (hd : decode Y.2.1 pc = .ok (.iload_n i, 1)) : W p l e R s m args below meth c H locs cells slots Z (F0 m pc jl (stk.map (mv ad))) :=
  s_ld hx hb hk hi hH hl h fun v h0 _ _ _ hg hw => by obtain ⟨a, rfl⟩ := h0 rfl; exact lv_iload_n hx hb hd rfl hg hw
theorem s_lload (hx : p.tables.exec = Jvm.exec) (hb : c.code = Y.2.1) (hk : aKt l Y p e R s m args below meth c cells slots Z D cy ad A k) (hi : aIn ls stk S) (hH : aHp D cy ad A S s.heap H locs) (hl : lv_has jl Y.2.2.1 (mL ad ls)) {i : Nat} (h : wLd 1 i k (pc + 2) ls stk S) (hd : decode Y.2.1 pc = .ok (.lload i, 2)) : W p l e R s m args below meth c H locs cells slots Z (F0 m pc jl (stk.map (mv ad))) :=
  s_ld hx hb hk hi hH hl h fun v _ h0 _ _ hg hw => by obtain ⟨a, rfl⟩ := h0 rfl; exact lv_lload hx hb hd hg hw
theorem s_lload_n (hx : p.tables.exec = Jvm.exec) (hb : c.code = Y.2.1) (hk : aKt l Y p e R s m args below meth c cells slots Z D cy ad A k) (hi : aIn ls stk S) (hH : aHp D cy ad A S s.heap H locs) (hl : lv_has jl Y.2.2.1 (mL ad ls)) {i : Fin 4} (h : wLd 1 i k (pc + 1) ls stk S) (hd : decode Y.2.1 pc = .ok (.lload_n i, 1)) : W p l e R s m args below meth c H locs cells slots Z (F0 m pc jl (stk.map (mv ad))) :=
  s_ld hx hb hk hi hH hl h fun v _ h0 _ _ hg hw => by obtain ⟨a, rfl⟩ := h0 rfl; exact lv_lload_n hx hb hd rfl hg hw
theorem s_aload (hx : p.tables.exec = Jvm.exec) (hb : c.code = Y.2.1) (hk : aKt l Y p e R s m args below meth c cells slots Z D cy ad A k) (hi : aIn ls stk S) (hH : aHp D cy ad A S s.heap H locs) (hl : lv_has jl Y.2.2.1 (mL ad ls)) {i : Nat} (h : wLd 2 i k (pc + 2) ls stk S) (hd : decode Y.2.1 pc = .ok (.aload i, 2)) : W p l e R s m args below meth c H locs cells slots Z (F0 m pc jl (stk.map (mv ad))) :=
  s_ld hx hb hk hi hH hl h fun v _ _ h0 _ hg hw => by obtain ⟨a, rfl⟩ := h0 rfl; exact lv_aload hx hb hd hg hw
theorem s_aload_n (hx : p.tables.exec = Jvm.exec) (hb : c.code = Y.2.1) (hk : aKt l Y p e R s m args below meth c cells slots Z D cy ad A k) (hi : aIn ls stk S) (hH : aHp D cy ad A S s.heap H locs) (hl : lv_has jl Y.2.2.1 (mL ad ls)) {i : Fin 4} (h : wLd 2 i k (pc + 1) ls stk S) (hd : decode Y.2.1 pc = .ok (.aload_n i, 1)) : W p l e R s m args below meth c H locs cells slots Z (F0 m pc jl (stk.map (mv ad))) :=
  s_ld hx hb hk hi hH hl h fun v _ _ h0 _ hg hw => by obtain ⟨a, rfl⟩ := h0 rfl; exact lv_aload_n hx hb hd rfl hg hw
end SOUND
end
section
theorem inI_wI (x : Int) : inI (wI x) := inI_toInt _
theorem inL_wL (x : Int) : inL (wL x) := inL_toInt _
theorem of_wI (x : Int) : Int32.ofInt (wI x) = Int32.ofInt x := by unfold wI; exact Int32.ofInt_toInt _
theorem of_wL (x : Int) : Int64.ofInt (wL x) = Int64.ofInt x := by unfold wL; exact Int64.ofInt_toInt _
theorem of_toI (x : Int32) : Int32.ofInt x.toInt = x := by simp
theorem of_toL (x : Int64) : Int64.ofInt x.toInt = x := by simp
theorem c_eq {a b : Int} (ha : inI a) (hb : inI b) : Int32.ofInt a = Int32.ofInt b ↔ a = b := by
  rw [← Int32.toInt_inj, ofI_toInt ha, ofI_toInt hb]
theorem c_lt {a b : Int} (ha : inI a) (hb : inI b) : Int32.ofInt a < Int32.ofInt b ↔ a < b := by
  rw [Int32.lt_iff_toInt_lt, ofI_toInt ha, ofI_toInt hb]
theorem c_le {a b : Int} (ha : inI a) (hb : inI b) : Int32.ofInt a ≤ Int32.ofInt b ↔ a ≤ b := by
  rw [Int32.le_iff_toInt_le, ofI_toInt ha, ofI_toInt hb]
theorem inI_0 : inI 0 := by unfold inI; omega
theorem c_eq0 {a : Int} (ha : inI a) : Int32.ofInt a = 0 ↔ a = 0 := c_eq ha inI_0
theorem c_lt0 {a : Int} (ha : inI a) : Int32.ofInt a < 0 ↔ a < 0 := c_lt ha inI_0
theorem c_le0 {a : Int} (ha : inI a) : Int32.ofInt a ≤ 0 ↔ a ≤ 0 := c_le ha inI_0
theorem c_gt0 {a : Int} (ha : inI a) : 0 < Int32.ofInt a ↔ 0 < a := c_lt inI_0 ha
theorem c_ge0 {a : Int} (ha : inI a) : 0 ≤ Int32.ofInt a ↔ 0 ≤ a := c_le inI_0 ha
theorem o_add (a b : Int) : Int32.ofInt a + Int32.ofInt b = Int32.ofInt (wI (a + b)) := by rw [of_wI, Int32.ofInt_add]
theorem o_sub (a b : Int) : Int32.ofInt a - Int32.ofInt b = Int32.ofInt (wI (a - b)) := by rw [of_wI, Int32.ofInt_sub]
theorem o_mul (a b : Int) : Int32.ofInt a * Int32.ofInt b = Int32.ofInt (wI (a * b)) := by rw [of_wI, Int32.ofInt_mul]
theorem o_lsub (a b : Int) : Int64.ofInt a - Int64.ofInt b = Int64.ofInt (wL (a - b)) := by rw [of_wL, Int64.ofInt_sub]
theorem o_div {a b : Int} (ha : inI a) (hb : inI b) : Int32.ofInt a / Int32.ofInt b = Int32.ofInt (wI (a.tdiv b)) := by
  rw [of_wI, ← Int32.toInt_inj, Int32.toInt_div, ofI_toInt ha, ofI_toInt hb, Int32.toInt_ofInt]
theorem o_rem {a b : Int} (ha : inI a) (hb : inI b) : Int32.ofInt a - Int32.ofInt a / Int32.ofInt b * Int32.ofInt b = Int32.ofInt (wI (a.tmod b)) := by
  rw [o_div ha hb, of_wI, of_wI, ← Int32.ofInt_mul, ← Int32.ofInt_sub]
  congr 1
  have := Int.tmod_add_mul_tdiv a b
  have h2 : b * a.tdiv b = a.tdiv b * b := Int.mul_comm _ _
  omega
theorem o_cmp {a b : Int} (ha : inL a) (hb : inL b) : lg_cmp (Int64.ofInt a) (Int64.ofInt b) = Int32.ofInt (lCmp a b) := by
  unfold lg_cmp lCmp
  simp only [gt_iff_lt, Int64.lt_iff_toInt_lt, ← Int64.toInt_inj, ofL_toInt ha, ofL_toInt hb]
  split
  · rfl
  · split <;> rfl
theorem inI_lCmp (a b : Int) : inI (lCmp a b) := by
  unfold lCmp inI
  split
  · omega
  · split <;> omega
theorem jt_eq {pc : Nat} {off : Int} {t : Nat} (h : jt pc off = some t) : (pc : Int) + off = (t : Int) := by
  unfold jt at h
  split at h
  · cases h
    omega
  · cases h
section SOUND2
variable {l : Launch} {Y : aM} {p : Program} {e : Env} {R : Room} {s : State} {m : MethodId} {args : Array Value} {below : List Frame} {meth : Method} {c : Code} {cells slots : Nat} {Z : State → Prop} {D : va_G} {cy : Nat → ClassId} {ad : Nat → Nat} {A : Nat → Prop}
variable {k : aK} {pc : Nat} {ls : aL} {stk : List aV} {S : aS} {H : Heap} {locs : List Loc} {jl : Array Slot}
theorem s_st1 (hx : p.tables.exec = Jvm.exec) (hb : c.code = Y.2.1) (hk : aKt l Y p e R s m args below meth c cells slots Z D cy ad A k) (hi : aIn ls stk S) (hH : aHp D cy ad A S s.heap H locs) (hl : lv_has jl Y.2.2.1 (mL ad ls)) {ty i pc' : Nat} (hty : ty ≠ 1) (h : wSt Y.2.2.1 ty i k pc' ls stk S)
    (hrow : ∀ (v : aV) (r : List aV), stk = v :: r → isL v = false → (ty = 0 → ∃ a, v = .inl a) → (ty = 2 → ∃ a, v = .inr (.inr a)) → ty < 3 → i < Y.2.2.1 → (∀ jl' : Array Slot, lv_has jl' Y.2.2.1 ((i, mv ad v) :: (mL ad ls).filter (fun q => !(q.1 == i) && !(q.1 + 1 == i && q.2.category == 2))) → W p l e R s m args below meth c H locs cells slots Z (F0 m pc' jl' (r.map (mv ad)))) → W p l e R s m args below meth c H locs cells slots Z (F0 m pc jl (mv ad v :: r.map (mv ad)))) : W p l e R s m args below meth c H locs cells slots Z (F0 m pc jl (stk.map (mv ad))) := by
  unfold wSt at h
  split at h
  · rename_i a r
    exact hrow (.inl a) r rfl rfl (fun _ => ⟨a, rfl⟩) (fun q => by cases q) (by decide) h.1 (fun jl' hh => hk _ _ _ _ h.2 (hi.popd.set hi.top) H locs jl' hH (has_set1 rfl hh))
  · exact absurd rfl hty
  · rename_i a r
    exact hrow (.inr (.inr a)) r rfl rfl (fun q => by cases q) (fun _ => ⟨a, rfl⟩) (by decide) h.1 (fun jl' hh => hk _ _ _ _ h.2 (hi.popd.set hi.top) H locs jl' hH (has_set1 rfl hh))
  · exact h.elim
theorem s_istore (hx : p.tables.exec = Jvm.exec) (hb : c.code = Y.2.1) (hk : aKt l Y p e R s m args below meth c cells slots Z D cy ad A k) (hi : aIn ls stk S) (hH : aHp D cy ad A S s.heap H locs) (hl : lv_has jl Y.2.2.1 (mL ad ls)) {i : Nat} (h : wSt Y.2.2.1 0 i k (pc + 2) ls stk S) (hd : decode Y.2.1 pc = .ok (.istore i, 2)) : W p l e R s m args below meth c H locs cells slots Z (F0 m pc jl (stk.map (mv ad))) :=
  s_st1 hx hb hk hi hH hl (by decide) h fun v r he _ h0 h2 _ hn hw => by subst he; obtain ⟨a, rfl⟩ := h0 rfl; exact lv_istore hx hb hd hl hn rfl hw
theorem s_istore_n (hx : p.tables.exec = Jvm.exec) (hb : c.code = Y.2.1) (hk : aKt l Y p e R s m args below meth c cells slots Z D cy ad A k) (hi : aIn ls stk S) (hH : aHp D cy ad A S s.heap H locs) (hl : lv_has jl Y.2.2.1 (mL ad ls)) {i : Fin 4} (h : wSt Y.2.2.1 0 i k (pc + 1) ls stk S) (hd : decode Y.2.1 pc = .ok (.istore_n i, 1)) : W p l e R s m args below meth c H locs cells slots Z (F0 m pc jl (stk.map (mv ad))) :=
  s_st1 hx hb hk hi hH hl (by decide) h fun v r he _ h0 h2 _ hn hw => by subst he; obtain ⟨a, rfl⟩ := h0 rfl; exact lv_istore_n hx hb hd rfl hl hn rfl hw
theorem s_astore (hx : p.tables.exec = Jvm.exec) (hb : c.code = Y.2.1) (hk : aKt l Y p e R s m args below meth c cells slots Z D cy ad A k) (hi : aIn ls stk S) (hH : aHp D cy ad A S s.heap H locs) (hl : lv_has jl Y.2.2.1 (mL ad ls)) {i : Nat} (h : wSt Y.2.2.1 2 i k (pc + 2) ls stk S) (hd : decode Y.2.1 pc = .ok (.astore i, 2)) : W p l e R s m args below meth c H locs cells slots Z (F0 m pc jl (stk.map (mv ad))) :=
  s_st1 hx hb hk hi hH hl (by decide) h fun v r he _ h0 h2 _ hn hw => by subst he; obtain ⟨a, rfl⟩ := h2 rfl; exact lv_astore hx hb hd hl hn rfl hw
theorem s_astore_n (hx : p.tables.exec = Jvm.exec) (hb : c.code = Y.2.1) (hk : aKt l Y p e R s m args below meth c cells slots Z D cy ad A k) (hi : aIn ls stk S) (hH : aHp D cy ad A S s.heap H locs) (hl : lv_has jl Y.2.2.1 (mL ad ls)) {i : Fin 4} (h : wSt Y.2.2.1 2 i k (pc + 1) ls stk S) (hd : decode Y.2.1 pc = .ok (.astore_n i, 1)) : W p l e R s m args below meth c H locs cells slots Z (F0 m pc jl (stk.map (mv ad))) :=
  s_st1 hx hb hk hi hH hl (by decide) h fun v r he _ h0 h2 _ hn hw => by subst he; obtain ⟨a, rfl⟩ := h2 rfl; exact lv_astore_n hx hb hd rfl hl hn rfl hw
theorem s_lstore (hx : p.tables.exec = Jvm.exec) (hb : c.code = Y.2.1) (hk : aKt l Y p e R s m args below meth c cells slots Z D cy ad A k) (hi : aIn ls stk S) (hH : aHp D cy ad A S s.heap H locs) (hl : lv_has jl Y.2.2.1 (mL ad ls)) {i : Nat} (h : wSt Y.2.2.1 1 i k (pc + 2) ls stk S) (hd : decode Y.2.1 pc = .ok (.lstore i, 2)) : W p l e R s m args below meth c H locs cells slots Z (F0 m pc jl (stk.map (mv ad))) := by
  unfold wSt at h
  split at h
  · rename_i q; cases q
  · rename_i a r _
    exact lv_lstore hx hb hd hl h.1 rfl (fun jl' hh => hk _ _ _ _ h.2 (hi.popd.set hi.top) H locs jl' hH (has_set2 rfl hh))
  · rename_i q; cases q
  · exact h.elim
theorem s_lstore_n (hx : p.tables.exec = Jvm.exec) (hb : c.code = Y.2.1) (hk : aKt l Y p e R s m args below meth c cells slots Z D cy ad A k) (hi : aIn ls stk S) (hH : aHp D cy ad A S s.heap H locs) (hl : lv_has jl Y.2.2.1 (mL ad ls)) {i : Fin 4} (h : wSt Y.2.2.1 1 i k (pc + 1) ls stk S) (hd : decode Y.2.1 pc = .ok (.lstore_n i, 1)) : W p l e R s m args below meth c H locs cells slots Z (F0 m pc jl (stk.map (mv ad))) := by
  unfold wSt at h
  split at h
  · rename_i q; cases q
  · rename_i a r _
    exact lv_lstore_n hx hb hd rfl hl h.1 rfl (fun jl' hh => hk _ _ _ _ h.2 (hi.popd.set hi.top) H locs jl' hH (has_set2 rfl hh))
  · rename_i q; cases q
  · exact h.elim
theorem s_push (hx : p.tables.exec = Jvm.exec) (hb : c.code = Y.2.1) (hk : aKt l Y p e R s m args below meth c cells slots Z D cy ad A k) (hi : aIn ls stk S) (hH : aHp D cy ad A S s.heap H locs) (hl : lv_has jl Y.2.2.1 (mL ad ls)) {pc' : Nat} (v : aV) (hv : aOk v) (h : k pc' ls (v :: stk) S) (hrow : W p l e R s m args below meth c H locs cells slots Z (F0 m pc' jl (mv ad v :: stk.map (mv ad))) → W p l e R s m args below meth c H locs cells slots Z (F0 m pc jl (stk.map (mv ad)))) : W p l e R s m args below meth c H locs cells slots Z (F0 m pc jl (stk.map (mv ad))) :=
  hrow (hk _ _ _ _ h (hi.push hv) H locs jl hH hl)
theorem s_i2 (hx : p.tables.exec = Jvm.exec) (hb : c.code = Y.2.1) (hk : aKt l Y p e R s m args below meth c cells slots Z D cy ad A k) (hi : aIn ls stk S) (hH : aHp D cy ad A S s.heap H locs) (hl : lv_has jl Y.2.2.1 (mL ad ls)) {f : Int → Int → Int} {pc' : Nat} (h : wI2 f k pc' ls stk S) (hf : ∀ a b, inI (f a b))
    (hrow : ∀ (a b : Int) (r : List Value), inI a → inI b → W p l e R s m args below meth c H locs cells slots Z (F0 m pc' jl (.int (Int32.ofInt (f a b)) :: r)) → W p l e R s m args below meth c H locs cells slots Z (F0 m pc jl (.int (Int32.ofInt b) :: .int (Int32.ofInt a) :: r))) : W p l e R s m args below meth c H locs cells slots Z (F0 m pc jl (stk.map (mv ad))) := by
  unfold wI2 at h
  split at h
  · rename_i b a r
    exact hrow a b _ hi.popd.top hi.top (hk _ _ _ _ h (hi.popd.popd.push (hf a b)) H locs jl hH hl)
  · exact h.elim
theorem s_d2 (hx : p.tables.exec = Jvm.exec) (hb : c.code = Y.2.1) (hk : aKt l Y p e R s m args below meth c cells slots Z D cy ad A k) (hi : aIn ls stk S) (hH : aHp D cy ad A S s.heap H locs) (hl : lv_has jl Y.2.2.1 (mL ad ls)) {f : Int → Int → Int} {pc' : Nat} (h : wD2 f k pc' ls stk S) (hf : ∀ a b, inI (f a b))
    (hrow : ∀ (a b : Int) (r : List Value), inI a → inI b → b ≠ 0 → W p l e R s m args below meth c H locs cells slots Z (F0 m pc' jl (.int (Int32.ofInt (f a b)) :: r)) → W p l e R s m args below meth c H locs cells slots Z (F0 m pc jl (.int (Int32.ofInt b) :: .int (Int32.ofInt a) :: r))) : W p l e R s m args below meth c H locs cells slots Z (F0 m pc jl (stk.map (mv ad))) := by
  unfold wD2 at h
  split at h
  · rename_i b a r
    exact hrow a b _ hi.popd.top hi.top h.1 (hk _ _ _ _ h.2 (hi.popd.popd.push (hf a b)) H locs jl hH hl)
  · exact h.elim
theorem s_l2 (hx : p.tables.exec = Jvm.exec) (hb : c.code = Y.2.1) (hk : aKt l Y p e R s m args below meth c cells slots Z D cy ad A k) (hi : aIn ls stk S) (hH : aHp D cy ad A S s.heap H locs) (hl : lv_has jl Y.2.2.1 (mL ad ls)) {f : Int → Int → Int} {pc' : Nat} (h : wL2 f k pc' ls stk S) (hf : ∀ a b, inL (f a b))
    (hrow : ∀ (a b : Int) (r : List Value), inL a → inL b → W p l e R s m args below meth c H locs cells slots Z (F0 m pc' jl (.long (Int64.ofInt (f a b)) :: r)) → W p l e R s m args below meth c H locs cells slots Z (F0 m pc jl (.long (Int64.ofInt b) :: .long (Int64.ofInt a) :: r))) : W p l e R s m args below meth c H locs cells slots Z (F0 m pc jl (stk.map (mv ad))) := by
  unfold wL2 at h
  split at h
  · rename_i b a r
    exact hrow a b _ hi.popd.top hi.top (hk _ _ _ _ h (hi.popd.popd.push (hf a b)) H locs jl hH hl)
  · exact h.elim
theorem s_li2 (hx : p.tables.exec = Jvm.exec) (hb : c.code = Y.2.1) (hk : aKt l Y p e R s m args below meth c cells slots Z D cy ad A k) (hi : aIn ls stk S) (hH : aHp D cy ad A S s.heap H locs) (hl : lv_has jl Y.2.2.1 (mL ad ls)) {f : Int → Int → Int} {pc' : Nat} (h : wLI2 f k pc' ls stk S) (hf : ∀ a b, inL (f a b))
    (hrow : ∀ (a b : Int) (r : List Value), inL a → inI b → W p l e R s m args below meth c H locs cells slots Z (F0 m pc' jl (.long (Int64.ofInt (f a b)) :: r)) → W p l e R s m args below meth c H locs cells slots Z (F0 m pc jl (.int (Int32.ofInt b) :: .long (Int64.ofInt a) :: r))) : W p l e R s m args below meth c H locs cells slots Z (F0 m pc jl (stk.map (mv ad))) := by
  unfold wLI2 at h
  split at h
  · rename_i b a r
    exact hrow a b _ hi.popd.top hi.top (hk _ _ _ _ h (hi.popd.popd.push (hf a b)) H locs jl hH hl)
  · exact h.elim
theorem s_lcmp (hx : p.tables.exec = Jvm.exec) (hb : c.code = Y.2.1) (hk : aKt l Y p e R s m args below meth c cells slots Z D cy ad A k) (hi : aIn ls stk S) (hH : aHp D cy ad A S s.heap H locs) (hl : lv_has jl Y.2.2.1 (mL ad ls)) (h : wCmp k (pc + 1) ls stk S) (hd : decode Y.2.1 pc = .ok (.lcmp, 1)) : W p l e R s m args below meth c H locs cells slots Z (F0 m pc jl (stk.map (mv ad))) := by
  unfold wCmp at h
  split at h
  · rename_i b a r
    refine W.lcmp hx hb hd ?_
    rw [o_cmp hi.popd.top hi.top]
    exact hk _ _ _ _ h (hi.popd.popd.push (inI_lCmp a b)) H locs jl hH hl
  · exact h.elim
theorem s_i2l (hx : p.tables.exec = Jvm.exec) (hb : c.code = Y.2.1) (hk : aKt l Y p e R s m args below meth c cells slots Z D cy ad A k) (hi : aIn ls stk S) (hH : aHp D cy ad A S s.heap H locs) (hl : lv_has jl Y.2.2.1 (mL ad ls)) (h : wI2L k (pc + 1) ls stk S) (hd : decode Y.2.1 pc = .ok (.i2l, 1)) : W p l e R s m args below meth c H locs cells slots Z (F0 m pc jl (stk.map (mv ad))) := by
  unfold wI2L at h
  split at h
  · rename_i a r
    have h1 : inI a := hi.top
    refine lv_i2l (v := Int64.ofInt a) hx hb hd ?_ (hk _ _ _ _ h (hi.popd.push (v := .inr (.inl a)) (show inL a by unfold inI at h1; unfold inL; omega)) H locs jl hH hl)
    rw [← Int64.toInt_inj, Int32.toInt_toInt64, ofI_toInt h1, ofL_toInt (by unfold inI at h1; unfold inL; omega)]
  · exact h.elim
theorem s_l2i (hx : p.tables.exec = Jvm.exec) (hb : c.code = Y.2.1) (hk : aKt l Y p e R s m args below meth c cells slots Z D cy ad A k) (hi : aIn ls stk S) (hH : aHp D cy ad A S s.heap H locs) (hl : lv_has jl Y.2.2.1 (mL ad ls)) (h : wL2I k (pc + 1) ls stk S) (hd : decode Y.2.1 pc = .ok (.l2i, 1)) : W p l e R s m args below meth c H locs cells slots Z (F0 m pc jl (stk.map (mv ad))) := by
  unfold wL2I at h
  split at h
  · rename_i a r
    have h1 : inL a := hi.top
    refine lv_l2i (v := Int32.ofInt (wI a)) hx hb hd ?_ (hk _ _ _ _ h (hi.popd.push (v := .inl (wI a)) (inI_wI a)) H locs jl hH hl)
    rw [of_wI, ← Int32.toInt_inj, Int64.toInt_toInt32, ofL_toInt h1, Int32.toInt_ofInt]
  · exact h.elim
theorem s_i2b (hx : p.tables.exec = Jvm.exec) (hb : c.code = Y.2.1) (hk : aKt l Y p e R s m args below meth c cells slots Z D cy ad A k) (hi : aIn ls stk S) (hH : aHp D cy ad A S s.heap H locs) (hl : lv_has jl Y.2.2.1 (mL ad ls)) (h : wI2B k (pc + 1) ls stk S) (hd : decode Y.2.1 pc = .ok (.i2b, 1)) : W p l e R s m args below meth c H locs cells slots Z (F0 m pc jl (stk.map (mv ad))) := by
  unfold wI2B at h
  split at h
  · rename_i a r
    exact lv_i2b (v := Int32.ofInt ((Int32.ofInt a).toInt8.toInt32).toInt) hx hb hd (by rw [of_toI]) (hk _ _ _ _ h (hi.popd.push (v := .inl _) (inI_toInt _)) H locs jl hH hl)
  · exact h.elim
theorem s_dup (hx : p.tables.exec = Jvm.exec) (hb : c.code = Y.2.1) (hk : aKt l Y p e R s m args below meth c cells slots Z D cy ad A k) (hi : aIn ls stk S) (hH : aHp D cy ad A S s.heap H locs) (hl : lv_has jl Y.2.2.1 (mL ad ls)) (h : wDup k (pc + 1) ls stk S) (hd : decode Y.2.1 pc = .ok (.dup, 1)) : W p l e R s m args below meth c H locs cells slots Z (F0 m pc jl (stk.map (mv ad))) := by
  unfold wDup at h
  split at h
  · exact lv_dup hx hb hd rfl (hk _ _ _ _ h (hi.push hi.top) H locs jl hH hl)
  · exact lv_dup hx hb hd rfl (hk _ _ _ _ h (hi.push hi.top) H locs jl hH hl)
  · exact h.elim
theorem s_dup2 (hx : p.tables.exec = Jvm.exec) (hb : c.code = Y.2.1) (hk : aKt l Y p e R s m args below meth c cells slots Z D cy ad A k) (hi : aIn ls stk S) (hH : aHp D cy ad A S s.heap H locs) (hl : lv_has jl Y.2.2.1 (mL ad ls)) (h : wDup2 k (pc + 1) ls stk S) (hd : decode Y.2.1 pc = .ok (.dup2, 1)) : W p l e R s m args below meth c H locs cells slots Z (F0 m pc jl (stk.map (mv ad))) := by
  unfold wDup2 at h
  split at h
  · exact lv_dup2_11 hx hb hd rfl rfl (hk _ _ _ _ h ((hi.push hi.popd.top).push hi.top) H locs jl hH hl)
  · exact h.elim
theorem s_pop (hx : p.tables.exec = Jvm.exec) (hb : c.code = Y.2.1) (hk : aKt l Y p e R s m args below meth c cells slots Z D cy ad A k) (hi : aIn ls stk S) (hH : aHp D cy ad A S s.heap H locs) (hl : lv_has jl Y.2.2.1 (mL ad ls)) (h : wPop k (pc + 1) ls stk S) (hd : decode Y.2.1 pc = .ok (.pop, 1)) : W p l e R s m args below meth c H locs cells slots Z (F0 m pc jl (stk.map (mv ad))) := by
  unfold wPop at h
  split at h
  · exact lv_pop hx hb hd rfl (hk _ _ _ _ h hi.popd H locs jl hH hl)
  · exact h.elim
theorem s_iinc (hx : p.tables.exec = Jvm.exec) (hb : c.code = Y.2.1) (hk : aKt l Y p e R s m args below meth c cells slots Z D cy ad A k) (hi : aIn ls stk S) (hH : aHp D cy ad A S s.heap H locs) (hl : lv_has jl Y.2.2.1 (mL ad ls)) {i : Nat} {n : Int} (h : wInc Y.2.2.1 i n k (pc + 3) ls stk S) (hd : decode Y.2.1 pc = .ok (.iinc i n, 3)) : W p l e R s m args below meth c H locs cells slots Z (F0 m pc jl (stk.map (mv ad))) := by
  unfold wInc at h
  split at h
  · rename_i a hg
    have hm : (i, mv ad (.inl a)) ∈ mL ad ls := List.mem_map.mpr ⟨_, lget_mem hg, rfl⟩
    obtain ⟨q, hq⟩ := List.getElem?_of_mem hm
    exact lv_iinc (v := Int32.ofInt (wI (a + n))) hx hb hd hl hq (by rw [o_add]) h.1 rfl (fun jl' hh => hk _ _ _ _ h.2 (hi.set (inI_wI _)) H locs jl' hH (has_set1 (v := .inl (wI (a + n))) rfl hh))
  · exact h.elim
theorem s_J (hx : p.tables.exec = Jvm.exec) (hb : c.code = Y.2.1) (hk : aKt l Y p e R s m args below meth c cells slots Z D cy ad A k) (hi : aIn ls stk S) (hH : aHp D cy ad A S s.heap H locs) (hl : lv_has jl Y.2.2.1 (mL ad ls)) {off : Int} (h : wJ k pc off ls stk S) : ∃ t : Nat, (pc : Int) + off = (t : Int) ∧ W p l e R s m args below meth c H locs cells slots Z (F0 m t jl (stk.map (mv ad))) := by
  unfold wJ at h
  split at h
  · rename_i t ht
    exact ⟨t, jt_eq ht, hk _ _ _ _ h hi H locs jl hH hl⟩
  · exact h.elim
theorem s_goto (hx : p.tables.exec = Jvm.exec) (hb : c.code = Y.2.1) (hk : aKt l Y p e R s m args below meth c cells slots Z D cy ad A k) (hi : aIn ls stk S) (hH : aHp D cy ad A S s.heap H locs) (hl : lv_has jl Y.2.2.1 (mL ad ls)) {off : Int} (h : wJ k pc off ls stk S) (hd : decode Y.2.1 pc = .ok (.goto off, 3)) : W p l e R s m args below meth c H locs cells slots Z (F0 m pc jl (stk.map (mv ad))) := by
  obtain ⟨t, ht, hw⟩ := s_J hx hb hk hi hH hl h
  exact lv_goto hx hb hd ht hw
theorem s_if (hx : p.tables.exec = Jvm.exec) (hb : c.code = Y.2.1) (hk : aKt l Y p e R s m args below meth c cells slots Z D cy ad A k) (hi : aIn ls stk S) (hH : aHp D cy ad A S s.heap H locs) (hl : lv_has jl Y.2.2.1 (mL ad ls)) {cd : Jvm.ClassFile.Cond} {off : Int} (h : wIf (cN cd) (jt pc off) k pc ls stk S) (hd : decode Y.2.1 pc = .ok (.ifCond cd off, 3)) : W p l e R s m args below meth c H locs cells slots Z (F0 m pc jl (stk.map (mv ad))) := by
  have hK : ∀ (t : Nat) (r : List aV), aIn ls r S → k t ls r S → W p l e R s m args below meth c H locs cells slots Z (F0 m t jl (r.map (mv ad))) := fun t r hi' hw => hk _ _ _ _ hw hi' H locs jl hH hl
  generalize hj : jt pc off = jo at h
  rcases stk with _ | ⟨a | a | a, r⟩ <;> rcases jo with _ | t <;> cases cd <;> first | exact False.elim h | skip
  · have h : (a = 0 → k t ls r S) ∧ (¬ a = 0 → k (pc + 3) ls r S) := h
    exact lv_if_eq hx hb hd (jt_eq hj) (fun q => hK t r hi.popd (h.1 ((c_eq0 hi.top).mp q))) (fun q => hK (pc + 3) r hi.popd (h.2 (fun z => q ((c_eq0 hi.top).mpr z))))
  · have h : (¬ a = 0 → k t ls r S) ∧ (a = 0 → k (pc + 3) ls r S) := h
    exact lv_if_ne hx hb hd (jt_eq hj) (fun q => hK t r hi.popd (h.1 (fun z => q ((c_eq0 hi.top).mpr z)))) (fun q => hK (pc + 3) r hi.popd (h.2 ((c_eq0 hi.top).mp q)))
  · have h : (a < 0 → k t ls r S) ∧ (¬ a < 0 → k (pc + 3) ls r S) := h
    exact lv_if_lt hx hb hd (jt_eq hj) (fun q => hK t r hi.popd (h.1 ((c_lt0 hi.top).mp q))) (fun q => hK (pc + 3) r hi.popd (h.2 (fun z => q ((c_lt0 hi.top).mpr z))))
  · have h : (0 ≤ a → k t ls r S) ∧ (¬ 0 ≤ a → k (pc + 3) ls r S) := h
    exact lv_if_ge hx hb hd (jt_eq hj) (fun q => hK t r hi.popd (h.1 ((c_ge0 hi.top).mp q))) (fun q => hK (pc + 3) r hi.popd (h.2 (fun z => q ((c_ge0 hi.top).mpr z))))
  · have h : (0 < a → k t ls r S) ∧ (¬ 0 < a → k (pc + 3) ls r S) := h
    exact lv_if_gt hx hb hd (jt_eq hj) (fun q => hK t r hi.popd (h.1 ((c_gt0 hi.top).mp q))) (fun q => hK (pc + 3) r hi.popd (h.2 (fun z => q ((c_gt0 hi.top).mpr z))))
  · have h : (a ≤ 0 → k t ls r S) ∧ (¬ a ≤ 0 → k (pc + 3) ls r S) := h
    exact lv_if_le hx hb hd (jt_eq hj) (fun q => hK t r hi.popd (h.1 ((c_le0 hi.top).mp q))) (fun q => hK (pc + 3) r hi.popd (h.2 (fun z => q ((c_le0 hi.top).mpr z))))
theorem s_ic (hx : p.tables.exec = Jvm.exec) (hb : c.code = Y.2.1) (hk : aKt l Y p e R s m args below meth c cells slots Z D cy ad A k) (hi : aIn ls stk S) (hH : aHp D cy ad A S s.heap H locs) (hl : lv_has jl Y.2.2.1 (mL ad ls)) {cd : Jvm.ClassFile.Cond} {off : Int} (h : wIc (cN cd) (jt pc off) k pc ls stk S) (hd : decode Y.2.1 pc = .ok (.if_icmp cd off, 3)) : W p l e R s m args below meth c H locs cells slots Z (F0 m pc jl (stk.map (mv ad))) := by
  have hK : ∀ (t : Nat) (r : List aV), aIn ls r S → k t ls r S → W p l e R s m args below meth c H locs cells slots Z (F0 m t jl (r.map (mv ad))) := fun t r hi' hw => hk _ _ _ _ hw hi' H locs jl hH hl
  generalize hj : jt pc off = jo at h
  rcases stk with _ | ⟨b | b | b, _ | ⟨a | a | a, r⟩⟩ <;> rcases jo with _ | t <;> cases cd <;> first | exact False.elim h | skip
  · have h : (a = b → k t ls r S) ∧ (¬ a = b → k (pc + 3) ls r S) := h
    exact lv_icmp_eq hx hb hd (jt_eq hj) (fun q => hK t r hi.popd.popd (h.1 ((c_eq hi.popd.top hi.top).mp q))) (fun q => hK (pc + 3) r hi.popd.popd (h.2 (fun z => q ((c_eq hi.popd.top hi.top).mpr z))))
  · have h : (¬ a = b → k t ls r S) ∧ (a = b → k (pc + 3) ls r S) := h
    exact lv_icmp_ne hx hb hd (jt_eq hj) (fun q => hK t r hi.popd.popd (h.1 (fun z => q ((c_eq hi.popd.top hi.top).mpr z)))) (fun q => hK (pc + 3) r hi.popd.popd (h.2 ((c_eq hi.popd.top hi.top).mp q)))
  · have h : (a < b → k t ls r S) ∧ (¬ a < b → k (pc + 3) ls r S) := h
    exact lv_icmp_lt hx hb hd (jt_eq hj) (fun q => hK t r hi.popd.popd (h.1 ((c_lt hi.popd.top hi.top).mp q))) (fun q => hK (pc + 3) r hi.popd.popd (h.2 (fun z => q ((c_lt hi.popd.top hi.top).mpr z))))
  · have h : (b ≤ a → k t ls r S) ∧ (¬ b ≤ a → k (pc + 3) ls r S) := h
    exact lv_icmp_ge hx hb hd (jt_eq hj) (fun q => hK t r hi.popd.popd (h.1 ((c_le hi.top hi.popd.top).mp q))) (fun q => hK (pc + 3) r hi.popd.popd (h.2 (fun z => q ((c_le hi.top hi.popd.top).mpr z))))
  · have h : (b < a → k t ls r S) ∧ (¬ b < a → k (pc + 3) ls r S) := h
    exact lv_icmp_gt hx hb hd (jt_eq hj) (fun q => hK t r hi.popd.popd (h.1 ((c_lt hi.top hi.popd.top).mp q))) (fun q => hK (pc + 3) r hi.popd.popd (h.2 (fun z => q ((c_lt hi.top hi.popd.top).mpr z))))
  · have h : (a ≤ b → k t ls r S) ∧ (¬ a ≤ b → k (pc + 3) ls r S) := h
    exact lv_icmp_le hx hb hd (jt_eq hj) (fun q => hK t r hi.popd.popd (h.1 ((c_le hi.popd.top hi.top).mp q))) (fun q => hK (pc + 3) r hi.popd.popd (h.2 (fun z => q ((c_le hi.popd.top hi.top).mpr z))))
theorem s_J2 (hx : p.tables.exec = Jvm.exec) (hb : c.code = Y.2.1) (hk : aKt l Y p e R s m args below meth c cells slots Z D cy ad A k) (hi : aIn ls stk S) (hH : aHp D cy ad A S s.heap H locs) (hl : lv_has jl Y.2.2.1 (mL ad ls)) {off : Int} {r : List aV} (hr : aIn ls r S) (h : wJ k pc off ls r S) : ∃ t : Nat, (pc : Int) + off = (t : Int) ∧ W p l e R s m args below meth c H locs cells slots Z (F0 m t jl (r.map (mv ad))) := by
  unfold wJ at h
  split at h
  · rename_i t ht
    exact ⟨t, jt_eq ht, hk _ _ _ _ h hr H locs jl hH hl⟩
  · exact h.elim
theorem tsw_spec {a : Int} {r : List aV} : ∀ (os : List Int) (v : Int), tsw k pc a ls r S v os → ∀ (n : Nat) (off : Int), os[n]? = some off → a = v + n → wJ k pc off ls r S
  | [], _, _, _, _, h, _ => by simp at h
  | o :: os, v, h, 0, off, h1, h2 => by
    simp at h1
    subst h1
    exact h.1 (by simpa using h2)
  | o :: os, v, h, n + 1, off, h1, h2 => tsw_spec os (v + 1) h.2 n off (by simpa using h1) (by rw [h2]; push_cast; omega)
theorem s_tsw (hx : p.tables.exec = Jvm.exec) (hb : c.code = Y.2.1) (hk : aKt l Y p e R s m args below meth c cells slots Z D cy ad A k) (hi : aIn ls stk S) (hH : aHp D cy ad A S s.heap H locs) (hl : lv_has jl Y.2.2.1 (mL ad ls)) {d lo hi' : Int} {offs : Array Int} {len : Nat} (h : wTsw d lo hi' offs.toList k pc ls stk S) (hd : decode Y.2.1 pc = .ok (.tableswitch d lo hi' offs, len)) : W p l e R s m args below meth c H locs cells slots Z (F0 m pc jl (stk.map (mv ad))) := by
  rcases stk with _ | ⟨a | a | a, r⟩
  · exact False.elim h
  · have h : (hi' - lo < (offs.toList.length : Int)) ∧ (a < lo ∨ hi' < a → wJ k pc d ls r S) ∧ tsw k pc a ls r S lo offs.toList := h
    have ha : (Int32.ofInt a).toInt = a := ofI_toInt hi.top
    by_cases hc : a < lo ∨ hi' < a
    · obtain ⟨t, ht, hw⟩ := s_J2 hx hb hk hi hH hl hi.popd (h.2.1 hc)
      exact lv_tableOut hx hb hd (by rw [ha]; exact hc) ht hw
    · have hlt : (a - lo).toNat < offs.toList.length := by omega
      have hg : offs.toList[(a - lo).toNat]? = some (offs.toList[(a - lo).toNat]) := List.getElem?_eq_getElem hlt
      obtain ⟨t, ht, hw⟩ := s_J2 hx hb hk hi hH hl hi.popd (tsw_spec _ _ h.2.2 (a - lo).toNat _ hg (by omega))
      exact lv_tableIn hx hb hd (by rw [ha]; omega) (by rw [ha]; omega) (by rw [ha, ← Array.getElem?_toList]; exact hg) ht hw
  · exact False.elim h
  · exact False.elim h
end SOUND2
end
section
theorem inI_narB (a : Int) : inI (narB a) := inI_toInt _
theorem inI_narZ (a : Int) : inI (narZ a) := inI_toInt _
theorem toN {j : Int} (h : inI j) (h0 : 0 ≤ j) : (Int32.ofInt j).toNatClampNeg = j.toNat := by
  rw [Int32.toNatClampNeg, ofI_toInt h]
theorem vp_in_j {j : Int} {n : Nat} (h : inI j) (h0 : 0 ≤ j) (h1 : j < n) : vp_in (Int32.ofInt j) n := by
  intro q
  rw [toN h h0, c_lt0 h] at q
  omega
theorem ly_obj {a ci : Nat} (h : lyC a = some ci) : ∃ fs, LY a = .inl (ci, fs) := by
  unfold lyC at h
  split at h
  · rename_i c fs he
    cases h
    exact ⟨fs, he⟩
  · cases h
theorem ly_arr {a : Nat} (h : lyT a ≠ 9) : LY a = .inr (lyT a, lyN a, lyB a) := by
  unfold lyT at h
  unfold lyT lyN lyB
  split at h
  · exact absurd rfl h
  · rename_i he
    rw [he]
theorem mIdx_set {ad : Nat → Nat} {S : aS} {a f : Nat} {v : Int} {fs : List (Option Nat)} (hf : fs[f]? = some none) : fs.mapIdx (aFv ad (upI S a f v) a) = (fs.mapIdx (aFv ad S a)).set f (.int (Int32.ofInt v)) := by
  apply List.ext_getElem?
  intro j
  rw [List.getElem?_set, List.getElem?_mapIdx, List.getElem?_mapIdx, List.length_mapIdx]
  by_cases h : f = j
  · subst h
    have hl : f < fs.length := (List.getElem?_eq_some_iff.mp hf).1
    rw [if_pos rfl, if_pos hl, hf]
    simp [aFv, upI, up2]
  · rw [if_neg h]
    cases fs[j]? with
    | none => rfl
    | some x =>
      show some _ = some _
      rw [aFv_upI (fun q => h q.2.symm)]
section SOUND3
variable {l : Launch} {Y : aM} {p : Program} {e : Env} {R : Room} {s : State} {m : MethodId} {args : Array Value} {below : List Frame} {meth : Method} {c : Code} {cells slots : Nat} {Z : State → Prop} {D : va_G} {cy : Nat → ClassId} {ad : Nat → Nat} {A : Nat → Prop}
variable {k : aK} {pc : Nat} {ls : aL} {stk : List aV} {S : aS} {H : Heap} {locs : List Loc} {jl : Array Slot}
theorem lsw_spec {a d : Int} {r : List aV} : ∀ (ps : List (Int × Int)), lsw k pc a ls r S d ps → wJ k pc (Op.lookupswitch.offset ps d a) ls r S
  | [], h => h
  | (v, o) :: os, h => by
    rw [Op.lookupswitch.offset_cons]
    by_cases hv : v = a
    · rw [if_pos hv]; exact h.1 hv.symm
    · rw [if_neg hv]; exact lsw_spec os (h.2 (fun q => hv q.symm))
theorem s_lsw (hx : p.tables.exec = Jvm.exec) (hb : c.code = Y.2.1) (hk : aKt l Y p e R s m args below meth c cells slots Z D cy ad A k) (hi : aIn ls stk S) (hH : aHp D cy ad A S s.heap H locs) (hl : lv_has jl Y.2.2.1 (mL ad ls)) {d : Int} {ps : Array (Int × Int)} {len : Nat} (h : wLsw d ps k pc ls stk S) (hd : decode Y.2.1 pc = .ok (.lookupswitch d ps, len)) : W p l e R s m args below meth c H locs cells slots Z (F0 m pc jl (stk.map (mv ad))) := by
  rcases stk with _ | ⟨a | a | a, r⟩
  · exact False.elim h
  · have h : (ps.toList.zip (ps.toList.drop 1)).all (fun (a, next) => a.1 < next.1) = true ∧ lsw k pc a ls r S d ps.toList := h
    have ha : (Int32.ofInt a).toInt = a := ofI_toInt hi.top
    obtain ⟨t, ht, hw⟩ := s_J2 hx hb hk hi hH hl hi.popd (lsw_spec _ h.2)
    exact lv_lookup hx hb hd h.1 (by rw [ha]) ht hw
  · exact False.elim h
  · exact False.elim h
theorem s_get (hx : p.tables.exec = Jvm.exec) (hb : c.code = Y.2.1) (hk : aKt l Y p e R s m args below meth c cells slots Z D cy ad A k) (hi : aIn ls stk S) (hH : aHp D cy ad A S s.heap H locs) (hl : lv_has jl Y.2.2.1 (mL ad ls)) (hK : va_K D vwCl (aTys cy) s) (hown : s.vm.findClass Y.1.cls = some m.cls) (hts : ∀ w ∈ lw_tbl, w.before args s = true) {idx : Nat} {fo : Option (Nat × Nat)} (hfo : ∀ ci f, fo = some (ci, f) → fOK Y.1.cls idx ci f) (h : wGet fo k (pc + 3) ls stk S) (hd : decode Y.2.1 pc = .ok (.getfield idx, 3)) : W p l e R s m args below meth c H locs cells slots Z (F0 m pc jl (stk.map (mv ad))) := by
  unfold wGet at h
  split at h
  · rename_i ci f a r
    obtain ⟨haN, hC, h⟩ := h
    obtain ⟨C, T, N, hcl, hf, hin, hlink⟩ := hfo ci f rfl
    obtain ⟨fs, hLY⟩ := ly_obj hC
    have hgo : ∀ v : aV, aOk v → k (pc + 3) ls (v :: r) S → (fs.mapIdx (aFv ad S a))[f]? = some (mv ad v) → W p l e R s m args below meth c H locs cells slots Z (F0 m pc jl (.ref (ad a) :: r.map (mv ad))) := by
      intro v hv hkk hfs
      have he : (aW cy ad S)[a]? = some (ad a, .inr (ci, fs.mapIdx (aFv ad S a))) := by rw [aW_get haN, hLY]; rfl
      have hw := hk _ _ _ _ hkk (hi.popd.push hv) H locs jl hH hl
      rcases hlink with hlink | ⟨host, hlink⟩
      · exact va_get hx hb hts hin hown hK hH.1 a he hcl f hf (hts _ hlink) (fun _ h9 => h9) hfs hd hw
      · exact va_getN hx hb hts hin hown hK hH.1 a he hcl f hf (hts _ hlink) (fun _ h9 => h9) hfs hd hw
    have hFl : lyF a f = fs[f]? := by unfold lyF; rw [hLY]
    split at h
    · rename_i b hb'
      rw [hFl] at hb'
      exact hgo (.inr (.inr b)) trivial h (by rw [List.getElem?_mapIdx, hb']; rfl)
    · rename_i hb'
      rw [hFl] at hb'
      exact hgo (.inl (S.1 a f)) (hi.1.1 a f) h (by rw [List.getElem?_mapIdx, hb']; rfl)
    · exact h.elim
  · exact h.elim
theorem s_put (hx : p.tables.exec = Jvm.exec) (hb : c.code = Y.2.1) (hk : aKt l Y p e R s m args below meth c cells slots Z D cy ad A k) (hi : aIn ls stk S) (hH : aHp D cy ad A S s.heap H locs) (hl : lv_has jl Y.2.2.1 (mL ad ls)) (hK : va_K D vwCl (aTys cy) s) (hown : s.vm.findClass Y.1.cls = some m.cls) (hts : ∀ w ∈ lw_tbl, w.before args s = true) {idx : Nat} {fo : Option (Nat × Nat)} (hfo : ∀ ci f, fo = some (ci, f) → fOK Y.1.cls idx ci f ∧ fPk ci f) (h : wPut fo k (pc + 3) ls stk S) (hd : decode Y.2.1 pc = .ok (.putfield idx, 3)) : W p l e R s m args below meth c H locs cells slots Z (F0 m pc jl (stk.map (mv ad))) := by
  unfold wPut at h
  split at h
  · rename_i ci f v a r
    obtain ⟨haN, hC, h⟩ := h
    obtain ⟨⟨C, T, N, hcl, hf, hin, hlink⟩, C', T', N', ty0, hcl', hfin, hpd, hty, hnm⟩ := hfo ci f rfl
    rw [hcl] at hcl'
    cases hcl'
    obtain ⟨fs, hLY⟩ := ly_obj hC
    have hFl : lyF a f = fs[f]? := by unfold lyF; rw [hLY]
    split at h
    · rename_i hb'
      rw [hFl] at hb'
      have he : (aW cy ad S)[a]? = some (ad a, .inr (ci, fs.mapIdx (aFv ad S a))) := by rw [aW_get haN, hLY]; rfl
      have hlen : f < (fs.mapIdx (aFv ad S a)).length := by rw [List.length_mapIdx]; exact (List.getElem?_eq_some_iff.mp hb').1
      have hset : (aW cy ad S).set a (ad a, .inr (ci, (fs.mapIdx (aFv ad S a)).set f (.int (Int32.ofInt v)))) = aW cy ad (upI S a f v) := by
        refine aW_set haN ?_ (fun j hj => aE_upI hj _)
        rw [hLY]
        show Sum.inr (ci, _) = _
        rw [mIdx_set hb']
      have hw : ∀ (H1 : Heap) (locs1 : List Loc), va_P D vwCl ((aW cy ad S).set a (ad a, .inr (ci, (fs.mapIdx (aFv ad S a)).set f (.int (Int32.ofInt v))))) H1 → va_D A ((aW cy ad S).set a (ad a, .inr (ci, (fs.mapIdx (aFv ad S a)).set f (.int (Int32.ofInt v))))) → va_S A s.heap H1 locs1 → W p l e R s m args below meth c H1 locs1 cells slots Z (F0 m (pc + 3) jl (r.map (mv ad))) := by
        intro H1 locs1 g1 g2 g3
        rw [hset] at g1 g2
        have hi' := hi.popd.popd
        exact hk _ _ _ _ h ⟨hi'.1.upI hi.top, hi'.2⟩ H1 locs1 jl ⟨g1, g2, g3⟩ hl
      rcases hlink with hlink | ⟨host, hlink⟩
      · exact va_put hx hb hts hin ty0 hty hnm hown hK hH.1 hH.2.1 hH.2.2 a he hcl f hf (hts _ hlink) (fun _ h9 => h9) hfin hpd rfl rfl hlen hd hw
      · exact va_putN hx hb hts hin ty0 hty hnm hown hK hH.1 hH.2.1 hH.2.2 a he hcl f hf (hts _ hlink) (fun _ h9 => h9) hfin hpd rfl rfl hlen hd hw
    · exact h.elim
  · exact h.elim
theorem aE_i {a : Nat} (h : lyT a < 3) : aE cy ad S a (LY a) = .inl (cy (lyT a), lyN a, .inl (fun j => Int32.ofInt (S.1 a j))) := by
  rw [ly_arr (by omega)]
  show Sum.inl (_, _, ite _ _ _) = _
  rw [if_neg (by omega), if_pos h]
theorem aE_l {a : Nat} (h : lyT a = 3) : aE cy ad S a (LY a) = .inl (cy 3, lyN a, .inr (.inl (fun j => Int64.ofInt (S.2 a j)))) := by
  rw [ly_arr (by omega)]
  show Sum.inl (_, _, ite _ _ _) = _
  rw [if_pos h, h]
theorem aE_r {a : Nat} (h : lyT a = 4 ∨ lyT a = 5) : aE cy ad S a (LY a) = .inl (cy (lyT a), lyN a, .inr (.inr (.inr (.inr fun j => some (ad (lyB a + j)))))) := by
  rw [ly_arr (by omega)]
  show Sum.inl (_, _, ite _ _ _) = _
  rw [if_neg (by omega), if_neg (by omega)]
theorem s_iald (hx : p.tables.exec = Jvm.exec) (hb : c.code = Y.2.1) (hk : aKt l Y p e R s m args below meth c cells slots Z D cy ad A k) (hi : aIn ls stk S) (hH : aHp D cy ad A S s.heap H locs) (hl : lv_has jl Y.2.2.1 (mL ad ls)) (hK : va_K D vwCl (aTys cy) s) (hown : s.vm.findClass Y.1.cls = some m.cls) (hts : ∀ w ∈ lw_tbl, w.before args s = true) (h : wAld (fun t => t == 0) k (pc + 1) ls stk S) (hd : decode Y.2.1 pc = .ok (.iaload, 1)) : W p l e R s m args below meth c H locs cells slots Z (F0 m pc jl (stk.map (mv ad))) := by
  unfold wAld at h
  split at h
  · rename_i j a r
    obtain ⟨haN, ht, h0, h1, h⟩ := h
    have ht : lyT a = 0 := by simpa using ht
    have hw := hk _ _ _ _ h (hi.popd.popd.push (v := .inl _) (hi.1.1 a j.toNat)) H locs jl hH hl
    refine va_iald (cA := cy 0) (n := lyN a) (f := fun j => Int32.ofInt (S.1 a j)) hx hb hK hH.1 a 0 ?_ rfl (vp_in_j hi.top h0 h1) hd ?_
    · rw [aW_get haN, aE_i (by omega), ht]
    · rw [toN hi.top h0]; exact hw
  · exact h.elim
theorem s_bald (hx : p.tables.exec = Jvm.exec) (hb : c.code = Y.2.1) (hk : aKt l Y p e R s m args below meth c cells slots Z D cy ad A k) (hi : aIn ls stk S) (hH : aHp D cy ad A S s.heap H locs) (hl : lv_has jl Y.2.2.1 (mL ad ls)) (hK : va_K D vwCl (aTys cy) s) (hown : s.vm.findClass Y.1.cls = some m.cls) (hts : ∀ w ∈ lw_tbl, w.before args s = true) (h : wAld (fun t => t == 1 || t == 2) k (pc + 1) ls stk S) (hd : decode Y.2.1 pc = .ok (.baload, 1)) : W p l e R s m args below meth c H locs cells slots Z (F0 m pc jl (stk.map (mv ad))) := by
  unfold wAld at h
  split at h
  · rename_i j a r
    obtain ⟨haN, ht, h0, h1, h⟩ := h
    have ht : lyT a = 1 ∨ lyT a = 2 := by simpa using ht
    have hw := hk _ _ _ _ h (hi.popd.popd.push (v := .inl _) (hi.1.1 a j.toNat)) H locs jl hH hl
    rcases ht with ht | ht
    · refine va_bald (cA := cy 1) (n := lyN a) (f := fun j => Int32.ofInt (S.1 a j)) hx hb hK hH.1 a 1 ?_ rfl (vp_in_j hi.top h0 h1) hd ?_
      · rw [aW_get haN, aE_i (by omega), ht]
      · rw [toN hi.top h0]; exact hw
    · refine va_zald (cA := cy 2) (n := lyN a) (f := fun j => Int32.ofInt (S.1 a j)) hx hb hK hH.1 a 2 ?_ rfl (vp_in_j hi.top h0 h1) hd ?_
      · rw [aW_get haN, aE_i (by omega), ht]
      · rw [toN hi.top h0]; exact hw
  · exact h.elim
theorem s_lald (hx : p.tables.exec = Jvm.exec) (hb : c.code = Y.2.1) (hk : aKt l Y p e R s m args below meth c cells slots Z D cy ad A k) (hi : aIn ls stk S) (hH : aHp D cy ad A S s.heap H locs) (hl : lv_has jl Y.2.2.1 (mL ad ls)) (hK : va_K D vwCl (aTys cy) s) (hown : s.vm.findClass Y.1.cls = some m.cls) (hts : ∀ w ∈ lw_tbl, w.before args s = true) (h : wAll k (pc + 1) ls stk S) (hd : decode Y.2.1 pc = .ok (.laload, 1)) : W p l e R s m args below meth c H locs cells slots Z (F0 m pc jl (stk.map (mv ad))) := by
  unfold wAll at h
  split at h
  · rename_i j a r
    obtain ⟨haN, ht, h0, h1, h⟩ := h
    have hw := hk _ _ _ _ h (hi.popd.popd.push (v := .inr (.inl _)) (hi.1.2 a j.toNat)) H locs jl hH hl
    refine va_lald (cA := cy 3) (n := lyN a) (f := fun j => Int64.ofInt (S.2 a j)) hx hb hK hH.1 a 3 ?_ rfl (vp_in_j hi.top h0 h1) hd ?_
    · rw [aW_get haN, aE_l ht]
    · rw [toN hi.top h0]; exact hw
  · exact h.elim
theorem s_aald (hx : p.tables.exec = Jvm.exec) (hb : c.code = Y.2.1) (hk : aKt l Y p e R s m args below meth c cells slots Z D cy ad A k) (hi : aIn ls stk S) (hH : aHp D cy ad A S s.heap H locs) (hl : lv_has jl Y.2.2.1 (mL ad ls)) (hK : va_K D vwCl (aTys cy) s) (hown : s.vm.findClass Y.1.cls = some m.cls) (hts : ∀ w ∈ lw_tbl, w.before args s = true) (h : wAlr k (pc + 1) ls stk S) (hd : decode Y.2.1 pc = .ok (.aaload, 1)) : W p l e R s m args below meth c H locs cells slots Z (F0 m pc jl (stk.map (mv ad))) := by
  unfold wAlr at h
  split at h
  · rename_i j a r
    obtain ⟨haN, ht, h0, h1, h⟩ := h
    have hw := hk _ _ _ _ h (hi.popd.popd.push (v := .inr (.inr _)) trivial) H locs jl hH hl
    have he : (aW cy ad S)[a]? = some (ad a, .inl (cy (lyT a), lyN a, .inr (.inr (.inr (.inr fun j => some (ad (lyB a + j))))))) := by rw [aW_get haN, aE_r ht]
    have hin := vp_in_j hi.top h0 h1
    have hlt : (Int32.ofInt j).toNatClampNeg < lyN a := Nat.not_le.mp fun q => hin (Or.inr q)
    rcases ht with ht | ht
    · rw [ht] at he
      exact W.aald (v := va_rf (some (ad (lyB a + (Int32.ofInt j).toNatClampNeg)))) (ty := .array .int) hx hb (hH.1 a _ he) ((hK.2 4 (cy 4, .array .int) rfl).1 (lyN a) (fun j => va_rf (some (ad (lyB a + j))))) rfl (fun q => by cases q) (by show ¬ (Int32.ofInt j < 0 ∨ (arrV _ _ _).slots.size ≤ _); rw [arrV_size]; exact hin) (by show (arrV _ _ _).slots[_]? = _; rw [arrV_read _ _ hlt]) rfl rfl hd (by rw [toN hi.top h0]; exact hw)
    · rw [ht] at he
      exact W.aald (v := va_rf (some (ad (lyB a + (Int32.ofInt j).toNatClampNeg)))) (ty := .array .long) hx hb (hH.1 a _ he) ((hK.2 5 (cy 5, .array .long) rfl).1 (lyN a) (fun j => va_rf (some (ad (lyB a + j))))) rfl (fun q => by cases q) (by show ¬ (Int32.ofInt j < 0 ∨ (arrV _ _ _).slots.size ≤ _); rw [arrV_size]; exact hin) (by show (arrV _ _ _).slots[_]? = _; rw [arrV_read _ _ hlt]) rfl rfl hd (by rw [toN hi.top h0]; exact hw)
  · exact h.elim
theorem s_alen (hx : p.tables.exec = Jvm.exec) (hb : c.code = Y.2.1) (hk : aKt l Y p e R s m args below meth c cells slots Z D cy ad A k) (hi : aIn ls stk S) (hH : aHp D cy ad A S s.heap H locs) (hl : lv_has jl Y.2.2.1 (mL ad ls)) (hK : va_K D vwCl (aTys cy) s) (hown : s.vm.findClass Y.1.cls = some m.cls) (hts : ∀ w ∈ lw_tbl, w.before args s = true) (h : wAln k (pc + 1) ls stk S) (hd : decode Y.2.1 pc = .ok (.arraylength, 1)) : W p l e R s m args below meth c H locs cells slots Z (F0 m pc jl (stk.map (mv ad))) := by
  unfold wAln at h
  split at h
  · rename_i a r
    obtain ⟨haN, ht, hN, h⟩ := h
    have hw := hk _ _ _ _ h (hi.popd.push (v := .inl _) (show inI (lyN a : Int) by unfold inI; omega)) H locs jl hH hl
    have he : ∃ x : vp_A, x.1 = lyN a ∧ (aW cy ad S)[a]? = some (ad a, .inl (cy (lyT a), x)) := by
      rw [aW_get haN, ly_arr (by omega)]
      exact ⟨_, rfl, rfl⟩
    obtain ⟨x, hx1, he⟩ := he
    have htt : ∃ ty, (aTys cy)[lyT a]? = some (cy (lyT a), ty) := by
      have h6 : lyT a = 0 ∨ lyT a = 1 ∨ lyT a = 2 ∨ lyT a = 3 ∨ lyT a = 4 ∨ lyT a = 5 := by omega
      rcases h6 with h6 | h6 | h6 | h6 | h6 | h6 <;> rw [h6] <;> exact ⟨_, rfl⟩
    obtain ⟨ty, htt⟩ := htt
    exact va_alen (v := Int32.ofInt (lyN a : Int)) hx hb hK hH.1 a (lyT a) he htt (by rw [hx1]; exact (Int32.ofInt_eq_ofNat).symm) hd hw
  · exact h.elim
theorem s_iast (hx : p.tables.exec = Jvm.exec) (hb : c.code = Y.2.1) (hk : aKt l Y p e R s m args below meth c cells slots Z D cy ad A k) (hi : aIn ls stk S) (hH : aHp D cy ad A S s.heap H locs) (hl : lv_has jl Y.2.2.1 (mL ad ls)) (hK : va_K D vwCl (aTys cy) s) (hown : s.vm.findClass Y.1.cls = some m.cls) (hts : ∀ w ∈ lw_tbl, w.before args s = true) (h : wAst k (pc + 1) ls stk S) (hd : decode Y.2.1 pc = .ok (.iastore, 1)) : W p l e R s m args below meth c H locs cells slots Z (F0 m pc jl (stk.map (mv ad))) := by
  unfold wAst at h
  split at h
  · rename_i v j a r
    obtain ⟨haN, ht, h0, h1, h⟩ := h
    have he : (aW cy ad S)[a]? = some (ad a, .inl (cy 0, lyN a, .inl (fun j => Int32.ofInt (S.1 a j)))) := by rw [aW_get haN, aE_i (by omega), ht]
    have hset : (aW cy ad S).set a (ad a, .inl (cy 0, lyN a, .inl (upd (fun j => Int32.ofInt (S.1 a j)) (Int32.ofInt j).toNatClampNeg (Int32.ofInt v)))) = aW cy ad (upI S a j.toNat v) := by
      refine aW_set haN ?_ (fun j hj => aE_upI hj _)
      rw [aE_i (by omega), ht, toN hi.popd.top h0]
      congr 3
      congr 1
      funext q
      simp only [upI, up2, upd, true_and]
      split <;> rfl
    refine va_iast hx hb hK hH.1 hH.2.1 hH.2.2 a 0 he rfl (vp_in_j hi.popd.top h0 h1) hd (fun H1 locs1 g1 g2 g3 => ?_)
    rw [hset] at g1 g2
    have hi' := hi.popd.popd.popd
    exact hk _ _ _ _ h ⟨hi'.1.upI hi.top, hi'.2⟩ H1 locs1 jl ⟨g1, g2, g3⟩ hl
  · exact h.elim
theorem s_bast (hx : p.tables.exec = Jvm.exec) (hb : c.code = Y.2.1) (hk : aKt l Y p e R s m args below meth c cells slots Z D cy ad A k) (hi : aIn ls stk S) (hH : aHp D cy ad A S s.heap H locs) (hl : lv_has jl Y.2.2.1 (mL ad ls)) (hK : va_K D vwCl (aTys cy) s) (hown : s.vm.findClass Y.1.cls = some m.cls) (hts : ∀ w ∈ lw_tbl, w.before args s = true) (h : wBst k (pc + 1) ls stk S) (hd : decode Y.2.1 pc = .ok (.bastore, 1)) : W p l e R s m args below meth c H locs cells slots Z (F0 m pc jl (stk.map (mv ad))) := by
  unfold wBst at h
  split at h
  · rename_i v j a r
    obtain ⟨haN, h0, h1, ⟨ht, h⟩ | ⟨ht, h⟩⟩ := h
    · have he : (aW cy ad S)[a]? = some (ad a, .inl (cy 1, lyN a, .inl (fun j => Int32.ofInt (S.1 a j)))) := by rw [aW_get haN, aE_i (by omega), ht]
      have hset : (aW cy ad S).set a (ad a, .inl (cy 1, lyN a, .inl (upd (fun j => Int32.ofInt (S.1 a j)) (Int32.ofInt j).toNatClampNeg (vp_nar .byte (Int32.ofInt v))))) = aW cy ad (upI S a j.toNat (narB v)) := by
        refine aW_set haN ?_ (fun j hj => aE_upI hj _)
        rw [aE_i (by omega), ht, toN hi.popd.top h0]
        congr 3
        congr 1
        funext q
        simp only [upI, up2, upd, true_and]
        split
        · unfold narB; rw [of_toI]
        · rfl
      refine va_bast hx hb hK hH.1 hH.2.1 hH.2.2 a 1 he rfl (vp_in_j hi.popd.top h0 h1) hd (fun H1 locs1 g1 g2 g3 => ?_)
      rw [hset] at g1 g2
      have hi' := hi.popd.popd.popd
      exact hk _ _ _ _ h ⟨hi'.1.upI (inI_narB v), hi'.2⟩ H1 locs1 jl ⟨g1, g2, g3⟩ hl
    · have he : (aW cy ad S)[a]? = some (ad a, .inl (cy 2, lyN a, .inl (fun j => Int32.ofInt (S.1 a j)))) := by rw [aW_get haN, aE_i (by omega), ht]
      have hset : (aW cy ad S).set a (ad a, .inl (cy 2, lyN a, .inl (upd (fun j => Int32.ofInt (S.1 a j)) (Int32.ofInt j).toNatClampNeg (vp_nar .boolean (Int32.ofInt v))))) = aW cy ad (upI S a j.toNat (narZ v)) := by
        refine aW_set haN ?_ (fun j hj => aE_upI hj _)
        rw [aE_i (by omega), ht, toN hi.popd.top h0]
        congr 3
        congr 1
        funext q
        simp only [upI, up2, upd, true_and]
        split
        · unfold narZ; rw [of_toI]
        · rfl
      refine va_zast hx hb hK hH.1 hH.2.1 hH.2.2 a 2 he rfl (vp_in_j hi.popd.top h0 h1) hd (fun H1 locs1 g1 g2 g3 => ?_)
      rw [hset] at g1 g2
      have hi' := hi.popd.popd.popd
      exact hk _ _ _ _ h ⟨hi'.1.upI (inI_narZ v), hi'.2⟩ H1 locs1 jl ⟨g1, g2, g3⟩ hl
  · exact h.elim
theorem s_last (hx : p.tables.exec = Jvm.exec) (hb : c.code = Y.2.1) (hk : aKt l Y p e R s m args below meth c cells slots Z D cy ad A k) (hi : aIn ls stk S) (hH : aHp D cy ad A S s.heap H locs) (hl : lv_has jl Y.2.2.1 (mL ad ls)) (hK : va_K D vwCl (aTys cy) s) (hown : s.vm.findClass Y.1.cls = some m.cls) (hts : ∀ w ∈ lw_tbl, w.before args s = true) (h : wLst k (pc + 1) ls stk S) (hd : decode Y.2.1 pc = .ok (.lastore, 1)) : W p l e R s m args below meth c H locs cells slots Z (F0 m pc jl (stk.map (mv ad))) := by
  unfold wLst at h
  split at h
  · rename_i v j a r
    obtain ⟨haN, ht, h0, h1, h⟩ := h
    have he : (aW cy ad S)[a]? = some (ad a, .inl (cy 3, lyN a, .inr (.inl (fun j => Int64.ofInt (S.2 a j))))) := by rw [aW_get haN, aE_l ht]
    have hset : (aW cy ad S).set a (ad a, .inl (cy 3, lyN a, .inr (.inl (vp_updL (fun j => Int64.ofInt (S.2 a j)) (Int32.ofInt j).toNatClampNeg (Int64.ofInt v))))) = aW cy ad (upL S a j.toNat v) := by
      refine aW_set haN ?_ (fun j hj => aE_upL hj _)
      rw [aE_l ht, toN hi.popd.top h0]
      congr 4
      congr 1
      funext q
      simp only [upL, up2, vp_updL, true_and]
      split <;> rfl
    refine va_last hx hb hK hH.1 hH.2.1 hH.2.2 a 3 he rfl (vp_in_j hi.popd.top h0 h1) hd (fun H1 locs1 g1 g2 g3 => ?_)
    rw [hset] at g1 g2
    have hi' := hi.popd.popd.popd
    exact hk _ _ _ _ h ⟨hi'.1.upL hi.top, hi'.2⟩ H1 locs1 jl ⟨g1, g2, g3⟩ hl
  · exact h.elim
end SOUND3
end
section
theorem few_sum {ad : Nat → Nat} {r : List aV} (h : few r = true) : ((r.map (mv ad)).map fun v => v.category).sum ≤ 8 := by
  have hc : ∀ v : aV, (mv ad v).category ≤ 2 := fun v => by rw [mv_cat]; split <;> omega
  unfold few at h
  split at h
  · simp
  · rename_i a; have := hc a; simp; omega
  · rename_i a b; have := hc a; have := hc b; simp; omega
  · rename_i a b c; have := hc a; have := hc b; have := hc c; simp; omega
  · rename_i a b c d; have := hc a; have := hc b; have := hc c; have := hc d; simp; omega
  · cases h
theorem pop_spec : ∀ (n : Nat) (acc stk as r : List aV), pop n acc stk = some (as, r) → ∃ xs, stk = xs ++ r ∧ xs.length = n ∧ as = xs.reverse ++ acc
  | 0, acc, stk, as, r, h => by
    cases h
    exact ⟨[], rfl, rfl, rfl⟩
  | n + 1, acc, v :: stk, as, r, h => by
    obtain ⟨xs, h1, h2, h3⟩ := pop_spec n (v :: acc) stk as r h
    exact ⟨v :: xs, by rw [h1]; rfl, by simp [h2], by rw [h3]; simp⟩
  | n + 1, acc, [], as, r, h => by cases h
section SOUND4
variable {l : Launch} {Y : aM} {p : Program} {e : Env} {R : Room} {s : State} {m : MethodId} {args : Array Value} {below : List Frame} {meth : Method} {c : Code} {cells slots : Nat} {Z : State → Prop} {D : va_G} {cy : Nat → ClassId} {ad : Nat → Nat} {A : Nat → Prop}
variable {k : aK} {pc : Nat} {ls : aL} {stk : List aV} {S : aS} {H : Heap} {locs : List Loc} {jl : Array Slot}
theorem s_run (hx : p.tables.exec = Jvm.exec) (hb : c.code = Y.2.1) (hk : aKt l Y p e R s m args below meth c cells slots Z D cy ad A k) (hi : aIn ls stk S) (hH : aHp D cy ad A S s.heap H locs) (hl : lv_has jl Y.2.2.1 (mL ad ls)) (hA : ∀ q, s.heap.size ≤ q → A q) (hKs : va_K D vwCl (aTys cy) s) {Q' : Option aV → aS → Prop} {r : List aV} {st0 : List Value} (hir : aIn ls r S) (hQ' : ∀ v S', Q' v S' → k (pc + 3) ls (v.toList ++ r) S') {a : Array Value}
    (hr : va_Run p l e R s m args below meth c H locs cells slots 0 0 (F0 m pc jl st0) (r.map (mv ad)) ((fun _ st oc t => (∃ (v : Option aV) (S' : aS), oc = .returned (v.map (mv ad)) ∧ Q' v S' ∧ aRg S' ∧ (∀ w, v = some w → aOk w) ∧ va_P D vwCl (aW cy ad S') t.heap ∧ va_K D vwCl (aTys cy) t ∧ va_D (va_A (aW cy ad S) H.size) (aW cy ad S')) ∧ va_F (va_A (aW cy ad S) H.size) st t : Array Value → State → Outcome → State → Prop) a) (va_A (aW cy ad S) H.size)) : W p l e R s m args below meth c H locs cells slots Z (F0 m pc jl st0) := by
  intro T hT X
  obtain ⟨v, st₀, t, T', L, h0, X', hL, e1, e2, ⟨⟨v', S', hv, hQ, hRg, hvok, hP1, hK1, hD1⟩, hz, hk1⟩, st⟩ := hr T hT X
  cases hv
  rw [h0] at hz hk1
  have hF : ∀ q, va_A (aW cy ad S) H.size q → A q := by
    intro q h
    rcases h with ⟨k2, e2, h⟩ | h
    · exact hH.2.1.2 k2 _ h
    · exact hA q (Nat.le_trans hH.2.2.1 h)
  have hw := hk _ _ _ _ (hQ' _ _ hQ) (show aIn ls (v'.toList ++ r) S' from ⟨hRg, hir.2.1, fun w hw => (List.mem_append.mp hw).elim (fun h => hvok w (by cases v' with | none => simp at h | some x => simp at h; rw [h])) (fun h => hir.2.2 w h)⟩) T'.heap (locs ++ L) jl
    ⟨by rw [e1]; exact hP1, hD1.weaken (fun _ q _ h => hF q.1 h), Nat.le_trans hH.2.2.1 (by rw [e1]; exact hz), fun q h1 h2 => by rw [e1, hk1 q (Nat.lt_of_lt_of_le h1 hH.2.2.1) (fun z => h2 (hF q z))]; exact hH.2.2.2.1 q h1 h2, fun q hq => by
      rcases List.mem_append.mp hq with h | h
      · exact hH.2.2.2.2 q h
      · exact hF _ (hL q h)⟩ hl
  obtain ⟨t2, a1, b1⟩ := hw T' rfl X'
  refine ⟨t2, st t2 ?_, b1⟩
  have hst : (v'.map (mv ad)).toList ++ r.map (mv ad) = (v'.toList ++ r).map (mv ad) := by cases v' <;> simp
  show Steps p.tables e below (T'.setTop (F0 m (pc + 3) jl ((v'.map (mv ad)).toList ++ r.map (mv ad)))) t2
  rw [hst]
  exact a1
theorem s_call (hx : p.tables.exec = Jvm.exec) (hb : c.code = Y.2.1) (hk : aKt l Y p e R s m args below meth c cells slots Z D cy ad A k) (hi : aIn ls stk S) (hH : aHp D cy ad A S s.heap H locs) (hl : lv_has jl Y.2.2.1 (mL ad ls)) (hK : va_K D vwCl (aTys cy) s) (hown : s.vm.findClass Y.1.cls = some m.cls) (hts : ∀ w ∈ lw_tbl, w.before args s = true) (hA : ∀ q, s.heap.size ≤ q → A q) (hml : c.maxLocals = Y.2.2.1) (hR : Y.2.2.2.2.1 ≤ R.frames ∧ Y.2.2.2.2.2 ≤ R.locals ∧ cells ≤ R.cells ∧ slots ≤ R.slots) {idx : Nat} {co : Option (Option Nat × Nat × aSp)} (hco : ∀ cr n sp, co = some (cr, n, sp) → cOK l Y idx cr n sp) {vt : Bool} (h : wCall co vt k (pc + 3) ls stk S) (hd : decode Y.2.1 pc = .ok (if vt then .invokevirtual idx else .invokestatic idx, 3)) : W p l e R s m args below meth c H locs cells slots Z (F0 m pc jl (stk.map (mv ad))) := by
  unfold wCall at h
  split at h
  · rename_i cr n sp
    obtain ⟨Y', hok, hG, hlink, hini, hd1, hfr, hlo, hcr⟩ := hco cr n sp rfl
    split at h
    · rename_i as r hp
      obtain ⟨hfew, hrc, hsp⟩ := h
      obtain ⟨xs, hstk, hxl, has⟩ := pop_spec n [] stk as r hp
      rw [List.append_nil] at has
      have hir : aIn ls r S := ⟨hi.1, hi.2.1, fun w hw => hi.2.2 w (by rw [hstk]; exact List.mem_append_right _ hw)⟩
      have has' : ∀ v ∈ as, aOk v := fun w hw => hi.2.2 w (by rw [hstk]; exact List.mem_append_left _ (by rw [has] at hw; exact List.mem_reverse.mp hw))
      have hM := hok as S _ hsp hi.1 has' D cy ad H.size
      have hfb : FrameBlind (va_Pc (as.map (mv ad)) (fun U => U.heap.size = H.size ∧ va_P D vwCl (aW cy ad S) U.heap ∧ va_K D vwCl (aTys cy) U ∧ va_D (fun _ => True) (aW cy ad S))) := fun a U g mk q => by
        obtain ⟨q0, q1, qP, qK, qD⟩ := q
        exact ⟨q0, q1, qP, va_K.moved (u := U) (U := U.calling g mk a) (Vm.Alike.refl U.vm) qK, qD⟩
      have hpre : ∀ U : State, U.heap = H → s.WarmedH U.vm → (fun U : State => U.heap.size = H.size ∧ va_P D vwCl (aW cy ad S) U.heap ∧ va_K D vwCl (aTys cy) U ∧ va_D (fun _ => True) (aW cy ad S)) U := fun U hU hW => ⟨by rw [hU], by rw [hU]; exact hH.1, va_K.moved hW.alike hK, hH.2.1.weaken (fun _ _ _ _ => trivial)⟩
      have hRoom : (aRm Y').frames + 1 ≤ R.frames ∧ 8 + (Y'.2.2.1 + 11) + (aRm Y').locals ≤ R.locals := ⟨Nat.le_trans hfr hR.1, Nat.le_trans hlo hR.2.1⟩
      have hstm : stk.map (mv ad) = (as.map (mv ad)).reverse ++ r.map (mv ad) := by rw [hstk, has, List.map_append, ← List.map_reverse, List.reverse_reverse]
      split at hrc
      · rename_i ci b as'
        obtain ⟨hbN, hbC⟩ := hrc
        obtain ⟨hn, ⟨CT, CN, hcl⟩, hinst, hsel⟩ := hcr
        obtain ⟨fs, hLY⟩ := ly_obj hbC
        have he : (aW cy ad S)[b]? = some (ad b, .inr (ci, fs.mapIdx (aFv ad S b))) := by rw [aW_get hbN, hLY]; rfl
        have hlen : as'.length + 1 = n := by
          have h1 : (Sum.inr (Sum.inr b) :: as' : List aV).length = xs.length := by rw [has, List.length_reverse]
          simpa [hxl] using h1
        have hB := callB_of (R := R) (own := Y.1.cls) (index := idx) (y := Y'.1) (bytes := Y'.2.1) (maxL := Y'.2.2.1) (ret := Y'.2.2.2.1) (mc := 0) (ms := 0) (rm := aRm Y') (n - 1) hts hG rfl rfl rfl (hts _ hini) (hts _ hlink) hd1 hRoom
        refine s_run hx hb hk hi hH hl hA hK hir (fun v S' hq => hq) (a := (Value.ref (ad b) :: as'.map (mv ad)).toArray) (va_runV (As := as'.map (mv ad)) ⟨hx, hb, hml, hown, hts⟩ hM ⟨hB, hts _ hinst, hts _ hsel⟩ ⟨hfb, va_recv hK hH.1 hcl he, fun U hU hW => ⟨rfl, hpre U hU hW⟩⟩ rfl ?_ hl.1 ?_ (lv_room (few_sum hfew)) hd ⟨hR.2.2.1, hR.2.2.2⟩)
        · rw [List.length_map]; omega
        · show stk.map (mv ad) = _
          rw [hstm]
          simp [mv]
      · have hst : Cond.static Y'.1 ∈ lw_tbl := hcr
        have hB := callB_of (R := R) (own := Y.1.cls) (index := idx) (y := Y'.1) (bytes := Y'.2.1) (maxL := Y'.2.2.1) (ret := Y'.2.2.2.1) (mc := 0) (ms := 0) (rm := aRm Y') n hts hG rfl rfl rfl (hts _ hini) (hts _ hlink) hd1 hRoom
        refine s_run hx hb hk hi hH hl hA hK hir (fun v S' hq => hq) (a := (as.map (mv ad)).toArray) (va_runS (As := as.map (mv ad)) ⟨hx, hb, hml, hown, hts⟩ hM ⟨hB, hts _ hst⟩ ⟨hfb, fun U hU hW => ⟨rfl, hpre U hU hW⟩⟩ rfl ?_ hl.1 hstm (lv_room (few_sum hfew)) hd ⟨hR.2.2.1, hR.2.2.2⟩)
        · rw [List.length_map, has, List.length_reverse, hxl]
      · exact hrc.elim
    · exact h.elim
  · exact h.elim
theorem s_ret {Q : Option aV → aS → Prop} (hE : aEnd Y Q p l e R s m args below meth c cells slots Z D cy ad A) (hi : aIn ls stk S) (hH : aHp D cy ad A S s.heap H locs) {i : Instr} (v : Option aV) (hst : stk = v.toList) (hQ : Q v S) (hr : aRet i Y.2.2.2.1 v) (hd : decode Y.2.1 pc = .ok (i, 1)) : W p l e R s m args below meth c H locs cells slots Z (F0 m pc jl (stk.map (mv ad))) := by
  rw [hst]
  exact hE v S H locs pc jl i hQ hi.1 (fun w hw => hi.2.2 w (by rw [hst, hw]; exact List.mem_cons_self)) hH hd hr
end SOUND4
end
section
section SOUND5
variable {l : Launch} {Y : aM} {p : Program} {e : Env} {R : Room} {s : State} {m : MethodId} {args : Array Value} {below : List Frame} {meth : Method} {c : Code} {cells slots : Nat} {Z : State → Prop} {D : va_G} {cy : Nat → ClassId} {ad : Nat → Nat} {A : Nat → Prop}
variable {k : aK} {pc : Nat} {ls : aL} {stk : List aV} {S : aS} {H : Heap} {locs : List Loc} {jl : Array Slot}
set_option maxHeartbeats 4000000 in
theorem ws1_ok (hx : p.tables.exec = Jvm.exec) (hb : c.code = Y.2.1) (hk : aKt l Y p e R s m args below meth c cells slots Z D cy ad A k) (hi : aIn ls stk S) (hH : aHp D cy ad A S s.heap H locs) (hl : lv_has jl Y.2.2.1 (mL ad ls)) (hK : va_K D vwCl (aTys cy) s) (hown : s.vm.findClass Y.1.cls = some m.cls) (hts : ∀ w ∈ lw_tbl, w.before args s = true) {Q : Option aV → aS → Prop} {tb : aTb} (htb : tOK l Y tb) (hE : aEnd Y Q p l e R s m args below meth c cells slots Z D cy ad A) (hA : ∀ q, s.heap.size ≤ q → A q) (hml : c.maxLocals = Y.2.2.1) (hR : Y.2.2.2.2.1 ≤ R.frames ∧ Y.2.2.2.2.2 ≤ R.locals ∧ cells ≤ R.cells ∧ slots ≤ R.slots) {i : Instr} {len : Nat} (h : ws1 tb Y.2.2.1 Y.2.2.2.1 Q k i len pc ls stk S) (hd : decode Y.2.1 pc = .ok (i, len)) : W p l e R s m args below meth c H locs cells slots Z (F0 m pc jl (stk.map (mv ad))) := by
  unfold ws1 at h
  split at h
  · exact s_aload_n hx hb hk hi hH hl h hd
  · exact s_aload hx hb hk hi hH hl h hd
  · exact s_iload_n hx hb hk hi hH hl h hd
  · exact s_iload hx hb hk hi hH hl h hd
  · exact s_lload_n hx hb hk hi hH hl h hd
  · exact s_lload hx hb hk hi hH hl h hd
  · exact s_istore_n hx hb hk hi hH hl h hd
  · exact s_istore hx hb hk hi hH hl h hd
  · exact s_lstore_n hx hb hk hi hH hl h hd
  · exact s_lstore hx hb hk hi hH hl h hd
  · exact s_astore_n hx hb hk hi hH hl h hd
  · exact s_astore hx hb hk hi hH hl h hd
  · exact s_push hx hb hk hi hH hl (.inl (wI _)) (inI_wI _) h (fun hw => lv_iconst hx hb hd (of_wI _).symm hw)
  · exact s_push hx hb hk hi hH hl (.inl _) (inI_toInt _) h (fun hw => lv_bipush hx hb hd (of_toI _).symm hw)
  · exact s_push hx hb hk hi hH hl (.inl _) (inI_toInt _) h (fun hw => lv_sipush hx hb hd (of_toI _).symm hw)
  · exact s_push hx hb hk hi hH hl (.inr (.inl _)) (inL_toInt _) h (fun hw => lv_lconst hx hb hd (of_toL _).symm hw)
  · split at h
    · rename_i x hx'
      obtain ⟨v, rfl, hc⟩ := htb.2.2.2 _ _ hx'
      exact s_push hx hb hk hi hH hl (.inr (.inl v.toInt)) (inL_toInt _) h (fun hw => lv_ldc2 hx hb hown (hts _ hc) hd (by rw [← of_toL v]; exact hw))
    · exact h.elim
  · exact s_i2 hx hb hk hi hH hl h (fun a b => inI_wI _) (fun a b r _ _ hw => lv_iadd hx hb hd (by rw [o_add]; exact hw))
  · exact s_i2 hx hb hk hi hH hl h (fun a b => inI_wI _) (fun a b r _ _ hw => lv_isub hx hb hd (by rw [o_sub]; exact hw))
  · exact s_i2 hx hb hk hi hH hl h (fun a b => inI_wI _) (fun a b r _ _ hw => lv_imul hx hb hd (by rw [o_mul]; exact hw))
  · exact s_d2 hx hb hk hi hH hl h (fun a b => inI_wI _) (fun a b r h1 h2 h3 hw => lv_idiv hx hb hd (fun q => h3 ((c_eq0 h2).mp q)) (by rw [o_div h1 h2]; exact hw))
  · exact s_d2 hx hb hk hi hH hl h (fun a b => inI_wI _) (fun a b r h1 h2 h3 hw => lv_irem hx hb hd (fun q => h3 ((c_eq0 h2).mp q)) (by rw [o_rem h1 h2]; exact hw))
  · refine s_i2 hx hb hk hi hH hl h (fun a b => inI_toInt _) (fun a b r _ _ hw => ?_)
    have e : Int32.ofInt (bAnd a b) = Int32.ofInt a &&& Int32.ofInt b := of_toI _
    rw [e] at hw
    exact lv_iand hx hb hd hw
  · refine s_i2 hx hb hk hi hH hl h (fun a b => inI_toInt _) (fun a b r _ _ hw => ?_)
    have e : Int32.ofInt (bOr a b) = Int32.ofInt a ||| Int32.ofInt b := of_toI _
    rw [e] at hw
    exact lv_ior hx hb hd hw
  · refine s_i2 hx hb hk hi hH hl h (fun a b => inI_toInt _) (fun a b r _ _ hw => ?_)
    have e : Int32.ofInt (bXor a b) = Int32.ofInt a ^^^ Int32.ofInt b := of_toI _
    rw [e] at hw
    exact lv_ixor hx hb hd hw
  · refine s_i2 hx hb hk hi hH hl h (fun a b => inI_toInt _) (fun a b r _ _ hw => ?_)
    have e : Int32.ofInt (bShl a b) = Int32.ofInt a <<< (Int32.ofInt b &&& 31) := of_toI _
    rw [e] at hw
    exact lv_ishl hx hb hd hw
  · refine s_i2 hx hb hk hi hH hl h (fun a b => inI_toInt _) (fun a b r _ _ hw => ?_)
    have e : Int32.ofInt (bShr a b) = Int32.ofInt a >>> (Int32.ofInt b &&& 31) := of_toI _
    rw [e] at hw
    exact lv_ishr hx hb hd hw
  · exact s_i2 hx hb hk hi hH hl h (fun a b => inI_toInt _) (fun a b r _ _ hw => lv_iushr hx hb hd (of_toI _).symm hw)
  · exact s_l2 hx hb hk hi hH hl h (fun a b => inL_wL _) (fun a b r _ _ hw => lv_lsub hx hb hd (by rw [o_lsub]; exact hw))
  · refine s_l2 hx hb hk hi hH hl h (fun a b => inL_toInt _) (fun a b r _ _ hw => ?_)
    have e : Int64.ofInt (lAnd a b) = Int64.ofInt a &&& Int64.ofInt b := of_toL _
    rw [e] at hw
    exact lv_land hx hb hd hw
  · refine s_l2 hx hb hk hi hH hl h (fun a b => inL_toInt _) (fun a b r _ _ hw => ?_)
    have e : Int64.ofInt (lOr a b) = Int64.ofInt a ||| Int64.ofInt b := of_toL _
    rw [e] at hw
    exact lv_lor hx hb hd hw
  · exact s_li2 hx hb hk hi hH hl h (fun a b => inL_toInt _) (fun a b r _ _ hw => lv_lshl hx hb hd (of_toL _).symm hw)
  · exact s_li2 hx hb hk hi hH hl h (fun a b => inL_toInt _) (fun a b r _ _ hw => lv_lushr hx hb hd (of_toL _).symm hw)
  · exact s_lcmp hx hb hk hi hH hl h hd
  · exact s_i2l hx hb hk hi hH hl h hd
  · exact s_l2i hx hb hk hi hH hl h hd
  · exact s_i2b hx hb hk hi hH hl h hd
  · exact s_dup hx hb hk hi hH hl h hd
  · exact s_dup2 hx hb hk hi hH hl h hd
  · exact s_pop hx hb hk hi hH hl h hd
  · exact s_iinc hx hb hk hi hH hl h hd
  · exact s_if hx hb hk hi hH hl h hd
  · exact s_ic hx hb hk hi hH hl h hd
  · exact s_goto hx hb hk hi hH hl h hd
  · exact s_tsw hx hb hk hi hH hl h hd
  · exact s_lsw hx hb hk hi hH hl h hd
  · exact s_get hx hb hk hi hH hl hK hown hts (fun ci f e => htb.1 _ ci f e) h hd
  · exact s_put hx hb hk hi hH hl hK hown hts (fun ci f e => htb.2.1 _ ci f e) h hd
  · exact s_iald hx hb hk hi hH hl hK hown hts h hd
  · exact s_bald hx hb hk hi hH hl hK hown hts h hd
  · exact s_lald hx hb hk hi hH hl hK hown hts h hd
  · exact s_aald hx hb hk hi hH hl hK hown hts h hd
  · exact s_alen hx hb hk hi hH hl hK hown hts h hd
  · exact s_iast hx hb hk hi hH hl hK hown hts h hd
  · exact s_bast hx hb hk hi hH hl hK hown hts h hd
  · exact s_last hx hb hk hi hH hl hK hown hts h hd
  · exact s_call hx hb hk hi hH hl hK hown hts hA hml hR (fun cr n sp e => htb.2.2.1 _ cr n sp e) (vt := true) h hd
  · exact s_call hx hb hk hi hH hl hK hown hts hA hml hR (fun cr n sp e => htb.2.2.1 _ cr n sp e) (vt := false) h hd
  · unfold wRi at h
    split at h
    · rename_i a he
      exact s_ret hE hi hH (some (.inl a)) rfl h (by rw [he]; trivial) hd
    · rename_i a he
      exact s_ret hE hi hH (some (.inl a)) rfl h.2 (by rw [he]; exact h.1) hd
    · exact h.elim
  · unfold wRl at h
    split at h
    · rename_i a he
      exact s_ret hE hi hH (some (.inr (.inl a))) rfl h (by rw [he]; trivial) hd
    · exact h.elim
  · unfold wRv at h
    split at h
    · rename_i he
      exact s_ret hE hi hH none rfl h (by rw [he]; trivial) hd
    · exact h.elim
  · exact h.elim
end SOUND5
/-- THE STEPS ARE SOUND: what the way says, the machine does -/
theorem wp_ok {l : Launch} {Y : aM} {tb : aTb} (htb : tOK l Y tb) (Q : Option aV → aS → Prop) (cut : Nat → Bool) : ∀ (n pc : Nat) (ls : aL) (stk : List aV) (S : aS), wp Y.2.1 tb Y.2.2.1 Y.2.2.2.1 Q cut (aGo l Y Q) n pc ls stk S → aGo l Y Q pc ls stk S := by
  intro n pc ls stk S h hi p e R s m args below meth c cells slots Z D cy ad A hC hK hA hE
  have key : ∀ n : Nat, aKt l Y p e R s m args below meth c cells slots Z D cy ad A (wp Y.2.1 tb Y.2.2.1 Y.2.2.2.1 Q cut (aGo l Y Q) n) := by
    intro n
    induction n with
    | zero =>
      intro pc ls stk S h hi H locs jl hH hl
      exact h hi p e R s m args below meth c cells slots Z D cy ad A hC hK hA hE H locs jl hH hl
    | succ n ih =>
      intro pc ls stk S h hi H locs jl hH hl
      unfold wp at h
      cases hc : cut pc with
      | true =>
        rw [hc] at h
        exact h hi p e R s m args below meth c cells slots Z D cy ad A hC hK hA hE H locs jl hH hl
      | false =>
        rw [hc] at h
        dsimp only [cond_false] at h
        obtain ⟨c1, c2, c3, c4, c5, c6⟩ := hC
        split at h
        · rename_i i len hd
          exact ws1_ok c1 c2 ih hi hH hl hK c4 c5 htb hE hA c3 c6 h hd
        · exact h.elim
  intro H locs jl hH hl
  exact key n pc ls stk S h hi H locs jl hH hl
/-- one step from a place that may be a cut, then the way -/
theorem wp_go {l : Launch} {Y : aM} {tb : aTb} (htb : tOK l Y tb) {Q : Option aV → aS → Prop} (cut : Nat → Bool) (n : Nat) {pc : Nat} {ls : aL} {stk : List aV} {S : aS} {i : Instr} {len : Nat} (hd : decode Y.2.1 pc = .ok (i, len)) (h : ws1 tb Y.2.2.1 Y.2.2.2.1 Q (wp Y.2.1 tb Y.2.2.1 Y.2.2.2.1 Q cut (aGo l Y Q) n) i len pc ls stk S) : aGo l Y Q pc ls stk S := by
  intro hi p e R s m args below meth c cells slots Z D cy ad A hC hK hA hE H locs jl hH hl
  have hC' := hC
  obtain ⟨c1, c2, c3, c4, c5, c6⟩ := hC'
  exact ws1_ok c1 c2 (fun pc ls stk S h hi => wp_ok htb Q cut n pc ls stk S h hi p e R s m args below meth c cells slots Z D cy ad A hC hK hA hE) hi hH hl hK c4 c5 htb hE hA c3 c6 h hd
theorem aGo_sub {l : Launch} {Y : aM} {Q : Option aV → aS → Prop} {pc : Nat} {ls ls' : aL} {stk : List aV} {S : aS} (h : aGo l Y Q pc ls' stk S) (hs : ∀ q ∈ ls', q ∈ ls) : aGo l Y Q pc ls stk S := by
  intro hi p e R s m args below meth c cells slots Z D cy ad A hC hK hA hE H locs jl hH hl
  refine h ⟨hi.1, fun q hq => hi.2.1 q (hs q hq), hi.2.2⟩ p e R s m args below meth c cells slots Z D cy ad A hC hK hA hE H locs jl hH (has_sub hl fun q hq => ?_)
  obtain ⟨q', h1, rfl⟩ := List.mem_map.mp hq
  exact List.mem_map.mpr ⟨q', hs _ h1, rfl⟩
/-- the ranges may be used -/
theorem aGo_in {l : Launch} {Y : aM} {Q : Option aV → aS → Prop} {pc : Nat} {ls : aL} {stk : List aV} {S : aS} (h : aIn ls stk S → aGo l Y Q pc ls stk S) : aGo l Y Q pc ls stk S := fun hi => h hi hi
/-- a method's entry -/
def aAr : Nat → List aV → aL
  | _, [] => []
  | n, .inl a :: r => (n, .inl a) :: aAr (n + 1) r
  | n, .inr (.inl a) :: r => (n, .inr (.inl a)) :: aAr (n + 2) r
  | n, .inr (.inr a) :: r => (n, .inr (.inr a)) :: aAr (n + 1) r
def aLn : List aV → Nat
  | [] => 0
  | .inl _ :: r => aLn r + 1
  | .inr (.inl _) :: r => aLn r + 2
  | .inr (.inr _) :: r => aLn r + 1
end
section
theorem zz_probe : (1 : Nat) = 1 := rfl
end
