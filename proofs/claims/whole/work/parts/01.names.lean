-- ===== PART A: goes FIRST, ahead of the names: the tables' words, and 'selects' of the private methods out of them =====
/-- a private method of a class that the tables say can be made, by its rows of tables_1 -/
def lw_okq (q : MethodName × Nat) : Prop := (q.1.cls ≠ "java/lang/invoke/MethodHandle" ∧ q.1.cls ≠ "java/lang/invoke/VarHandle") ∧ Cond.instantiable q.1.cls q.2 ∈ tables_1 ∧ Cond.privateMethod q.1 ∈ tables_1 ∧ Cond.instanceMethod q.1 ∈ tables_1
theorem lw_p0 : lw_okq (⟨"SlipHouse$Books", "wasTold", "(II)Z"⟩, 9) := ⟨⟨by decide +kernel, by decide +kernel⟩, List.mem_of_getElem? (i := 39) (by decide +kernel), List.mem_of_getElem? (i := 387) (by decide +kernel), List.mem_of_getElem? (i := 388) (by decide +kernel)⟩
theorem lw_p1 : lw_okq (⟨"SlipHouse$Books", "tighten", "()Z"⟩, 9) := ⟨⟨by decide +kernel, by decide +kernel⟩, List.mem_of_getElem? (i := 39) (by decide +kernel), List.mem_of_getElem? (i := 391) (by decide +kernel), List.mem_of_getElem? (i := 392) (by decide +kernel)⟩
theorem lw_p2 : lw_okq (⟨"SlipHouse$Books", "tightenOnce", "()Z"⟩, 9) := ⟨⟨by decide +kernel, by decide +kernel⟩, List.mem_of_getElem? (i := 39) (by decide +kernel), List.mem_of_getElem? (i := 395) (by decide +kernel), List.mem_of_getElem? (i := 396) (by decide +kernel)⟩
theorem lw_p3 : lw_okq (⟨"SlipHouse$Books", "allHaveYears", "()Z"⟩, 9) := ⟨⟨by decide +kernel, by decide +kernel⟩, List.mem_of_getElem? (i := 39) (by decide +kernel), List.mem_of_getElem? (i := 399) (by decide +kernel), List.mem_of_getElem? (i := 400) (by decide +kernel)⟩
theorem lw_p4 : lw_okq (⟨"SlipHouse$Books", "setBehind", "(II)V"⟩, 9) := ⟨⟨by decide +kernel, by decide +kernel⟩, List.mem_of_getElem? (i := 39) (by decide +kernel), List.mem_of_getElem? (i := 403) (by decide +kernel), List.mem_of_getElem? (i := 404) (by decide +kernel)⟩
theorem lw_p5 : lw_okq (⟨"SlipHouse", "tapeHasWord", "(I)Z"⟩, 10) := ⟨⟨by decide +kernel, by decide +kernel⟩, List.mem_of_getElem? (i := 16) (by decide +kernel), List.mem_of_getElem? (i := 422) (by decide +kernel), List.mem_of_getElem? (i := 423) (by decide +kernel)⟩
theorem lw_p6 : lw_okq (⟨"SlipHouse$Words", "addNeighboursOf", "(II)V"⟩, 4) := ⟨⟨by decide +kernel, by decide +kernel⟩, List.mem_of_getElem? (i := 108) (by decide +kernel), List.mem_of_getElem? (i := 449) (by decide +kernel), List.mem_of_getElem? (i := 450) (by decide +kernel)⟩
theorem lw_p7 : lw_okq (⟨"SlipHouse", "isFit", "(II)Z"⟩, 10) := ⟨⟨by decide +kernel, by decide +kernel⟩, List.mem_of_getElem? (i := 16) (by decide +kernel), List.mem_of_getElem? (i := 527) (by decide +kernel), List.mem_of_getElem? (i := 528) (by decide +kernel)⟩
theorem lw_p8 : lw_okq (⟨"SlipHouse", "entriesFitted", "(I)I"⟩, 10) := ⟨⟨by decide +kernel, by decide +kernel⟩, List.mem_of_getElem? (i := 16) (by decide +kernel), List.mem_of_getElem? (i := 552) (by decide +kernel), List.mem_of_getElem? (i := 553) (by decide +kernel)⟩
theorem lw_p9 : lw_okq (⟨"SlipHouse", "firstEntryFitted", "(I)I"⟩, 10) := ⟨⟨by decide +kernel, by decide +kernel⟩, List.mem_of_getElem? (i := 16) (by decide +kernel), List.mem_of_getElem? (i := 556) (by decide +kernel), List.mem_of_getElem? (i := 557) (by decide +kernel)⟩
theorem lw_p10 : lw_okq (⟨"SlipHouse", "isTopOrSenseOf", "(II)Z"⟩, 10) := ⟨⟨by decide +kernel, by decide +kernel⟩, List.mem_of_getElem? (i := 16) (by decide +kernel), List.mem_of_getElem? (i := 565) (by decide +kernel), List.mem_of_getElem? (i := 566) (by decide +kernel)⟩
theorem lw_p11 : lw_okq (⟨"SlipHouse", "forgetSense", "(I)V"⟩, 10) := ⟨⟨by decide +kernel, by decide +kernel⟩, List.mem_of_getElem? (i := 16) (by decide +kernel), List.mem_of_getElem? (i := 603) (by decide +kernel), List.mem_of_getElem? (i := 604) (by decide +kernel)⟩
theorem lw_p12 : lw_okq (⟨"SlipHouse$Witnesses", "addSlip", "(II)V"⟩, 10) := ⟨⟨by decide +kernel, by decide +kernel⟩, List.mem_of_getElem? (i := 201) (by decide +kernel), List.mem_of_getElem? (i := 665) (by decide +kernel), List.mem_of_getElem? (i := 666) (by decide +kernel)⟩
theorem lw_p13 : lw_okq (⟨"SlipHouse$Witnesses", "placeOf", "(I)I"⟩, 10) := ⟨⟨by decide +kernel, by decide +kernel⟩, List.mem_of_getElem? (i := 201) (by decide +kernel), List.mem_of_getElem? (i := 677) (by decide +kernel), List.mem_of_getElem? (i := 678) (by decide +kernel)⟩
theorem lw_p14 : lw_okq (⟨"SlipHouse$Witnesses", "isAhead", "(II)Z"⟩, 10) := ⟨⟨by decide +kernel, by decide +kernel⟩, List.mem_of_getElem? (i := 201) (by decide +kernel), List.mem_of_getElem? (i := 685) (by decide +kernel), List.mem_of_getElem? (i := 686) (by decide +kernel)⟩
theorem lw_p15 : lw_okq (⟨"SlipHouse", "toldYears", "(II)I"⟩, 10) := ⟨⟨by decide +kernel, by decide +kernel⟩, List.mem_of_getElem? (i := 16) (by decide +kernel), List.mem_of_getElem? (i := 689) (by decide +kernel), List.mem_of_getElem? (i := 690) (by decide +kernel)⟩
def lw_privs_1 : List (MethodName × Nat) := [(⟨"SlipHouse$Books", "wasTold", "(II)Z"⟩, 9), (⟨"SlipHouse$Books", "tighten", "()Z"⟩, 9), (⟨"SlipHouse$Books", "tightenOnce", "()Z"⟩, 9), (⟨"SlipHouse$Books", "allHaveYears", "()Z"⟩, 9), (⟨"SlipHouse$Books", "setBehind", "(II)V"⟩, 9), (⟨"SlipHouse", "tapeHasWord", "(I)Z"⟩, 10), (⟨"SlipHouse$Words", "addNeighboursOf", "(II)V"⟩, 4), (⟨"SlipHouse", "isFit", "(II)Z"⟩, 10), (⟨"SlipHouse", "entriesFitted", "(I)I"⟩, 10), (⟨"SlipHouse", "firstEntryFitted", "(I)I"⟩, 10), (⟨"SlipHouse", "isTopOrSenseOf", "(II)Z"⟩, 10), (⟨"SlipHouse", "forgetSense", "(I)V"⟩, 10), (⟨"SlipHouse$Witnesses", "addSlip", "(II)V"⟩, 10), (⟨"SlipHouse$Witnesses", "placeOf", "(I)I"⟩, 10), (⟨"SlipHouse$Witnesses", "isAhead", "(II)Z"⟩, 10), (⟨"SlipHouse", "toldYears", "(II)I"⟩, 10)]
theorem lw_r1 : ∀ q ∈ lw_privs_1, lw_okq q := List.forall_mem_cons.mpr ⟨lw_p0, List.forall_mem_cons.mpr ⟨lw_p1, List.forall_mem_cons.mpr ⟨lw_p2, List.forall_mem_cons.mpr ⟨lw_p3, List.forall_mem_cons.mpr ⟨lw_p4, List.forall_mem_cons.mpr ⟨lw_p5, List.forall_mem_cons.mpr ⟨lw_p6, List.forall_mem_cons.mpr ⟨lw_p7, List.forall_mem_cons.mpr ⟨lw_p8, List.forall_mem_cons.mpr ⟨lw_p9, List.forall_mem_cons.mpr ⟨lw_p10, List.forall_mem_cons.mpr ⟨lw_p11, List.forall_mem_cons.mpr ⟨lw_p12, List.forall_mem_cons.mpr ⟨lw_p13, List.forall_mem_cons.mpr ⟨lw_p14, List.forall_mem_cons.mpr ⟨lw_p15, fun _ h => absurd h List.not_mem_nil⟩⟩⟩⟩⟩⟩⟩⟩⟩⟩⟩⟩⟩⟩⟩⟩
theorem lw_p16 : lw_okq (⟨"SlipHouse$Books", "gapAhead", "(II)I"⟩, 9) := ⟨⟨by decide +kernel, by decide +kernel⟩, List.mem_of_getElem? (i := 39) (by decide +kernel), List.mem_of_getElem? (i := 705) (by decide +kernel), List.mem_of_getElem? (i := 706) (by decide +kernel)⟩
theorem lw_p17 : lw_okq (⟨"SlipHouse$Witnesses", "hasOwn", "(I)Z"⟩, 10) := ⟨⟨by decide +kernel, by decide +kernel⟩, List.mem_of_getElem? (i := 201) (by decide +kernel), List.mem_of_getElem? (i := 730) (by decide +kernel), List.mem_of_getElem? (i := 731) (by decide +kernel)⟩
theorem lw_p18 : lw_okq (⟨"SlipHouse", "isInDoubt", "(I)Z"⟩, 10) := ⟨⟨by decide +kernel, by decide +kernel⟩, List.mem_of_getElem? (i := 16) (by decide +kernel), List.mem_of_getElem? (i := 740) (by decide +kernel), List.mem_of_getElem? (i := 741) (by decide +kernel)⟩
theorem lw_p19 : lw_okq (⟨"SlipHouse$Editions", "wasThere", "(II)Z"⟩, 5) := ⟨⟨by decide +kernel, by decide +kernel⟩, List.mem_of_getElem? (i := 268) (by decide +kernel), List.mem_of_getElem? (i := 778) (by decide +kernel), List.mem_of_getElem? (i := 779) (by decide +kernel)⟩
theorem lw_p20 : lw_okq (⟨"SlipHouse$Printer", "addWord", "(J)V"⟩, 8) := ⟨⟨by decide +kernel, by decide +kernel⟩, List.mem_of_getElem? (i := 293) (by decide +kernel), List.mem_of_getElem? (i := 811) (by decide +kernel), List.mem_of_getElem? (i := 812) (by decide +kernel)⟩
theorem lw_p21 : lw_okq (⟨"SlipHouse$Printer", "addByte", "(I)V"⟩, 8) := ⟨⟨by decide +kernel, by decide +kernel⟩, List.mem_of_getElem? (i := 293) (by decide +kernel), List.mem_of_getElem? (i := 817) (by decide +kernel), List.mem_of_getElem? (i := 818) (by decide +kernel)⟩
theorem lw_p22 : lw_okq (⟨"SlipHouse$Printer", "senseAt", "(III)I"⟩, 8) := ⟨⟨by decide +kernel, by decide +kernel⟩, List.mem_of_getElem? (i := 293) (by decide +kernel), List.mem_of_getElem? (i := 821) (by decide +kernel), List.mem_of_getElem? (i := 822) (by decide +kernel)⟩
theorem lw_p23 : lw_okq (⟨"SlipHouse$Printer", "addSense", "(I)V"⟩, 8) := ⟨⟨by decide +kernel, by decide +kernel⟩, List.mem_of_getElem? (i := 293) (by decide +kernel), List.mem_of_getElem? (i := 826) (by decide +kernel), List.mem_of_getElem? (i := 827) (by decide +kernel)⟩
theorem lw_p24 : lw_okq (⟨"SlipHouse$Printer", "addMark", "(I)V"⟩, 8) := ⟨⟨by decide +kernel, by decide +kernel⟩, List.mem_of_getElem? (i := 293) (by decide +kernel), List.mem_of_getElem? (i := 830) (by decide +kernel), List.mem_of_getElem? (i := 831) (by decide +kernel)⟩
theorem lw_p25 : lw_okq (⟨"SlipHouse$Printer", "addNumber", "(I)V"⟩, 8) := ⟨⟨by decide +kernel, by decide +kernel⟩, List.mem_of_getElem? (i := 293) (by decide +kernel), List.mem_of_getElem? (i := 834) (by decide +kernel), List.mem_of_getElem? (i := 835) (by decide +kernel)⟩
theorem lw_p26 : lw_okq (⟨"SlipHouse$Printer", "addWitnesses", "(I)V"⟩, 8) := ⟨⟨by decide +kernel, by decide +kernel⟩, List.mem_of_getElem? (i := 293) (by decide +kernel), List.mem_of_getElem? (i := 838) (by decide +kernel), List.mem_of_getElem? (i := 839) (by decide +kernel)⟩
theorem lw_p27 : lw_okq (⟨"SlipHouse$Printer", "addPointer", "(I)V"⟩, 8) := ⟨⟨by decide +kernel, by decide +kernel⟩, List.mem_of_getElem? (i := 293) (by decide +kernel), List.mem_of_getElem? (i := 842) (by decide +kernel), List.mem_of_getElem? (i := 843) (by decide +kernel)⟩
theorem lw_p28 : lw_okq (⟨"SlipHouse$Printer", "senseBehind", "(I)I"⟩, 8) := ⟨⟨by decide +kernel, by decide +kernel⟩, List.mem_of_getElem? (i := 293) (by decide +kernel), List.mem_of_getElem? (i := 846) (by decide +kernel), List.mem_of_getElem? (i := 847) (by decide +kernel)⟩
theorem lw_p29 : lw_okq (⟨"SlipHouse$Printer", "addHeap", "(I)V"⟩, 8) := ⟨⟨by decide +kernel, by decide +kernel⟩, List.mem_of_getElem? (i := 293) (by decide +kernel), List.mem_of_getElem? (i := 851) (by decide +kernel), List.mem_of_getElem? (i := 852) (by decide +kernel)⟩
theorem lw_p30 : lw_okq (⟨"SlipHouse", "slipsInDoubt", "()I"⟩, 10) := ⟨⟨by decide +kernel, by decide +kernel⟩, List.mem_of_getElem? (i := 16) (by decide +kernel), List.mem_of_getElem? (i := 871) (by decide +kernel), List.mem_of_getElem? (i := 872) (by decide +kernel)⟩
theorem lw_p31 : lw_okq (⟨"SlipHouse", "flaws", "()I"⟩, 10) := ⟨⟨by decide +kernel, by decide +kernel⟩, List.mem_of_getElem? (i := 16) (by decide +kernel), List.mem_of_getElem? (i := 875) (by decide +kernel), List.mem_of_getElem? (i := 876) (by decide +kernel)⟩
def lw_privs_2 : List (MethodName × Nat) := [(⟨"SlipHouse$Books", "gapAhead", "(II)I"⟩, 9), (⟨"SlipHouse$Witnesses", "hasOwn", "(I)Z"⟩, 10), (⟨"SlipHouse", "isInDoubt", "(I)Z"⟩, 10), (⟨"SlipHouse$Editions", "wasThere", "(II)Z"⟩, 5), (⟨"SlipHouse$Printer", "addWord", "(J)V"⟩, 8), (⟨"SlipHouse$Printer", "addByte", "(I)V"⟩, 8), (⟨"SlipHouse$Printer", "senseAt", "(III)I"⟩, 8), (⟨"SlipHouse$Printer", "addSense", "(I)V"⟩, 8), (⟨"SlipHouse$Printer", "addMark", "(I)V"⟩, 8), (⟨"SlipHouse$Printer", "addNumber", "(I)V"⟩, 8), (⟨"SlipHouse$Printer", "addWitnesses", "(I)V"⟩, 8), (⟨"SlipHouse$Printer", "addPointer", "(I)V"⟩, 8), (⟨"SlipHouse$Printer", "senseBehind", "(I)I"⟩, 8), (⟨"SlipHouse$Printer", "addHeap", "(I)V"⟩, 8), (⟨"SlipHouse", "slipsInDoubt", "()I"⟩, 10), (⟨"SlipHouse", "flaws", "()I"⟩, 10)]
theorem lw_r2 : ∀ q ∈ lw_privs_2, lw_okq q := List.forall_mem_cons.mpr ⟨lw_p16, List.forall_mem_cons.mpr ⟨lw_p17, List.forall_mem_cons.mpr ⟨lw_p18, List.forall_mem_cons.mpr ⟨lw_p19, List.forall_mem_cons.mpr ⟨lw_p20, List.forall_mem_cons.mpr ⟨lw_p21, List.forall_mem_cons.mpr ⟨lw_p22, List.forall_mem_cons.mpr ⟨lw_p23, List.forall_mem_cons.mpr ⟨lw_p24, List.forall_mem_cons.mpr ⟨lw_p25, List.forall_mem_cons.mpr ⟨lw_p26, List.forall_mem_cons.mpr ⟨lw_p27, List.forall_mem_cons.mpr ⟨lw_p28, List.forall_mem_cons.mpr ⟨lw_p29, List.forall_mem_cons.mpr ⟨lw_p30, List.forall_mem_cons.mpr ⟨lw_p31, fun _ h => absurd h List.not_mem_nil⟩⟩⟩⟩⟩⟩⟩⟩⟩⟩⟩⟩⟩⟩⟩⟩
theorem lw_p32 : lw_okq (⟨"SlipHouseModel", "types", "(I)V"⟩, 44) := ⟨⟨by decide +kernel, by decide +kernel⟩, List.mem_of_getElem? (i := 879) (by decide +kernel), List.mem_of_getElem? (i := 1023) (by decide +kernel), List.mem_of_getElem? (i := 1024) (by decide +kernel)⟩
theorem lw_p33 : lw_okq (⟨"SlipHouseModel", "tightens", "()Z"⟩, 44) := ⟨⟨by decide +kernel, by decide +kernel⟩, List.mem_of_getElem? (i := 879) (by decide +kernel), List.mem_of_getElem? (i := 1034) (by decide +kernel), List.mem_of_getElem? (i := 1035) (by decide +kernel)⟩
theorem lw_p34 : lw_okq (⟨"SlipHouseModel", "isBook", "(I)Z"⟩, 44) := ⟨⟨by decide +kernel, by decide +kernel⟩, List.mem_of_getElem? (i := 879) (by decide +kernel), List.mem_of_getElem? (i := 1042) (by decide +kernel), List.mem_of_getElem? (i := 1043) (by decide +kernel)⟩
theorem lw_p35 : lw_okq (⟨"SlipHouseModel", "closes", "()V"⟩, 44) := ⟨⟨by decide +kernel, by decide +kernel⟩, List.mem_of_getElem? (i := 879) (by decide +kernel), List.mem_of_getElem? (i := 1046) (by decide +kernel), List.mem_of_getElem? (i := 1047) (by decide +kernel)⟩
theorem lw_p36 : lw_okq (⟨"SlipHouseModel", "isWordSize", "(I)Z"⟩, 44) := ⟨⟨by decide +kernel, by decide +kernel⟩, List.mem_of_getElem? (i := 879) (by decide +kernel), List.mem_of_getElem? (i := 1058) (by decide +kernel), List.mem_of_getElem? (i := 1059) (by decide +kernel)⟩
theorem lw_p37 : lw_okq (⟨"SlipHouseModel", "takes", "(I)V"⟩, 44) := ⟨⟨by decide +kernel, by decide +kernel⟩, List.mem_of_getElem? (i := 879) (by decide +kernel), List.mem_of_getElem? (i := 1062) (by decide +kernel), List.mem_of_getElem? (i := 1063) (by decide +kernel)⟩
theorem lw_p38 : lw_okq (⟨"SlipHouseModel", "word", "(II)J"⟩, 44) := ⟨⟨by decide +kernel, by decide +kernel⟩, List.mem_of_getElem? (i := 879) (by decide +kernel), List.mem_of_getElem? (i := 1066) (by decide +kernel), List.mem_of_getElem? (i := 1067) (by decide +kernel)⟩
theorem lw_p39 : lw_okq (⟨"SlipHouseModel", "lays", "(IJII)V"⟩, 44) := ⟨⟨by decide +kernel, by decide +kernel⟩, List.mem_of_getElem? (i := 879) (by decide +kernel), List.mem_of_getElem? (i := 1074) (by decide +kernel), List.mem_of_getElem? (i := 1075) (by decide +kernel)⟩
theorem lw_p40 : lw_okq (⟨"SlipHouseModel", "isEntry", "(I)Z"⟩, 44) := ⟨⟨by decide +kernel, by decide +kernel⟩, List.mem_of_getElem? (i := 879) (by decide +kernel), List.mem_of_getElem? (i := 1082) (by decide +kernel), List.mem_of_getElem? (i := 1083) (by decide +kernel)⟩
theorem lw_p41 : lw_okq (⟨"SlipHouseModel", "isSlip", "(I)Z"⟩, 44) := ⟨⟨by decide +kernel, by decide +kernel⟩, List.mem_of_getElem? (i := 879) (by decide +kernel), List.mem_of_getElem? (i := 1094) (by decide +kernel), List.mem_of_getElem? (i := 1095) (by decide +kernel)⟩
theorem lw_p42 : lw_okq (⟨"SlipHouseModel", "isFitting", "(II)Z"⟩, 44) := ⟨⟨by decide +kernel, by decide +kernel⟩, List.mem_of_getElem? (i := 879) (by decide +kernel), List.mem_of_getElem? (i := 1098) (by decide +kernel), List.mem_of_getElem? (i := 1099) (by decide +kernel)⟩
theorem lw_p43 : lw_okq (⟨"SlipHouseModel", "isLed", "(II)Z"⟩, 44) := ⟨⟨by decide +kernel, by decide +kernel⟩, List.mem_of_getElem? (i := 879) (by decide +kernel), List.mem_of_getElem? (i := 1102) (by decide +kernel), List.mem_of_getElem? (i := 1103) (by decide +kernel)⟩
theorem lw_p44 : lw_okq (⟨"SlipHouseModel", "leads", "(JJ)Z"⟩, 44) := ⟨⟨by decide +kernel, by decide +kernel⟩, List.mem_of_getElem? (i := 879) (by decide +kernel), List.mem_of_getElem? (i := 1106) (by decide +kernel), List.mem_of_getElem? (i := 1107) (by decide +kernel)⟩
theorem lw_p45 : lw_okq (⟨"SlipHouseModel", "leadsByOne", "(JJ)Z"⟩, 44) := ⟨⟨by decide +kernel, by decide +kernel⟩, List.mem_of_getElem? (i := 879) (by decide +kernel), List.mem_of_getElem? (i := 1110) (by decide +kernel), List.mem_of_getElem? (i := 1111) (by decide +kernel)⟩
theorem lw_p46 : lw_okq (⟨"SlipHouseModel", "changed", "(JII)J"⟩, 44) := ⟨⟨by decide +kernel, by decide +kernel⟩, List.mem_of_getElem? (i := 879) (by decide +kernel), List.mem_of_getElem? (i := 1114) (by decide +kernel), List.mem_of_getElem? (i := 1115) (by decide +kernel)⟩
theorem lw_p47 : lw_okq (⟨"SlipHouseModel", "fitting", "(I)I"⟩, 44) := ⟨⟨by decide +kernel, by decide +kernel⟩, List.mem_of_getElem? (i := 879) (by decide +kernel), List.mem_of_getElem? (i := 1125) (by decide +kernel), List.mem_of_getElem? (i := 1126) (by decide +kernel)⟩
def lw_privs_3 : List (MethodName × Nat) := [(⟨"SlipHouseModel", "types", "(I)V"⟩, 44), (⟨"SlipHouseModel", "tightens", "()Z"⟩, 44), (⟨"SlipHouseModel", "isBook", "(I)Z"⟩, 44), (⟨"SlipHouseModel", "closes", "()V"⟩, 44), (⟨"SlipHouseModel", "isWordSize", "(I)Z"⟩, 44), (⟨"SlipHouseModel", "takes", "(I)V"⟩, 44), (⟨"SlipHouseModel", "word", "(II)J"⟩, 44), (⟨"SlipHouseModel", "lays", "(IJII)V"⟩, 44), (⟨"SlipHouseModel", "isEntry", "(I)Z"⟩, 44), (⟨"SlipHouseModel", "isSlip", "(I)Z"⟩, 44), (⟨"SlipHouseModel", "isFitting", "(II)Z"⟩, 44), (⟨"SlipHouseModel", "isLed", "(II)Z"⟩, 44), (⟨"SlipHouseModel", "leads", "(JJ)Z"⟩, 44), (⟨"SlipHouseModel", "leadsByOne", "(JJ)Z"⟩, 44), (⟨"SlipHouseModel", "changed", "(JII)J"⟩, 44), (⟨"SlipHouseModel", "fitting", "(I)I"⟩, 44)]
theorem lw_r3 : ∀ q ∈ lw_privs_3, lw_okq q := List.forall_mem_cons.mpr ⟨lw_p32, List.forall_mem_cons.mpr ⟨lw_p33, List.forall_mem_cons.mpr ⟨lw_p34, List.forall_mem_cons.mpr ⟨lw_p35, List.forall_mem_cons.mpr ⟨lw_p36, List.forall_mem_cons.mpr ⟨lw_p37, List.forall_mem_cons.mpr ⟨lw_p38, List.forall_mem_cons.mpr ⟨lw_p39, List.forall_mem_cons.mpr ⟨lw_p40, List.forall_mem_cons.mpr ⟨lw_p41, List.forall_mem_cons.mpr ⟨lw_p42, List.forall_mem_cons.mpr ⟨lw_p43, List.forall_mem_cons.mpr ⟨lw_p44, List.forall_mem_cons.mpr ⟨lw_p45, List.forall_mem_cons.mpr ⟨lw_p46, List.forall_mem_cons.mpr ⟨lw_p47, fun _ h => absurd h List.not_mem_nil⟩⟩⟩⟩⟩⟩⟩⟩⟩⟩⟩⟩⟩⟩⟩⟩
theorem lw_p48 : lw_okq (⟨"SlipHouseModel", "isSense", "(I)Z"⟩, 44) := ⟨⟨by decide +kernel, by decide +kernel⟩, List.mem_of_getElem? (i := 879) (by decide +kernel), List.mem_of_getElem? (i := 1133) (by decide +kernel), List.mem_of_getElem? (i := 1134) (by decide +kernel)⟩
theorem lw_p49 : lw_okq (⟨"SlipHouseModel", "makes", "(II)I"⟩, 44) := ⟨⟨by decide +kernel, by decide +kernel⟩, List.mem_of_getElem? (i := 879) (by decide +kernel), List.mem_of_getElem? (i := 1137) (by decide +kernel), List.mem_of_getElem? (i := 1138) (by decide +kernel)⟩
theorem lw_p50 : lw_okq (⟨"SlipHouseModel", "isWithin", "(II)Z"⟩, 44) := ⟨⟨by decide +kernel, by decide +kernel⟩, List.mem_of_getElem? (i := 879) (by decide +kernel), List.mem_of_getElem? (i := 1149) (by decide +kernel), List.mem_of_getElem? (i := 1150) (by decide +kernel)⟩
theorem lw_p51 : lw_okq (⟨"SlipHouseModel", "goes", "(I)V"⟩, 44) := ⟨⟨by decide +kernel, by decide +kernel⟩, List.mem_of_getElem? (i := 879) (by decide +kernel), List.mem_of_getElem? (i := 1157) (by decide +kernel), List.mem_of_getElem? (i := 1158) (by decide +kernel)⟩
theorem lw_p52 : lw_okq (⟨"SlipHouseModel", "removes", "(I)V"⟩, 44) := ⟨⟨by decide +kernel, by decide +kernel⟩, List.mem_of_getElem? (i := 879) (by decide +kernel), List.mem_of_getElem? (i := 1161) (by decide +kernel), List.mem_of_getElem? (i := 1162) (by decide +kernel)⟩
theorem lw_p53 : lw_okq (⟨"SlipHouseModel", "own", "(I)I"⟩, 44) := ⟨⟨by decide +kernel, by decide +kernel⟩, List.mem_of_getElem? (i := 879) (by decide +kernel), List.mem_of_getElem? (i := 1173) (by decide +kernel), List.mem_of_getElem? (i := 1174) (by decide +kernel)⟩
theorem lw_p54 : lw_okq (⟨"SlipHouseModel", "below", "(I)I"⟩, 44) := ⟨⟨by decide +kernel, by decide +kernel⟩, List.mem_of_getElem? (i := 879) (by decide +kernel), List.mem_of_getElem? (i := 1177) (by decide +kernel), List.mem_of_getElem? (i := 1178) (by decide +kernel)⟩
theorem lw_p55 : lw_okq (⟨"SlipHouseModel", "witnesses", "(IZ)V"⟩, 44) := ⟨⟨by decide +kernel, by decide +kernel⟩, List.mem_of_getElem? (i := 879) (by decide +kernel), List.mem_of_getElem? (i := 1193) (by decide +kernel), List.mem_of_getElem? (i := 1194) (by decide +kernel)⟩
theorem lw_p56 : lw_okq (⟨"SlipHouseModel", "isWitness", "(IIZ)Z"⟩, 44) := ⟨⟨by decide +kernel, by decide +kernel⟩, List.mem_of_getElem? (i := 879) (by decide +kernel), List.mem_of_getElem? (i := 1197) (by decide +kernel), List.mem_of_getElem? (i := 1198) (by decide +kernel)⟩
theorem lw_p57 : lw_okq (⟨"SlipHouseModel", "gap", "(I)I"⟩, 44) := ⟨⟨by decide +kernel, by decide +kernel⟩, List.mem_of_getElem? (i := 879) (by decide +kernel), List.mem_of_getElem? (i := 1201) (by decide +kernel), List.mem_of_getElem? (i := 1202) (by decide +kernel)⟩
theorem lw_p58 : lw_okq (⟨"SlipHouseModel", "place", "(I)I"⟩, 44) := ⟨⟨by decide +kernel, by decide +kernel⟩, List.mem_of_getElem? (i := 879) (by decide +kernel), List.mem_of_getElem? (i := 1205) (by decide +kernel), List.mem_of_getElem? (i := 1206) (by decide +kernel)⟩
theorem lw_p59 : lw_okq (⟨"SlipHouseModel", "isAhead", "(II)Z"⟩, 44) := ⟨⟨by decide +kernel, by decide +kernel⟩, List.mem_of_getElem? (i := 879) (by decide +kernel), List.mem_of_getElem? (i := 1209) (by decide +kernel), List.mem_of_getElem? (i := 1210) (by decide +kernel)⟩
theorem lw_p60 : lw_okq (⟨"SlipHouseModel", "depth", "(I)I"⟩, 44) := ⟨⟨by decide +kernel, by decide +kernel⟩, List.mem_of_getElem? (i := 879) (by decide +kernel), List.mem_of_getElem? (i := 1213) (by decide +kernel), List.mem_of_getElem? (i := 1214) (by decide +kernel)⟩
theorem lw_p61 : lw_okq (⟨"SlipHouseModel", "isOlder", "(IIZ)Z"⟩, 44) := ⟨⟨by decide +kernel, by decide +kernel⟩, List.mem_of_getElem? (i := 879) (by decide +kernel), List.mem_of_getElem? (i := 1221) (by decide +kernel), List.mem_of_getElem? (i := 1222) (by decide +kernel)⟩
theorem lw_p62 : lw_okq (⟨"SlipHouseModel", "isAheadOfAll", "(IIZ)Z"⟩, 44) := ⟨⟨by decide +kernel, by decide +kernel⟩, List.mem_of_getElem? (i := 879) (by decide +kernel), List.mem_of_getElem? (i := 1225) (by decide +kernel), List.mem_of_getElem? (i := 1226) (by decide +kernel)⟩
theorem lw_p63 : lw_okq (⟨"SlipHouseModel", "flaws", "(I)I"⟩, 44) := ⟨⟨by decide +kernel, by decide +kernel⟩, List.mem_of_getElem? (i := 879) (by decide +kernel), List.mem_of_getElem? (i := 1233) (by decide +kernel), List.mem_of_getElem? (i := 1234) (by decide +kernel)⟩
def lw_privs_4 : List (MethodName × Nat) := [(⟨"SlipHouseModel", "isSense", "(I)Z"⟩, 44), (⟨"SlipHouseModel", "makes", "(II)I"⟩, 44), (⟨"SlipHouseModel", "isWithin", "(II)Z"⟩, 44), (⟨"SlipHouseModel", "goes", "(I)V"⟩, 44), (⟨"SlipHouseModel", "removes", "(I)V"⟩, 44), (⟨"SlipHouseModel", "own", "(I)I"⟩, 44), (⟨"SlipHouseModel", "below", "(I)I"⟩, 44), (⟨"SlipHouseModel", "witnesses", "(IZ)V"⟩, 44), (⟨"SlipHouseModel", "isWitness", "(IIZ)Z"⟩, 44), (⟨"SlipHouseModel", "gap", "(I)I"⟩, 44), (⟨"SlipHouseModel", "place", "(I)I"⟩, 44), (⟨"SlipHouseModel", "isAhead", "(II)Z"⟩, 44), (⟨"SlipHouseModel", "depth", "(I)I"⟩, 44), (⟨"SlipHouseModel", "isOlder", "(IIZ)Z"⟩, 44), (⟨"SlipHouseModel", "isAheadOfAll", "(IIZ)Z"⟩, 44), (⟨"SlipHouseModel", "flaws", "(I)I"⟩, 44)]
theorem lw_r4 : ∀ q ∈ lw_privs_4, lw_okq q := List.forall_mem_cons.mpr ⟨lw_p48, List.forall_mem_cons.mpr ⟨lw_p49, List.forall_mem_cons.mpr ⟨lw_p50, List.forall_mem_cons.mpr ⟨lw_p51, List.forall_mem_cons.mpr ⟨lw_p52, List.forall_mem_cons.mpr ⟨lw_p53, List.forall_mem_cons.mpr ⟨lw_p54, List.forall_mem_cons.mpr ⟨lw_p55, List.forall_mem_cons.mpr ⟨lw_p56, List.forall_mem_cons.mpr ⟨lw_p57, List.forall_mem_cons.mpr ⟨lw_p58, List.forall_mem_cons.mpr ⟨lw_p59, List.forall_mem_cons.mpr ⟨lw_p60, List.forall_mem_cons.mpr ⟨lw_p61, List.forall_mem_cons.mpr ⟨lw_p62, List.forall_mem_cons.mpr ⟨lw_p63, fun _ h => absurd h List.not_mem_nil⟩⟩⟩⟩⟩⟩⟩⟩⟩⟩⟩⟩⟩⟩⟩⟩
theorem lw_p64 : lw_okq (⟨"SlipHouseModel", "isDoubted", "(I)Z"⟩, 44) := ⟨⟨by decide +kernel, by decide +kernel⟩, List.mem_of_getElem? (i := 879) (by decide +kernel), List.mem_of_getElem? (i := 1241) (by decide +kernel), List.mem_of_getElem? (i := 1242) (by decide +kernel)⟩
theorem lw_p65 : lw_okq (⟨"SlipHouseModel", "loosePointers", "()I"⟩, 44) := ⟨⟨by decide +kernel, by decide +kernel⟩, List.mem_of_getElem? (i := 879) (by decide +kernel), List.mem_of_getElem? (i := 1252) (by decide +kernel), List.mem_of_getElem? (i := 1253) (by decide +kernel)⟩
theorem lw_p66 : lw_okq (⟨"SlipHouseModel", "isEdition", "(I)Z"⟩, 44) := ⟨⟨by decide +kernel, by decide +kernel⟩, List.mem_of_getElem? (i := 879) (by decide +kernel), List.mem_of_getElem? (i := 1260) (by decide +kernel), List.mem_of_getElem? (i := 1261) (by decide +kernel)⟩
theorem lw_p67 : lw_okq (⟨"SlipHouseModel", "letters", "(J)V"⟩, 44) := ⟨⟨by decide +kernel, by decide +kernel⟩, List.mem_of_getElem? (i := 879) (by decide +kernel), List.mem_of_getElem? (i := 1272) (by decide +kernel), List.mem_of_getElem? (i := 1273) (by decide +kernel)⟩
theorem lw_p68 : lw_okq (⟨"SlipHouseModel", "puts", "(I)V"⟩, 44) := ⟨⟨by decide +kernel, by decide +kernel⟩, List.mem_of_getElem? (i := 879) (by decide +kernel), List.mem_of_getElem? (i := 1276) (by decide +kernel), List.mem_of_getElem? (i := 1277) (by decide +kernel)⟩
theorem lw_p69 : lw_okq (⟨"SlipHouseModel", "at", "(III)I"⟩, 44) := ⟨⟨by decide +kernel, by decide +kernel⟩, List.mem_of_getElem? (i := 879) (by decide +kernel), List.mem_of_getElem? (i := 1280) (by decide +kernel), List.mem_of_getElem? (i := 1281) (by decide +kernel)⟩
theorem lw_p70 : lw_okq (⟨"SlipHouseModel", "prints", "(I)V"⟩, 44) := ⟨⟨by decide +kernel, by decide +kernel⟩, List.mem_of_getElem? (i := 879) (by decide +kernel), List.mem_of_getElem? (i := 1284) (by decide +kernel), List.mem_of_getElem? (i := 1285) (by decide +kernel)⟩
theorem lw_p71 : lw_okq (⟨"SlipHouseModel", "mark", "(I)V"⟩, 44) := ⟨⟨by decide +kernel, by decide +kernel⟩, List.mem_of_getElem? (i := 879) (by decide +kernel), List.mem_of_getElem? (i := 1288) (by decide +kernel), List.mem_of_getElem? (i := 1289) (by decide +kernel)⟩
theorem lw_p72 : lw_okq (⟨"SlipHouseModel", "number", "(I)V"⟩, 44) := ⟨⟨by decide +kernel, by decide +kernel⟩, List.mem_of_getElem? (i := 879) (by decide +kernel), List.mem_of_getElem? (i := 1292) (by decide +kernel), List.mem_of_getElem? (i := 1293) (by decide +kernel)⟩
theorem lw_p73 : lw_okq (⟨"SlipHouseModel", "heap", "(I)I"⟩, 44) := ⟨⟨by decide +kernel, by decide +kernel⟩, List.mem_of_getElem? (i := 879) (by decide +kernel), List.mem_of_getElem? (i := 1296) (by decide +kernel), List.mem_of_getElem? (i := 1297) (by decide +kernel)⟩
def lw_privs_5 : List (MethodName × Nat) := [(⟨"SlipHouseModel", "isDoubted", "(I)Z"⟩, 44), (⟨"SlipHouseModel", "loosePointers", "()I"⟩, 44), (⟨"SlipHouseModel", "isEdition", "(I)Z"⟩, 44), (⟨"SlipHouseModel", "letters", "(J)V"⟩, 44), (⟨"SlipHouseModel", "puts", "(I)V"⟩, 44), (⟨"SlipHouseModel", "at", "(III)I"⟩, 44), (⟨"SlipHouseModel", "prints", "(I)V"⟩, 44), (⟨"SlipHouseModel", "mark", "(I)V"⟩, 44), (⟨"SlipHouseModel", "number", "(I)V"⟩, 44), (⟨"SlipHouseModel", "heap", "(I)I"⟩, 44)]
theorem lw_r5 : ∀ q ∈ lw_privs_5, lw_okq q := List.forall_mem_cons.mpr ⟨lw_p64, List.forall_mem_cons.mpr ⟨lw_p65, List.forall_mem_cons.mpr ⟨lw_p66, List.forall_mem_cons.mpr ⟨lw_p67, List.forall_mem_cons.mpr ⟨lw_p68, List.forall_mem_cons.mpr ⟨lw_p69, List.forall_mem_cons.mpr ⟨lw_p70, List.forall_mem_cons.mpr ⟨lw_p71, List.forall_mem_cons.mpr ⟨lw_p72, List.forall_mem_cons.mpr ⟨lw_p73, fun _ h => absurd h List.not_mem_nil⟩⟩⟩⟩⟩⟩⟩⟩⟩⟩
def lw_privs : List (MethodName × Nat) := lw_privs_1 ++ (lw_privs_2 ++ (lw_privs_3 ++ (lw_privs_4 ++ (lw_privs_5))))
def lw_tbl : List Cond := k2_sels lw_privs ++ tables_1
theorem lw_privs_ok : ∀ q ∈ lw_privs, lw_okq q := by
  show ∀ q ∈ lw_privs_1 ++ (lw_privs_2 ++ (lw_privs_3 ++ (lw_privs_4 ++ (lw_privs_5)))), lw_okq q
  exact List.forall_mem_append.mpr ⟨lw_r1, List.forall_mem_append.mpr ⟨lw_r2, List.forall_mem_append.mpr ⟨lw_r3, List.forall_mem_append.mpr ⟨lw_r4, lw_r5⟩⟩⟩⟩
/-! ===== BEGIN words of one list among another's, by their places ===== -/
theorem goodIn_r {big : List Cond} (ws : List Cond) (ps : List Nat) (hp : ws = ps.filterMap (fun i => big[i]?)) (h : ws.all goodWord = true) : GoodIn big ws := by
  intro w hw
  have h1 := List.all_eq_true.mp h w hw
  rw [hp] at hw
  obtain ⟨i, -, hi⟩ := List.mem_filterMap.mp hw
  have hm : w ∈ big := by first | exact List.mem_of_getElem? hi | exact List.getElem?_mem hi
  exact ⟨hm, good_of_word h1⟩
theorem goodIn_app {big a b : List Cond} (ha : GoodIn big a) (hb : GoodIn big b) : GoodIn big (a ++ b) := fun w h => (List.mem_append.mp h).elim (ha w) (hb w)
theorem goodIn_ca {big a b : List Cond} {c : Cond} (ha : GoodIn big (c :: a)) (hb : GoodIn big b) : GoodIn big (c :: (a ++ b)) := fun w h => (List.mem_cons.mp h).elim (fun e => ha w (List.mem_cons.mpr (Or.inl e))) (fun h => (List.mem_append.mp h).elim (fun h => ha w (List.mem_cons.mpr (Or.inr h))) (hb w))
theorem goodIn_sub {big ws : List Cond} (hm : ∀ w ∈ ws, w ∈ big) (h : ws.all goodWord = true) : GoodIn big ws := fun w hw => ⟨hm w hw, good_of_word (List.all_eq_true.mp h w hw)⟩
/-! ===== END ===== -/
def RX0 : String := "SlipHouse$Books"
def TX0 : u_T := fun k => match k with
  | 0 => ("SlipHouse$Books", "toldFrom", "[I", true)
  | 1 => ("SlipHouse$Books", "toldTo", "[I", true)
  | 2 => ("SlipHouse$Books", "first", "[I", true)
  | 3 => ("SlipHouse$Books", "last", "[I", true)
  | 4 => ("SlipHouse$Books", "behind", "[I", true)
  | 5 => ("SlipHouse$Books", "earlier", "[I", true)
  | 6 => ("SlipHouse$Books", "later", "[I", true)
  | 7 => ("SlipHouse$Books", "size", "I", false)
  | _ => ("SlipHouse$Books", "befores", "I", false)
def tyX0 : Nat → FieldType := fun k => match k with
  | 0 => .array .int
  | 1 => .array .int
  | 2 => .array .int
  | 3 => .array .int
  | 4 => .array .int
  | 5 => .array .int
  | 6 => .array .int
  | 7 => .int
  | _ => .int
abbrev wsX00 : List Cond := u_ws RX0 TX0 9
theorem nmX0 : ∀ a, a < 9 → ∀ b, b < 9 → a ≠ b → (TX0 a).2.1 ≠ (TX0 b).2.1 := by decide +kernel
theorem tyX0_ok : ∀ k, k < 9 → parseFieldDescriptor (TX0 k).2.2.1 = some (tyX0 k) := by decide +kernel
abbrev cX0_init : ByteArray := prog_2_method_1_code
def yX0_init : MethodName := ⟨RX0, "<init>", "()V"⟩
abbrev cX0_has : ByteArray := prog_2_method_2_code
def yX0_has : MethodName := ⟨RX0, "has", "(I)Z"⟩
abbrev cX0_add : ByteArray := prog_2_method_3_code
def yX0_add : MethodName := ⟨RX0, "add", "(II)I"⟩
abbrev cX0_addBefore : ByteArray := prog_2_method_4_code
def yX0_addBefore : MethodName := ⟨RX0, "addBefore", "(II)Z"⟩
abbrev cX0_wasTold : ByteArray := prog_2_method_5_code
def yX0_wasTold : MethodName := ⟨RX0, "wasTold", "(II)Z"⟩
abbrev cX0_tighten : ByteArray := prog_2_method_6_code
def yX0_tighten : MethodName := ⟨RX0, "tighten", "()Z"⟩
abbrev cX0_tightenOnce : ByteArray := prog_2_method_7_code
def yX0_tightenOnce : MethodName := ⟨RX0, "tightenOnce", "()Z"⟩
abbrev cX0_allHaveYears : ByteArray := prog_2_method_8_code
def yX0_allHaveYears : MethodName := ⟨RX0, "allHaveYears", "()Z"⟩
abbrev cX0_setBehind : ByteArray := prog_2_method_9_code
def yX0_setBehind : MethodName := ⟨RX0, "setBehind", "(II)V"⟩
abbrev cX0_isIn : ByteArray := prog_2_method_10_code
def yX0_isIn : MethodName := ⟨RX0, "isIn", "(II)Z"⟩
abbrev cX0_least : ByteArray := prog_2_method_11_code
def yX0_least : MethodName := ⟨RX0, "least", "([II)I"⟩
abbrev cX0_greatest : ByteArray := prog_2_method_12_code
def yX0_greatest : MethodName := ⟨RX0, "greatest", "([II)I"⟩
abbrev cX0_widestGap : ByteArray := prog_2_method_13_code
def yX0_widestGap : MethodName := ⟨RX0, "widestGap", "(I)I"⟩
abbrev cX0_gapAhead : ByteArray := prog_2_method_14_code
def yX0_gapAhead : MethodName := ⟨RX0, "gapAhead", "(II)I"⟩
abbrev cX0_areSurelyOlder : ByteArray := prog_2_method_15_code
def yX0_areSurelyOlder : MethodName := ⟨RX0, "areSurelyOlder", "(II)Z"⟩
def RX1 : String := "SlipHouse$Editions"
def TX1 : u_T := fun k => match k with
  | 0 => ("SlipHouse$Editions", "slips", "LSlipHouse$Slips;", true)
  | 1 => ("SlipHouse$Editions", "slipsIn", "[I", true)
  | 2 => ("SlipHouse$Editions", "entry", "[[I", true)
  | 3 => ("SlipHouse$Editions", "sense", "[[I", true)
  | _ => ("SlipHouse$Editions", "size", "I", false)
def tyX1 : Nat → FieldType := fun k => match k with
  | 0 => .object "SlipHouse$Slips"
  | 1 => .array .int
  | 2 => .array (.array .int)
  | 3 => .array (.array .int)
  | _ => .int
abbrev wsX10 : List Cond := u_ws RX1 TX1 5
theorem nmX1 : ∀ a, a < 5 → ∀ b, b < 5 → a ≠ b → (TX1 a).2.1 ≠ (TX1 b).2.1 := by decide +kernel
theorem tyX1_ok : ∀ k, k < 5 → parseFieldDescriptor (TX1 k).2.2.1 = some (tyX1 k) := by decide +kernel
abbrev cX1_init : ByteArray := prog_3_method_1_code
def yX1_init : MethodName := ⟨RX1, "<init>", "(LSlipHouse$Slips;)V"⟩
abbrev cX1_has : ByteArray := prog_3_method_2_code
def yX1_has : MethodName := ⟨RX1, "has", "(I)Z"⟩
abbrev cX1_add : ByteArray := prog_3_method_3_code
def yX1_add : MethodName := ⟨RX1, "add", "()I"⟩
abbrev cX1_entryOf : ByteArray := prog_3_method_4_code
def yX1_entryOf : MethodName := ⟨RX1, "entryOf", "(II)I"⟩
abbrev cX1_senseOf : ByteArray := prog_3_method_5_code
def yX1_senseOf : MethodName := ⟨RX1, "senseOf", "(II)I"⟩
abbrev cX1_wasThere : ByteArray := prog_3_method_6_code
def yX1_wasThere : MethodName := ⟨RX1, "wasThere", "(II)Z"⟩
abbrev cX1_isOtherwise : ByteArray := prog_3_method_7_code
def yX1_isOtherwise : MethodName := ⟨RX1, "isOtherwise", "(III)Z"⟩
def RX2 : String := "SlipHouse$Entries"
def TX2 : u_T := fun k => match k with
  | 0 => ("SlipHouse$Entries", "formsOf", "[I", true)
  | 1 => ("SlipHouse$Entries", "from", "[I", true)
  | 2 => ("SlipHouse$Entries", "to", "[I", true)
  | 3 => ("SlipHouse$Entries", "forms", "LSlipHouse$Words;", true)
  | _ => ("SlipHouse$Entries", "size", "I", false)
def tyX2 : Nat → FieldType := fun k => match k with
  | 0 => .array .int
  | 1 => .array .int
  | 2 => .array .int
  | 3 => .object "SlipHouse$Words"
  | _ => .int
abbrev wsX20 : List Cond := u_ws RX2 TX2 5
theorem nmX2 : ∀ a, a < 5 → ∀ b, b < 5 → a ≠ b → (TX2 a).2.1 ≠ (TX2 b).2.1 := by decide +kernel
theorem tyX2_ok : ∀ k, k < 5 → parseFieldDescriptor (TX2 k).2.2.1 = some (tyX2 k) := by decide +kernel
abbrev cX2_init : ByteArray := prog_4_method_1_code
def yX2_init : MethodName := ⟨RX2, "<init>", "(LSlipHouse$Rules;)V"⟩
abbrev cX2_formOf : ByteArray := prog_4_method_2_code
def yX2_formOf : MethodName := ⟨RX2, "formOf", "(II)I"⟩
abbrev cX2_has : ByteArray := prog_4_method_3_code
def yX2_has : MethodName := ⟨RX2, "has", "(I)Z"⟩
abbrev cX2_hasRoomForForm : ByteArray := prog_4_method_4_code
def yX2_hasRoomForForm : MethodName := ⟨RX2, "hasRoomForForm", "(I)Z"⟩
abbrev cX2_add : ByteArray := prog_4_method_5_code
def yX2_add : MethodName := ⟨RX2, "add", "(JII)I"⟩
abbrev cX2_addForm : ByteArray := prog_4_method_6_code
def yX2_addForm : MethodName := ⟨RX2, "addForm", "(IJII)I"⟩
abbrev cX2_isSpelledIn : ByteArray := prog_4_method_7_code
def yX2_isSpelledIn : MethodName := ⟨RX2, "isSpelledIn", "(III)Z"⟩
abbrev cX2_head : ByteArray := prog_4_method_8_code
def yX2_head : MethodName := ⟨RX2, "head", "(I)J"⟩
def RX3 : String := "SlipHouse$Pointers"
def TX3 : u_T := fun k => match k with
  | 0 => ("SlipHouse$Pointers", "from", "[I", true)
  | 1 => ("SlipHouse$Pointers", "to", "[I", true)
  | _ => ("SlipHouse$Pointers", "size", "I", false)
def tyX3 : Nat → FieldType := fun k => match k with
  | 0 => .array .int
  | 1 => .array .int
  | _ => .int
abbrev wsX30 : List Cond := u_ws RX3 TX3 3
theorem nmX3 : ∀ a, a < 3 → ∀ b, b < 3 → a ≠ b → (TX3 a).2.1 ≠ (TX3 b).2.1 := by decide +kernel
theorem tyX3_ok : ∀ k, k < 3 → parseFieldDescriptor (TX3 k).2.2.1 = some (tyX3 k) := by decide +kernel
abbrev cX3_init : ByteArray := prog_5_method_1_code
def yX3_init : MethodName := ⟨RX3, "<init>", "()V"⟩
abbrev cX3_has : ByteArray := prog_5_method_2_code
def yX3_has : MethodName := ⟨RX3, "has", "(I)Z"⟩
abbrev cX3_isLoose : ByteArray := prog_5_method_3_code
def yX3_isLoose : MethodName := ⟨RX3, "isLoose", "(I)Z"⟩
abbrev cX3_loose : ByteArray := prog_5_method_4_code
def yX3_loose : MethodName := ⟨RX3, "loose", "()I"⟩
abbrev cX3_add : ByteArray := prog_5_method_5_code
def yX3_add : MethodName := ⟨RX3, "add", "(II)I"⟩
abbrev cX3_remove : ByteArray := prog_5_method_6_code
def yX3_remove : MethodName := ⟨RX3, "remove", "(I)V"⟩
abbrev cX3_forget : ByteArray := prog_5_method_7_code
def yX3_forget : MethodName := ⟨RX3, "forget", "(I)V"⟩
def RX4 : String := "SlipHouse$Printer"
def TX4 : u_T := fun k => match k with
  | 0 => ("SlipHouse$Printer", "entries", "LSlipHouse$Entries;", true)
  | 1 => ("SlipHouse$Printer", "slips", "LSlipHouse$Slips;", true)
  | 2 => ("SlipHouse$Printer", "senses", "LSlipHouse$Senses;", true)
  | 3 => ("SlipHouse$Printer", "witnesses", "LSlipHouse$Witnesses;", true)
  | 4 => ("SlipHouse$Printer", "pointers", "LSlipHouse$Pointers;", true)
  | 5 => ("SlipHouse$Printer", "bytes", "[B", true)
  | 6 => ("SlipHouse$Printer", "way", "[I", true)
  | _ => ("SlipHouse$Printer", "size", "I", false)
def tyX4 : Nat → FieldType := fun k => match k with
  | 0 => .object "SlipHouse$Entries"
  | 1 => .object "SlipHouse$Slips"
  | 2 => .object "SlipHouse$Senses"
  | 3 => .object "SlipHouse$Witnesses"
  | 4 => .object "SlipHouse$Pointers"
  | 5 => .array .byte
  | 6 => .array .int
  | _ => .int
abbrev wsX40 : List Cond := u_ws RX4 TX4 8
theorem nmX4 : ∀ a, a < 8 → ∀ b, b < 8 → a ≠ b → (TX4 a).2.1 ≠ (TX4 b).2.1 := by decide +kernel
theorem tyX4_ok : ∀ k, k < 8 → parseFieldDescriptor (TX4 k).2.2.1 = some (tyX4 k) := by decide +kernel
abbrev cX4_init : ByteArray := prog_6_method_1_code
def yX4_init : MethodName := ⟨RX4, "<init>", "(LSlipHouse$Entries;LSlipHouse$Slips;LSlipHouse$Senses;LSlipHouse$Witnesses;LSlipHouse$Pointers;)V"⟩
abbrev cX4_byteAt : ByteArray := prog_6_method_2_code
def yX4_byteAt : MethodName := ⟨RX4, "byteAt", "(I)I"⟩
abbrev cX4_compose : ByteArray := prog_6_method_3_code
def yX4_compose : MethodName := ⟨RX4, "compose", "(I)I"⟩
abbrev cX4_senseAt : ByteArray := prog_6_method_4_code
def yX4_senseAt : MethodName := ⟨RX4, "senseAt", "(III)I"⟩
abbrev cX4_senseBehind : ByteArray := prog_6_method_5_code
def yX4_senseBehind : MethodName := ⟨RX4, "senseBehind", "(I)I"⟩
abbrev cX4_addSense : ByteArray := prog_6_method_6_code
def yX4_addSense : MethodName := ⟨RX4, "addSense", "(I)V"⟩
abbrev cX4_addMark : ByteArray := prog_6_method_7_code
def yX4_addMark : MethodName := ⟨RX4, "addMark", "(I)V"⟩
abbrev cX4_addWitnesses : ByteArray := prog_6_method_8_code
def yX4_addWitnesses : MethodName := ⟨RX4, "addWitnesses", "(I)V"⟩
abbrev cX4_addPointer : ByteArray := prog_6_method_9_code
def yX4_addPointer : MethodName := ⟨RX4, "addPointer", "(I)V"⟩
abbrev cX4_addHeap : ByteArray := prog_6_method_10_code
def yX4_addHeap : MethodName := ⟨RX4, "addHeap", "(I)V"⟩
abbrev cX4_addWord : ByteArray := prog_6_method_11_code
def yX4_addWord : MethodName := ⟨RX4, "addWord", "(J)V"⟩
abbrev cX4_addNumber : ByteArray := prog_6_method_12_code
def yX4_addNumber : MethodName := ⟨RX4, "addNumber", "(I)V"⟩
abbrev cX4_addByte : ByteArray := prog_6_method_13_code
def yX4_addByte : MethodName := ⟨RX4, "addByte", "(I)V"⟩
def RX5 : String := "SlipHouse$Rules"
def TX5 : u_T := fun k => match k with
  | 0 => ("SlipHouse$Rules", "old", "[J", true)
  | 1 => ("SlipHouse$Rules", "fresh", "[J", true)
  | _ => ("SlipHouse$Rules", "size", "I", false)
def tyX5 : Nat → FieldType := fun k => match k with
  | 0 => .array .long
  | 1 => .array .long
  | _ => .int
abbrev wsX50 : List Cond := u_ws RX5 TX5 3
theorem nmX5 : ∀ a, a < 3 → ∀ b, b < 3 → a ≠ b → (TX5 a).2.1 ≠ (TX5 b).2.1 := by decide +kernel
theorem tyX5_ok : ∀ k, k < 3 → parseFieldDescriptor (TX5 k).2.2.1 = some (tyX5 k) := by decide +kernel
abbrev cX5_init : ByteArray := prog_7_method_1_code
def yX5_init : MethodName := ⟨RX5, "<init>", "()V"⟩
abbrev cX5_add : ByteArray := prog_7_method_2_code
def yX5_add : MethodName := ⟨RX5, "add", "(JJ)I"⟩
def RX6 : String := "SlipHouse$Senses"
def TX6 : u_T := fun k => match k with
  | 0 => ("SlipHouse$Senses", "entry", "[I", true)
  | _ => ("SlipHouse$Senses", "parent", "[I", true)
def tyX6 : Nat → FieldType := fun k => match k with
  | 0 => .array .int
  | _ => .array .int
abbrev wsX60 : List Cond := u_ws RX6 TX6 2
theorem nmX6 : ∀ a, a < 2 → ∀ b, b < 2 → a ≠ b → (TX6 a).2.1 ≠ (TX6 b).2.1 := by decide +kernel
theorem tyX6_ok : ∀ k, k < 2 → parseFieldDescriptor (TX6 k).2.2.1 = some (tyX6 k) := by decide +kernel
abbrev cX6_init : ByteArray := prog_8_method_1_code
def yX6_init : MethodName := ⟨RX6, "<init>", "()V"⟩
abbrev cX6_has : ByteArray := prog_8_method_2_code
def yX6_has : MethodName := ⟨RX6, "has", "(I)Z"⟩
abbrev cX6_add : ByteArray := prog_8_method_3_code
def yX6_add : MethodName := ⟨RX6, "add", "(II)I"⟩
abbrev cX6_remove : ByteArray := prog_8_method_4_code
def yX6_remove : MethodName := ⟨RX6, "remove", "(I)V"⟩
abbrev cX6_inUse : ByteArray := prog_8_method_5_code
def yX6_inUse : MethodName := ⟨RX6, "inUse", "()I"⟩
abbrev cX6_justUnder : ByteArray := prog_8_method_6_code
def yX6_justUnder : MethodName := ⟨RX6, "justUnder", "(I)I"⟩
abbrev cX6_moveAllUnder : ByteArray := prog_8_method_7_code
def yX6_moveAllUnder : MethodName := ⟨RX6, "moveAllUnder", "(II)V"⟩
abbrev cX6_depth : ByteArray := prog_8_method_8_code
def yX6_depth : MethodName := ⟨RX6, "depth", "(I)I"⟩
abbrev cX6_isWithin : ByteArray := prog_8_method_9_code
def yX6_isWithin : MethodName := ⟨RX6, "isWithin", "(II)Z"⟩
abbrev cX6_areBeside : ByteArray := prog_8_method_10_code
def yX6_areBeside : MethodName := ⟨RX6, "areBeside", "(II)Z"⟩
def RX7 : String := "SlipHouse$Slips"
def TX7 : u_T := fun k => match k with
  | 0 => ("SlipHouse$Slips", "book", "[I", true)
  | 1 => ("SlipHouse$Slips", "entry", "[I", true)
  | 2 => ("SlipHouse$Slips", "sense", "[I", true)
  | 3 => ("SlipHouse$Slips", "words", "LSlipHouse$Words;", true)
  | _ => ("SlipHouse$Slips", "size", "I", false)
def tyX7 : Nat → FieldType := fun k => match k with
  | 0 => .array .int
  | 1 => .array .int
  | 2 => .array .int
  | 3 => .object "SlipHouse$Words"
  | _ => .int
abbrev wsX70 : List Cond := u_ws RX7 TX7 5
theorem nmX7 : ∀ a, a < 5 → ∀ b, b < 5 → a ≠ b → (TX7 a).2.1 ≠ (TX7 b).2.1 := by decide +kernel
theorem tyX7_ok : ∀ k, k < 5 → parseFieldDescriptor (TX7 k).2.2.1 = some (tyX7 k) := by decide +kernel
abbrev cX7_init : ByteArray := prog_9_method_1_code
def yX7_init : MethodName := ⟨RX7, "<init>", "(LSlipHouse$Rules;)V"⟩
abbrev cX7_has : ByteArray := prog_9_method_2_code
def yX7_has : MethodName := ⟨RX7, "has", "(I)Z"⟩
abbrev cX7_add : ByteArray := prog_9_method_3_code
def yX7_add : MethodName := ⟨RX7, "add", "(IJ)I"⟩
abbrev cX7_place : ByteArray := prog_9_method_4_code
def yX7_place : MethodName := ⟨RX7, "place", "(III)V"⟩
abbrev cX7_isLoose : ByteArray := prog_9_method_5_code
def yX7_isLoose : MethodName := ⟨RX7, "isLoose", "(I)Z"⟩
abbrev cX7_standsAt : ByteArray := prog_9_method_6_code
def yX7_standsAt : MethodName := ⟨RX7, "standsAt", "(III)Z"⟩
abbrev cX7_at : ByteArray := prog_9_method_7_code
def yX7_at : MethodName := ⟨RX7, "at", "(II)I"⟩
abbrev cX7_ofBook : ByteArray := prog_9_method_8_code
def yX7_ofBook : MethodName := ⟨RX7, "ofBook", "(I)I"⟩
abbrev cX7_moveAll : ByteArray := prog_9_method_9_code
def yX7_moveAll : MethodName := ⟨RX7, "moveAll", "(II)V"⟩
def RX8 : String := "SlipHouse$Tape"
def TX8 : u_T := fun k => match k with
  | 0 => ("SlipHouse$Tape", "bytes", "[I", true)
  | _ => ("SlipHouse$Tape", "size", "I", false)
def tyX8 : Nat → FieldType := fun k => match k with
  | 0 => .array .int
  | _ => .int
abbrev wsX80 : List Cond := u_ws RX8 TX8 2
theorem nmX8 : ∀ a, a < 2 → ∀ b, b < 2 → a ≠ b → (TX8 a).2.1 ≠ (TX8 b).2.1 := by decide +kernel
theorem tyX8_ok : ∀ k, k < 2 → parseFieldDescriptor (TX8 k).2.2.1 = some (tyX8 k) := by decide +kernel
abbrev cX8_init : ByteArray := prog_10_method_1_code
def yX8_init : MethodName := ⟨RX8, "<init>", "()V"⟩
abbrev cX8_addFour : ByteArray := prog_10_method_2_code
def yX8_addFour : MethodName := ⟨RX8, "addFour", "(I)V"⟩
abbrev cX8_clear : ByteArray := prog_10_method_3_code
def yX8_clear : MethodName := ⟨RX8, "clear", "()V"⟩
abbrev cX8_takeWord : ByteArray := prog_10_method_4_code
def yX8_takeWord : MethodName := ⟨RX8, "takeWord", "(I)J"⟩
abbrev cX8_wordAt : ByteArray := prog_10_method_5_code
def yX8_wordAt : MethodName := ⟨RX8, "wordAt", "(II)J"⟩
def RX9 : String := "SlipHouse$Witnesses"
def TX9 : u_T := fun k => match k with
  | 0 => ("SlipHouse$Witnesses", "books", "LSlipHouse$Books;", true)
  | 1 => ("SlipHouse$Witnesses", "slips", "LSlipHouse$Slips;", true)
  | 2 => ("SlipHouse$Witnesses", "senses", "LSlipHouse$Senses;", true)
  | 3 => ("SlipHouse$Witnesses", "own", "[I", true)
  | 4 => ("SlipHouse$Witnesses", "ownBooks", "[I", true)
  | 5 => ("SlipHouse$Witnesses", "all", "[I", true)
  | 6 => ("SlipHouse$Witnesses", "allBooks", "[I", true)
  | 7 => ("SlipHouse$Witnesses", "firstFrom", "[I", true)
  | 8 => ("SlipHouse$Witnesses", "firstTo", "[I", true)
  | _ => ("SlipHouse$Witnesses", "place", "[I", true)
def tyX9 : Nat → FieldType := fun k => match k with
  | 0 => .object "SlipHouse$Books"
  | 1 => .object "SlipHouse$Slips"
  | 2 => .object "SlipHouse$Senses"
  | 3 => .array .int
  | 4 => .array .int
  | 5 => .array .int
  | 6 => .array .int
  | 7 => .array .int
  | 8 => .array .int
  | _ => .array .int
abbrev wsX90 : List Cond := u_ws RX9 TX9 10
theorem nmX9 : ∀ a, a < 10 → ∀ b, b < 10 → a ≠ b → (TX9 a).2.1 ≠ (TX9 b).2.1 := by decide +kernel
theorem tyX9_ok : ∀ k, k < 10 → parseFieldDescriptor (TX9 k).2.2.1 = some (tyX9 k) := by decide +kernel
abbrev cX9_init : ByteArray := prog_11_method_1_code
def yX9_init : MethodName := ⟨RX9, "<init>", "(LSlipHouse$Books;LSlipHouse$Slips;LSlipHouse$Senses;)V"⟩
abbrev cX9_gather : ByteArray := prog_11_method_2_code
def yX9_gather : MethodName := ⟨RX9, "gather", "()V"⟩
abbrev cX9_addSlip : ByteArray := prog_11_method_3_code
def yX9_addSlip : MethodName := ⟨RX9, "addSlip", "(II)V"⟩
abbrev cX9_placeOf : ByteArray := prog_11_method_4_code
def yX9_placeOf : MethodName := ⟨RX9, "placeOf", "(I)I"⟩
abbrev cX9_isAhead : ByteArray := prog_11_method_5_code
def yX9_isAhead : MethodName := ⟨RX9, "isAhead", "(II)Z"⟩
abbrev cX9_isFlaw : ByteArray := prog_11_method_6_code
def yX9_isFlaw : MethodName := ⟨RX9, "isFlaw", "(II)Z"⟩
abbrev cX9_hasOwn : ByteArray := prog_11_method_7_code
def yX9_hasOwn : MethodName := ⟨RX9, "hasOwn", "(I)Z"⟩
def RX10 : String := "SlipHouse$Words"
def TX10 : u_T := fun k => match k with
  | 0 => ("SlipHouse$Words", "rules", "LSlipHouse$Rules;", true)
  | 1 => ("SlipHouse$Words", "readBack", "Z", true)
  | 2 => ("SlipHouse$Words", "rows", "[[J", true)
  | _ => ("SlipHouse$Words", "lengths", "[I", true)
def tyX10 : Nat → FieldType := fun k => match k with
  | 0 => .object "SlipHouse$Rules"
  | 1 => .boolean
  | 2 => .array (.array .long)
  | _ => .array .int
abbrev wsX100 : List Cond := u_ws RX10 TX10 4
theorem nmX10 : ∀ a, a < 4 → ∀ b, b < 4 → a ≠ b → (TX10 a).2.1 ≠ (TX10 b).2.1 := by decide +kernel
theorem tyX10_ok : ∀ k, k < 4 → parseFieldDescriptor (TX10 k).2.2.1 = some (tyX10 k) := by decide +kernel
abbrev cX10_init : ByteArray := prog_12_method_1_code
def yX10_init : MethodName := ⟨RX10, "<init>", "(ILSlipHouse$Rules;Z)V"⟩
abbrev cX10_has : ByteArray := prog_12_method_2_code
def yX10_has : MethodName := ⟨RX10, "has", "(I)Z"⟩
abbrev cX10_set : ByteArray := prog_12_method_3_code
def yX10_set : MethodName := ⟨RX10, "set", "(IJ)V"⟩
abbrev cX10_wordAt : ByteArray := prog_12_method_4_code
def yX10_wordAt : MethodName := ⟨RX10, "wordAt", "(I)J"⟩
abbrev cX10_addNeighbours : ByteArray := prog_12_method_5_code
def yX10_addNeighbours : MethodName := ⟨RX10, "addNeighbours", "(I)V"⟩
abbrev cX10_addNeighboursOf : ByteArray := prog_12_method_6_code
def yX10_addNeighboursOf : MethodName := ⟨RX10, "addNeighboursOf", "(II)V"⟩
abbrev cX10_meet : ByteArray := prog_12_method_7_code
def yX10_meet : MethodName := ⟨RX10, "meet", "(ILSlipHouse$Words;I)Z"⟩
abbrev cX10_append : ByteArray := prog_12_method_8_code
def yX10_append : MethodName := ⟨RX10, "append", "(JI)J"⟩
abbrev cX10_lettersIn : ByteArray := prog_12_method_9_code
def yX10_lettersIn : MethodName := ⟨RX10, "lettersIn", "(J)I"⟩
abbrev cX10_letterAt : ByteArray := prog_12_method_10_code
def yX10_letterAt : MethodName := ⟨RX10, "letterAt", "(JI)I"⟩
abbrev cX10_changed : ByteArray := prog_12_method_11_code
def yX10_changed : MethodName := ⟨RX10, "changed", "(JIJJ)J"⟩
abbrev cX10_lowest : ByteArray := prog_12_method_12_code
def yX10_lowest : MethodName := ⟨RX10, "lowest", "(IJ)J"⟩
def RX11 : String := "SlipHouse"
def TX11 : u_T := fun k => match k with
  | 0 => ("SlipHouse", "tape", "LSlipHouse$Tape;", true)
  | 1 => ("SlipHouse", "books", "LSlipHouse$Books;", true)
  | 2 => ("SlipHouse", "rules", "LSlipHouse$Rules;", true)
  | 3 => ("SlipHouse", "entries", "LSlipHouse$Entries;", true)
  | 4 => ("SlipHouse", "slips", "LSlipHouse$Slips;", true)
  | 5 => ("SlipHouse", "senses", "LSlipHouse$Senses;", true)
  | 6 => ("SlipHouse", "witnesses", "LSlipHouse$Witnesses;", true)
  | 7 => ("SlipHouse", "pointers", "LSlipHouse$Pointers;", true)
  | 8 => ("SlipHouse", "editions", "LSlipHouse$Editions;", true)
  | _ => ("SlipHouse", "printer", "LSlipHouse$Printer;", true)
def tyX11 : Nat → FieldType := fun k => match k with
  | 0 => .object "SlipHouse$Tape"
  | 1 => .object "SlipHouse$Books"
  | 2 => .object "SlipHouse$Rules"
  | 3 => .object "SlipHouse$Entries"
  | 4 => .object "SlipHouse$Slips"
  | 5 => .object "SlipHouse$Senses"
  | 6 => .object "SlipHouse$Witnesses"
  | 7 => .object "SlipHouse$Pointers"
  | 8 => .object "SlipHouse$Editions"
  | _ => .object "SlipHouse$Printer"
abbrev wsX110 : List Cond := u_ws RX11 TX11 10
theorem nmX11 : ∀ a, a < 10 → ∀ b, b < 10 → a ≠ b → (TX11 a).2.1 ≠ (TX11 b).2.1 := by decide +kernel
theorem tyX11_ok : ∀ k, k < 10 → parseFieldDescriptor (TX11 k).2.2.1 = some (tyX11 k) := by decide +kernel
abbrev cX11_init : ByteArray := prog_1_method_1_code
def yX11_init : MethodName := ⟨RX11, "<init>", "()V"⟩
abbrev cX11_feed : ByteArray := prog_1_method_2_code
def yX11_feed : MethodName := ⟨RX11, "feed", "(IIIII)I"⟩
abbrev cX11_book : ByteArray := prog_1_method_3_code
def yX11_book : MethodName := ⟨RX11, "book", "(II)I"⟩
abbrev cX11_before : ByteArray := prog_1_method_4_code
def yX11_before : MethodName := ⟨RX11, "before", "(II)Z"⟩
abbrev cX11_span : ByteArray := prog_1_method_5_code
def yX11_span : MethodName := ⟨RX11, "span", "(II)I"⟩
abbrev cX11_slip : ByteArray := prog_1_method_6_code
def yX11_slip : MethodName := ⟨RX11, "slip", "(II)I"⟩
abbrev cX11_entry : ByteArray := prog_1_method_7_code
def yX11_entry : MethodName := ⟨RX11, "entry", "(III)I"⟩
abbrev cX11_form : ByteArray := prog_1_method_8_code
def yX11_form : MethodName := ⟨RX11, "form", "(IIII)I"⟩
abbrev cX11_rule : ByteArray := prog_1_method_9_code
def yX11_rule : MethodName := ⟨RX11, "rule", "(II)I"⟩
abbrev cX11_fits : ByteArray := prog_1_method_10_code
def yX11_fits : MethodName := ⟨RX11, "fits", "(II)I"⟩
abbrev cX11_sort : ByteArray := prog_1_method_11_code
def yX11_sort : MethodName := ⟨RX11, "sort", "()I"⟩
abbrev cX11_sense : ByteArray := prog_1_method_12_code
def yX11_sense : MethodName := ⟨RX11, "sense", "(II)I"⟩
abbrev cX11_put : ByteArray := prog_1_method_13_code
def yX11_put : MethodName := ⟨RX11, "put", "(III)Z"⟩
abbrev cX11_move : ByteArray := prog_1_method_14_code
def yX11_move : MethodName := ⟨RX11, "move", "(II)Z"⟩
abbrev cX11_join : ByteArray := prog_1_method_15_code
def yX11_join : MethodName := ⟨RX11, "join", "(II)Z"⟩
abbrev cX11_part : ByteArray := prog_1_method_16_code
def yX11_part : MethodName := ⟨RX11, "part", "(I)I"⟩
abbrev cX11_drop : ByteArray := prog_1_method_17_code
def yX11_drop : MethodName := ⟨RX11, "drop", "(I)Z"⟩
abbrev cX11_point : ByteArray := prog_1_method_18_code
def yX11_point : MethodName := ⟨RX11, "point", "(II)I"⟩
abbrev cX11_lead : ByteArray := prog_1_method_19_code
def yX11_lead : MethodName := ⟨RX11, "lead", "(II)Z"⟩
abbrev cX11_told : ByteArray := prog_1_method_20_code
def yX11_told : MethodName := ⟨RX11, "told", "(II)I"⟩
abbrev cX11_older : ByteArray := prog_1_method_21_code
def yX11_older : MethodName := ⟨RX11, "older", "(II)I"⟩
abbrev cX11_flaw : ByteArray := prog_1_method_22_code
def yX11_flaw : MethodName := ⟨RX11, "flaw", "(I)I"⟩
abbrev cX11_where : ByteArray := prog_1_method_23_code
def yX11_where : MethodName := ⟨RX11, "where", "(II)I"⟩
abbrev cX11_edition : ByteArray := prog_1_method_24_code
def yX11_edition : MethodName := ⟨RX11, "edition", "()I"⟩
abbrev cX11_as : ByteArray := prog_1_method_25_code
def yX11_as : MethodName := ⟨RX11, "as", "(III)I"⟩
abbrev cX11_differ : ByteArray := prog_1_method_26_code
def yX11_differ : MethodName := ⟨RX11, "differ", "(III)I"⟩
abbrev cX11_print : ByteArray := prog_1_method_27_code
def yX11_print : MethodName := ⟨RX11, "print", "(I)I"⟩
abbrev cX11_octet : ByteArray := prog_1_method_28_code
def yX11_octet : MethodName := ⟨RX11, "octet", "(I)I"⟩
abbrev cX11_count : ByteArray := prog_1_method_29_code
def yX11_count : MethodName := ⟨RX11, "count", "(I)I"⟩
abbrev cX11_areYears : ByteArray := prog_1_method_30_code
def yX11_areYears : MethodName := ⟨RX11, "areYears", "(II)Z"⟩
abbrev cX11_isRuleLength : ByteArray := prog_1_method_31_code
def yX11_isRuleLength : MethodName := ⟨RX11, "isRuleLength", "(I)Z"⟩
abbrev cX11_tapeHasWord : ByteArray := prog_1_method_32_code
def yX11_tapeHasWord : MethodName := ⟨RX11, "tapeHasWord", "(I)Z"⟩
abbrev cX11_isTopOrSenseOf : ByteArray := prog_1_method_33_code
def yX11_isTopOrSenseOf : MethodName := ⟨RX11, "isTopOrSenseOf", "(II)Z"⟩
abbrev cX11_isFit : ByteArray := prog_1_method_34_code
def yX11_isFit : MethodName := ⟨RX11, "isFit", "(II)Z"⟩
abbrev cX11_entriesFitted : ByteArray := prog_1_method_35_code
def yX11_entriesFitted : MethodName := ⟨RX11, "entriesFitted", "(I)I"⟩
abbrev cX11_firstEntryFitted : ByteArray := prog_1_method_36_code
def yX11_firstEntryFitted : MethodName := ⟨RX11, "firstEntryFitted", "(I)I"⟩
abbrev cX11_isInDoubt : ByteArray := prog_1_method_37_code
def yX11_isInDoubt : MethodName := ⟨RX11, "isInDoubt", "(I)Z"⟩
abbrev cX11_slipsInDoubt : ByteArray := prog_1_method_38_code
def yX11_slipsInDoubt : MethodName := ⟨RX11, "slipsInDoubt", "()I"⟩
abbrev cX11_toldYears : ByteArray := prog_1_method_39_code
def yX11_toldYears : MethodName := ⟨RX11, "toldYears", "(II)I"⟩
abbrev cX11_flaws : ByteArray := prog_1_method_40_code
def yX11_flaws : MethodName := ⟨RX11, "flaws", "()I"⟩
abbrev cX11_forgetSense : ByteArray := prog_1_method_41_code
def yX11_forgetSense : MethodName := ⟨RX11, "forgetSense", "(I)V"⟩
def RX12 : String := "SlipHouseModel"
def TX12 : u_T := fun k => match k with
  | 0 => ("SlipHouseModel", "tape", "[B", true)
  | 1 => ("SlipHouseModel", "taken", "[B", true)
  | 2 => ("SlipHouseModel", "taped", "I", false)
  | 3 => ("SlipHouseModel", "books", "I", false)
  | 4 => ("SlipHouseModel", "befores", "I", false)
  | 5 => ("SlipHouseModel", "toldFrom", "[I", true)
  | 6 => ("SlipHouseModel", "toldTo", "[I", true)
  | 7 => ("SlipHouseModel", "first", "[I", true)
  | 8 => ("SlipHouseModel", "last", "[I", true)
  | 9 => ("SlipHouseModel", "earlier", "[I", true)
  | 10 => ("SlipHouseModel", "later", "[I", true)
  | 11 => ("SlipHouseModel", "isEarlier", "[Z", true)
  | 12 => ("SlipHouseModel", "slips", "I", false)
  | 13 => ("SlipHouseModel", "entries", "I", false)
  | 14 => ("SlipHouseModel", "rules", "I", false)
  | 15 => ("SlipHouseModel", "bookOf", "[I", true)
  | 16 => ("SlipHouseModel", "entryOf", "[I", true)
  | 17 => ("SlipHouseModel", "senseOf", "[I", true)
  | 18 => ("SlipHouseModel", "wordOf", "[J", true)
  | 19 => ("SlipHouseModel", "known", "[B", true)
  | 20 => ("SlipHouseModel", "formMany", "[I", true)
  | 21 => ("SlipHouseModel", "formFrom", "[I", true)
  | 22 => ("SlipHouseModel", "formTo", "[I", true)
  | 23 => ("SlipHouseModel", "form", "[J", true)
  | 24 => ("SlipHouseModel", "ruleFrom", "[J", true)
  | 25 => ("SlipHouseModel", "ruleTo", "[J", true)
  | 26 => ("SlipHouseModel", "isSense0", "[Z", true)
  | 27 => ("SlipHouseModel", "ofEntry", "[I", true)
  | 28 => ("SlipHouseModel", "under", "[I", true)
  | 29 => ("SlipHouseModel", "pointers", "I", false)
  | 30 => ("SlipHouseModel", "pointFrom", "[I", true)
  | 31 => ("SlipHouseModel", "pointTo", "[I", true)
  | 32 => ("SlipHouseModel", "many", "I", false)
  | 33 => ("SlipHouseModel", "minFirst", "I", false)
  | 34 => ("SlipHouseModel", "minLast", "I", false)
  | 35 => ("SlipHouseModel", "maxFirst", "I", false)
  | 36 => ("SlipHouseModel", "maxLast", "I", false)
  | 37 => ("SlipHouseModel", "editions", "I", false)
  | 38 => ("SlipHouseModel", "editionSlips", "[I", true)
  | 39 => ("SlipHouseModel", "editionEntry", "[I", true)
  | 40 => ("SlipHouseModel", "editionSense", "[I", true)
  | 41 => ("SlipHouseModel", "out", "[B", true)
  | 42 => ("SlipHouseModel", "written", "I", false)
  | _ => ("SlipHouseModel", "up", "[I", true)
def tyX12 : Nat → FieldType := fun k => match k with
  | 0 => .array .byte
  | 1 => .array .byte
  | 2 => .int
  | 3 => .int
  | 4 => .int
  | 5 => .array .int
  | 6 => .array .int
  | 7 => .array .int
  | 8 => .array .int
  | 9 => .array .int
  | 10 => .array .int
  | 11 => .array .boolean
  | 12 => .int
  | 13 => .int
  | 14 => .int
  | 15 => .array .int
  | 16 => .array .int
  | 17 => .array .int
  | 18 => .array .long
  | 19 => .array .byte
  | 20 => .array .int
  | 21 => .array .int
  | 22 => .array .int
  | 23 => .array .long
  | 24 => .array .long
  | 25 => .array .long
  | 26 => .array .boolean
  | 27 => .array .int
  | 28 => .array .int
  | 29 => .int
  | 30 => .array .int
  | 31 => .array .int
  | 32 => .int
  | 33 => .int
  | 34 => .int
  | 35 => .int
  | 36 => .int
  | 37 => .int
  | 38 => .array .int
  | 39 => .array .int
  | 40 => .array .int
  | 41 => .array .byte
  | 42 => .int
  | _ => .array .int
abbrev wsX120 : List Cond := u_ws RX12 TX12 44
theorem nmX12 : ∀ a, a < 44 → ∀ b, b < 44 → a ≠ b → (TX12 a).2.1 ≠ (TX12 b).2.1 := by decide +kernel
theorem tyX12_ok : ∀ k, k < 44 → parseFieldDescriptor (TX12 k).2.2.1 = some (tyX12 k) := by decide +kernel
abbrev cX12_init : ByteArray := prog_14_method_1_code
def yX12_init : MethodName := ⟨RX12, "<init>", "()V"⟩
abbrev cX12_types : ByteArray := prog_14_method_2_code
def yX12_types : MethodName := ⟨RX12, "types", "(I)V"⟩
abbrev cX12_feed : ByteArray := prog_14_method_3_code
def yX12_feed : MethodName := ⟨RX12, "feed", "(IIIII)I"⟩
abbrev cX12_takes : ByteArray := prog_14_method_4_code
def yX12_takes : MethodName := ⟨RX12, "takes", "(I)V"⟩
abbrev cX12_word : ByteArray := prog_14_method_5_code
def yX12_word : MethodName := ⟨RX12, "word", "(II)J"⟩
abbrev cX12_size : ByteArray := prog_14_method_6_code
def yX12_size : MethodName := ⟨RX12, "size", "(J)I"⟩
abbrev cX12_areYears : ByteArray := prog_14_method_7_code
def yX12_areYears : MethodName := ⟨RX12, "areYears", "(II)Z"⟩
abbrev cX12_isBook : ByteArray := prog_14_method_8_code
def yX12_isBook : MethodName := ⟨RX12, "isBook", "(I)Z"⟩
abbrev cX12_book : ByteArray := prog_14_method_9_code
def yX12_book : MethodName := ⟨RX12, "book", "(II)I"⟩
abbrev cX12_tightens : ByteArray := prog_14_method_10_code
def yX12_tightens : MethodName := ⟨RX12, "tightens", "()Z"⟩
abbrev cX12_before : ByteArray := prog_14_method_11_code
def yX12_before : MethodName := ⟨RX12, "before", "(II)Z"⟩
abbrev cX12_closes : ByteArray := prog_14_method_12_code
def yX12_closes : MethodName := ⟨RX12, "closes", "()V"⟩
abbrev cX12_span : ByteArray := prog_14_method_13_code
def yX12_span : MethodName := ⟨RX12, "span", "(II)I"⟩
abbrev cX12_isWordSize : ByteArray := prog_14_method_14_code
def yX12_isWordSize : MethodName := ⟨RX12, "isWordSize", "(I)Z"⟩
abbrev cX12_slip : ByteArray := prog_14_method_15_code
def yX12_slip : MethodName := ⟨RX12, "slip", "(II)I"⟩
abbrev cX12_lays : ByteArray := prog_14_method_16_code
def yX12_lays : MethodName := ⟨RX12, "lays", "(IJII)V"⟩
abbrev cX12_entry : ByteArray := prog_14_method_17_code
def yX12_entry : MethodName := ⟨RX12, "entry", "(III)I"⟩
abbrev cX12_isEntry : ByteArray := prog_14_method_18_code
def yX12_isEntry : MethodName := ⟨RX12, "isEntry", "(I)Z"⟩
abbrev cX12_form : ByteArray := prog_14_method_19_code
def yX12_form : MethodName := ⟨RX12, "form", "(IIII)I"⟩
abbrev cX12_rule : ByteArray := prog_14_method_20_code
def yX12_rule : MethodName := ⟨RX12, "rule", "(II)I"⟩
abbrev cX12_changed : ByteArray := prog_14_method_21_code
def yX12_changed : MethodName := ⟨RX12, "changed", "(JII)J"⟩
abbrev cX12_leadsByOne : ByteArray := prog_14_method_22_code
def yX12_leadsByOne : MethodName := ⟨RX12, "leadsByOne", "(JJ)Z"⟩
abbrev cX12_leads : ByteArray := prog_14_method_23_code
def yX12_leads : MethodName := ⟨RX12, "leads", "(JJ)Z"⟩
abbrev cX12_isLed : ByteArray := prog_14_method_24_code
def yX12_isLed : MethodName := ⟨RX12, "isLed", "(II)Z"⟩
abbrev cX12_fitting : ByteArray := prog_14_method_25_code
def yX12_fitting : MethodName := ⟨RX12, "fitting", "(I)I"⟩
abbrev cX12_isDoubted : ByteArray := prog_14_method_26_code
def yX12_isDoubted : MethodName := ⟨RX12, "isDoubted", "(I)Z"⟩
abbrev cX12_isFitting : ByteArray := prog_14_method_27_code
def yX12_isFitting : MethodName := ⟨RX12, "isFitting", "(II)Z"⟩
abbrev cX12_isSlip : ByteArray := prog_14_method_28_code
def yX12_isSlip : MethodName := ⟨RX12, "isSlip", "(I)Z"⟩
abbrev cX12_fits : ByteArray := prog_14_method_29_code
def yX12_fits : MethodName := ⟨RX12, "fits", "(II)I"⟩
abbrev cX12_sort : ByteArray := prog_14_method_30_code
def yX12_sort : MethodName := ⟨RX12, "sort", "()I"⟩
abbrev cX12_isSense : ByteArray := prog_14_method_31_code
def yX12_isSense : MethodName := ⟨RX12, "isSense", "(I)Z"⟩
abbrev cX12_makes : ByteArray := prog_14_method_32_code
def yX12_makes : MethodName := ⟨RX12, "makes", "(II)I"⟩
abbrev cX12_sense : ByteArray := prog_14_method_33_code
def yX12_sense : MethodName := ⟨RX12, "sense", "(II)I"⟩
abbrev cX12_put : ByteArray := prog_14_method_34_code
def yX12_put : MethodName := ⟨RX12, "put", "(III)Z"⟩
abbrev cX12_isWithin : ByteArray := prog_14_method_35_code
def yX12_isWithin : MethodName := ⟨RX12, "isWithin", "(II)Z"⟩
abbrev cX12_move : ByteArray := prog_14_method_36_code
def yX12_move : MethodName := ⟨RX12, "move", "(II)Z"⟩
abbrev cX12_goes : ByteArray := prog_14_method_37_code
def yX12_goes : MethodName := ⟨RX12, "goes", "(I)V"⟩
abbrev cX12_join : ByteArray := prog_14_method_38_code
def yX12_join : MethodName := ⟨RX12, "join", "(II)Z"⟩
abbrev cX12_part : ByteArray := prog_14_method_39_code
def yX12_part : MethodName := ⟨RX12, "part", "(I)I"⟩
abbrev cX12_own : ByteArray := prog_14_method_40_code
def yX12_own : MethodName := ⟨RX12, "own", "(I)I"⟩
abbrev cX12_below : ByteArray := prog_14_method_41_code
def yX12_below : MethodName := ⟨RX12, "below", "(I)I"⟩
abbrev cX12_drop : ByteArray := prog_14_method_42_code
def yX12_drop : MethodName := ⟨RX12, "drop", "(I)Z"⟩
abbrev cX12_removes : ByteArray := prog_14_method_43_code
def yX12_removes : MethodName := ⟨RX12, "removes", "(I)V"⟩
abbrev cX12_point : ByteArray := prog_14_method_44_code
def yX12_point : MethodName := ⟨RX12, "point", "(II)I"⟩
abbrev cX12_lead : ByteArray := prog_14_method_45_code
def yX12_lead : MethodName := ⟨RX12, "lead", "(II)Z"⟩
abbrev cX12_isWitness : ByteArray := prog_14_method_46_code
def yX12_isWitness : MethodName := ⟨RX12, "isWitness", "(IIZ)Z"⟩
abbrev cX12_witnesses : ByteArray := prog_14_method_47_code
def yX12_witnesses : MethodName := ⟨RX12, "witnesses", "(IZ)V"⟩
abbrev cX12_gap : ByteArray := prog_14_method_48_code
def yX12_gap : MethodName := ⟨RX12, "gap", "(I)I"⟩
abbrev cX12_isAhead : ByteArray := prog_14_method_49_code
def yX12_isAhead : MethodName := ⟨RX12, "isAhead", "(II)Z"⟩
abbrev cX12_place : ByteArray := prog_14_method_50_code
def yX12_place : MethodName := ⟨RX12, "place", "(I)I"⟩
abbrev cX12_depth : ByteArray := prog_14_method_51_code
def yX12_depth : MethodName := ⟨RX12, "depth", "(I)I"⟩
abbrev cX12_told : ByteArray := prog_14_method_52_code
def yX12_told : MethodName := ⟨RX12, "told", "(II)I"⟩
abbrev cX12_isOlder : ByteArray := prog_14_method_53_code
def yX12_isOlder : MethodName := ⟨RX12, "isOlder", "(IIZ)Z"⟩
abbrev cX12_isAheadOfAll : ByteArray := prog_14_method_54_code
def yX12_isAheadOfAll : MethodName := ⟨RX12, "isAheadOfAll", "(IIZ)Z"⟩
abbrev cX12_older : ByteArray := prog_14_method_55_code
def yX12_older : MethodName := ⟨RX12, "older", "(II)I"⟩
abbrev cX12_flaws : ByteArray := prog_14_method_56_code
def yX12_flaws : MethodName := ⟨RX12, "flaws", "(I)I"⟩
abbrev cX12_flaw : ByteArray := prog_14_method_57_code
def yX12_flaw : MethodName := ⟨RX12, "flaw", "(I)I"⟩
abbrev cX12_byteOf : ByteArray := prog_14_method_58_code
def yX12_byteOf : MethodName := ⟨RX12, "byteOf", "(JI)I"⟩
abbrev cX12_where : ByteArray := prog_14_method_59_code
def yX12_where : MethodName := ⟨RX12, "where", "(II)I"⟩
abbrev cX12_loosePointers : ByteArray := prog_14_method_60_code
def yX12_loosePointers : MethodName := ⟨RX12, "loosePointers", "()I"⟩
abbrev cX12_edition : ByteArray := prog_14_method_61_code
def yX12_edition : MethodName := ⟨RX12, "edition", "()I"⟩
abbrev cX12_isEdition : ByteArray := prog_14_method_62_code
def yX12_isEdition : MethodName := ⟨RX12, "isEdition", "(I)Z"⟩
abbrev cX12_as : ByteArray := prog_14_method_63_code
def yX12_as : MethodName := ⟨RX12, "as", "(III)I"⟩
abbrev cX12_differ : ByteArray := prog_14_method_64_code
def yX12_differ : MethodName := ⟨RX12, "differ", "(III)I"⟩
abbrev cX12_puts : ByteArray := prog_14_method_65_code
def yX12_puts : MethodName := ⟨RX12, "puts", "(I)V"⟩
abbrev cX12_number : ByteArray := prog_14_method_66_code
def yX12_number : MethodName := ⟨RX12, "number", "(I)V"⟩
abbrev cX12_letters : ByteArray := prog_14_method_67_code
def yX12_letters : MethodName := ⟨RX12, "letters", "(J)V"⟩
abbrev cX12_mark : ByteArray := prog_14_method_68_code
def yX12_mark : MethodName := ⟨RX12, "mark", "(I)V"⟩
abbrev cX12_at : ByteArray := prog_14_method_69_code
def yX12_at : MethodName := ⟨RX12, "at", "(III)I"⟩
abbrev cX12_prints : ByteArray := prog_14_method_70_code
def yX12_prints : MethodName := ⟨RX12, "prints", "(I)V"⟩
abbrev cX12_heap : ByteArray := prog_14_method_71_code
def yX12_heap : MethodName := ⟨RX12, "heap", "(I)I"⟩
abbrev cX12_print : ByteArray := prog_14_method_72_code
def yX12_print : MethodName := ⟨RX12, "print", "(I)I"⟩
abbrev cX12_octet : ByteArray := prog_14_method_73_code
def yX12_octet : MethodName := ⟨RX12, "octet", "(I)I"⟩
abbrev cX12_count : ByteArray := prog_14_method_74_code
def yX12_count : MethodName := ⟨RX12, "count", "(I)I"⟩
def RJ9 : String := "java/lang/Math"
def TJ9 : u_T := fun k => match k with
  | _ => ("", "", "", false)
def tyJ9 : Nat → FieldType := fun k => match k with
  | _ => .int
theorem nmJ9 : ∀ a, a < 0 → ∀ b, b < 0 → a ≠ b → (TJ9 a).2.1 ≠ (TJ9 b).2.1 := by decide +kernel
theorem tyJ9_ok : ∀ k, k < 0 → parseFieldDescriptor (TJ9 k).2.2.1 = some (tyJ9 k) := by decide +kernel
abbrev cJ9_max_7cf53 : ByteArray := prog_15_method_65_code
def yJ9_max_7cf53 : MethodName := ⟨RJ9, "max", "(II)I"⟩
abbrev cJ9_min_7cf53 : ByteArray := prog_15_method_69_code
def yJ9_min_7cf53 : MethodName := ⟨RJ9, "min", "(II)I"⟩
def RL : String := "SlipHouseLaw"
abbrev cL_law : ByteArray := code
def yL_law : MethodName := ⟨RL, "law", "([I)Z"⟩
abbrev vwCl : List vw_C := [(RX0, TX0, 9), (RX1, TX1, 5), (RX2, TX2, 5), (RX3, TX3, 3), (RX4, TX4, 8), (RX5, TX5, 3), (RX6, TX6, 2), (RX7, TX7, 5), (RX8, TX8, 2), (RX9, TX9, 10), (RX10, TX10, 4), (RX11, TX11, 10), (RX12, TX12, 44)]
