section
-- ===== PART A: goes FIRST, ahead of the names: the tables' words, and 'selects' of the private methods out of them =====
/-- a private method of a class that the tables say can be made, by its rows of tables_1 -/
def lw_okq (q : MethodName × Nat) : Prop := (q.1.cls ≠ "java/lang/invoke/MethodHandle" ∧ q.1.cls ≠ "java/lang/invoke/VarHandle") ∧ Cond.instantiable q.1.cls q.2 ∈ tables_1 ∧ Cond.privateMethod q.1 ∈ tables_1 ∧ Cond.instanceMethod q.1 ∈ tables_1
theorem lw_p0 : lw_okq (⟨"SlipHouse$Books", "wasTold", "(II)Z"⟩, 9) := ⟨⟨by decide +kernel, by decide +kernel⟩, List.mem_of_getElem? (i := 39) (by decide +kernel), List.mem_of_getElem? (i := 387) (by decide +kernel), List.mem_of_getElem? (i := 388) (by decide +kernel)⟩
theorem lw_p1 : lw_okq (⟨"SlipHouse$Books", "tighten", "()Z"⟩, 9) := ⟨⟨by decide +kernel, by decide +kernel⟩, List.mem_of_getElem? (i := 39) (by decide +kernel), List.mem_of_getElem? (i := 391) (by decide +kernel), List.mem_of_getElem? (i := 392) (by decide +kernel)⟩
theorem lw_p2 : lw_okq (⟨"SlipHouse$Books", "tightenOnce", "()Z"⟩, 9) := ⟨⟨by decide +kernel, by decide +kernel⟩, List.mem_of_getElem? (i := 39) (by decide +kernel), List.mem_of_getElem? (i := 395) (by decide +kernel), List.mem_of_getElem? (i := 396) (by decide +kernel)⟩
theorem lw_p3 : lw_okq (⟨"SlipHouse$Books", "allHaveYears", "()Z"⟩, 9) := ⟨⟨by decide +kernel, by decide +kernel⟩, List.mem_of_getElem? (i := 39) (by decide +kernel), List.mem_of_getElem? (i := 399) (by decide +kernel), List.mem_of_getElem? (i := 400) (by decide +kernel)⟩
theorem lw_p4 : lw_okq (⟨"SlipHouse$Books", "setBehind", "(II)V"⟩, 9) := ⟨⟨by decide +kernel, by decide +kernel⟩, List.mem_of_getElem? (i := 39) (by decide +kernel), List.mem_of_getElem? (i := 403) (by decide +kernel), List.mem_of_getElem? (i := 404) (by decide +kernel)⟩
theorem lw_p5 : lw_okq (⟨"SlipHouse", "tapeHasWord", "(I)Z"⟩, 10) := ⟨⟨by decide +kernel, by decide +kernel⟩, List.mem_of_getElem? (i := 16) (by decide +kernel), List.mem_of_getElem? (i := 422) (by decide +kernel), List.mem_of_getElem? (i := 423) (by decide +kernel)⟩
theorem lw_p6 : lw_okq (⟨"SlipHouse$Words", "addNeighboursOf", "(II)V"⟩, 4) := ⟨⟨by decide +kernel, by decide +kernel⟩, List.mem_of_getElem? (i := 108) (by decide +kernel), List.mem_of_getElem? (i := 449) (by decide +kernel), List.mem_of_getElem? (i := 450) (by decide +kernel)⟩
theorem lw_p7 : lw_okq (⟨"SlipHouse", "isFit", "(II)Z"⟩, 10) := ⟨⟨by decide +kernel, by decide +kernel⟩, List.mem_of_getElem? (i := 16) (by decide +kernel), List.mem_of_getElem? (i := 527) (by decide +kernel), List.mem_of_getElem? (i := 528) (by decide +kernel)⟩
theorem lw_p8 : lw_okq (⟨"SlipHouse", "entriesFitted", "(I)I"⟩, 10) := ⟨⟨by decide +kernel, by decide +kernel⟩, List.mem_of_getElem? (i := 16) (by decide +kernel), List.mem_of_getElem? (i := 552) (by decide +kernel), List.mem_of_getElem? (i := 553) (by decide +kernel)⟩
theorem lw_p9 : lw_okq (⟨"SlipHouse", "firstEntryFitted", "(I)I"⟩, 10) := ⟨⟨by decide +kernel, by decide +kernel⟩, List.mem_of_getElem? (i := 16) (by decide +kernel), List.mem_of_getElem? (i := 556) (by decide +kernel), List.mem_of_getElem? (i := 557) (by decide +kernel)⟩
theorem lw_p10 : lw_okq (⟨"SlipHouse", "isTopOrSenseOf", "(II)Z"⟩, 10) := ⟨⟨by decide +kernel, by decide +kernel⟩, List.mem_of_getElem? (i := 16) (by decide +kernel), List.mem_of_getElem? (i := 565) (by decide +kernel), List.mem_of_getElem? (i := 566) (by decide +kernel)⟩
theorem lw_p11 : lw_okq (⟨"SlipHouse", "forgetSense", "(I)V"⟩, 10) := ⟨⟨by decide +kernel, by decide +kernel⟩, List.mem_of_getElem? (i := 16) (by decide +kernel), List.mem_of_getElem? (i := 603) (by decide +kernel), List.mem_of_getElem? (i := 604) (by decide +kernel)⟩
theorem lw_p12 : lw_okq (⟨"SlipHouse$Witnesses", "addSlip", "(II)V"⟩, 10) := ⟨⟨by decide +kernel, by decide +kernel⟩, List.mem_of_getElem? (i := 201) (by decide +kernel), List.mem_of_getElem? (i := 665) (by decide +kernel), List.mem_of_getElem? (i := 666) (by decide +kernel)⟩
theorem lw_p13 : lw_okq (⟨"SlipHouse$Witnesses", "placeOf", "(I)I"⟩, 10) := ⟨⟨by decide +kernel, by decide +kernel⟩, List.mem_of_getElem? (i := 201) (by decide +kernel), List.mem_of_getElem? (i := 677) (by decide +kernel), List.mem_of_getElem? (i := 678) (by decide +kernel)⟩
theorem lw_p14 : lw_okq (⟨"SlipHouse$Witnesses", "isAhead", "(II)Z"⟩, 10) := ⟨⟨by decide +kernel, by decide +kernel⟩, List.mem_of_getElem? (i := 201) (by decide +kernel), List.mem_of_getElem? (i := 685) (by decide +kernel), List.mem_of_getElem? (i := 686) (by decide +kernel)⟩
theorem lw_p15 : lw_okq (⟨"SlipHouse", "toldYears", "(II)I"⟩, 10) := ⟨⟨by decide +kernel, by decide +kernel⟩, List.mem_of_getElem? (i := 16) (by decide +kernel), List.mem_of_getElem? (i := 689) (by decide +kernel), List.mem_of_getElem? (i := 690) (by decide +kernel)⟩
def lw_privs_1 : List (MethodName × Nat) := [(⟨"SlipHouse$Books", "wasTold", "(II)Z"⟩, 9), (⟨"SlipHouse$Books", "tighten", "()Z"⟩, 9), (⟨"SlipHouse$Books", "tightenOnce", "()Z"⟩, 9), (⟨"SlipHouse$Books", "allHaveYears", "()Z"⟩, 9), (⟨"SlipHouse$Books", "setBehind", "(II)V"⟩, 9), (⟨"SlipHouse", "tapeHasWord", "(I)Z"⟩, 10), (⟨"SlipHouse$Words", "addNeighboursOf", "(II)V"⟩, 4), (⟨"SlipHouse", "isFit", "(II)Z"⟩, 10), (⟨"SlipHouse", "entriesFitted", "(I)I"⟩, 10), (⟨"SlipHouse", "firstEntryFitted", "(I)I"⟩, 10), (⟨"SlipHouse", "isTopOrSenseOf", "(II)Z"⟩, 10), (⟨"SlipHouse", "forgetSense", "(I)V"⟩, 10), (⟨"SlipHouse$Witnesses", "addSlip", "(II)V"⟩, 10), (⟨"SlipHouse$Witnesses", "placeOf", "(I)I"⟩, 10), (⟨"SlipHouse$Witnesses", "isAhead", "(II)Z"⟩, 10), (⟨"SlipHouse", "toldYears", "(II)I"⟩, 10)]
theorem lw_r1 : ∀ q ∈ lw_privs_1, lw_okq q := List.forall_mem_cons.mpr ⟨lw_p0, List.forall_mem_cons.mpr ⟨lw_p1, List.forall_mem_cons.mpr ⟨lw_p2, List.forall_mem_cons.mpr ⟨lw_p3, List.forall_mem_cons.mpr ⟨lw_p4, List.forall_mem_cons.mpr ⟨lw_p5, List.forall_mem_cons.mpr ⟨lw_p6, List.forall_mem_cons.mpr ⟨lw_p7, List.forall_mem_cons.mpr ⟨lw_p8, List.forall_mem_cons.mpr ⟨lw_p9, List.forall_mem_cons.mpr ⟨lw_p10, List.forall_mem_cons.mpr ⟨lw_p11, List.forall_mem_cons.mpr ⟨lw_p12, List.forall_mem_cons.mpr ⟨lw_p13, List.forall_mem_cons.mpr ⟨lw_p14, List.forall_mem_cons.mpr ⟨lw_p15, fun _ h => absurd h List.not_mem_nil⟩⟩⟩⟩⟩⟩⟩⟩⟩⟩⟩⟩⟩⟩⟩⟩
theorem lw_p16 : lw_okq (⟨"SlipHouse$Books", "gapAhead", "(II)I"⟩, 9) := ⟨⟨by decide +kernel, by decide +kernel⟩, List.mem_of_getElem? (i := 39) (by decide +kernel), List.mem_of_getElem? (i := 705) (by decide +kernel), List.mem_of_getElem? (i := 706) (by decide +kernel)⟩
theorem lw_p17 : lw_okq (⟨"SlipHouse$Witnesses", "hasOwn", "(I)Z"⟩, 10) := ⟨⟨by decide +kernel, by decide +kernel⟩, List.mem_of_getElem? (i := 201) (by decide +kernel), List.mem_of_getElem? (i := 730) (by decide +kernel), List.mem_of_getElem? (i := 731) (by decide +kernel)⟩
theorem lw_p18 : lw_okq (⟨"SlipHouse", "isInDoubt", "(I)Z"⟩, 10) := ⟨⟨by decide +kernel, by decide +kernel⟩, List.mem_of_getElem? (i := 16) (by decide +kernel), List.mem_of_getElem? (i := 740) (by decide +kernel), List.mem_of_getElem? (i := 741) (by decide +kernel)⟩
theorem lw_p19 : lw_okq (⟨"SlipHouse$Editions", "wasThere", "(II)Z"⟩, 5) := ⟨⟨by decide +kernel, by decide +kernel⟩, List.mem_of_getElem? (i := 268) (by decide +kernel), List.mem_of_getElem? (i := 778) (by decide +kernel), List.mem_of_getElem? (i := 779) (by decide +kernel)⟩
theorem lw_p20 : lw_okq (⟨"SlipHouse$Printer", "addWord", "(J)V"⟩, 8) := ⟨⟨by decide +kernel, by decide +kernel⟩, List.mem_of_getElem? (i := 293) (by decide +kernel), List.mem_of_getElem? (i := 811) (by decide +kernel), List.mem_of_getElem? (i := 812) (by decide +kernel)⟩
theorem lw_p21 : lw_okq (⟨"SlipHouse$Printer", "addByte", "(I)V"⟩, 8) := ⟨⟨by decide +kernel, by decide +kernel⟩, List.mem_of_getElem? (i := 293) (by decide +kernel), List.mem_of_getElem? (i := 817) (by decide +kernel), List.mem_of_getElem? (i := 818) (by decide +kernel)⟩
theorem lw_p22 : lw_okq (⟨"SlipHouse$Printer", "senseAt", "(III)I"⟩, 8) := ⟨⟨by decide +kernel, by decide +kernel⟩, List.mem_of_getElem? (i := 293) (by decide +kernel), List.mem_of_getElem? (i := 821) (by decide +kernel), List.mem_of_getElem? (i := 822) (by decide +kernel)⟩
theorem lw_p23 : lw_okq (⟨"SlipHouse$Printer", "addSense", "(I)V"⟩, 8) := ⟨⟨by decide +kernel, by decide +kernel⟩, List.mem_of_getElem? (i := 293) (by decide +kernel), List.mem_of_getElem? (i := 826) (by decide +kernel), List.mem_of_getElem? (i := 827) (by decide +kernel)⟩
theorem lw_p24 : lw_okq (⟨"SlipHouse$Printer", "addMark", "(I)V"⟩, 8) := ⟨⟨by decide +kernel, by decide +kernel⟩, List.mem_of_getElem? (i := 293) (by decide +kernel), List.mem_of_getElem? (i := 830) (by decide +kernel), List.mem_of_getElem? (i := 831) (by decide +kernel)⟩
theorem lw_p25 : lw_okq (⟨"SlipHouse$Printer", "addNumber", "(I)V"⟩, 8) := ⟨⟨by decide +kernel, by decide +kernel⟩, List.mem_of_getElem? (i := 293) (by decide +kernel), List.mem_of_getElem? (i := 834) (by decide +kernel), List.mem_of_getElem? (i := 835) (by decide +kernel)⟩
theorem lw_p26 : lw_okq (⟨"SlipHouse$Printer", "addWitnesses", "(I)V"⟩, 8) := ⟨⟨by decide +kernel, by decide +kernel⟩, List.mem_of_getElem? (i := 293) (by decide +kernel), List.mem_of_getElem? (i := 838) (by decide +kernel), List.mem_of_getElem? (i := 839) (by decide +kernel)⟩
theorem lw_p27 : lw_okq (⟨"SlipHouse$Printer", "addPointer", "(I)V"⟩, 8) := ⟨⟨by decide +kernel, by decide +kernel⟩, List.mem_of_getElem? (i := 293) (by decide +kernel), List.mem_of_getElem? (i := 842) (by decide +kernel), List.mem_of_getElem? (i := 843) (by decide +kernel)⟩
theorem lw_p28 : lw_okq (⟨"SlipHouse$Printer", "senseBehind", "(I)I"⟩, 8) := ⟨⟨by decide +kernel, by decide +kernel⟩, List.mem_of_getElem? (i := 293) (by decide +kernel), List.mem_of_getElem? (i := 846) (by decide +kernel), List.mem_of_getElem? (i := 847) (by decide +kernel)⟩
theorem lw_p29 : lw_okq (⟨"SlipHouse$Printer", "addHeap", "(I)V"⟩, 8) := ⟨⟨by decide +kernel, by decide +kernel⟩, List.mem_of_getElem? (i := 293) (by decide +kernel), List.mem_of_getElem? (i := 851) (by decide +kernel), List.mem_of_getElem? (i := 852) (by decide +kernel)⟩
theorem lw_p30 : lw_okq (⟨"SlipHouse", "slipsInDoubt", "()I"⟩, 10) := ⟨⟨by decide +kernel, by decide +kernel⟩, List.mem_of_getElem? (i := 16) (by decide +kernel), List.mem_of_getElem? (i := 871) (by decide +kernel), List.mem_of_getElem? (i := 872) (by decide +kernel)⟩
theorem lw_p31 : lw_okq (⟨"SlipHouse", "flaws", "()I"⟩, 10) := ⟨⟨by decide +kernel, by decide +kernel⟩, List.mem_of_getElem? (i := 16) (by decide +kernel), List.mem_of_getElem? (i := 875) (by decide +kernel), List.mem_of_getElem? (i := 876) (by decide +kernel)⟩
def lw_privs_2 : List (MethodName × Nat) := [(⟨"SlipHouse$Books", "gapAhead", "(II)I"⟩, 9), (⟨"SlipHouse$Witnesses", "hasOwn", "(I)Z"⟩, 10), (⟨"SlipHouse", "isInDoubt", "(I)Z"⟩, 10), (⟨"SlipHouse$Editions", "wasThere", "(II)Z"⟩, 5), (⟨"SlipHouse$Printer", "addWord", "(J)V"⟩, 8), (⟨"SlipHouse$Printer", "addByte", "(I)V"⟩, 8), (⟨"SlipHouse$Printer", "senseAt", "(III)I"⟩, 8), (⟨"SlipHouse$Printer", "addSense", "(I)V"⟩, 8), (⟨"SlipHouse$Printer", "addMark", "(I)V"⟩, 8), (⟨"SlipHouse$Printer", "addNumber", "(I)V"⟩, 8), (⟨"SlipHouse$Printer", "addWitnesses", "(I)V"⟩, 8), (⟨"SlipHouse$Printer", "addPointer", "(I)V"⟩, 8), (⟨"SlipHouse$Printer", "senseBehind", "(I)I"⟩, 8), (⟨"SlipHouse$Printer", "addHeap", "(I)V"⟩, 8), (⟨"SlipHouse", "slipsInDoubt", "()I"⟩, 10), (⟨"SlipHouse", "flaws", "()I"⟩, 10)]
theorem lw_r2 : ∀ q ∈ lw_privs_2, lw_okq q := List.forall_mem_cons.mpr ⟨lw_p16, List.forall_mem_cons.mpr ⟨lw_p17, List.forall_mem_cons.mpr ⟨lw_p18, List.forall_mem_cons.mpr ⟨lw_p19, List.forall_mem_cons.mpr ⟨lw_p20, List.forall_mem_cons.mpr ⟨lw_p21, List.forall_mem_cons.mpr ⟨lw_p22, List.forall_mem_cons.mpr ⟨lw_p23, List.forall_mem_cons.mpr ⟨lw_p24, List.forall_mem_cons.mpr ⟨lw_p25, List.forall_mem_cons.mpr ⟨lw_p26, List.forall_mem_cons.mpr ⟨lw_p27, List.forall_mem_cons.mpr ⟨lw_p28, List.forall_mem_cons.mpr ⟨lw_p29, List.forall_mem_cons.mpr ⟨lw_p30, List.forall_mem_cons.mpr ⟨lw_p31, fun _ h => absurd h List.not_mem_nil⟩⟩⟩⟩⟩⟩⟩⟩⟩⟩⟩⟩⟩⟩⟩⟩
theorem lw_p32 : lw_okq (⟨"SlipHouseModel", "types", "(I)V"⟩, 44) := ⟨⟨by decide +kernel, by decide +kernel⟩, List.mem_of_getElem? (i := 879) (by decide +kernel), List.mem_of_getElem? (i := 1023) (by decide +kernel), List.mem_of_getElem? (i := 1024) (by decide +kernel)⟩
theorem lw_p33 : lw_okq (⟨"SlipHouseModel", "tightens", "()Z"⟩, 44) := ⟨⟨by decide +kernel, by decide +kernel⟩, List.mem_of_getElem? (i := 879) (by decide +kernel), List.mem_of_getElem? (i := 1034) (by decide +kernel), List.mem_of_getElem? (i := 1035) (by decide +kernel)⟩
theorem lw_p34 : lw_okq (⟨"SlipHouseModel", "isBook", "(I)Z"⟩, 44) := ⟨⟨by decide +kernel, by decide +kernel⟩, List.mem_of_getElem? (i := 879) (by decide +kernel), List.mem_of_getElem? (i := 1042) (by decide +kernel), List.mem_of_getElem? (i := 1043) (by decide +kernel)⟩
theorem lw_p35 : lw_okq (⟨"SlipHouseModel", "closes", "()V"⟩, 44) := ⟨⟨by decide +kernel, by decide +kernel⟩, List.mem_of_getElem? (i := 879) (by decide +kernel), List.mem_of_getElem? (i := 1046) (by decide +kernel), List.mem_of_getElem? (i := 1047) (by decide +kernel)⟩
theorem lw_p36 : lw_okq (⟨"SlipHouseModel", "isWordSize", "(I)Z"⟩, 44) := ⟨⟨by decide +kernel, by decide +kernel⟩, List.mem_of_getElem? (i := 879) (by decide +kernel), List.mem_of_getElem? (i := 1058) (by decide +kernel), List.mem_of_getElem? (i := 1059) (by decide +kernel)⟩
theorem lw_p37 : lw_okq (⟨"SlipHouseModel", "takes", "(I)V"⟩, 44) := ⟨⟨by decide +kernel, by decide +kernel⟩, List.mem_of_getElem? (i := 879) (by decide +kernel), List.mem_of_getElem? (i := 1062) (by decide +kernel), List.mem_of_getElem? (i := 1063) (by decide +kernel)⟩
theorem lw_p38 : lw_okq (⟨"SlipHouseModel", "word", "(II)J"⟩, 44) := ⟨⟨by decide +kernel, by decide +kernel⟩, List.mem_of_getElem? (i := 879) (by decide +kernel), List.mem_of_getElem? (i := 1066) (by decide +kernel), List.mem_of_getElem? (i := 1067) (by decide +kernel)⟩
theorem lw_p39 : lw_okq (⟨"SlipHouseModel", "lays", "(IJII)V"⟩, 44) := ⟨⟨by decide +kernel, by decide +kernel⟩, List.mem_of_getElem? (i := 879) (by decide +kernel), List.mem_of_getElem? (i := 1074) (by decide +kernel), List.mem_of_getElem? (i := 1075) (by decide +kernel)⟩
theorem lw_p40 : lw_okq (⟨"SlipHouseModel", "isEntry", "(I)Z"⟩, 44) := ⟨⟨by decide +kernel, by decide +kernel⟩, List.mem_of_getElem? (i := 879) (by decide +kernel), List.mem_of_getElem? (i := 1082) (by decide +kernel), List.mem_of_getElem? (i := 1083) (by decide +kernel)⟩
theorem lw_p41 : lw_okq (⟨"SlipHouseModel", "isSlip", "(I)Z"⟩, 44) := ⟨⟨by decide +kernel, by decide +kernel⟩, List.mem_of_getElem? (i := 879) (by decide +kernel), List.mem_of_getElem? (i := 1094) (by decide +kernel), List.mem_of_getElem? (i := 1095) (by decide +kernel)⟩
theorem lw_p42 : lw_okq (⟨"SlipHouseModel", "isFitting", "(II)Z"⟩, 44) := ⟨⟨by decide +kernel, by decide +kernel⟩, List.mem_of_getElem? (i := 879) (by decide +kernel), List.mem_of_getElem? (i := 1098) (by decide +kernel), List.mem_of_getElem? (i := 1099) (by decide +kernel)⟩
theorem lw_p43 : lw_okq (⟨"SlipHouseModel", "isLed", "(II)Z"⟩, 44) := ⟨⟨by decide +kernel, by decide +kernel⟩, List.mem_of_getElem? (i := 879) (by decide +kernel), List.mem_of_getElem? (i := 1102) (by decide +kernel), List.mem_of_getElem? (i := 1103) (by decide +kernel)⟩
theorem lw_p44 : lw_okq (⟨"SlipHouseModel", "leads", "(JJ)Z"⟩, 44) := ⟨⟨by decide +kernel, by decide +kernel⟩, List.mem_of_getElem? (i := 879) (by decide +kernel), List.mem_of_getElem? (i := 1106) (by decide +kernel), List.mem_of_getElem? (i := 1107) (by decide +kernel)⟩
theorem lw_p45 : lw_okq (⟨"SlipHouseModel", "leadsByOne", "(JJ)Z"⟩, 44) := ⟨⟨by decide +kernel, by decide +kernel⟩, List.mem_of_getElem? (i := 879) (by decide +kernel), List.mem_of_getElem? (i := 1110) (by decide +kernel), List.mem_of_getElem? (i := 1111) (by decide +kernel)⟩
theorem lw_p46 : lw_okq (⟨"SlipHouseModel", "changed", "(JII)J"⟩, 44) := ⟨⟨by decide +kernel, by decide +kernel⟩, List.mem_of_getElem? (i := 879) (by decide +kernel), List.mem_of_getElem? (i := 1114) (by decide +kernel), List.mem_of_getElem? (i := 1115) (by decide +kernel)⟩
theorem lw_p47 : lw_okq (⟨"SlipHouseModel", "fitting", "(I)I"⟩, 44) := ⟨⟨by decide +kernel, by decide +kernel⟩, List.mem_of_getElem? (i := 879) (by decide +kernel), List.mem_of_getElem? (i := 1125) (by decide +kernel), List.mem_of_getElem? (i := 1126) (by decide +kernel)⟩
def lw_privs_3 : List (MethodName × Nat) := [(⟨"SlipHouseModel", "types", "(I)V"⟩, 44), (⟨"SlipHouseModel", "tightens", "()Z"⟩, 44), (⟨"SlipHouseModel", "isBook", "(I)Z"⟩, 44), (⟨"SlipHouseModel", "closes", "()V"⟩, 44), (⟨"SlipHouseModel", "isWordSize", "(I)Z"⟩, 44), (⟨"SlipHouseModel", "takes", "(I)V"⟩, 44), (⟨"SlipHouseModel", "word", "(II)J"⟩, 44), (⟨"SlipHouseModel", "lays", "(IJII)V"⟩, 44), (⟨"SlipHouseModel", "isEntry", "(I)Z"⟩, 44), (⟨"SlipHouseModel", "isSlip", "(I)Z"⟩, 44), (⟨"SlipHouseModel", "isFitting", "(II)Z"⟩, 44), (⟨"SlipHouseModel", "isLed", "(II)Z"⟩, 44), (⟨"SlipHouseModel", "leads", "(JJ)Z"⟩, 44), (⟨"SlipHouseModel", "leadsByOne", "(JJ)Z"⟩, 44), (⟨"SlipHouseModel", "changed", "(JII)J"⟩, 44), (⟨"SlipHouseModel", "fitting", "(I)I"⟩, 44)]
theorem lw_r3 : ∀ q ∈ lw_privs_3, lw_okq q := List.forall_mem_cons.mpr ⟨lw_p32, List.forall_mem_cons.mpr ⟨lw_p33, List.forall_mem_cons.mpr ⟨lw_p34, List.forall_mem_cons.mpr ⟨lw_p35, List.forall_mem_cons.mpr ⟨lw_p36, List.forall_mem_cons.mpr ⟨lw_p37, List.forall_mem_cons.mpr ⟨lw_p38, List.forall_mem_cons.mpr ⟨lw_p39, List.forall_mem_cons.mpr ⟨lw_p40, List.forall_mem_cons.mpr ⟨lw_p41, List.forall_mem_cons.mpr ⟨lw_p42, List.forall_mem_cons.mpr ⟨lw_p43, List.forall_mem_cons.mpr ⟨lw_p44, List.forall_mem_cons.mpr ⟨lw_p45, List.forall_mem_cons.mpr ⟨lw_p46, List.forall_mem_cons.mpr ⟨lw_p47, fun _ h => absurd h List.not_mem_nil⟩⟩⟩⟩⟩⟩⟩⟩⟩⟩⟩⟩⟩⟩⟩⟩
theorem lw_p48 : lw_okq (⟨"SlipHouseModel", "isSense", "(I)Z"⟩, 44) := ⟨⟨by decide +kernel, by decide +kernel⟩, List.mem_of_getElem? (i := 879) (by decide +kernel), List.mem_of_getElem? (i := 1133) (by decide +kernel), List.mem_of_getElem? (i := 1134) (by decide +kernel)⟩
theorem lw_p49 : lw_okq (⟨"SlipHouseModel", "makes", "(II)I"⟩, 44) := ⟨⟨by decide +kernel, by decide +kernel⟩, List.mem_of_getElem? (i := 879) (by decide +kernel), List.mem_of_getElem? (i := 1137) (by decide +kernel), List.mem_of_getElem? (i := 1138) (by decide +kernel)⟩
theorem lw_p50 : lw_okq (⟨"SlipHouseModel", "isWithin", "(II)Z"⟩, 44) := ⟨⟨by decide +kernel, by decide +kernel⟩, List.mem_of_getElem? (i := 879) (by decide +kernel), List.mem_of_getElem? (i := 1149) (by decide +kernel), List.mem_of_getElem? (i := 1150) (by decide +kernel)⟩
theorem lw_p51 : lw_okq (⟨"SlipHouseModel", "goes", "(I)V"⟩, 44) := ⟨⟨by decide +kernel, by decide +kernel⟩, List.mem_of_getElem? (i := 879) (by decide +kernel), List.mem_of_getElem? (i := 1157) (by decide +kernel), List.mem_of_getElem? (i := 1158) (by decide +kernel)⟩
theorem lw_p52 : lw_okq (⟨"SlipHouseModel", "removes", "(I)V"⟩, 44) := ⟨⟨by decide +kernel, by decide +kernel⟩, List.mem_of_getElem? (i := 879) (by decide +kernel), List.mem_of_getElem? (i := 1161) (by decide +kernel), List.mem_of_getElem? (i := 1162) (by decide +kernel)⟩
theorem lw_p53 : lw_okq (⟨"SlipHouseModel", "own", "(I)I"⟩, 44) := ⟨⟨by decide +kernel, by decide +kernel⟩, List.mem_of_getElem? (i := 879) (by decide +kernel), List.mem_of_getElem? (i := 1173) (by decide +kernel), List.mem_of_getElem? (i := 1174) (by decide +kernel)⟩
theorem lw_p54 : lw_okq (⟨"SlipHouseModel", "below", "(I)I"⟩, 44) := ⟨⟨by decide +kernel, by decide +kernel⟩, List.mem_of_getElem? (i := 879) (by decide +kernel), List.mem_of_getElem? (i := 1177) (by decide +kernel), List.mem_of_getElem? (i := 1178) (by decide +kernel)⟩
theorem lw_p55 : lw_okq (⟨"SlipHouseModel", "witnesses", "(IZ)V"⟩, 44) := ⟨⟨by decide +kernel, by decide +kernel⟩, List.mem_of_getElem? (i := 879) (by decide +kernel), List.mem_of_getElem? (i := 1193) (by decide +kernel), List.mem_of_getElem? (i := 1194) (by decide +kernel)⟩
theorem lw_p56 : lw_okq (⟨"SlipHouseModel", "isWitness", "(IIZ)Z"⟩, 44) := ⟨⟨by decide +kernel, by decide +kernel⟩, List.mem_of_getElem? (i := 879) (by decide +kernel), List.mem_of_getElem? (i := 1197) (by decide +kernel), List.mem_of_getElem? (i := 1198) (by decide +kernel)⟩
theorem lw_p57 : lw_okq (⟨"SlipHouseModel", "gap", "(I)I"⟩, 44) := ⟨⟨by decide +kernel, by decide +kernel⟩, List.mem_of_getElem? (i := 879) (by decide +kernel), List.mem_of_getElem? (i := 1201) (by decide +kernel), List.mem_of_getElem? (i := 1202) (by decide +kernel)⟩
theorem lw_p58 : lw_okq (⟨"SlipHouseModel", "place", "(I)I"⟩, 44) := ⟨⟨by decide +kernel, by decide +kernel⟩, List.mem_of_getElem? (i := 879) (by decide +kernel), List.mem_of_getElem? (i := 1205) (by decide +kernel), List.mem_of_getElem? (i := 1206) (by decide +kernel)⟩
theorem lw_p59 : lw_okq (⟨"SlipHouseModel", "isAhead", "(II)Z"⟩, 44) := ⟨⟨by decide +kernel, by decide +kernel⟩, List.mem_of_getElem? (i := 879) (by decide +kernel), List.mem_of_getElem? (i := 1209) (by decide +kernel), List.mem_of_getElem? (i := 1210) (by decide +kernel)⟩
theorem lw_p60 : lw_okq (⟨"SlipHouseModel", "depth", "(I)I"⟩, 44) := ⟨⟨by decide +kernel, by decide +kernel⟩, List.mem_of_getElem? (i := 879) (by decide +kernel), List.mem_of_getElem? (i := 1213) (by decide +kernel), List.mem_of_getElem? (i := 1214) (by decide +kernel)⟩
theorem lw_p61 : lw_okq (⟨"SlipHouseModel", "isOlder", "(IIZ)Z"⟩, 44) := ⟨⟨by decide +kernel, by decide +kernel⟩, List.mem_of_getElem? (i := 879) (by decide +kernel), List.mem_of_getElem? (i := 1221) (by decide +kernel), List.mem_of_getElem? (i := 1222) (by decide +kernel)⟩
theorem lw_p62 : lw_okq (⟨"SlipHouseModel", "isAheadOfAll", "(IIZ)Z"⟩, 44) := ⟨⟨by decide +kernel, by decide +kernel⟩, List.mem_of_getElem? (i := 879) (by decide +kernel), List.mem_of_getElem? (i := 1225) (by decide +kernel), List.mem_of_getElem? (i := 1226) (by decide +kernel)⟩
theorem lw_p63 : lw_okq (⟨"SlipHouseModel", "flaws", "(I)I"⟩, 44) := ⟨⟨by decide +kernel, by decide +kernel⟩, List.mem_of_getElem? (i := 879) (by decide +kernel), List.mem_of_getElem? (i := 1233) (by decide +kernel), List.mem_of_getElem? (i := 1234) (by decide +kernel)⟩
def lw_privs_4 : List (MethodName × Nat) := [(⟨"SlipHouseModel", "isSense", "(I)Z"⟩, 44), (⟨"SlipHouseModel", "makes", "(II)I"⟩, 44), (⟨"SlipHouseModel", "isWithin", "(II)Z"⟩, 44), (⟨"SlipHouseModel", "goes", "(I)V"⟩, 44), (⟨"SlipHouseModel", "removes", "(I)V"⟩, 44), (⟨"SlipHouseModel", "own", "(I)I"⟩, 44), (⟨"SlipHouseModel", "below", "(I)I"⟩, 44), (⟨"SlipHouseModel", "witnesses", "(IZ)V"⟩, 44), (⟨"SlipHouseModel", "isWitness", "(IIZ)Z"⟩, 44), (⟨"SlipHouseModel", "gap", "(I)I"⟩, 44), (⟨"SlipHouseModel", "place", "(I)I"⟩, 44), (⟨"SlipHouseModel", "isAhead", "(II)Z"⟩, 44), (⟨"SlipHouseModel", "depth", "(I)I"⟩, 44), (⟨"SlipHouseModel", "isOlder", "(IIZ)Z"⟩, 44), (⟨"SlipHouseModel", "isAheadOfAll", "(IIZ)Z"⟩, 44), (⟨"SlipHouseModel", "flaws", "(I)I"⟩, 44)]
theorem lw_r4 : ∀ q ∈ lw_privs_4, lw_okq q := List.forall_mem_cons.mpr ⟨lw_p48, List.forall_mem_cons.mpr ⟨lw_p49, List.forall_mem_cons.mpr ⟨lw_p50, List.forall_mem_cons.mpr ⟨lw_p51, List.forall_mem_cons.mpr ⟨lw_p52, List.forall_mem_cons.mpr ⟨lw_p53, List.forall_mem_cons.mpr ⟨lw_p54, List.forall_mem_cons.mpr ⟨lw_p55, List.forall_mem_cons.mpr ⟨lw_p56, List.forall_mem_cons.mpr ⟨lw_p57, List.forall_mem_cons.mpr ⟨lw_p58, List.forall_mem_cons.mpr ⟨lw_p59, List.forall_mem_cons.mpr ⟨lw_p60, List.forall_mem_cons.mpr ⟨lw_p61, List.forall_mem_cons.mpr ⟨lw_p62, List.forall_mem_cons.mpr ⟨lw_p63, fun _ h => absurd h List.not_mem_nil⟩⟩⟩⟩⟩⟩⟩⟩⟩⟩⟩⟩⟩⟩⟩⟩
theorem lw_p64 : lw_okq (⟨"SlipHouseModel", "isDoubted", "(I)Z"⟩, 44) := ⟨⟨by decide +kernel, by decide +kernel⟩, List.mem_of_getElem? (i := 879) (by decide +kernel), List.mem_of_getElem? (i := 1241) (by decide +kernel), List.mem_of_getElem? (i := 1242) (by decide +kernel)⟩
theorem lw_p65 : lw_okq (⟨"SlipHouseModel", "loosePointers", "()I"⟩, 44) := ⟨⟨by decide +kernel, by decide +kernel⟩, List.mem_of_getElem? (i := 879) (by decide +kernel), List.mem_of_getElem? (i := 1252) (by decide +kernel), List.mem_of_getElem? (i := 1253) (by decide +kernel)⟩
theorem lw_p66 : lw_okq (⟨"SlipHouseModel", "isEdition", "(I)Z"⟩, 44) := ⟨⟨by decide +kernel, by decide +kernel⟩, List.mem_of_getElem? (i := 879) (by decide +kernel), List.mem_of_getElem? (i := 1260) (by decide +kernel), List.mem_of_getElem? (i := 1261) (by decide +kernel)⟩
theorem lw_p67 : lw_okq (⟨"SlipHouseModel", "letters", "(J)V"⟩, 44) := ⟨⟨by decide +kernel, by decide +kernel⟩, List.mem_of_getElem? (i := 879) (by decide +kernel), List.mem_of_getElem? (i := 1272) (by decide +kernel), List.mem_of_getElem? (i := 1273) (by decide +kernel)⟩
theorem lw_p68 : lw_okq (⟨"SlipHouseModel", "puts", "(I)V"⟩, 44) := ⟨⟨by decide +kernel, by decide +kernel⟩, List.mem_of_getElem? (i := 879) (by decide +kernel), List.mem_of_getElem? (i := 1276) (by decide +kernel), List.mem_of_getElem? (i := 1277) (by decide +kernel)⟩
theorem lw_p69 : lw_okq (⟨"SlipHouseModel", "at", "(III)I"⟩, 44) := ⟨⟨by decide +kernel, by decide +kernel⟩, List.mem_of_getElem? (i := 879) (by decide +kernel), List.mem_of_getElem? (i := 1280) (by decide +kernel), List.mem_of_getElem? (i := 1281) (by decide +kernel)⟩
theorem lw_p70 : lw_okq (⟨"SlipHouseModel", "prints", "(I)V"⟩, 44) := ⟨⟨by decide +kernel, by decide +kernel⟩, List.mem_of_getElem? (i := 879) (by decide +kernel), List.mem_of_getElem? (i := 1284) (by decide +kernel), List.mem_of_getElem? (i := 1285) (by decide +kernel)⟩
theorem lw_p71 : lw_okq (⟨"SlipHouseModel", "mark", "(I)V"⟩, 44) := ⟨⟨by decide +kernel, by decide +kernel⟩, List.mem_of_getElem? (i := 879) (by decide +kernel), List.mem_of_getElem? (i := 1288) (by decide +kernel), List.mem_of_getElem? (i := 1289) (by decide +kernel)⟩
theorem lw_p72 : lw_okq (⟨"SlipHouseModel", "number", "(I)V"⟩, 44) := ⟨⟨by decide +kernel, by decide +kernel⟩, List.mem_of_getElem? (i := 879) (by decide +kernel), List.mem_of_getElem? (i := 1292) (by decide +kernel), List.mem_of_getElem? (i := 1293) (by decide +kernel)⟩
theorem lw_p73 : lw_okq (⟨"SlipHouseModel", "heap", "(I)I"⟩, 44) := ⟨⟨by decide +kernel, by decide +kernel⟩, List.mem_of_getElem? (i := 879) (by decide +kernel), List.mem_of_getElem? (i := 1296) (by decide +kernel), List.mem_of_getElem? (i := 1297) (by decide +kernel)⟩
def lw_privs_5 : List (MethodName × Nat) := [(⟨"SlipHouseModel", "isDoubted", "(I)Z"⟩, 44), (⟨"SlipHouseModel", "loosePointers", "()I"⟩, 44), (⟨"SlipHouseModel", "isEdition", "(I)Z"⟩, 44), (⟨"SlipHouseModel", "letters", "(J)V"⟩, 44), (⟨"SlipHouseModel", "puts", "(I)V"⟩, 44), (⟨"SlipHouseModel", "at", "(III)I"⟩, 44), (⟨"SlipHouseModel", "prints", "(I)V"⟩, 44), (⟨"SlipHouseModel", "mark", "(I)V"⟩, 44), (⟨"SlipHouseModel", "number", "(I)V"⟩, 44), (⟨"SlipHouseModel", "heap", "(I)I"⟩, 44)]
theorem lw_r5 : ∀ q ∈ lw_privs_5, lw_okq q := List.forall_mem_cons.mpr ⟨lw_p64, List.forall_mem_cons.mpr ⟨lw_p65, List.forall_mem_cons.mpr ⟨lw_p66, List.forall_mem_cons.mpr ⟨lw_p67, List.forall_mem_cons.mpr ⟨lw_p68, List.forall_mem_cons.mpr ⟨lw_p69, List.forall_mem_cons.mpr ⟨lw_p70, List.forall_mem_cons.mpr ⟨lw_p71, List.forall_mem_cons.mpr ⟨lw_p72, List.forall_mem_cons.mpr ⟨lw_p73, fun _ h => absurd h List.not_mem_nil⟩⟩⟩⟩⟩⟩⟩⟩⟩⟩
def lw_privs : List (MethodName × Nat) := lw_privs_1 ++ (lw_privs_2 ++ (lw_privs_3 ++ (lw_privs_4 ++ (lw_privs_5))))
def lw_tbl : List Cond := k2_sels lw_privs ++ tables_1
theorem lw_privs_ok : ∀ q ∈ lw_privs, lw_okq q := by
  show ∀ q ∈ lw_privs_1 ++ (lw_privs_2 ++ (lw_privs_3 ++ (lw_privs_4 ++ (lw_privs_5)))), lw_okq q
  exact List.forall_mem_append.mpr ⟨lw_r1, List.forall_mem_append.mpr ⟨lw_r2, List.forall_mem_append.mpr ⟨lw_r3, List.forall_mem_append.mpr ⟨lw_r4, lw_r5⟩⟩⟩⟩
/-! ===== BEGIN words of one list among another's, by their places ===== -/
theorem goodIn_r {big : List Cond} (ws : List Cond) (ps : List Nat) (hp : ws = ps.filterMap (fun i => big[i]?)) (h : ws.all goodWord = true) : GoodIn big ws := by
  intro w hw
  have h1 := List.all_eq_true.mp h w hw
  rw [hp] at hw
  obtain ⟨i, -, hi⟩ := List.mem_filterMap.mp hw
  have hm : w ∈ big := by first | exact List.mem_of_getElem? hi | exact List.getElem?_mem hi
  exact ⟨hm, good_of_word h1⟩
theorem goodIn_app {big a b : List Cond} (ha : GoodIn big a) (hb : GoodIn big b) : GoodIn big (a ++ b) := fun w h => (List.mem_append.mp h).elim (ha w) (hb w)
theorem goodIn_ca {big a b : List Cond} {c : Cond} (ha : GoodIn big (c :: a)) (hb : GoodIn big b) : GoodIn big (c :: (a ++ b)) := fun w h => (List.mem_cons.mp h).elim (fun e => ha w (List.mem_cons.mpr (Or.inl e))) (fun h => (List.mem_append.mp h).elim (fun h => ha w (List.mem_cons.mpr (Or.inr h))) (hb w))
theorem goodIn_sub {big ws : List Cond} (hm : ∀ w ∈ ws, w ∈ big) (h : ws.all goodWord = true) : GoodIn big ws := fun w hw => ⟨hm w hw, good_of_word (List.all_eq_true.mp h w hw)⟩
/-! ===== END ===== -/
def RX0 : String := "SlipHouse$Books"
def TX0 : u_T := fun k => match k with
  | 0 => ("SlipHouse$Books", "toldFrom", "[I", true)
  | 1 => ("SlipHouse$Books", "toldTo", "[I", true)
  | 2 => ("SlipHouse$Books", "first", "[I", true)
  | 3 => ("SlipHouse$Books", "last", "[I", true)
  | 4 => ("SlipHouse$Books", "behind", "[I", true)
  | 5 => ("SlipHouse$Books", "earlier", "[I", true)
  | 6 => ("SlipHouse$Books", "later", "[I", true)
  | 7 => ("SlipHouse$Books", "size", "I", false)
  | _ => ("SlipHouse$Books", "befores", "I", false)
def tyX0 : Nat → FieldType := fun k => match k with
  | 0 => .array .int
  | 1 => .array .int
  | 2 => .array .int
  | 3 => .array .int
  | 4 => .array .int
  | 5 => .array .int
  | 6 => .array .int
  | 7 => .int
  | _ => .int
abbrev wsX00 : List Cond := u_ws RX0 TX0 9
theorem nmX0 : ∀ a, a < 9 → ∀ b, b < 9 → a ≠ b → (TX0 a).2.1 ≠ (TX0 b).2.1 := by decide +kernel
theorem tyX0_ok : ∀ k, k < 9 → parseFieldDescriptor (TX0 k).2.2.1 = some (tyX0 k) := by decide +kernel
abbrev cX0_init : ByteArray := prog_2_method_1_code
def yX0_init : MethodName := ⟨RX0, "<init>", "()V"⟩
abbrev cX0_has : ByteArray := prog_2_method_2_code
def yX0_has : MethodName := ⟨RX0, "has", "(I)Z"⟩
abbrev cX0_add : ByteArray := prog_2_method_3_code
def yX0_add : MethodName := ⟨RX0, "add", "(II)I"⟩
abbrev cX0_addBefore : ByteArray := prog_2_method_4_code
def yX0_addBefore : MethodName := ⟨RX0, "addBefore", "(II)Z"⟩
abbrev cX0_wasTold : ByteArray := prog_2_method_5_code
def yX0_wasTold : MethodName := ⟨RX0, "wasTold", "(II)Z"⟩
abbrev cX0_tighten : ByteArray := prog_2_method_6_code
def yX0_tighten : MethodName := ⟨RX0, "tighten", "()Z"⟩
abbrev cX0_tightenOnce : ByteArray := prog_2_method_7_code
def yX0_tightenOnce : MethodName := ⟨RX0, "tightenOnce", "()Z"⟩
abbrev cX0_allHaveYears : ByteArray := prog_2_method_8_code
def yX0_allHaveYears : MethodName := ⟨RX0, "allHaveYears", "()Z"⟩
abbrev cX0_setBehind : ByteArray := prog_2_method_9_code
def yX0_setBehind : MethodName := ⟨RX0, "setBehind", "(II)V"⟩
abbrev cX0_isIn : ByteArray := prog_2_method_10_code
def yX0_isIn : MethodName := ⟨RX0, "isIn", "(II)Z"⟩
abbrev cX0_least : ByteArray := prog_2_method_11_code
def yX0_least : MethodName := ⟨RX0, "least", "([II)I"⟩
abbrev cX0_greatest : ByteArray := prog_2_method_12_code
def yX0_greatest : MethodName := ⟨RX0, "greatest", "([II)I"⟩
abbrev cX0_widestGap : ByteArray := prog_2_method_13_code
def yX0_widestGap : MethodName := ⟨RX0, "widestGap", "(I)I"⟩
abbrev cX0_gapAhead : ByteArray := prog_2_method_14_code
def yX0_gapAhead : MethodName := ⟨RX0, "gapAhead", "(II)I"⟩
abbrev cX0_areSurelyOlder : ByteArray := prog_2_method_15_code
def yX0_areSurelyOlder : MethodName := ⟨RX0, "areSurelyOlder", "(II)Z"⟩
def RX1 : String := "SlipHouse$Editions"
def TX1 : u_T := fun k => match k with
  | 0 => ("SlipHouse$Editions", "slips", "LSlipHouse$Slips;", true)
  | 1 => ("SlipHouse$Editions", "slipsIn", "[I", true)
  | 2 => ("SlipHouse$Editions", "entry", "[[I", true)
  | 3 => ("SlipHouse$Editions", "sense", "[[I", true)
  | _ => ("SlipHouse$Editions", "size", "I", false)
def tyX1 : Nat → FieldType := fun k => match k with
  | 0 => .object "SlipHouse$Slips"
  | 1 => .array .int
  | 2 => .array (.array .int)
  | 3 => .array (.array .int)
  | _ => .int
abbrev wsX10 : List Cond := u_ws RX1 TX1 5
theorem nmX1 : ∀ a, a < 5 → ∀ b, b < 5 → a ≠ b → (TX1 a).2.1 ≠ (TX1 b).2.1 := by decide +kernel
theorem tyX1_ok : ∀ k, k < 5 → parseFieldDescriptor (TX1 k).2.2.1 = some (tyX1 k) := by decide +kernel
abbrev cX1_init : ByteArray := prog_3_method_1_code
def yX1_init : MethodName := ⟨RX1, "<init>", "(LSlipHouse$Slips;)V"⟩
abbrev cX1_has : ByteArray := prog_3_method_2_code
def yX1_has : MethodName := ⟨RX1, "has", "(I)Z"⟩
abbrev cX1_add : ByteArray := prog_3_method_3_code
def yX1_add : MethodName := ⟨RX1, "add", "()I"⟩
abbrev cX1_entryOf : ByteArray := prog_3_method_4_code
def yX1_entryOf : MethodName := ⟨RX1, "entryOf", "(II)I"⟩
abbrev cX1_senseOf : ByteArray := prog_3_method_5_code
def yX1_senseOf : MethodName := ⟨RX1, "senseOf", "(II)I"⟩
abbrev cX1_wasThere : ByteArray := prog_3_method_6_code
def yX1_wasThere : MethodName := ⟨RX1, "wasThere", "(II)Z"⟩
abbrev cX1_isOtherwise : ByteArray := prog_3_method_7_code
def yX1_isOtherwise : MethodName := ⟨RX1, "isOtherwise", "(III)Z"⟩
def RX2 : String := "SlipHouse$Entries"
def TX2 : u_T := fun k => match k with
  | 0 => ("SlipHouse$Entries", "formsOf", "[I", true)
  | 1 => ("SlipHouse$Entries", "from", "[I", true)
  | 2 => ("SlipHouse$Entries", "to", "[I", true)
  | 3 => ("SlipHouse$Entries", "forms", "LSlipHouse$Words;", true)
  | _ => ("SlipHouse$Entries", "size", "I", false)
def tyX2 : Nat → FieldType := fun k => match k with
  | 0 => .array .int
  | 1 => .array .int
  | 2 => .array .int
  | 3 => .object "SlipHouse$Words"
  | _ => .int
abbrev wsX20 : List Cond := u_ws RX2 TX2 5
theorem nmX2 : ∀ a, a < 5 → ∀ b, b < 5 → a ≠ b → (TX2 a).2.1 ≠ (TX2 b).2.1 := by decide +kernel
theorem tyX2_ok : ∀ k, k < 5 → parseFieldDescriptor (TX2 k).2.2.1 = some (tyX2 k) := by decide +kernel
abbrev cX2_init : ByteArray := prog_4_method_1_code
def yX2_init : MethodName := ⟨RX2, "<init>", "(LSlipHouse$Rules;)V"⟩
abbrev cX2_formOf : ByteArray := prog_4_method_2_code
def yX2_formOf : MethodName := ⟨RX2, "formOf", "(II)I"⟩
abbrev cX2_has : ByteArray := prog_4_method_3_code
def yX2_has : MethodName := ⟨RX2, "has", "(I)Z"⟩
abbrev cX2_hasRoomForForm : ByteArray := prog_4_method_4_code
def yX2_hasRoomForForm : MethodName := ⟨RX2, "hasRoomForForm", "(I)Z"⟩
abbrev cX2_add : ByteArray := prog_4_method_5_code
def yX2_add : MethodName := ⟨RX2, "add", "(JII)I"⟩
abbrev cX2_addForm : ByteArray := prog_4_method_6_code
def yX2_addForm : MethodName := ⟨RX2, "addForm", "(IJII)I"⟩
abbrev cX2_isSpelledIn : ByteArray := prog_4_method_7_code
def yX2_isSpelledIn : MethodName := ⟨RX2, "isSpelledIn", "(III)Z"⟩
abbrev cX2_head : ByteArray := prog_4_method_8_code
def yX2_head : MethodName := ⟨RX2, "head", "(I)J"⟩
def RX3 : String := "SlipHouse$Pointers"
def TX3 : u_T := fun k => match k with
  | 0 => ("SlipHouse$Pointers", "from", "[I", true)
  | 1 => ("SlipHouse$Pointers", "to", "[I", true)
  | _ => ("SlipHouse$Pointers", "size", "I", false)
def tyX3 : Nat → FieldType := fun k => match k with
  | 0 => .array .int
  | 1 => .array .int
  | _ => .int
abbrev wsX30 : List Cond := u_ws RX3 TX3 3
theorem nmX3 : ∀ a, a < 3 → ∀ b, b < 3 → a ≠ b → (TX3 a).2.1 ≠ (TX3 b).2.1 := by decide +kernel
theorem tyX3_ok : ∀ k, k < 3 → parseFieldDescriptor (TX3 k).2.2.1 = some (tyX3 k) := by decide +kernel
abbrev cX3_init : ByteArray := prog_5_method_1_code
def yX3_init : MethodName := ⟨RX3, "<init>", "()V"⟩
abbrev cX3_has : ByteArray := prog_5_method_2_code
def yX3_has : MethodName := ⟨RX3, "has", "(I)Z"⟩
abbrev cX3_isLoose : ByteArray := prog_5_method_3_code
def yX3_isLoose : MethodName := ⟨RX3, "isLoose", "(I)Z"⟩
abbrev cX3_loose : ByteArray := prog_5_method_4_code
def yX3_loose : MethodName := ⟨RX3, "loose", "()I"⟩
abbrev cX3_add : ByteArray := prog_5_method_5_code
def yX3_add : MethodName := ⟨RX3, "add", "(II)I"⟩
abbrev cX3_remove : ByteArray := prog_5_method_6_code
def yX3_remove : MethodName := ⟨RX3, "remove", "(I)V"⟩
abbrev cX3_forget : ByteArray := prog_5_method_7_code
def yX3_forget : MethodName := ⟨RX3, "forget", "(I)V"⟩
def RX4 : String := "SlipHouse$Printer"
def TX4 : u_T := fun k => match k with
  | 0 => ("SlipHouse$Printer", "entries", "LSlipHouse$Entries;", true)
  | 1 => ("SlipHouse$Printer", "slips", "LSlipHouse$Slips;", true)
  | 2 => ("SlipHouse$Printer", "senses", "LSlipHouse$Senses;", true)
  | 3 => ("SlipHouse$Printer", "witnesses", "LSlipHouse$Witnesses;", true)
  | 4 => ("SlipHouse$Printer", "pointers", "LSlipHouse$Pointers;", true)
  | 5 => ("SlipHouse$Printer", "bytes", "[B", true)
  | 6 => ("SlipHouse$Printer", "way", "[I", true)
  | _ => ("SlipHouse$Printer", "size", "I", false)
def tyX4 : Nat → FieldType := fun k => match k with
  | 0 => .object "SlipHouse$Entries"
  | 1 => .object "SlipHouse$Slips"
  | 2 => .object "SlipHouse$Senses"
  | 3 => .object "SlipHouse$Witnesses"
  | 4 => .object "SlipHouse$Pointers"
  | 5 => .array .byte
  | 6 => .array .int
  | _ => .int
abbrev wsX40 : List Cond := u_ws RX4 TX4 8
theorem nmX4 : ∀ a, a < 8 → ∀ b, b < 8 → a ≠ b → (TX4 a).2.1 ≠ (TX4 b).2.1 := by decide +kernel
theorem tyX4_ok : ∀ k, k < 8 → parseFieldDescriptor (TX4 k).2.2.1 = some (tyX4 k) := by decide +kernel
abbrev cX4_init : ByteArray := prog_6_method_1_code
def yX4_init : MethodName := ⟨RX4, "<init>", "(LSlipHouse$Entries;LSlipHouse$Slips;LSlipHouse$Senses;LSlipHouse$Witnesses;LSlipHouse$Pointers;)V"⟩
abbrev cX4_byteAt : ByteArray := prog_6_method_2_code
def yX4_byteAt : MethodName := ⟨RX4, "byteAt", "(I)I"⟩
abbrev cX4_compose : ByteArray := prog_6_method_3_code
def yX4_compose : MethodName := ⟨RX4, "compose", "(I)I"⟩
abbrev cX4_senseAt : ByteArray := prog_6_method_4_code
def yX4_senseAt : MethodName := ⟨RX4, "senseAt", "(III)I"⟩
abbrev cX4_senseBehind : ByteArray := prog_6_method_5_code
def yX4_senseBehind : MethodName := ⟨RX4, "senseBehind", "(I)I"⟩
abbrev cX4_addSense : ByteArray := prog_6_method_6_code
def yX4_addSense : MethodName := ⟨RX4, "addSense", "(I)V"⟩
abbrev cX4_addMark : ByteArray := prog_6_method_7_code
def yX4_addMark : MethodName := ⟨RX4, "addMark", "(I)V"⟩
abbrev cX4_addWitnesses : ByteArray := prog_6_method_8_code
def yX4_addWitnesses : MethodName := ⟨RX4, "addWitnesses", "(I)V"⟩
abbrev cX4_addPointer : ByteArray := prog_6_method_9_code
def yX4_addPointer : MethodName := ⟨RX4, "addPointer", "(I)V"⟩
abbrev cX4_addHeap : ByteArray := prog_6_method_10_code
def yX4_addHeap : MethodName := ⟨RX4, "addHeap", "(I)V"⟩
abbrev cX4_addWord : ByteArray := prog_6_method_11_code
def yX4_addWord : MethodName := ⟨RX4, "addWord", "(J)V"⟩
abbrev cX4_addNumber : ByteArray := prog_6_method_12_code
def yX4_addNumber : MethodName := ⟨RX4, "addNumber", "(I)V"⟩
abbrev cX4_addByte : ByteArray := prog_6_method_13_code
def yX4_addByte : MethodName := ⟨RX4, "addByte", "(I)V"⟩
def RX5 : String := "SlipHouse$Rules"
def TX5 : u_T := fun k => match k with
  | 0 => ("SlipHouse$Rules", "old", "[J", true)
  | 1 => ("SlipHouse$Rules", "fresh", "[J", true)
  | _ => ("SlipHouse$Rules", "size", "I", false)
def tyX5 : Nat → FieldType := fun k => match k with
  | 0 => .array .long
  | 1 => .array .long
  | _ => .int
abbrev wsX50 : List Cond := u_ws RX5 TX5 3
theorem nmX5 : ∀ a, a < 3 → ∀ b, b < 3 → a ≠ b → (TX5 a).2.1 ≠ (TX5 b).2.1 := by decide +kernel
theorem tyX5_ok : ∀ k, k < 3 → parseFieldDescriptor (TX5 k).2.2.1 = some (tyX5 k) := by decide +kernel
abbrev cX5_init : ByteArray := prog_7_method_1_code
def yX5_init : MethodName := ⟨RX5, "<init>", "()V"⟩
abbrev cX5_add : ByteArray := prog_7_method_2_code
def yX5_add : MethodName := ⟨RX5, "add", "(JJ)I"⟩
def RX6 : String := "SlipHouse$Senses"
def TX6 : u_T := fun k => match k with
  | 0 => ("SlipHouse$Senses", "entry", "[I", true)
  | _ => ("SlipHouse$Senses", "parent", "[I", true)
def tyX6 : Nat → FieldType := fun k => match k with
  | 0 => .array .int
  | _ => .array .int
abbrev wsX60 : List Cond := u_ws RX6 TX6 2
theorem nmX6 : ∀ a, a < 2 → ∀ b, b < 2 → a ≠ b → (TX6 a).2.1 ≠ (TX6 b).2.1 := by decide +kernel
theorem tyX6_ok : ∀ k, k < 2 → parseFieldDescriptor (TX6 k).2.2.1 = some (tyX6 k) := by decide +kernel
abbrev cX6_init : ByteArray := prog_8_method_1_code
def yX6_init : MethodName := ⟨RX6, "<init>", "()V"⟩
abbrev cX6_has : ByteArray := prog_8_method_2_code
def yX6_has : MethodName := ⟨RX6, "has", "(I)Z"⟩
abbrev cX6_add : ByteArray := prog_8_method_3_code
def yX6_add : MethodName := ⟨RX6, "add", "(II)I"⟩
abbrev cX6_remove : ByteArray := prog_8_method_4_code
def yX6_remove : MethodName := ⟨RX6, "remove", "(I)V"⟩
abbrev cX6_inUse : ByteArray := prog_8_method_5_code
def yX6_inUse : MethodName := ⟨RX6, "inUse", "()I"⟩
abbrev cX6_justUnder : ByteArray := prog_8_method_6_code
def yX6_justUnder : MethodName := ⟨RX6, "justUnder", "(I)I"⟩
abbrev cX6_moveAllUnder : ByteArray := prog_8_method_7_code
def yX6_moveAllUnder : MethodName := ⟨RX6, "moveAllUnder", "(II)V"⟩
abbrev cX6_depth : ByteArray := prog_8_method_8_code
def yX6_depth : MethodName := ⟨RX6, "depth", "(I)I"⟩
abbrev cX6_isWithin : ByteArray := prog_8_method_9_code
def yX6_isWithin : MethodName := ⟨RX6, "isWithin", "(II)Z"⟩
abbrev cX6_areBeside : ByteArray := prog_8_method_10_code
def yX6_areBeside : MethodName := ⟨RX6, "areBeside", "(II)Z"⟩
def RX7 : String := "SlipHouse$Slips"
def TX7 : u_T := fun k => match k with
  | 0 => ("SlipHouse$Slips", "book", "[I", true)
  | 1 => ("SlipHouse$Slips", "entry", "[I", true)
  | 2 => ("SlipHouse$Slips", "sense", "[I", true)
  | 3 => ("SlipHouse$Slips", "words", "LSlipHouse$Words;", true)
  | _ => ("SlipHouse$Slips", "size", "I", false)
def tyX7 : Nat → FieldType := fun k => match k with
  | 0 => .array .int
  | 1 => .array .int
  | 2 => .array .int
  | 3 => .object "SlipHouse$Words"
  | _ => .int
abbrev wsX70 : List Cond := u_ws RX7 TX7 5
theorem nmX7 : ∀ a, a < 5 → ∀ b, b < 5 → a ≠ b → (TX7 a).2.1 ≠ (TX7 b).2.1 := by decide +kernel
theorem tyX7_ok : ∀ k, k < 5 → parseFieldDescriptor (TX7 k).2.2.1 = some (tyX7 k) := by decide +kernel
abbrev cX7_init : ByteArray := prog_9_method_1_code
def yX7_init : MethodName := ⟨RX7, "<init>", "(LSlipHouse$Rules;)V"⟩
abbrev cX7_has : ByteArray := prog_9_method_2_code
def yX7_has : MethodName := ⟨RX7, "has", "(I)Z"⟩
abbrev cX7_add : ByteArray := prog_9_method_3_code
def yX7_add : MethodName := ⟨RX7, "add", "(IJ)I"⟩
abbrev cX7_place : ByteArray := prog_9_method_4_code
def yX7_place : MethodName := ⟨RX7, "place", "(III)V"⟩
abbrev cX7_isLoose : ByteArray := prog_9_method_5_code
def yX7_isLoose : MethodName := ⟨RX7, "isLoose", "(I)Z"⟩
abbrev cX7_standsAt : ByteArray := prog_9_method_6_code
def yX7_standsAt : MethodName := ⟨RX7, "standsAt", "(III)Z"⟩
abbrev cX7_at : ByteArray := prog_9_method_7_code
def yX7_at : MethodName := ⟨RX7, "at", "(II)I"⟩
abbrev cX7_ofBook : ByteArray := prog_9_method_8_code
def yX7_ofBook : MethodName := ⟨RX7, "ofBook", "(I)I"⟩
abbrev cX7_moveAll : ByteArray := prog_9_method_9_code
def yX7_moveAll : MethodName := ⟨RX7, "moveAll", "(II)V"⟩
def RX8 : String := "SlipHouse$Tape"
def TX8 : u_T := fun k => match k with
  | 0 => ("SlipHouse$Tape", "bytes", "[I", true)
  | _ => ("SlipHouse$Tape", "size", "I", false)
def tyX8 : Nat → FieldType := fun k => match k with
  | 0 => .array .int
  | _ => .int
abbrev wsX80 : List Cond := u_ws RX8 TX8 2
theorem nmX8 : ∀ a, a < 2 → ∀ b, b < 2 → a ≠ b → (TX8 a).2.1 ≠ (TX8 b).2.1 := by decide +kernel
theorem tyX8_ok : ∀ k, k < 2 → parseFieldDescriptor (TX8 k).2.2.1 = some (tyX8 k) := by decide +kernel
abbrev cX8_init : ByteArray := prog_10_method_1_code
def yX8_init : MethodName := ⟨RX8, "<init>", "()V"⟩
abbrev cX8_addFour : ByteArray := prog_10_method_2_code
def yX8_addFour : MethodName := ⟨RX8, "addFour", "(I)V"⟩
abbrev cX8_clear : ByteArray := prog_10_method_3_code
def yX8_clear : MethodName := ⟨RX8, "clear", "()V"⟩
abbrev cX8_takeWord : ByteArray := prog_10_method_4_code
def yX8_takeWord : MethodName := ⟨RX8, "takeWord", "(I)J"⟩
abbrev cX8_wordAt : ByteArray := prog_10_method_5_code
def yX8_wordAt : MethodName := ⟨RX8, "wordAt", "(II)J"⟩
def RX9 : String := "SlipHouse$Witnesses"
def TX9 : u_T := fun k => match k with
  | 0 => ("SlipHouse$Witnesses", "books", "LSlipHouse$Books;", true)
  | 1 => ("SlipHouse$Witnesses", "slips", "LSlipHouse$Slips;", true)
  | 2 => ("SlipHouse$Witnesses", "senses", "LSlipHouse$Senses;", true)
  | 3 => ("SlipHouse$Witnesses", "own", "[I", true)
  | 4 => ("SlipHouse$Witnesses", "ownBooks", "[I", true)
  | 5 => ("SlipHouse$Witnesses", "all", "[I", true)
  | 6 => ("SlipHouse$Witnesses", "allBooks", "[I", true)
  | 7 => ("SlipHouse$Witnesses", "firstFrom", "[I", true)
  | 8 => ("SlipHouse$Witnesses", "firstTo", "[I", true)
  | _ => ("SlipHouse$Witnesses", "place", "[I", true)
def tyX9 : Nat → FieldType := fun k => match k with
  | 0 => .object "SlipHouse$Books"
  | 1 => .object "SlipHouse$Slips"
  | 2 => .object "SlipHouse$Senses"
  | 3 => .array .int
  | 4 => .array .int
  | 5 => .array .int
  | 6 => .array .int
  | 7 => .array .int
  | 8 => .array .int
  | _ => .array .int
abbrev wsX90 : List Cond := u_ws RX9 TX9 10
theorem nmX9 : ∀ a, a < 10 → ∀ b, b < 10 → a ≠ b → (TX9 a).2.1 ≠ (TX9 b).2.1 := by decide +kernel
theorem tyX9_ok : ∀ k, k < 10 → parseFieldDescriptor (TX9 k).2.2.1 = some (tyX9 k) := by decide +kernel
abbrev cX9_init : ByteArray := prog_11_method_1_code
def yX9_init : MethodName := ⟨RX9, "<init>", "(LSlipHouse$Books;LSlipHouse$Slips;LSlipHouse$Senses;)V"⟩
abbrev cX9_gather : ByteArray := prog_11_method_2_code
def yX9_gather : MethodName := ⟨RX9, "gather", "()V"⟩
abbrev cX9_addSlip : ByteArray := prog_11_method_3_code
def yX9_addSlip : MethodName := ⟨RX9, "addSlip", "(II)V"⟩
abbrev cX9_placeOf : ByteArray := prog_11_method_4_code
def yX9_placeOf : MethodName := ⟨RX9, "placeOf", "(I)I"⟩
abbrev cX9_isAhead : ByteArray := prog_11_method_5_code
def yX9_isAhead : MethodName := ⟨RX9, "isAhead", "(II)Z"⟩
abbrev cX9_isFlaw : ByteArray := prog_11_method_6_code
def yX9_isFlaw : MethodName := ⟨RX9, "isFlaw", "(II)Z"⟩
abbrev cX9_hasOwn : ByteArray := prog_11_method_7_code
def yX9_hasOwn : MethodName := ⟨RX9, "hasOwn", "(I)Z"⟩
def RX10 : String := "SlipHouse$Words"
def TX10 : u_T := fun k => match k with
  | 0 => ("SlipHouse$Words", "rules", "LSlipHouse$Rules;", true)
  | 1 => ("SlipHouse$Words", "readBack", "Z", true)
  | 2 => ("SlipHouse$Words", "rows", "[[J", true)
  | _ => ("SlipHouse$Words", "lengths", "[I", true)
def tyX10 : Nat → FieldType := fun k => match k with
  | 0 => .object "SlipHouse$Rules"
  | 1 => .boolean
  | 2 => .array (.array .long)
  | _ => .array .int
abbrev wsX100 : List Cond := u_ws RX10 TX10 4
theorem nmX10 : ∀ a, a < 4 → ∀ b, b < 4 → a ≠ b → (TX10 a).2.1 ≠ (TX10 b).2.1 := by decide +kernel
theorem tyX10_ok : ∀ k, k < 4 → parseFieldDescriptor (TX10 k).2.2.1 = some (tyX10 k) := by decide +kernel
abbrev cX10_init : ByteArray := prog_12_method_1_code
def yX10_init : MethodName := ⟨RX10, "<init>", "(ILSlipHouse$Rules;Z)V"⟩
abbrev cX10_has : ByteArray := prog_12_method_2_code
def yX10_has : MethodName := ⟨RX10, "has", "(I)Z"⟩
abbrev cX10_set : ByteArray := prog_12_method_3_code
def yX10_set : MethodName := ⟨RX10, "set", "(IJ)V"⟩
abbrev cX10_wordAt : ByteArray := prog_12_method_4_code
def yX10_wordAt : MethodName := ⟨RX10, "wordAt", "(I)J"⟩
abbrev cX10_addNeighbours : ByteArray := prog_12_method_5_code
def yX10_addNeighbours : MethodName := ⟨RX10, "addNeighbours", "(I)V"⟩
abbrev cX10_addNeighboursOf : ByteArray := prog_12_method_6_code
def yX10_addNeighboursOf : MethodName := ⟨RX10, "addNeighboursOf", "(II)V"⟩
abbrev cX10_meet : ByteArray := prog_12_method_7_code
def yX10_meet : MethodName := ⟨RX10, "meet", "(ILSlipHouse$Words;I)Z"⟩
abbrev cX10_append : ByteArray := prog_12_method_8_code
def yX10_append : MethodName := ⟨RX10, "append", "(JI)J"⟩
abbrev cX10_lettersIn : ByteArray := prog_12_method_9_code
def yX10_lettersIn : MethodName := ⟨RX10, "lettersIn", "(J)I"⟩
abbrev cX10_letterAt : ByteArray := prog_12_method_10_code
def yX10_letterAt : MethodName := ⟨RX10, "letterAt", "(JI)I"⟩
abbrev cX10_changed : ByteArray := prog_12_method_11_code
def yX10_changed : MethodName := ⟨RX10, "changed", "(JIJJ)J"⟩
abbrev cX10_lowest : ByteArray := prog_12_method_12_code
def yX10_lowest : MethodName := ⟨RX10, "lowest", "(IJ)J"⟩
def RX11 : String := "SlipHouse"
def TX11 : u_T := fun k => match k with
  | 0 => ("SlipHouse", "tape", "LSlipHouse$Tape;", true)
  | 1 => ("SlipHouse", "books", "LSlipHouse$Books;", true)
  | 2 => ("SlipHouse", "rules", "LSlipHouse$Rules;", true)
  | 3 => ("SlipHouse", "entries", "LSlipHouse$Entries;", true)
  | 4 => ("SlipHouse", "slips", "LSlipHouse$Slips;", true)
  | 5 => ("SlipHouse", "senses", "LSlipHouse$Senses;", true)
  | 6 => ("SlipHouse", "witnesses", "LSlipHouse$Witnesses;", true)
  | 7 => ("SlipHouse", "pointers", "LSlipHouse$Pointers;", true)
  | 8 => ("SlipHouse", "editions", "LSlipHouse$Editions;", true)
  | _ => ("SlipHouse", "printer", "LSlipHouse$Printer;", true)
def tyX11 : Nat → FieldType := fun k => match k with
  | 0 => .object "SlipHouse$Tape"
  | 1 => .object "SlipHouse$Books"
  | 2 => .object "SlipHouse$Rules"
  | 3 => .object "SlipHouse$Entries"
  | 4 => .object "SlipHouse$Slips"
  | 5 => .object "SlipHouse$Senses"
  | 6 => .object "SlipHouse$Witnesses"
  | 7 => .object "SlipHouse$Pointers"
  | 8 => .object "SlipHouse$Editions"
  | _ => .object "SlipHouse$Printer"
abbrev wsX110 : List Cond := u_ws RX11 TX11 10
theorem nmX11 : ∀ a, a < 10 → ∀ b, b < 10 → a ≠ b → (TX11 a).2.1 ≠ (TX11 b).2.1 := by decide +kernel
theorem tyX11_ok : ∀ k, k < 10 → parseFieldDescriptor (TX11 k).2.2.1 = some (tyX11 k) := by decide +kernel
abbrev cX11_init : ByteArray := prog_1_method_1_code
def yX11_init : MethodName := ⟨RX11, "<init>", "()V"⟩
abbrev cX11_feed : ByteArray := prog_1_method_2_code
def yX11_feed : MethodName := ⟨RX11, "feed", "(IIIII)I"⟩
abbrev cX11_book : ByteArray := prog_1_method_3_code
def yX11_book : MethodName := ⟨RX11, "book", "(II)I"⟩
abbrev cX11_before : ByteArray := prog_1_method_4_code
def yX11_before : MethodName := ⟨RX11, "before", "(II)Z"⟩
abbrev cX11_span : ByteArray := prog_1_method_5_code
def yX11_span : MethodName := ⟨RX11, "span", "(II)I"⟩
abbrev cX11_slip : ByteArray := prog_1_method_6_code
def yX11_slip : MethodName := ⟨RX11, "slip", "(II)I"⟩
abbrev cX11_entry : ByteArray := prog_1_method_7_code
def yX11_entry : MethodName := ⟨RX11, "entry", "(III)I"⟩
abbrev cX11_form : ByteArray := prog_1_method_8_code
def yX11_form : MethodName := ⟨RX11, "form", "(IIII)I"⟩
abbrev cX11_rule : ByteArray := prog_1_method_9_code
def yX11_rule : MethodName := ⟨RX11, "rule", "(II)I"⟩
abbrev cX11_fits : ByteArray := prog_1_method_10_code
def yX11_fits : MethodName := ⟨RX11, "fits", "(II)I"⟩
abbrev cX11_sort : ByteArray := prog_1_method_11_code
def yX11_sort : MethodName := ⟨RX11, "sort", "()I"⟩
abbrev cX11_sense : ByteArray := prog_1_method_12_code
def yX11_sense : MethodName := ⟨RX11, "sense", "(II)I"⟩
abbrev cX11_put : ByteArray := prog_1_method_13_code
def yX11_put : MethodName := ⟨RX11, "put", "(III)Z"⟩
abbrev cX11_move : ByteArray := prog_1_method_14_code
def yX11_move : MethodName := ⟨RX11, "move", "(II)Z"⟩
abbrev cX11_join : ByteArray := prog_1_method_15_code
def yX11_join : MethodName := ⟨RX11, "join", "(II)Z"⟩
abbrev cX11_part : ByteArray := prog_1_method_16_code
def yX11_part : MethodName := ⟨RX11, "part", "(I)I"⟩
abbrev cX11_drop : ByteArray := prog_1_method_17_code
def yX11_drop : MethodName := ⟨RX11, "drop", "(I)Z"⟩
abbrev cX11_point : ByteArray := prog_1_method_18_code
def yX11_point : MethodName := ⟨RX11, "point", "(II)I"⟩
abbrev cX11_lead : ByteArray := prog_1_method_19_code
def yX11_lead : MethodName := ⟨RX11, "lead", "(II)Z"⟩
abbrev cX11_told : ByteArray := prog_1_method_20_code
def yX11_told : MethodName := ⟨RX11, "told", "(II)I"⟩
abbrev cX11_older : ByteArray := prog_1_method_21_code
def yX11_older : MethodName := ⟨RX11, "older", "(II)I"⟩
abbrev cX11_flaw : ByteArray := prog_1_method_22_code
def yX11_flaw : MethodName := ⟨RX11, "flaw", "(I)I"⟩
abbrev cX11_where : ByteArray := prog_1_method_23_code
def yX11_where : MethodName := ⟨RX11, "where", "(II)I"⟩
abbrev cX11_edition : ByteArray := prog_1_method_24_code
def yX11_edition : MethodName := ⟨RX11, "edition", "()I"⟩
abbrev cX11_as : ByteArray := prog_1_method_25_code
def yX11_as : MethodName := ⟨RX11, "as", "(III)I"⟩
abbrev cX11_differ : ByteArray := prog_1_method_26_code
def yX11_differ : MethodName := ⟨RX11, "differ", "(III)I"⟩
abbrev cX11_print : ByteArray := prog_1_method_27_code
def yX11_print : MethodName := ⟨RX11, "print", "(I)I"⟩
abbrev cX11_octet : ByteArray := prog_1_method_28_code
def yX11_octet : MethodName := ⟨RX11, "octet", "(I)I"⟩
abbrev cX11_count : ByteArray := prog_1_method_29_code
def yX11_count : MethodName := ⟨RX11, "count", "(I)I"⟩
abbrev cX11_areYears : ByteArray := prog_1_method_30_code
def yX11_areYears : MethodName := ⟨RX11, "areYears", "(II)Z"⟩
abbrev cX11_isRuleLength : ByteArray := prog_1_method_31_code
def yX11_isRuleLength : MethodName := ⟨RX11, "isRuleLength", "(I)Z"⟩
abbrev cX11_tapeHasWord : ByteArray := prog_1_method_32_code
def yX11_tapeHasWord : MethodName := ⟨RX11, "tapeHasWord", "(I)Z"⟩
abbrev cX11_isTopOrSenseOf : ByteArray := prog_1_method_33_code
def yX11_isTopOrSenseOf : MethodName := ⟨RX11, "isTopOrSenseOf", "(II)Z"⟩
abbrev cX11_isFit : ByteArray := prog_1_method_34_code
def yX11_isFit : MethodName := ⟨RX11, "isFit", "(II)Z"⟩
abbrev cX11_entriesFitted : ByteArray := prog_1_method_35_code
def yX11_entriesFitted : MethodName := ⟨RX11, "entriesFitted", "(I)I"⟩
abbrev cX11_firstEntryFitted : ByteArray := prog_1_method_36_code
def yX11_firstEntryFitted : MethodName := ⟨RX11, "firstEntryFitted", "(I)I"⟩
abbrev cX11_isInDoubt : ByteArray := prog_1_method_37_code
def yX11_isInDoubt : MethodName := ⟨RX11, "isInDoubt", "(I)Z"⟩
abbrev cX11_slipsInDoubt : ByteArray := prog_1_method_38_code
def yX11_slipsInDoubt : MethodName := ⟨RX11, "slipsInDoubt", "()I"⟩
abbrev cX11_toldYears : ByteArray := prog_1_method_39_code
def yX11_toldYears : MethodName := ⟨RX11, "toldYears", "(II)I"⟩
abbrev cX11_flaws : ByteArray := prog_1_method_40_code
def yX11_flaws : MethodName := ⟨RX11, "flaws", "()I"⟩
abbrev cX11_forgetSense : ByteArray := prog_1_method_41_code
def yX11_forgetSense : MethodName := ⟨RX11, "forgetSense", "(I)V"⟩
def RX12 : String := "SlipHouseModel"
def TX12 : u_T := fun k => match k with
  | 0 => ("SlipHouseModel", "tape", "[B", true)
  | 1 => ("SlipHouseModel", "taken", "[B", true)
  | 2 => ("SlipHouseModel", "taped", "I", false)
  | 3 => ("SlipHouseModel", "books", "I", false)
  | 4 => ("SlipHouseModel", "befores", "I", false)
  | 5 => ("SlipHouseModel", "toldFrom", "[I", true)
  | 6 => ("SlipHouseModel", "toldTo", "[I", true)
  | 7 => ("SlipHouseModel", "first", "[I", true)
  | 8 => ("SlipHouseModel", "last", "[I", true)
  | 9 => ("SlipHouseModel", "earlier", "[I", true)
  | 10 => ("SlipHouseModel", "later", "[I", true)
  | 11 => ("SlipHouseModel", "isEarlier", "[Z", true)
  | 12 => ("SlipHouseModel", "slips", "I", false)
  | 13 => ("SlipHouseModel", "entries", "I", false)
  | 14 => ("SlipHouseModel", "rules", "I", false)
  | 15 => ("SlipHouseModel", "bookOf", "[I", true)
  | 16 => ("SlipHouseModel", "entryOf", "[I", true)
  | 17 => ("SlipHouseModel", "senseOf", "[I", true)
  | 18 => ("SlipHouseModel", "wordOf", "[J", true)
  | 19 => ("SlipHouseModel", "known", "[B", true)
  | 20 => ("SlipHouseModel", "formMany", "[I", true)
  | 21 => ("SlipHouseModel", "formFrom", "[I", true)
  | 22 => ("SlipHouseModel", "formTo", "[I", true)
  | 23 => ("SlipHouseModel", "form", "[J", true)
  | 24 => ("SlipHouseModel", "ruleFrom", "[J", true)
  | 25 => ("SlipHouseModel", "ruleTo", "[J", true)
  | 26 => ("SlipHouseModel", "isSense0", "[Z", true)
  | 27 => ("SlipHouseModel", "ofEntry", "[I", true)
  | 28 => ("SlipHouseModel", "under", "[I", true)
  | 29 => ("SlipHouseModel", "pointers", "I", false)
  | 30 => ("SlipHouseModel", "pointFrom", "[I", true)
  | 31 => ("SlipHouseModel", "pointTo", "[I", true)
  | 32 => ("SlipHouseModel", "many", "I", false)
  | 33 => ("SlipHouseModel", "minFirst", "I", false)
  | 34 => ("SlipHouseModel", "minLast", "I", false)
  | 35 => ("SlipHouseModel", "maxFirst", "I", false)
  | 36 => ("SlipHouseModel", "maxLast", "I", false)
  | 37 => ("SlipHouseModel", "editions", "I", false)
  | 38 => ("SlipHouseModel", "editionSlips", "[I", true)
  | 39 => ("SlipHouseModel", "editionEntry", "[I", true)
  | 40 => ("SlipHouseModel", "editionSense", "[I", true)
  | 41 => ("SlipHouseModel", "out", "[B", true)
  | 42 => ("SlipHouseModel", "written", "I", false)
  | _ => ("SlipHouseModel", "up", "[I", true)
def tyX12 : Nat → FieldType := fun k => match k with
  | 0 => .array .byte
  | 1 => .array .byte
  | 2 => .int
  | 3 => .int
  | 4 => .int
  | 5 => .array .int
  | 6 => .array .int
  | 7 => .array .int
  | 8 => .array .int
  | 9 => .array .int
  | 10 => .array .int
  | 11 => .array .boolean
  | 12 => .int
  | 13 => .int
  | 14 => .int
  | 15 => .array .int
  | 16 => .array .int
  | 17 => .array .int
  | 18 => .array .long
  | 19 => .array .byte
  | 20 => .array .int
  | 21 => .array .int
  | 22 => .array .int
  | 23 => .array .long
  | 24 => .array .long
  | 25 => .array .long
  | 26 => .array .boolean
  | 27 => .array .int
  | 28 => .array .int
  | 29 => .int
  | 30 => .array .int
  | 31 => .array .int
  | 32 => .int
  | 33 => .int
  | 34 => .int
  | 35 => .int
  | 36 => .int
  | 37 => .int
  | 38 => .array .int
  | 39 => .array .int
  | 40 => .array .int
  | 41 => .array .byte
  | 42 => .int
  | _ => .array .int
abbrev wsX120 : List Cond := u_ws RX12 TX12 44
theorem nmX12 : ∀ a, a < 44 → ∀ b, b < 44 → a ≠ b → (TX12 a).2.1 ≠ (TX12 b).2.1 := by decide +kernel
theorem tyX12_ok : ∀ k, k < 44 → parseFieldDescriptor (TX12 k).2.2.1 = some (tyX12 k) := by decide +kernel
abbrev cX12_init : ByteArray := prog_14_method_1_code
def yX12_init : MethodName := ⟨RX12, "<init>", "()V"⟩
abbrev cX12_types : ByteArray := prog_14_method_2_code
def yX12_types : MethodName := ⟨RX12, "types", "(I)V"⟩
abbrev cX12_feed : ByteArray := prog_14_method_3_code
def yX12_feed : MethodName := ⟨RX12, "feed", "(IIIII)I"⟩
abbrev cX12_takes : ByteArray := prog_14_method_4_code
def yX12_takes : MethodName := ⟨RX12, "takes", "(I)V"⟩
abbrev cX12_word : ByteArray := prog_14_method_5_code
def yX12_word : MethodName := ⟨RX12, "word", "(II)J"⟩
abbrev cX12_size : ByteArray := prog_14_method_6_code
def yX12_size : MethodName := ⟨RX12, "size", "(J)I"⟩
abbrev cX12_areYears : ByteArray := prog_14_method_7_code
def yX12_areYears : MethodName := ⟨RX12, "areYears", "(II)Z"⟩
abbrev cX12_isBook : ByteArray := prog_14_method_8_code
def yX12_isBook : MethodName := ⟨RX12, "isBook", "(I)Z"⟩
abbrev cX12_book : ByteArray := prog_14_method_9_code
def yX12_book : MethodName := ⟨RX12, "book", "(II)I"⟩
abbrev cX12_tightens : ByteArray := prog_14_method_10_code
def yX12_tightens : MethodName := ⟨RX12, "tightens", "()Z"⟩
abbrev cX12_before : ByteArray := prog_14_method_11_code
def yX12_before : MethodName := ⟨RX12, "before", "(II)Z"⟩
abbrev cX12_closes : ByteArray := prog_14_method_12_code
def yX12_closes : MethodName := ⟨RX12, "closes", "()V"⟩
abbrev cX12_span : ByteArray := prog_14_method_13_code
def yX12_span : MethodName := ⟨RX12, "span", "(II)I"⟩
abbrev cX12_isWordSize : ByteArray := prog_14_method_14_code
def yX12_isWordSize : MethodName := ⟨RX12, "isWordSize", "(I)Z"⟩
abbrev cX12_slip : ByteArray := prog_14_method_15_code
def yX12_slip : MethodName := ⟨RX12, "slip", "(II)I"⟩
abbrev cX12_lays : ByteArray := prog_14_method_16_code
def yX12_lays : MethodName := ⟨RX12, "lays", "(IJII)V"⟩
abbrev cX12_entry : ByteArray := prog_14_method_17_code
def yX12_entry : MethodName := ⟨RX12, "entry", "(III)I"⟩
abbrev cX12_isEntry : ByteArray := prog_14_method_18_code
def yX12_isEntry : MethodName := ⟨RX12, "isEntry", "(I)Z"⟩
abbrev cX12_form : ByteArray := prog_14_method_19_code
def yX12_form : MethodName := ⟨RX12, "form", "(IIII)I"⟩
abbrev cX12_rule : ByteArray := prog_14_method_20_code
def yX12_rule : MethodName := ⟨RX12, "rule", "(II)I"⟩
abbrev cX12_changed : ByteArray := prog_14_method_21_code
def yX12_changed : MethodName := ⟨RX12, "changed", "(JII)J"⟩
abbrev cX12_leadsByOne : ByteArray := prog_14_method_22_code
def yX12_leadsByOne : MethodName := ⟨RX12, "leadsByOne", "(JJ)Z"⟩
abbrev cX12_leads : ByteArray := prog_14_method_23_code
def yX12_leads : MethodName := ⟨RX12, "leads", "(JJ)Z"⟩
abbrev cX12_isLed : ByteArray := prog_14_method_24_code
def yX12_isLed : MethodName := ⟨RX12, "isLed", "(II)Z"⟩
abbrev cX12_fitting : ByteArray := prog_14_method_25_code
def yX12_fitting : MethodName := ⟨RX12, "fitting", "(I)I"⟩
abbrev cX12_isDoubted : ByteArray := prog_14_method_26_code
def yX12_isDoubted : MethodName := ⟨RX12, "isDoubted", "(I)Z"⟩
abbrev cX12_isFitting : ByteArray := prog_14_method_27_code
def yX12_isFitting : MethodName := ⟨RX12, "isFitting", "(II)Z"⟩
abbrev cX12_isSlip : ByteArray := prog_14_method_28_code
def yX12_isSlip : MethodName := ⟨RX12, "isSlip", "(I)Z"⟩
abbrev cX12_fits : ByteArray := prog_14_method_29_code
def yX12_fits : MethodName := ⟨RX12, "fits", "(II)I"⟩
abbrev cX12_sort : ByteArray := prog_14_method_30_code
def yX12_sort : MethodName := ⟨RX12, "sort", "()I"⟩
abbrev cX12_isSense : ByteArray := prog_14_method_31_code
def yX12_isSense : MethodName := ⟨RX12, "isSense", "(I)Z"⟩
abbrev cX12_makes : ByteArray := prog_14_method_32_code
def yX12_makes : MethodName := ⟨RX12, "makes", "(II)I"⟩
abbrev cX12_sense : ByteArray := prog_14_method_33_code
def yX12_sense : MethodName := ⟨RX12, "sense", "(II)I"⟩
abbrev cX12_put : ByteArray := prog_14_method_34_code
def yX12_put : MethodName := ⟨RX12, "put", "(III)Z"⟩
abbrev cX12_isWithin : ByteArray := prog_14_method_35_code
def yX12_isWithin : MethodName := ⟨RX12, "isWithin", "(II)Z"⟩
abbrev cX12_move : ByteArray := prog_14_method_36_code
def yX12_move : MethodName := ⟨RX12, "move", "(II)Z"⟩
abbrev cX12_goes : ByteArray := prog_14_method_37_code
def yX12_goes : MethodName := ⟨RX12, "goes", "(I)V"⟩
abbrev cX12_join : ByteArray := prog_14_method_38_code
def yX12_join : MethodName := ⟨RX12, "join", "(II)Z"⟩
abbrev cX12_part : ByteArray := prog_14_method_39_code
def yX12_part : MethodName := ⟨RX12, "part", "(I)I"⟩
abbrev cX12_own : ByteArray := prog_14_method_40_code
def yX12_own : MethodName := ⟨RX12, "own", "(I)I"⟩
abbrev cX12_below : ByteArray := prog_14_method_41_code
def yX12_below : MethodName := ⟨RX12, "below", "(I)I"⟩
abbrev cX12_drop : ByteArray := prog_14_method_42_code
def yX12_drop : MethodName := ⟨RX12, "drop", "(I)Z"⟩
abbrev cX12_removes : ByteArray := prog_14_method_43_code
def yX12_removes : MethodName := ⟨RX12, "removes", "(I)V"⟩
abbrev cX12_point : ByteArray := prog_14_method_44_code
def yX12_point : MethodName := ⟨RX12, "point", "(II)I"⟩
abbrev cX12_lead : ByteArray := prog_14_method_45_code
def yX12_lead : MethodName := ⟨RX12, "lead", "(II)Z"⟩
abbrev cX12_isWitness : ByteArray := prog_14_method_46_code
def yX12_isWitness : MethodName := ⟨RX12, "isWitness", "(IIZ)Z"⟩
abbrev cX12_witnesses : ByteArray := prog_14_method_47_code
def yX12_witnesses : MethodName := ⟨RX12, "witnesses", "(IZ)V"⟩
abbrev cX12_gap : ByteArray := prog_14_method_48_code
def yX12_gap : MethodName := ⟨RX12, "gap", "(I)I"⟩
abbrev cX12_isAhead : ByteArray := prog_14_method_49_code
def yX12_isAhead : MethodName := ⟨RX12, "isAhead", "(II)Z"⟩
abbrev cX12_place : ByteArray := prog_14_method_50_code
def yX12_place : MethodName := ⟨RX12, "place", "(I)I"⟩
abbrev cX12_depth : ByteArray := prog_14_method_51_code
def yX12_depth : MethodName := ⟨RX12, "depth", "(I)I"⟩
abbrev cX12_told : ByteArray := prog_14_method_52_code
def yX12_told : MethodName := ⟨RX12, "told", "(II)I"⟩
abbrev cX12_isOlder : ByteArray := prog_14_method_53_code
def yX12_isOlder : MethodName := ⟨RX12, "isOlder", "(IIZ)Z"⟩
abbrev cX12_isAheadOfAll : ByteArray := prog_14_method_54_code
def yX12_isAheadOfAll : MethodName := ⟨RX12, "isAheadOfAll", "(IIZ)Z"⟩
abbrev cX12_older : ByteArray := prog_14_method_55_code
def yX12_older : MethodName := ⟨RX12, "older", "(II)I"⟩
abbrev cX12_flaws : ByteArray := prog_14_method_56_code
def yX12_flaws : MethodName := ⟨RX12, "flaws", "(I)I"⟩
abbrev cX12_flaw : ByteArray := prog_14_method_57_code
def yX12_flaw : MethodName := ⟨RX12, "flaw", "(I)I"⟩
abbrev cX12_byteOf : ByteArray := prog_14_method_58_code
def yX12_byteOf : MethodName := ⟨RX12, "byteOf", "(JI)I"⟩
abbrev cX12_where : ByteArray := prog_14_method_59_code
def yX12_where : MethodName := ⟨RX12, "where", "(II)I"⟩
abbrev cX12_loosePointers : ByteArray := prog_14_method_60_code
def yX12_loosePointers : MethodName := ⟨RX12, "loosePointers", "()I"⟩
abbrev cX12_edition : ByteArray := prog_14_method_61_code
def yX12_edition : MethodName := ⟨RX12, "edition", "()I"⟩
abbrev cX12_isEdition : ByteArray := prog_14_method_62_code
def yX12_isEdition : MethodName := ⟨RX12, "isEdition", "(I)Z"⟩
abbrev cX12_as : ByteArray := prog_14_method_63_code
def yX12_as : MethodName := ⟨RX12, "as", "(III)I"⟩
abbrev cX12_differ : ByteArray := prog_14_method_64_code
def yX12_differ : MethodName := ⟨RX12, "differ", "(III)I"⟩
abbrev cX12_puts : ByteArray := prog_14_method_65_code
def yX12_puts : MethodName := ⟨RX12, "puts", "(I)V"⟩
abbrev cX12_number : ByteArray := prog_14_method_66_code
def yX12_number : MethodName := ⟨RX12, "number", "(I)V"⟩
abbrev cX12_letters : ByteArray := prog_14_method_67_code
def yX12_letters : MethodName := ⟨RX12, "letters", "(J)V"⟩
abbrev cX12_mark : ByteArray := prog_14_method_68_code
def yX12_mark : MethodName := ⟨RX12, "mark", "(I)V"⟩
abbrev cX12_at : ByteArray := prog_14_method_69_code
def yX12_at : MethodName := ⟨RX12, "at", "(III)I"⟩
abbrev cX12_prints : ByteArray := prog_14_method_70_code
def yX12_prints : MethodName := ⟨RX12, "prints", "(I)V"⟩
abbrev cX12_heap : ByteArray := prog_14_method_71_code
def yX12_heap : MethodName := ⟨RX12, "heap", "(I)I"⟩
abbrev cX12_print : ByteArray := prog_14_method_72_code
def yX12_print : MethodName := ⟨RX12, "print", "(I)I"⟩
abbrev cX12_octet : ByteArray := prog_14_method_73_code
def yX12_octet : MethodName := ⟨RX12, "octet", "(I)I"⟩
abbrev cX12_count : ByteArray := prog_14_method_74_code
def yX12_count : MethodName := ⟨RX12, "count", "(I)I"⟩
def RJ9 : String := "java/lang/Math"
def TJ9 : u_T := fun k => match k with
  | _ => ("", "", "", false)
def tyJ9 : Nat → FieldType := fun k => match k with
  | _ => .int
theorem nmJ9 : ∀ a, a < 0 → ∀ b, b < 0 → a ≠ b → (TJ9 a).2.1 ≠ (TJ9 b).2.1 := by decide +kernel
theorem tyJ9_ok : ∀ k, k < 0 → parseFieldDescriptor (TJ9 k).2.2.1 = some (tyJ9 k) := by decide +kernel
abbrev cJ9_max_7cf53 : ByteArray := prog_15_method_65_code
def yJ9_max_7cf53 : MethodName := ⟨RJ9, "max", "(II)I"⟩
abbrev cJ9_min_7cf53 : ByteArray := prog_15_method_69_code
def yJ9_min_7cf53 : MethodName := ⟨RJ9, "min", "(II)I"⟩
def RL : String := "SlipHouseLaw"
abbrev cL_law : ByteArray := code
def yL_law : MethodName := ⟨RL, "law", "([I)Z"⟩
abbrev vwCl : List vw_C := [(RX0, TX0, 9), (RX1, TX1, 5), (RX2, TX2, 5), (RX3, TX3, 3), (RX4, TX4, 8), (RX5, TX5, 3), (RX6, TX6, 2), (RX7, TX7, 5), (RX8, TX8, 2), (RX9, TX9, 10), (RX10, TX10, 4), (RX11, TX11, 10), (RX12, TX12, 44)]
end
section
/-! THE ABSTRACT MACHINE: values, the static layout's cells, one step as a predicate transformer -/
abbrev aV : Type := Int ⊕ Int ⊕ Nat
abbrev aS : Type := (Nat → Nat → Int) × (Nat → Nat → Int)
abbrev aL : Type := List (Nat × aV)
/-- a cell: an object (its class, its fields: a reference or a number), or an array (its kind, its length, its first row) -/
abbrev aC : Type := (Nat × List (Option Nat)) ⊕ (Nat × Nat × Nat)
abbrev aSp : Type := List aV → aS → (Option aV → aS → Prop) → Prop
def inI (a : Int) : Prop := -2147483648 ≤ a ∧ a < 2147483648
def inL (a : Int) : Prop := -9223372036854775808 ≤ a ∧ a < 9223372036854775808
def aOk : aV → Prop
  | .inl a => inI a
  | .inr (.inl a) => inL a
  | .inr (.inr _) => True
def aRg (S : aS) : Prop := (∀ i j, inI (S.1 i j)) ∧ ∀ i j, inL (S.2 i j)
def mv (ad : Nat → Nat) : aV → Value
  | .inl a => .int (Int32.ofInt a)
  | .inr (.inl a) => .long (Int64.ofInt a)
  | .inr (.inr r) => .ref (ad r)
def isL : aV → Bool
  | .inr (.inl _) => true
  | _ => false
theorem inI_toInt (x : Int32) : inI x.toInt := by
  have h1 := Int32.le_toInt x
  have h2 := Int32.toInt_lt x
  exact ⟨by simpa using h1, by simpa using h2⟩
theorem inL_toInt (x : Int64) : inL x.toInt := by
  have h1 := Int64.le_toInt x
  have h2 := Int64.toInt_lt x
  exact ⟨by simpa using h1, by simpa using h2⟩
theorem ofI_toInt {a : Int} (h : inI a) : (Int32.ofInt a).toInt = a := Int32.toInt_ofInt_of_le (by simpa [inI] using h.1) (by simpa [inI] using h.2)
theorem ofL_toInt {a : Int} (h : inL a) : (Int64.ofInt a).toInt = a := Int64.toInt_ofInt_of_le (by simpa [inL] using h.1) (by simpa [inL] using h.2)
theorem mv_int (ad : Nat → Nat) (x : Int32) : mv ad (.inl x.toInt) = .int x := by simp [mv]
theorem mv_long (ad : Nat → Nat) (x : Int64) : mv ad (.inr (.inl x.toInt)) = .long x := by simp [mv]
theorem mv_cat (ad : Nat → Nat) (v : aV) : (mv ad v).category = if isL v then 2 else 1 := by
  rcases v with a | a | a <;> rfl
/-! updates -/
def up2 (f : Nat → Nat → Int) (i j : Nat) (v : Int) : Nat → Nat → Int := fun a b => if a = i ∧ b = j then v else f a b
def upI (S : aS) (i j : Nat) (v : Int) : aS := (up2 S.1 i j v, S.2)
def upL (S : aS) (i j : Nat) (v : Int) : aS := (S.1, up2 S.2 i j v)
theorem aRg.upI {S : aS} (h : aRg S) {i j : Nat} {v : Int} (hv : inI v) : aRg (upI S i j v) := by
  refine ⟨fun a b => ?_, h.2⟩
  show inI (if a = i ∧ b = j then v else S.1 a b)
  split
  · exact hv
  · exact h.1 a b
theorem aRg.upL {S : aS} (h : aRg S) {i j : Nat} {v : Int} (hv : inL v) : aRg (upL S i j v) := by
  refine ⟨h.1, fun a b => ?_⟩
  show inL (if a = i ∧ b = j then v else S.2 a b)
  split
  · exact hv
  · exact h.2 a b
/-! locals -/
def lget : aL → Nat → Option aV
  | [], _ => none
  | (k, v) :: r, i => if k = i then some v else lget r i
def lput (i : Nat) (v : aV) : aL → aL
  | [] => [(i, v)]
  | (k, w) :: r => if i < k then (i, v) :: (k, w) :: r else (k, w) :: lput i v r
def lclr (i : Nat) (vl : Bool) : aL → aL
  | [] => []
  | (k, w) :: r => if (k == i || (k + 1 == i && isL w) || (vl && k == i + 1)) = true then lclr i vl r else (k, w) :: lclr i vl r
def lset (i : Nat) (v : aV) (l : aL) : aL := lput i v (lclr i (isL v) l)
def mL (ad : Nat → Nat) (l : aL) : List (Nat × Value) := l.map (fun q => (q.1, mv ad q.2))
theorem lget_mem : ∀ {l : aL} {i : Nat} {v : aV}, lget l i = some v → (i, v) ∈ l
  | (k, w) :: r, i, v, h => by
    unfold lget at h
    split at h
    · rename_i hk
      cases h; subst hk; exact List.mem_cons_self
    · exact List.mem_cons_of_mem _ (lget_mem h)
theorem lput_mem {i : Nat} {v : aV} : ∀ {l : aL} {q : Nat × aV}, q ∈ lput i v l → q = (i, v) ∨ q ∈ l
  | [], q, h => by simp [lput] at h; exact Or.inl h
  | (k, w) :: r, q, h => by
    unfold lput at h
    split at h
    · simpa using h
    · rcases List.mem_cons.mp h with h | h
      · exact Or.inr (by rw [h]; exact List.mem_cons_self)
      · rcases lput_mem h with h | h
        · exact Or.inl h
        · exact Or.inr (List.mem_cons_of_mem _ h)
theorem lclr_mem {i : Nat} {vl : Bool} : ∀ {l : aL} {q : Nat × aV}, q ∈ lclr i vl l → q ∈ l ∧ (q.1 == i || (q.1 + 1 == i && isL q.2) || (vl && q.1 == i + 1)) = false
  | [], q, h => by simp [lclr] at h
  | (k, w) :: r, q, h => by
    unfold lclr at h
    split at h
    · have := lclr_mem h
      exact ⟨List.mem_cons_of_mem _ this.1, this.2⟩
    · rename_i hc
      rcases List.mem_cons.mp h with h | h
      · rw [h]; exact ⟨List.mem_cons_self, by simpa using hc⟩
      · have := lclr_mem h
        exact ⟨List.mem_cons_of_mem _ this.1, this.2⟩
theorem lset_mem {i : Nat} {v : aV} {l : aL} {q : Nat × aV} (h : q ∈ lset i v l) : q = (i, v) ∨ q ∈ l := by
  rcases lput_mem h with h | h
  · exact Or.inl h
  · exact Or.inr (lclr_mem h).1
theorem has_get {ad : Nat → Nat} {jl : Array Slot} {n : Nat} {l : aL} (h : lv_has jl n (mL ad l)) {i : Nat} {v : aV} (hg : lget l i = some v) : jl[i]? = some (.val (mv ad v)) :=
  h.2.2 (i, mv ad v) (List.mem_map.mpr ⟨(i, v), lget_mem hg, rfl⟩)
theorem has_sub {jl : Array Slot} {n : Nat} {l l' : List (Nat × Value)} (h : lv_has jl n l) (hs : ∀ q ∈ l', q ∈ l) : lv_has jl n l' := ⟨h.1, h.2.1, fun q hq => h.2.2 q (hs q hq)⟩
theorem has_set1 {ad : Nat → Nat} {jl : Array Slot} {n i : Nat} {v : aV} {l : aL} (hv : isL v = false) (h : lv_has jl n ((i, mv ad v) :: (mL ad l).filter (fun q => !(q.1 == i) && !(q.1 + 1 == i && q.2.category == 2)))) : lv_has jl n (mL ad (lset i v l)) := by
  refine has_sub h fun q hq => ?_
  obtain ⟨⟨k, w⟩, hm, rfl⟩ := List.mem_map.mp hq
  rcases lput_mem hm with h1 | h1
  · cases h1; exact List.mem_cons_self
  · obtain ⟨h2, h3⟩ := lclr_mem h1
    refine List.mem_cons_of_mem _ (List.mem_filter.mpr ⟨List.mem_map.mpr ⟨(k, w), h2, rfl⟩, ?_⟩)
    rw [hv] at h3
    simp only [Bool.or_eq_false_iff, Bool.false_and, and_true] at h3
    rw [mv_cat]
    cases hw : isL w <;> simp_all
theorem has_set2 {ad : Nat → Nat} {jl : Array Slot} {n i : Nat} {v : aV} {l : aL} (hv : isL v = true) (h : lv_has jl n ((i, mv ad v) :: (mL ad l).filter (fun q => !(q.1 == i) && (!(q.1 == i + 1) && !(q.1 + 1 == i && q.2.category == 2))))) : lv_has jl n (mL ad (lset i v l)) := by
  refine has_sub h fun q hq => ?_
  obtain ⟨⟨k, w⟩, hm, rfl⟩ := List.mem_map.mp hq
  rcases lput_mem hm with h1 | h1
  · cases h1; exact List.mem_cons_self
  · obtain ⟨h2, h3⟩ := lclr_mem h1
    refine List.mem_cons_of_mem _ (List.mem_filter.mpr ⟨List.mem_map.mpr ⟨(k, w), h2, rfl⟩, ?_⟩)
    rw [hv] at h3
    simp only [Bool.or_eq_false_iff, Bool.true_and] at h3
    rw [mv_cat]
    cases hw : isL w <;> simp_all
end
section
/-- a literal's place in the layout of all cells, in the order in which the constructors make them -/
def LYf0 : List aC := [.inl (11, [some 1, some 3, some 11, some 14, some 81, some 208, some 211, some 219, some 222, some 242]), .inl (8, [some 2, none]), .inr (0, 40, 0), .inl (0, [some 4, some 5, some 6, some 7, some 8, some 9, some 10, none, none]), .inr (0, 30, 0), .inr (0, 30, 0), .inr (0, 30, 0), .inr (0, 30, 0), .inr (0, 30, 0), .inr (0, 60, 0), .inr (0, 60, 0), .inl (5, [some 12, some 13, none]), .inr (3, 10, 0), .inr (3, 10, 0), .inl (2, [some 15, some 16, some 17, some 18, none]), .inr (0, 12, 0), .inr (0, 60, 0), .inr (0, 60, 0), .inl (10, [some 11, none, some 19, some 80]), .inr (5, 60, 20)]
def LYf2 : List aC := [.inr (0, 60, 0), .inl (7, [some 82, some 83, some 84, some 85, none]), .inr (0, 120, 0), .inr (0, 120, 0), .inr (0, 120, 0), .inl (10, [some 11, none, some 86, some 207]), .inr (5, 120, 87)]
def LYf4 : List aC := [.inr (0, 120, 0), .inl (6, [some 209, some 210]), .inr (0, 40, 0), .inr (0, 40, 0), .inl (9, [some 3, some 81, some 208, some 212, some 213, some 214, some 215, some 216, some 217, some 218]), .inr (0, 40, 0), .inr (0, 40, 0), .inr (0, 40, 0), .inr (0, 40, 0), .inr (0, 40, 0), .inr (0, 40, 0), .inr (0, 40, 0), .inl (3, [some 220, some 221, none]), .inr (0, 20, 0), .inr (0, 20, 0), .inl (1, [some 81, some 223, some 224, some 233, none]), .inr (0, 8, 0), .inr (4, 8, 225)]
def LYf6 : List aC := [.inr (4, 8, 234)]
def LYf8 : List aC := [.inl (4, [some 14, some 81, some 208, some 211, some 219, some 243, some 244, none]), .inr (1, 8000, 0), .inr (0, 40, 0), .inl (12, [some 246, some 247, none, none, none, some 248, some 249, some 250, some 251, some 252, some 253, some 254, none, none, none, some 255, some 256, some 257, some 258, some 259, some 260, some 261, some 262, some 263, some 264, some 265, some 266, some 267, some 268, none, some 269, some 270, none, none, none, none, none, none, some 271, some 272, some 273, some 274, none, some 275]), .inr (1, 40, 0), .inr (1, 40, 0), .inr (0, 30, 0), .inr (0, 30, 0), .inr (0, 30, 0), .inr (0, 30, 0), .inr (0, 60, 0), .inr (0, 60, 0), .inr (2, 900, 0), .inr (0, 120, 0), .inr (0, 120, 0), .inr (0, 120, 0), .inr (3, 120, 0), .inr (1, 7200, 0), .inr (0, 12, 0), .inr (0, 60, 0), .inr (0, 60, 0), .inr (3, 60, 0), .inr (3, 10, 0), .inr (3, 10, 0), .inr (2, 40, 0), .inr (0, 40, 0), .inr (0, 40, 0), .inr (0, 20, 0), .inr (0, 20, 0), .inr (0, 8, 0), .inr (0, 960, 0), .inr (0, 960, 0), .inr (1, 20000, 0), .inr (0, 40, 0)]
def LY (i : Nat) : aC := if i < 20 then LYf0.getD (i - 0) (.inr (0, 0, 0)) else if i < 80 then .inr (3, 81, 0) else if i < 87 then LYf2.getD (i - 80) (.inr (0, 0, 0)) else if i < 207 then .inr (3, 81, 0) else if i < 225 then LYf4.getD (i - 207) (.inr (0, 0, 0)) else if i < 233 then .inr (0, 120, 0) else if i < 234 then LYf6.getD (i - 233) (.inr (0, 0, 0)) else if i < 242 then .inr (0, 120, 0) else if i < 276 then LYf8.getD (i - 242) (.inr (0, 0, 0)) else .inr (0, 0, 0)
def aN : Nat := 276
theorem LY_0 : LY 0 = .inl (11, [some 1, some 3, some 11, some 14, some 81, some 208, some 211, some 219, some 222, some 242]) := rfl
theorem LY_1 : LY 1 = .inl (8, [some 2, none]) := rfl
theorem LY_2 : LY 2 = .inr (0, 40, 0) := rfl
theorem LY_3 : LY 3 = .inl (0, [some 4, some 5, some 6, some 7, some 8, some 9, some 10, none, none]) := rfl
theorem LY_4 : LY 4 = .inr (0, 30, 0) := rfl
theorem LY_5 : LY 5 = .inr (0, 30, 0) := rfl
theorem LY_6 : LY 6 = .inr (0, 30, 0) := rfl
theorem LY_7 : LY 7 = .inr (0, 30, 0) := rfl
theorem LY_8 : LY 8 = .inr (0, 30, 0) := rfl
theorem LY_9 : LY 9 = .inr (0, 60, 0) := rfl
theorem LY_10 : LY 10 = .inr (0, 60, 0) := rfl
theorem LY_11 : LY 11 = .inl (5, [some 12, some 13, none]) := rfl
theorem LY_12 : LY 12 = .inr (3, 10, 0) := rfl
theorem LY_13 : LY 13 = .inr (3, 10, 0) := rfl
theorem LY_14 : LY 14 = .inl (2, [some 15, some 16, some 17, some 18, none]) := rfl
theorem LY_15 : LY 15 = .inr (0, 12, 0) := rfl
theorem LY_16 : LY 16 = .inr (0, 60, 0) := rfl
theorem LY_17 : LY 17 = .inr (0, 60, 0) := rfl
theorem LY_18 : LY 18 = .inl (10, [some 11, none, some 19, some 80]) := rfl
theorem LY_19 : LY 19 = .inr (5, 60, 20) := rfl
theorem LY_80 : LY 80 = .inr (0, 60, 0) := rfl
theorem LY_81 : LY 81 = .inl (7, [some 82, some 83, some 84, some 85, none]) := rfl
theorem LY_82 : LY 82 = .inr (0, 120, 0) := rfl
theorem LY_83 : LY 83 = .inr (0, 120, 0) := rfl
theorem LY_84 : LY 84 = .inr (0, 120, 0) := rfl
theorem LY_85 : LY 85 = .inl (10, [some 11, none, some 86, some 207]) := rfl
theorem LY_86 : LY 86 = .inr (5, 120, 87) := rfl
theorem LY_207 : LY 207 = .inr (0, 120, 0) := rfl
theorem LY_208 : LY 208 = .inl (6, [some 209, some 210]) := rfl
theorem LY_209 : LY 209 = .inr (0, 40, 0) := rfl
theorem LY_210 : LY 210 = .inr (0, 40, 0) := rfl
theorem LY_211 : LY 211 = .inl (9, [some 3, some 81, some 208, some 212, some 213, some 214, some 215, some 216, some 217, some 218]) := rfl
theorem LY_212 : LY 212 = .inr (0, 40, 0) := rfl
theorem LY_213 : LY 213 = .inr (0, 40, 0) := rfl
theorem LY_214 : LY 214 = .inr (0, 40, 0) := rfl
theorem LY_215 : LY 215 = .inr (0, 40, 0) := rfl
theorem LY_216 : LY 216 = .inr (0, 40, 0) := rfl
theorem LY_217 : LY 217 = .inr (0, 40, 0) := rfl
theorem LY_218 : LY 218 = .inr (0, 40, 0) := rfl
theorem LY_219 : LY 219 = .inl (3, [some 220, some 221, none]) := rfl
theorem LY_220 : LY 220 = .inr (0, 20, 0) := rfl
theorem LY_221 : LY 221 = .inr (0, 20, 0) := rfl
theorem LY_222 : LY 222 = .inl (1, [some 81, some 223, some 224, some 233, none]) := rfl
theorem LY_223 : LY 223 = .inr (0, 8, 0) := rfl
theorem LY_224 : LY 224 = .inr (4, 8, 225) := rfl
theorem LY_233 : LY 233 = .inr (4, 8, 234) := rfl
theorem LY_242 : LY 242 = .inl (4, [some 14, some 81, some 208, some 211, some 219, some 243, some 244, none]) := rfl
theorem LY_243 : LY 243 = .inr (1, 8000, 0) := rfl
theorem LY_244 : LY 244 = .inr (0, 40, 0) := rfl
theorem LY_245 : LY 245 = .inl (12, [some 246, some 247, none, none, none, some 248, some 249, some 250, some 251, some 252, some 253, some 254, none, none, none, some 255, some 256, some 257, some 258, some 259, some 260, some 261, some 262, some 263, some 264, some 265, some 266, some 267, some 268, none, some 269, some 270, none, none, none, none, none, none, some 271, some 272, some 273, some 274, none, some 275]) := rfl
theorem LY_246 : LY 246 = .inr (1, 40, 0) := rfl
theorem LY_247 : LY 247 = .inr (1, 40, 0) := rfl
theorem LY_248 : LY 248 = .inr (0, 30, 0) := rfl
theorem LY_249 : LY 249 = .inr (0, 30, 0) := rfl
theorem LY_250 : LY 250 = .inr (0, 30, 0) := rfl
theorem LY_251 : LY 251 = .inr (0, 30, 0) := rfl
theorem LY_252 : LY 252 = .inr (0, 60, 0) := rfl
theorem LY_253 : LY 253 = .inr (0, 60, 0) := rfl
theorem LY_254 : LY 254 = .inr (2, 900, 0) := rfl
theorem LY_255 : LY 255 = .inr (0, 120, 0) := rfl
theorem LY_256 : LY 256 = .inr (0, 120, 0) := rfl
theorem LY_257 : LY 257 = .inr (0, 120, 0) := rfl
theorem LY_258 : LY 258 = .inr (3, 120, 0) := rfl
theorem LY_259 : LY 259 = .inr (1, 7200, 0) := rfl
theorem LY_260 : LY 260 = .inr (0, 12, 0) := rfl
theorem LY_261 : LY 261 = .inr (0, 60, 0) := rfl
theorem LY_262 : LY 262 = .inr (0, 60, 0) := rfl
theorem LY_263 : LY 263 = .inr (3, 60, 0) := rfl
theorem LY_264 : LY 264 = .inr (3, 10, 0) := rfl
theorem LY_265 : LY 265 = .inr (3, 10, 0) := rfl
theorem LY_266 : LY 266 = .inr (2, 40, 0) := rfl
theorem LY_267 : LY 267 = .inr (0, 40, 0) := rfl
theorem LY_268 : LY 268 = .inr (0, 40, 0) := rfl
theorem LY_269 : LY 269 = .inr (0, 20, 0) := rfl
theorem LY_270 : LY 270 = .inr (0, 20, 0) := rfl
theorem LY_271 : LY 271 = .inr (0, 8, 0) := rfl
theorem LY_272 : LY 272 = .inr (0, 960, 0) := rfl
theorem LY_273 : LY 273 = .inr (0, 960, 0) := rfl
theorem LY_274 : LY 274 = .inr (1, 20000, 0) := rfl
theorem LY_275 : LY 275 = .inr (0, 40, 0) := rfl
theorem LYr_20 {j : Nat} (h : j < 60) : LY (20 + j) = .inr (3, 81, 0) := by
  unfold LY
  rw [if_neg (by omega), if_pos (by omega)]
theorem LYr_87 {j : Nat} (h : j < 120) : LY (87 + j) = .inr (3, 81, 0) := by
  unfold LY
  rw [if_neg (by omega), if_neg (by omega), if_neg (by omega), if_pos (by omega)]
theorem LYr_225 {j : Nat} (h : j < 8) : LY (225 + j) = .inr (0, 120, 0) := by
  unfold LY
  rw [if_neg (by omega), if_neg (by omega), if_neg (by omega), if_neg (by omega), if_neg (by omega), if_pos (by omega)]
theorem LYr_234 {j : Nat} (h : j < 8) : LY (234 + j) = .inr (0, 120, 0) := by
  unfold LY
  rw [if_neg (by omega), if_neg (by omega), if_neg (by omega), if_neg (by omega), if_neg (by omega), if_neg (by omega), if_neg (by omega), if_pos (by omega)]
/-! one step -/
abbrev aK : Type := Nat → aL → List aV → aS → Prop
def lyC (r : Nat) : Option Nat := match LY r with
  | .inl (c, _) => some c
  | .inr _ => none
def lyF (r k : Nat) : Option (Option Nat) := match LY r with
  | .inl (_, fs) => fs[k]?
  | .inr _ => none
def lyT (r : Nat) : Nat := match LY r with
  | .inl _ => 9
  | .inr (t, _, _) => t
def lyN (r : Nat) : Nat := match LY r with
  | .inl _ => 0
  | .inr (_, n, _) => n
def lyB (r : Nat) : Nat := match LY r with
  | .inl _ => 0
  | .inr (_, _, b) => b
def wI (x : Int) : Int := (Int32.ofInt x).toInt
def wL (x : Int) : Int := (Int64.ofInt x).toInt
def bAnd (a b : Int) : Int := (Int32.ofInt a &&& Int32.ofInt b).toInt
def bOr (a b : Int) : Int := (Int32.ofInt a ||| Int32.ofInt b).toInt
def bXor (a b : Int) : Int := (Int32.ofInt a ^^^ Int32.ofInt b).toInt
def bShl (a b : Int) : Int := (Int32.ofInt a <<< (Int32.ofInt b &&& 31)).toInt
def bShr (a b : Int) : Int := (Int32.ofInt a >>> (Int32.ofInt b &&& 31)).toInt
def bUshr (a b : Int) : Int := ((Int32.ofInt a).toUInt32 >>> ((Int32.ofInt b).toUInt32 &&& Int32.toUInt32 31)).toInt32.toInt
def lAnd (a b : Int) : Int := (Int64.ofInt a &&& Int64.ofInt b).toInt
def lOr (a b : Int) : Int := (Int64.ofInt a ||| Int64.ofInt b).toInt
def lShl (a b : Int) : Int := (Int64.ofInt a <<< ((Int32.ofInt b).toInt64 &&& 63)).toInt
def lUshr (a b : Int) : Int := ((Int64.ofInt a).toUInt64 >>> ((Int32.ofInt b).toInt64.toUInt64 &&& Int64.toUInt64 63)).toInt64.toInt
def lCmp (a b : Int) : Int := if b < a then 1 else if a = b then 0 else -1
def narB (a : Int) : Int := (vp_nar .byte (Int32.ofInt a)).toInt
def narZ (a : Int) : Int := (vp_nar .boolean (Int32.ofInt a)).toInt
def jt (pc : Nat) (off : Int) : Option Nat := if 0 ≤ (pc : Int) + off then some ((pc : Int) + off).toNat else none
def wJ (k : aK) (pc : Nat) (off : Int) (ls : aL) (r : List aV) (S : aS) : Prop := match jt pc off with
  | some t => k t ls r S
  | none => False
def wLd (ty : Nat) (i : Nat) (k : aK) (pc : Nat) (ls : aL) (stk : List aV) (S : aS) : Prop := match ty, lget ls i with
  | 0, some (.inl a) => k pc ls (.inl a :: stk) S
  | 1, some (.inr (.inl a)) => k pc ls (.inr (.inl a) :: stk) S
  | 2, some (.inr (.inr a)) => k pc ls (.inr (.inr a) :: stk) S
  | _, _ => False
def wSt (nL ty i : Nat) (k : aK) (pc : Nat) (ls : aL) (stk : List aV) (S : aS) : Prop := match ty, stk with
  | 0, .inl a :: r => i < nL ∧ k pc (lset i (.inl a) ls) r S
  | 1, .inr (.inl a) :: r => i + 1 < nL ∧ k pc (lset i (.inr (.inl a)) ls) r S
  | 2, .inr (.inr a) :: r => i < nL ∧ k pc (lset i (.inr (.inr a)) ls) r S
  | _, _ => False
def wI2 (f : Int → Int → Int) (k : aK) (pc : Nat) (ls : aL) (stk : List aV) (S : aS) : Prop := match stk with
  | .inl b :: .inl a :: r => k pc ls (.inl (f a b) :: r) S
  | _ => False
def wD2 (f : Int → Int → Int) (k : aK) (pc : Nat) (ls : aL) (stk : List aV) (S : aS) : Prop := match stk with
  | .inl b :: .inl a :: r => b ≠ 0 ∧ k pc ls (.inl (f a b) :: r) S
  | _ => False
def wL2 (f : Int → Int → Int) (k : aK) (pc : Nat) (ls : aL) (stk : List aV) (S : aS) : Prop := match stk with
  | .inr (.inl b) :: .inr (.inl a) :: r => k pc ls (.inr (.inl (f a b)) :: r) S
  | _ => False
def wLI2 (f : Int → Int → Int) (k : aK) (pc : Nat) (ls : aL) (stk : List aV) (S : aS) : Prop := match stk with
  | .inl b :: .inr (.inl a) :: r => k pc ls (.inr (.inl (f a b)) :: r) S
  | _ => False
def wCmp (k : aK) (pc : Nat) (ls : aL) (stk : List aV) (S : aS) : Prop := match stk with
  | .inr (.inl b) :: .inr (.inl a) :: r => k pc ls (.inl (lCmp a b) :: r) S
  | _ => False
def wI2L (k : aK) (pc : Nat) (ls : aL) (stk : List aV) (S : aS) : Prop := match stk with
  | .inl a :: r => k pc ls (.inr (.inl a) :: r) S
  | _ => False
def wL2I (k : aK) (pc : Nat) (ls : aL) (stk : List aV) (S : aS) : Prop := match stk with
  | .inr (.inl a) :: r => k pc ls (.inl (wI a) :: r) S
  | _ => False
def wI2B (k : aK) (pc : Nat) (ls : aL) (stk : List aV) (S : aS) : Prop := match stk with
  | .inl a :: r => k pc ls (.inl ((Int32.ofInt a).toInt8.toInt32).toInt :: r) S
  | _ => False
def wDup (k : aK) (pc : Nat) (ls : aL) (stk : List aV) (S : aS) : Prop := match stk with
  | .inl a :: r => k pc ls (.inl a :: .inl a :: r) S
  | .inr (.inr a) :: r => k pc ls (.inr (.inr a) :: .inr (.inr a) :: r) S
  | _ => False
def wDup2 (k : aK) (pc : Nat) (ls : aL) (stk : List aV) (S : aS) : Prop := match stk with
  | .inl b :: .inr (.inr a) :: r => k pc ls (.inl b :: .inr (.inr a) :: .inl b :: .inr (.inr a) :: r) S
  | _ => False
def wPop (k : aK) (pc : Nat) (ls : aL) (stk : List aV) (S : aS) : Prop := match stk with
  | .inl _ :: r => k pc ls r S
  | _ => False
def wInc (nL i : Nat) (n : Int) (k : aK) (pc : Nat) (ls : aL) (stk : List aV) (S : aS) : Prop := match lget ls i with
  | some (.inl a) => i < nL ∧ k pc (lset i (.inl (wI (a + n))) ls) stk S
  | _ => False
/-- a condition: 0 eq, 1 ne, 2 lt, 3 ge, 4 gt, 5 le -/
def wIf (c : Nat) (jo : Option Nat) (k : aK) (pc : Nat) (ls : aL) (stk : List aV) (S : aS) : Prop := match c, jo, stk with
  | 0, some t, .inl a :: r => (a = 0 → k t ls r S) ∧ (¬ a = 0 → k (pc + 3) ls r S)
  | 1, some t, .inl a :: r => (¬ a = 0 → k t ls r S) ∧ (a = 0 → k (pc + 3) ls r S)
  | 2, some t, .inl a :: r => (a < 0 → k t ls r S) ∧ (¬ a < 0 → k (pc + 3) ls r S)
  | 3, some t, .inl a :: r => (0 ≤ a → k t ls r S) ∧ (¬ 0 ≤ a → k (pc + 3) ls r S)
  | 4, some t, .inl a :: r => (0 < a → k t ls r S) ∧ (¬ 0 < a → k (pc + 3) ls r S)
  | 5, some t, .inl a :: r => (a ≤ 0 → k t ls r S) ∧ (¬ a ≤ 0 → k (pc + 3) ls r S)
  | _, _, _ => False
def wIc (c : Nat) (jo : Option Nat) (k : aK) (pc : Nat) (ls : aL) (stk : List aV) (S : aS) : Prop := match c, jo, stk with
  | 0, some t, .inl b :: .inl a :: r => (a = b → k t ls r S) ∧ (¬ a = b → k (pc + 3) ls r S)
  | 1, some t, .inl b :: .inl a :: r => (¬ a = b → k t ls r S) ∧ (a = b → k (pc + 3) ls r S)
  | 2, some t, .inl b :: .inl a :: r => (a < b → k t ls r S) ∧ (¬ a < b → k (pc + 3) ls r S)
  | 3, some t, .inl b :: .inl a :: r => (b ≤ a → k t ls r S) ∧ (¬ b ≤ a → k (pc + 3) ls r S)
  | 4, some t, .inl b :: .inl a :: r => (b < a → k t ls r S) ∧ (¬ b < a → k (pc + 3) ls r S)
  | 5, some t, .inl b :: .inl a :: r => (a ≤ b → k t ls r S) ∧ (¬ a ≤ b → k (pc + 3) ls r S)
  | _, _, _ => False
def tsw (k : aK) (pc : Nat) (a : Int) (ls : aL) (r : List aV) (S : aS) : Int → List Int → Prop
  | _, [] => True
  | v, off :: os => (a = v → wJ k pc off ls r S) ∧ tsw k pc a ls r S (v + 1) os
def wTsw (dflt lo hi : Int) (offs : List Int) (k : aK) (pc : Nat) (ls : aL) (stk : List aV) (S : aS) : Prop := match stk with
  | .inl a :: r => (hi - lo < offs.length) ∧ (a < lo ∨ hi < a → wJ k pc dflt ls r S) ∧ tsw k pc a ls r S lo offs
  | _ => False
def lsw (k : aK) (pc : Nat) (a : Int) (ls : aL) (r : List aV) (S : aS) (dflt : Int) : List (Int × Int) → Prop
  | [] => wJ k pc dflt ls r S
  | (v, off) :: os => (a = v → wJ k pc off ls r S) ∧ (¬ a = v → lsw k pc a ls r S dflt os)
def wLsw (dflt : Int) (ps : Array (Int × Int)) (k : aK) (pc : Nat) (ls : aL) (stk : List aV) (S : aS) : Prop := match stk with
  | .inl a :: r => (ps.toList.zip (ps.toList.drop 1)).all (fun (a, next) => a.1 < next.1) = true ∧ lsw k pc a ls r S dflt ps.toList
  | _ => False
def wGet (fo : Option (Nat × Nat)) (k : aK) (pc : Nat) (ls : aL) (stk : List aV) (S : aS) : Prop := match fo, stk with
  | some (ci, f), .inr (.inr a) :: r => a < aN ∧ lyC a = some ci ∧ match lyF a f with
    | some (some b) => k pc ls (.inr (.inr b) :: r) S
    | some none => k pc ls (.inl (S.1 a f) :: r) S
    | none => False
  | _, _ => False
def wPut (fo : Option (Nat × Nat)) (k : aK) (pc : Nat) (ls : aL) (stk : List aV) (S : aS) : Prop := match fo, stk with
  | some (ci, f), .inl v :: .inr (.inr a) :: r => a < aN ∧ lyC a = some ci ∧ match lyF a f with
    | some none => k pc ls r (upI S a f v)
    | _ => False
  | _, _ => False
/-- a load of an int array's element (kind t) -/
def wAld (ts : Nat → Bool) (k : aK) (pc : Nat) (ls : aL) (stk : List aV) (S : aS) : Prop := match stk with
  | .inl j :: .inr (.inr a) :: r => a < aN ∧ ts (lyT a) = true ∧ 0 ≤ j ∧ j < lyN a ∧ k pc ls (.inl (S.1 a j.toNat) :: r) S
  | _ => False
def wAll (k : aK) (pc : Nat) (ls : aL) (stk : List aV) (S : aS) : Prop := match stk with
  | .inl j :: .inr (.inr a) :: r => a < aN ∧ lyT a = 3 ∧ 0 ≤ j ∧ j < lyN a ∧ k pc ls (.inr (.inl (S.2 a j.toNat)) :: r) S
  | _ => False
def wAlr (k : aK) (pc : Nat) (ls : aL) (stk : List aV) (S : aS) : Prop := match stk with
  | .inl j :: .inr (.inr a) :: r => a < aN ∧ (lyT a = 4 ∨ lyT a = 5) ∧ 0 ≤ j ∧ j < lyN a ∧ k pc ls (.inr (.inr (lyB a + j.toNat)) :: r) S
  | _ => False
def wAln (k : aK) (pc : Nat) (ls : aL) (stk : List aV) (S : aS) : Prop := match stk with
  | .inr (.inr a) :: r => a < aN ∧ lyT a < 6 ∧ lyN a < 2000000 ∧ k pc ls (.inl (lyN a : Int) :: r) S
  | _ => False
def wAst (k : aK) (pc : Nat) (ls : aL) (stk : List aV) (S : aS) : Prop := match stk with
  | .inl v :: .inl j :: .inr (.inr a) :: r => a < aN ∧ lyT a = 0 ∧ 0 ≤ j ∧ j < lyN a ∧ k pc ls r (upI S a j.toNat v)
  | _ => False
def wBst (k : aK) (pc : Nat) (ls : aL) (stk : List aV) (S : aS) : Prop := match stk with
  | .inl v :: .inl j :: .inr (.inr a) :: r => a < aN ∧ 0 ≤ j ∧ j < lyN a ∧ ((lyT a = 1 ∧ k pc ls r (upI S a j.toNat (narB v))) ∨ (lyT a = 2 ∧ k pc ls r (upI S a j.toNat (narZ v))))
  | _ => False
def wLst (k : aK) (pc : Nat) (ls : aL) (stk : List aV) (S : aS) : Prop := match stk with
  | .inr (.inl v) :: .inl j :: .inr (.inr a) :: r => a < aN ∧ lyT a = 3 ∧ 0 ≤ j ∧ j < lyN a ∧ k pc ls r (upL S a j.toNat v)
  | _ => False
def pop : Nat → List aV → List aV → Option (List aV × List aV)
  | 0, acc, stk => some (acc, stk)
  | n + 1, acc, v :: stk => pop n (v :: acc) stk
  | _ + 1, _, [] => none
def few : List aV → Bool
  | [] => true
  | [_] => true
  | [_, _] => true
  | [_, _, _] => true
  | [_, _, _, _] => true
  | _ => false
/-- the callee: for a method of an object the class of the receiver, how many arguments it takes (the receiver among them), what it promises -/
def wCall (co : Option (Option Nat × Nat × aSp)) (vt : Bool) (k : aK) (pc : Nat) (ls : aL) (stk : List aV) (S : aS) : Prop := match co with
  | some (cr, n, sp) => match pop n [] stk with
    | some (as, r) => few r = true ∧ (match cr, vt, as with
        | some c, true, .inr (.inr b) :: _ => b < aN ∧ lyC b = some c
        | none, false, _ => True
        | _, _, _ => False) ∧ sp as S (fun v S' => k pc ls (v.toList ++ r) S')
    | none => False
  | none => False
def wRi (rt : Option FieldType) (Q : Option aV → aS → Prop) (stk : List aV) (S : aS) : Prop := match rt, stk with
  | some .int, [.inl a] => Q (some (.inl a)) S
  | some .boolean, [.inl a] => (a = 0 ∨ a = 1) ∧ Q (some (.inl a)) S
  | _, _ => False
def wRl (rt : Option FieldType) (Q : Option aV → aS → Prop) (stk : List aV) (S : aS) : Prop := match rt, stk with
  | some .long, [.inr (.inl a)] => Q (some (.inr (.inl a))) S
  | _, _ => False
def wRv (rt : Option FieldType) (Q : Option aV → aS → Prop) (stk : List aV) (S : aS) : Prop := match rt, stk with
  | none, [] => Q none S
  | _, _ => False
abbrev aTb : Type := (Nat → Option (Nat × Nat)) × (Nat → Option (Nat × Nat)) × (Nat → Option (Option Nat × Nat × aSp)) × (Nat → Option Int)
def cN : Jvm.ClassFile.Cond → Nat
  | .eq => 0
  | .ne => 1
  | .lt => 2
  | .ge => 3
  | .gt => 4
  | .le => 5
def ws1 (tb : aTb) (nL : Nat) (rt : Option FieldType) (Q : Option aV → aS → Prop) (k : aK) (i : Instr) (len : Nat) (pc : Nat) (ls : aL) (stk : List aV) (S : aS) : Prop := match i, len with
  | .aload_n j, 1 => wLd 2 j k (pc + 1) ls stk S
  | .aload j, 2 => wLd 2 j k (pc + 2) ls stk S
  | .iload_n j, 1 => wLd 0 j k (pc + 1) ls stk S
  | .iload j, 2 => wLd 0 j k (pc + 2) ls stk S
  | .lload_n j, 1 => wLd 1 j k (pc + 1) ls stk S
  | .lload j, 2 => wLd 1 j k (pc + 2) ls stk S
  | .istore_n j, 1 => wSt nL 0 j k (pc + 1) ls stk S
  | .istore j, 2 => wSt nL 0 j k (pc + 2) ls stk S
  | .lstore_n j, 1 => wSt nL 1 j k (pc + 1) ls stk S
  | .lstore j, 2 => wSt nL 1 j k (pc + 2) ls stk S
  | .astore_n j, 1 => wSt nL 2 j k (pc + 1) ls stk S
  | .astore j, 2 => wSt nL 2 j k (pc + 2) ls stk S
  | .iconst n, 1 => k (pc + 1) ls (.inl (wI n) :: stk) S
  | .bipush n, 2 => k (pc + 2) ls (.inl ((Int8.ofInt n).toInt32).toInt :: stk) S
  | .sipush n, 3 => k (pc + 3) ls (.inl ((Int16.ofInt n).toInt32).toInt :: stk) S
  | .lconst n, 1 => k (pc + 1) ls (.inr (.inl (Int64.ofNat (n : Nat)).toInt) :: stk) S
  | .ldc2_w n, 3 => match tb.2.2.2 n with
    | some x => k (pc + 3) ls (.inr (.inl x) :: stk) S
    | none => False
  | .iadd, 1 => wI2 (fun a b => wI (a + b)) k (pc + 1) ls stk S
  | .isub, 1 => wI2 (fun a b => wI (a - b)) k (pc + 1) ls stk S
  | .imul, 1 => wI2 (fun a b => wI (a * b)) k (pc + 1) ls stk S
  | .idiv, 1 => wD2 (fun a b => wI (a.tdiv b)) k (pc + 1) ls stk S
  | .irem, 1 => wD2 (fun a b => wI (a.tmod b)) k (pc + 1) ls stk S
  | .iand, 1 => wI2 bAnd k (pc + 1) ls stk S
  | .ior, 1 => wI2 bOr k (pc + 1) ls stk S
  | .ixor, 1 => wI2 bXor k (pc + 1) ls stk S
  | .ishl, 1 => wI2 bShl k (pc + 1) ls stk S
  | .ishr, 1 => wI2 bShr k (pc + 1) ls stk S
  | .iushr, 1 => wI2 bUshr k (pc + 1) ls stk S
  | .lsub, 1 => wL2 (fun a b => wL (a - b)) k (pc + 1) ls stk S
  | .land, 1 => wL2 lAnd k (pc + 1) ls stk S
  | .lor, 1 => wL2 lOr k (pc + 1) ls stk S
  | .lshl, 1 => wLI2 lShl k (pc + 1) ls stk S
  | .lushr, 1 => wLI2 lUshr k (pc + 1) ls stk S
  | .lcmp, 1 => wCmp k (pc + 1) ls stk S
  | .i2l, 1 => wI2L k (pc + 1) ls stk S
  | .l2i, 1 => wL2I k (pc + 1) ls stk S
  | .i2b, 1 => wI2B k (pc + 1) ls stk S
  | .dup, 1 => wDup k (pc + 1) ls stk S
  | .dup2, 1 => wDup2 k (pc + 1) ls stk S
  | .pop, 1 => wPop k (pc + 1) ls stk S
  | .iinc j n, 3 => wInc nL j n k (pc + 3) ls stk S
  | .ifCond c off, 3 => wIf (cN c) (jt pc off) k pc ls stk S
  | .if_icmp c off, 3 => wIc (cN c) (jt pc off) k pc ls stk S
  | .goto off, 3 => wJ k pc off ls stk S
  | .tableswitch d lo hi offs, _ => wTsw d lo hi offs.toList k pc ls stk S
  | .lookupswitch d ps, _ => wLsw d ps k pc ls stk S
  | .getfield j, 3 => wGet (tb.1 j) k (pc + 3) ls stk S
  | .putfield j, 3 => wPut (tb.2.1 j) k (pc + 3) ls stk S
  | .iaload, 1 => wAld (fun t => t == 0) k (pc + 1) ls stk S
  | .baload, 1 => wAld (fun t => t == 1 || t == 2) k (pc + 1) ls stk S
  | .laload, 1 => wAll k (pc + 1) ls stk S
  | .aaload, 1 => wAlr k (pc + 1) ls stk S
  | .arraylength, 1 => wAln k (pc + 1) ls stk S
  | .iastore, 1 => wAst k (pc + 1) ls stk S
  | .bastore, 1 => wBst k (pc + 1) ls stk S
  | .lastore, 1 => wLst k (pc + 1) ls stk S
  | .invokevirtual j, 3 => wCall (tb.2.2.1 j) true k (pc + 3) ls stk S
  | .invokestatic j, 3 => wCall (tb.2.2.1 j) false k (pc + 3) ls stk S
  | .ireturn, 1 => wRi rt Q stk S
  | .lreturn, 1 => wRl rt Q stk S
  | .return_, 1 => wRv rt Q stk S
  | _, _ => False
/-- the way from a place: the steps to the next cuts, at most n of them -/
def wp (cc : ByteArray) (tb : aTb) (nL : Nat) (rt : Option FieldType) (Q : Option aV → aS → Prop) (cut : Nat → Bool) (G : aK) : Nat → aK
  | 0 => G
  | n + 1 => fun pc ls stk S => bif cut pc then G pc ls stk S else match decode cc pc with
    | .ok (i, len) => ws1 tb nL rt Q (wp cc tb nL rt Q cut G n) i len pc ls stk S
    | .error _ => False
end
section
/-! THE WORLD of the layout's cells, and what a way from a place means on the machine -/
def aTys (cy : Nat → ClassId) : List (ClassId × FieldType) := [(cy 0, .int), (cy 1, .byte), (cy 2, .boolean), (cy 3, .long), (cy 4, .array .int), (cy 5, .array .long)]
def aFv (ad : Nat → Nat) (S : aS) (i k : Nat) : Option Nat → Value
  | some r => .ref (ad r)
  | none => .int (Int32.ofInt (S.1 i k))
def aE (cy : Nat → ClassId) (ad : Nat → Nat) (S : aS) (i : Nat) : aC → va_E
  | .inl (c, fs) => .inr (c, fs.mapIdx (aFv ad S i))
  | .inr (t, n, b) => .inl (cy t, n, if t = 3 then .inr (.inl fun j => Int64.ofInt (S.2 i j)) else if t < 3 then .inl (fun j => Int32.ofInt (S.1 i j)) else .inr (.inr (.inr (.inr fun j => some (ad (b + j))))))
def aW (cy : Nat → ClassId) (ad : Nat → Nat) (S : aS) : va_W := (List.range aN).map fun i => (ad i, aE cy ad S i (LY i))
theorem aW_get {cy : Nat → ClassId} {ad : Nat → Nat} {S : aS} {i : Nat} (h : i < aN) : (aW cy ad S)[i]? = some (ad i, aE cy ad S i (LY i)) := by
  simp [aW, h]
theorem aW_set {cy : Nat → ClassId} {ad : Nat → Nat} {S S' : aS} {i : Nat} {x : va_E} (h : i < aN) (hx : aE cy ad S' i (LY i) = x) (ho : ∀ j, j ≠ i → aE cy ad S' j (LY j) = aE cy ad S j (LY j)) : (aW cy ad S).set i (ad i, x) = aW cy ad S' := by
  apply List.ext_getElem?
  intro j
  rw [List.getElem?_set]
  by_cases hj : i = j
  · subst hj
    rw [if_pos rfl, aW_get h, hx, if_pos (by simpa [aW] using h)]
  · rw [if_neg hj]
    by_cases hN : j < aN
    · rw [aW_get hN, aW_get hN, ho j (fun e => hj e.symm)]
    · simp [aW, hN]
theorem aFv_upI {ad : Nat → Nat} {S : aS} {i k : Nat} {v : Int} {j m : Nat} (h : ¬ (j = i ∧ m = k)) (x : Option Nat) : aFv ad (upI S i k v) j m x = aFv ad S j m x := by
  cases x with
  | some r => rfl
  | none => simp [aFv, upI, up2, h]
theorem aE_upI {cy : Nat → ClassId} {ad : Nat → Nat} {S : aS} {i k : Nat} {v : Int} {j : Nat} (h : j ≠ i) (x : aC) : aE cy ad (upI S i k v) j x = aE cy ad S j x := by
  rcases x with ⟨c, fs⟩ | ⟨t, n, b⟩
  · show Sum.inr (c, fs.mapIdx _) = Sum.inr (c, fs.mapIdx _)
    congr 3
    funext m x
    exact aFv_upI (fun q => h q.1) x
  · simp only [aE]
    congr 3
    · split
      · rfl
      · split
        · congr 1; funext m; simp [upI, up2, h]
        · rfl
theorem aE_upL {cy : Nat → ClassId} {ad : Nat → Nat} {S : aS} {i k : Nat} {v : Int} {j : Nat} (h : j ≠ i) (x : aC) : aE cy ad (upL S i k v) j x = aE cy ad S j x := by
  rcases x with ⟨c, fs⟩ | ⟨t, n, b⟩
  · rfl
  · simp only [aE]
    congr 3
    · split
      · congr 2; funext m; simp [upL, up2, h]
      · rfl
/-- the links to fields of nest mates -/
def aNl : List (String × Nat × String × String × String × String) := [("SlipHouse", 87, "SlipHouse$Tape", "size", "I", "SlipHouse"), ("SlipHouse", 99, "SlipHouse$Books", "size", "I", "SlipHouse"), ("SlipHouse", 111, "SlipHouse$Books", "first", "[I", "SlipHouse"), ("SlipHouse", 115, "SlipHouse$Books", "last", "[I", "SlipHouse"), ("SlipHouse", 118, "SlipHouse$Books", "toldFrom", "[I", "SlipHouse"), ("SlipHouse", 121, "SlipHouse$Books", "toldTo", "[I", "SlipHouse"), ("SlipHouse", 128, "SlipHouse$Slips", "size", "I", "SlipHouse"), ("SlipHouse", 141, "SlipHouse$Entries", "size", "I", "SlipHouse"), ("SlipHouse", 155, "SlipHouse$Rules", "size", "I", "SlipHouse"), ("SlipHouse", 166, "SlipHouse$Entries", "forms", "LSlipHouse$Words;", "SlipHouse"), ("SlipHouse", 173, "SlipHouse$Slips", "words", "LSlipHouse$Words;", "SlipHouse"), ("SlipHouse", 203, "SlipHouse$Senses", "entry", "[I", "SlipHouse"), ("SlipHouse", 206, "SlipHouse$Senses", "parent", "[I", "SlipHouse"), ("SlipHouse", 228, "SlipHouse$Pointers", "size", "I", "SlipHouse"), ("SlipHouse", 235, "SlipHouse$Pointers", "from", "[I", "SlipHouse"), ("SlipHouse", 238, "SlipHouse$Pointers", "to", "[I", "SlipHouse"), ("SlipHouse", 244, "SlipHouse$Witnesses", "all", "[I", "SlipHouse"), ("SlipHouse", 247, "SlipHouse$Witnesses", "allBooks", "[I", "SlipHouse"), ("SlipHouse", 253, "SlipHouse$Witnesses", "own", "[I", "SlipHouse"), ("SlipHouse", 256, "SlipHouse$Witnesses", "place", "[I", "SlipHouse"), ("SlipHouse", 267, "SlipHouse$Slips", "entry", "[I", "SlipHouse"), ("SlipHouse", 268, "SlipHouse$Slips", "sense", "[I", "SlipHouse"), ("SlipHouse", 274, "SlipHouse$Slips", "book", "[I", "SlipHouse"), ("SlipHouse", 291, "SlipHouse$Editions", "size", "I", "SlipHouse"), ("SlipHouse", 316, "SlipHouse$Books", "befores", "I", "SlipHouse"), ("SlipHouse", 322, "SlipHouse$Entries", "formsOf", "[I", "SlipHouse"), ("SlipHouse$Editions", 31, "SlipHouse$Slips", "size", "I", "SlipHouse"), ("SlipHouse$Editions", 34, "SlipHouse$Slips", "entry", "[I", "SlipHouse"), ("SlipHouse$Editions", 36, "SlipHouse$Slips", "sense", "[I", "SlipHouse"), ("SlipHouse$Printer", 88, "SlipHouse$Senses", "entry", "[I", "SlipHouse"), ("SlipHouse$Printer", 91, "SlipHouse$Senses", "parent", "[I", "SlipHouse"), ("SlipHouse$Printer", 94, "SlipHouse$Witnesses", "place", "[I", "SlipHouse"), ("SlipHouse$Printer", 103, "SlipHouse$Pointers", "size", "I", "SlipHouse"), ("SlipHouse$Printer", 106, "SlipHouse$Pointers", "from", "[I", "SlipHouse"), ("SlipHouse$Printer", 109, "SlipHouse$Pointers", "to", "[I", "SlipHouse"), ("SlipHouse$Printer", 118, "SlipHouse$Witnesses", "all", "[I", "SlipHouse"), ("SlipHouse$Printer", 121, "SlipHouse$Witnesses", "firstFrom", "[I", "SlipHouse"), ("SlipHouse$Printer", 124, "SlipHouse$Witnesses", "firstTo", "[I", "SlipHouse"), ("SlipHouse$Witnesses", 45, "SlipHouse$Slips", "size", "I", "SlipHouse"), ("SlipHouse$Witnesses", 51, "SlipHouse$Slips", "sense", "[I", "SlipHouse"), ("SlipHouse$Witnesses", 54, "SlipHouse$Slips", "book", "[I", "SlipHouse"), ("SlipHouse$Witnesses", 67, "SlipHouse$Books", "first", "[I", "SlipHouse"), ("SlipHouse$Witnesses", 76, "SlipHouse$Books", "last", "[I", "SlipHouse"), ("SlipHouse$Witnesses", 83, "SlipHouse$Senses", "parent", "[I", "SlipHouse"), ("SlipHouse$Words", 28, "SlipHouse$Rules", "size", "I", "SlipHouse"), ("SlipHouse$Words", 42, "SlipHouse$Rules", "fresh", "[J", "SlipHouse"), ("SlipHouse$Words", 46, "SlipHouse$Rules", "old", "[J", "SlipHouse")]
def aNs (U : State) : Prop := ∀ q ∈ aNl, va_Nw (.fieldLinkNest q.1 q.2.1 q.2.2.1 q.2.2.2.1 q.2.2.2.2.1 q.2.2.2.2.2) U
theorem aNs.warm {s U : State} (h : aNs s) (hW : s.WarmedH U.vm) : aNs U := fun q hq => (h q hq).warmF hW
theorem aNs.same {u U : State} (h : aNs u) (hv : u.vm = U.vm) : aNs U := fun q hq => (h q hq).same rfl hv
def aKK (D : va_G) (cy : Nat → ClassId) (U : State) : Prop := va_K D vwCl (aTys cy) U ∧ aNs U
/-- the tables' words that a callee may take over -/
def gw : List Cond := lw_tbl.filter goodWord
/-- a method: its name, its code, how many locals, what it returns, how many frames and words of locals its calls take -/
abbrev aM : Type := MethodName × ByteArray × Nat × Option FieldType × Nat × Nat
def aWs (Y : aM) : List Cond := .code Y.1 Y.2.1 Y.2.2.1 Y.2.2.2.1 :: gw
def aRm (Y : aM) : Room := { frames := Y.2.2.2.2.1, cells := 0, slots := 0, locals := Y.2.2.2.2.2 }
def aCtx (Y : aM) (p : Program) (R : Room) (s : State) (m : MethodId) (args : Array Value) (meth : Method) (c : Code) (cells slots : Nat) : Prop :=
  p.tables.exec = Jvm.exec ∧ c.code = Y.2.1 ∧ c.maxLocals = Y.2.2.1 ∧ s.vm.findClass Y.1.cls = some m.cls ∧ (∀ w ∈ gw, w.before args s = true) ∧ Y.2.2.2.2.1 ≤ R.frames ∧ Y.2.2.2.2.2 ≤ R.locals ∧ cells ≤ R.cells ∧ slots ≤ R.slots
def aHp (D : va_G) (cy : Nat → ClassId) (ad : Nat → Nat) (A : Nat → Prop) (S : aS) (H0 H : Heap) (locs : List Loc) : Prop :=
  va_P D vwCl (aW cy ad S) H ∧ va_D A (aW cy ad S) ∧ va_S A H0 H locs
def aIn (ls : aL) (stk : List aV) (S : aS) : Prop := aRg S ∧ (∀ q ∈ ls, aOk q.2) ∧ ∀ v ∈ stk, aOk v
def aRet (i : Instr) (rt : Option FieldType) (v : Option aV) : Prop := match i, rt, v with
  | .ireturn, some .int, some (.inl _) => True
  | .ireturn, some .boolean, some (.inl a) => a = 0 ∨ a = 1
  | .lreturn, some .long, some (.inr (.inl _)) => True
  | .return_, none, none => True
  | _, _, _ => False
/-- what is behind the method's end -/
def aEnd (Y : aM) (Q : Option aV → aS → Prop) (p : Program) (l : Launch) (e : Env) (R : Room) (s : State) (m : MethodId) (args : Array Value) (below : List Frame) (meth : Method) (c : Code) (cells slots : Nat) (Z : State → Prop) (D : va_G) (cy : Nat → ClassId) (ad : Nat → Nat) (A : Nat → Prop) : Prop :=
  ∀ (v : Option aV) (S : aS) (H : Heap) (locs : List Loc) (pc : Nat) (jl : Array Slot) (i : Instr), Q v S → aRg S → (∀ w, v = some w → aOk w) → aHp D cy ad A S s.heap H locs → decode Y.2.1 pc = .ok (i, 1) → aRet i Y.2.2.2.1 v → W p l e R s m args below meth c H locs cells slots Z (F0 m pc jl (v.toList.map (mv ad)))
def aGo (l : Launch) (Y : aM) (Q : Option aV → aS → Prop) : aK := fun pc ls stk S => aIn ls stk S →
  ∀ (p : Program) (e : Env) (R : Room) (s : State) (m : MethodId) (args : Array Value) (below : List Frame) (meth : Method) (c : Code) (cells slots : Nat) (Z : State → Prop) (D : va_G) (cy : Nat → ClassId) (ad : Nat → Nat) (A : Nat → Prop),
    aCtx Y p R s m args meth c cells slots → aKK D cy s → (∀ q, s.heap.size ≤ q → A q) → aEnd Y Q p l e R s m args below meth c cells slots Z D cy ad A →
    ∀ (H : Heap) (locs : List Loc) (jl : Array Slot), aHp D cy ad A S s.heap H locs → lv_has jl Y.2.2.1 (mL ad ls) → W p l e R s m args below meth c H locs cells slots Z (F0 m pc jl (stk.map (mv ad)))
/-- a method's contract for a way of calling it -/
def aMt (l : Launch) (Y : aM) (as : List aV) (S : aS) (Q : Option aV → aS → Prop) : Prop := aRg S → (∀ v ∈ as, aOk v) → ∀ (D : va_G) (cy : Nat → ClassId) (ad : Nat → Nat) (sz : Nat),
  Met l Y.1 (aWs Y) (aRm Y) (va_Pc (as.map (mv ad)) (fun U => U.heap.size = sz ∧ va_P D vwCl (aW cy ad S) U.heap ∧ aKK D cy U ∧ va_D (fun _ => True) (aW cy ad S)))
    (fun _ st oc t => (∃ (v : Option aV) (S' : aS), oc = .returned (v.map (mv ad)) ∧ Q v S' ∧ aRg S' ∧ (∀ w, v = some w → aOk w) ∧ va_P D vwCl (aW cy ad S') t.heap ∧ va_K D vwCl (aTys cy) t ∧ va_D (va_A (aW cy ad S) sz) (aW cy ad S')) ∧ va_F (va_A (aW cy ad S) sz) st t) 0 0 (va_A (aW cy ad S) sz)
def aOK (l : Launch) (Y : aM) (sp : aSp) : Prop := ∀ as S Q, sp as S Q → aMt l Y as S Q
end
section
def fOK (own : String) (idx ci f : Nat) : Prop := ∃ (C : String) (T : u_T) (N : Nat), vwCl[ci]? = some (C, T, N) ∧ f < N ∧ (∀ w ∈ u_ws C T N, w ∈ gw) ∧ (Cond.fieldLink own idx (T f).1 (T f).2.1 (T f).2.2.1 ∈ gw ∨ ∃ host, (own, idx, (T f).1, (T f).2.1, (T f).2.2.1, host) ∈ aNl)
def fPk (ci f : Nat) : Prop := ∃ (C : String) (T : u_T) (N : Nat) (ty0 : Nat → FieldType), vwCl[ci]? = some (C, T, N) ∧ (T f).2.2.2 = false ∧ parseFieldDescriptor (T f).2.2.1 = some .int ∧ (∀ k, k < N → parseFieldDescriptor (T k).2.2.1 = some (ty0 k)) ∧ (∀ a, a < N → ∀ b, b < N → a ≠ b → (T a).2.1 ≠ (T b).2.1)
def cOK (l : Launch) (Y : aM) (idx : Nat) (cr : Option Nat) (n : Nat) (sp : aSp) : Prop := ∃ Y' : aM, aOK l Y' sp ∧ GoodIn gw (aWs Y') ∧ Cond.methodLink Y.1.cls idx Y'.1 ∈ gw ∧ Cond.initialized Y'.1.cls ∈ gw ∧
  (Y'.1.cls ≠ "java/lang/invoke/MethodHandle" ∧ Y'.1.cls ≠ "java/lang/invoke/VarHandle" ∧ (parseMethodDescriptor Y'.1.desc).map (fun d => d.parameters.length) = some (if cr.isSome then n - 1 else n)) ∧
  Y'.2.2.2.2.1 + 1 ≤ Y.2.2.2.2.1 ∧ 8 + (Y'.2.2.1 + 11) + Y'.2.2.2.2.2 ≤ Y.2.2.2.2.2 ∧
  match cr with
    | some ci => 0 < n ∧ (∃ T N, vwCl[ci]? = some (Y'.1.cls, T, N)) ∧ Cond.instanceMethod Y'.1 ∈ gw ∧ Cond.selects Y'.1.cls Y'.1 Y'.1 ∈ gw
    | none => Cond.static Y'.1 ∈ gw
def tOK (l : Launch) (Y : aM) (tb : aTb) : Prop :=
  (∀ idx ci f, tb.1 idx = some (ci, f) → fOK Y.1.cls idx ci f) ∧ (∀ idx ci f, tb.2.1 idx = some (ci, f) → fOK Y.1.cls idx ci f ∧ fPk ci f) ∧
  (∀ idx cr n sp, tb.2.2.1 idx = some (cr, n, sp) → cOK l Y idx cr n sp) ∧ (∀ idx x, tb.2.2.2 idx = some x → ∃ v : Int64, x = v.toInt ∧ Cond.constantLong Y.1.cls idx v ∈ gw)
def aKt (l : Launch) (Y : aM) (p : Program) (e : Env) (R : Room) (s : State) (m : MethodId) (args : Array Value) (below : List Frame) (meth : Method) (c : Code) (cells slots : Nat) (Z : State → Prop) (D : va_G) (cy : Nat → ClassId) (ad : Nat → Nat) (A : Nat → Prop) (k : aK) : Prop :=
  ∀ pc ls stk S, k pc ls stk S → aIn ls stk S → ∀ (H : Heap) (locs : List Loc) (jl : Array Slot), aHp D cy ad A S s.heap H locs → lv_has jl Y.2.2.1 (mL ad ls) → W p l e R s m args below meth c H locs cells slots Z (F0 m pc jl (stk.map (mv ad)))
theorem aIn.push {ls : aL} {stk : List aV} {S : aS} {v : aV} (h : aIn ls stk S) (hv : aOk v) : aIn ls (v :: stk) S :=
  ⟨h.1, h.2.1, fun w hw => (List.mem_cons.mp hw).elim (fun q => q ▸ hv) (h.2.2 w)⟩
theorem aIn.popd {ls : aL} {stk : List aV} {S : aS} {v : aV} (h : aIn ls (v :: stk) S) : aIn ls stk S := ⟨h.1, h.2.1, fun w hw => h.2.2 w (List.mem_cons_of_mem _ hw)⟩
theorem aIn.top {ls : aL} {stk : List aV} {S : aS} {v : aV} (h : aIn ls (v :: stk) S) : aOk v := h.2.2 v List.mem_cons_self
theorem aIn.set {ls : aL} {stk : List aV} {S : aS} {v : aV} {i : Nat} (h : aIn ls stk S) (hv : aOk v) : aIn (lset i v ls) stk S :=
  ⟨h.1, fun q hq => (lset_mem hq).elim (fun e => by rw [e]; exact hv) (fun hq => h.2.1 q hq), h.2.2⟩
theorem aIn.get {ls : aL} {stk : List aV} {S : aS} {v : aV} {i : Nat} (h : aIn ls stk S) (hg : lget ls i = some v) : aOk v := h.2.1 (i, v) (lget_mem hg)
section SOUND
variable {l : Launch} {Y : aM} {p : Program} {e : Env} {R : Room} {s : State} {m : MethodId} {args : Array Value} {below : List Frame} {meth : Method} {c : Code} {cells slots : Nat} {Z : State → Prop} {D : va_G} {cy : Nat → ClassId} {ad : Nat → Nat} {A : Nat → Prop}
variable {k : aK} {pc : Nat} {ls : aL} {stk : List aV} {S : aS} {H : Heap} {locs : List Loc} {jl : Array Slot}
theorem s_ld (hx : p.tables.exec = Jvm.exec) (hb : c.code = Y.2.1) (hk : aKt l Y p e R s m args below meth c cells slots Z D cy ad A k) (hi : aIn ls stk S) (hH : aHp D cy ad A S s.heap H locs) (hl : lv_has jl Y.2.2.1 (mL ad ls)) {ty i pc' : Nat} (h : wLd ty i k pc' ls stk S)
    (hrow : ∀ v : aV, (ty = 0 → ∃ a, v = .inl a) → (ty = 1 → ∃ a, v = .inr (.inl a)) → (ty = 2 → ∃ a, v = .inr (.inr a)) → ty < 3 → jl[i]? = some (.val (mv ad v)) → W p l e R s m args below meth c H locs cells slots Z (F0 m pc' jl (mv ad v :: stk.map (mv ad))) → W p l e R s m args below meth c H locs cells slots Z (F0 m pc jl (stk.map (mv ad)))) :
    W p l e R s m args below meth c H locs cells slots Z (F0 m pc jl (stk.map (mv ad))) := by
  unfold wLd at h
  split at h
  · rename_i a hg
    exact hrow (.inl a) (fun _ => ⟨a, rfl⟩) (fun q => by cases q) (fun q => by cases q) (by decide) (has_get hl hg) (hk _ _ _ _ h (hi.push (hi.get hg)) H locs jl hH hl)
  · rename_i a hg
    exact hrow (.inr (.inl a)) (fun q => by cases q) (fun _ => ⟨a, rfl⟩) (fun q => by cases q) (by decide) (has_get hl hg) (hk _ _ _ _ h (hi.push (hi.get hg)) H locs jl hH hl)
  · rename_i a hg
    exact hrow (.inr (.inr a)) (fun q => by cases q) (fun q => by cases q) (fun _ => ⟨a, rfl⟩) (by decide) (has_get hl hg) (hk _ _ _ _ h (hi.push (hi.get hg)) H locs jl hH hl)
  · exact h.elim
theorem s_iload (hx : p.tables.exec = Jvm.exec) (hb : c.code = Y.2.1) (hk : aKt l Y p e R s m args below meth c cells slots Z D cy ad A k) (hi : aIn ls stk S) (hH : aHp D cy ad A S s.heap H locs) (hl : lv_has jl Y.2.2.1 (mL ad ls)) {i : Nat} (h : wLd 0 i k (pc + 2) ls stk S) (hd : decode Y.2.1 pc = .ok (.iload i, 2)) : W p l e R s m args below meth c H locs cells slots Z (F0 m pc jl (stk.map (mv ad))) :=
  s_ld hx hb hk hi hH hl h fun v h0 _ _ _ hg hw => by obtain ⟨a, rfl⟩ := h0 rfl; exact lv_iload hx hb hd hg hw
theorem s_iload_n (hx : p.tables.exec = Jvm.exec) (hb : c.code = Y.2.1) (hk : aKt l Y p e R s m args below meth c cells slots Z D cy ad A k) (hi : aIn ls stk S) (hH : aHp D cy ad A S s.heap H locs) (hl : lv_has jl Y.2.2.1 (mL ad ls)) {i : Fin 4} (h : wLd 0 i k (pc + 1) ls stk S) (hd : decode Y.2.1 pc = .ok (.iload_n i, 1)) : W p l e R s m args below meth c H locs cells slots Z (F0 m pc jl (stk.map (mv ad))) :=
  s_ld hx hb hk hi hH hl h fun v h0 _ _ _ hg hw => by obtain ⟨a, rfl⟩ := h0 rfl; exact lv_iload_n hx hb hd rfl hg hw
theorem s_lload (hx : p.tables.exec = Jvm.exec) (hb : c.code = Y.2.1) (hk : aKt l Y p e R s m args below meth c cells slots Z D cy ad A k) (hi : aIn ls stk S) (hH : aHp D cy ad A S s.heap H locs) (hl : lv_has jl Y.2.2.1 (mL ad ls)) {i : Nat} (h : wLd 1 i k (pc + 2) ls stk S) (hd : decode Y.2.1 pc = .ok (.lload i, 2)) : W p l e R s m args below meth c H locs cells slots Z (F0 m pc jl (stk.map (mv ad))) :=
  s_ld hx hb hk hi hH hl h fun v _ h0 _ _ hg hw => by obtain ⟨a, rfl⟩ := h0 rfl; exact lv_lload hx hb hd hg hw
theorem s_lload_n (hx : p.tables.exec = Jvm.exec) (hb : c.code = Y.2.1) (hk : aKt l Y p e R s m args below meth c cells slots Z D cy ad A k) (hi : aIn ls stk S) (hH : aHp D cy ad A S s.heap H locs) (hl : lv_has jl Y.2.2.1 (mL ad ls)) {i : Fin 4} (h : wLd 1 i k (pc + 1) ls stk S) (hd : decode Y.2.1 pc = .ok (.lload_n i, 1)) : W p l e R s m args below meth c H locs cells slots Z (F0 m pc jl (stk.map (mv ad))) :=
  s_ld hx hb hk hi hH hl h fun v _ h0 _ _ hg hw => by obtain ⟨a, rfl⟩ := h0 rfl; exact lv_lload_n hx hb hd rfl hg hw
theorem s_aload (hx : p.tables.exec = Jvm.exec) (hb : c.code = Y.2.1) (hk : aKt l Y p e R s m args below meth c cells slots Z D cy ad A k) (hi : aIn ls stk S) (hH : aHp D cy ad A S s.heap H locs) (hl : lv_has jl Y.2.2.1 (mL ad ls)) {i : Nat} (h : wLd 2 i k (pc + 2) ls stk S) (hd : decode Y.2.1 pc = .ok (.aload i, 2)) : W p l e R s m args below meth c H locs cells slots Z (F0 m pc jl (stk.map (mv ad))) :=
  s_ld hx hb hk hi hH hl h fun v _ _ h0 _ hg hw => by obtain ⟨a, rfl⟩ := h0 rfl; exact lv_aload hx hb hd hg hw
theorem s_aload_n (hx : p.tables.exec = Jvm.exec) (hb : c.code = Y.2.1) (hk : aKt l Y p e R s m args below meth c cells slots Z D cy ad A k) (hi : aIn ls stk S) (hH : aHp D cy ad A S s.heap H locs) (hl : lv_has jl Y.2.2.1 (mL ad ls)) {i : Fin 4} (h : wLd 2 i k (pc + 1) ls stk S) (hd : decode Y.2.1 pc = .ok (.aload_n i, 1)) : W p l e R s m args below meth c H locs cells slots Z (F0 m pc jl (stk.map (mv ad))) :=
  s_ld hx hb hk hi hH hl h fun v _ _ h0 _ hg hw => by obtain ⟨a, rfl⟩ := h0 rfl; exact lv_aload_n hx hb hd rfl hg hw
end SOUND
end
section
theorem inI_wI (x : Int) : inI (wI x) := inI_toInt _
theorem inL_wL (x : Int) : inL (wL x) := inL_toInt _
theorem of_wI (x : Int) : Int32.ofInt (wI x) = Int32.ofInt x := by unfold wI; exact Int32.ofInt_toInt _
theorem of_wL (x : Int) : Int64.ofInt (wL x) = Int64.ofInt x := by unfold wL; exact Int64.ofInt_toInt _
theorem of_toI (x : Int32) : Int32.ofInt x.toInt = x := by simp
theorem of_toL (x : Int64) : Int64.ofInt x.toInt = x := by simp
theorem c_eq {a b : Int} (ha : inI a) (hb : inI b) : Int32.ofInt a = Int32.ofInt b ↔ a = b := by
  rw [← Int32.toInt_inj, ofI_toInt ha, ofI_toInt hb]
theorem c_lt {a b : Int} (ha : inI a) (hb : inI b) : Int32.ofInt a < Int32.ofInt b ↔ a < b := by
  rw [Int32.lt_iff_toInt_lt, ofI_toInt ha, ofI_toInt hb]
theorem c_le {a b : Int} (ha : inI a) (hb : inI b) : Int32.ofInt a ≤ Int32.ofInt b ↔ a ≤ b := by
  rw [Int32.le_iff_toInt_le, ofI_toInt ha, ofI_toInt hb]
theorem inI_0 : inI 0 := by unfold inI; omega
theorem c_eq0 {a : Int} (ha : inI a) : Int32.ofInt a = 0 ↔ a = 0 := c_eq ha inI_0
theorem c_lt0 {a : Int} (ha : inI a) : Int32.ofInt a < 0 ↔ a < 0 := c_lt ha inI_0
theorem c_le0 {a : Int} (ha : inI a) : Int32.ofInt a ≤ 0 ↔ a ≤ 0 := c_le ha inI_0
theorem c_gt0 {a : Int} (ha : inI a) : 0 < Int32.ofInt a ↔ 0 < a := c_lt inI_0 ha
theorem c_ge0 {a : Int} (ha : inI a) : 0 ≤ Int32.ofInt a ↔ 0 ≤ a := c_le inI_0 ha
theorem o_add (a b : Int) : Int32.ofInt a + Int32.ofInt b = Int32.ofInt (wI (a + b)) := by rw [of_wI, Int32.ofInt_add]
theorem o_sub (a b : Int) : Int32.ofInt a - Int32.ofInt b = Int32.ofInt (wI (a - b)) := by rw [of_wI, Int32.ofInt_sub]
theorem o_mul (a b : Int) : Int32.ofInt a * Int32.ofInt b = Int32.ofInt (wI (a * b)) := by rw [of_wI, Int32.ofInt_mul]
theorem o_lsub (a b : Int) : Int64.ofInt a - Int64.ofInt b = Int64.ofInt (wL (a - b)) := by rw [of_wL, Int64.ofInt_sub]
theorem o_div {a b : Int} (ha : inI a) (hb : inI b) : Int32.ofInt a / Int32.ofInt b = Int32.ofInt (wI (a.tdiv b)) := by
  rw [of_wI, ← Int32.toInt_inj, Int32.toInt_div, ofI_toInt ha, ofI_toInt hb, Int32.toInt_ofInt]
theorem o_rem {a b : Int} (ha : inI a) (hb : inI b) : Int32.ofInt a - Int32.ofInt a / Int32.ofInt b * Int32.ofInt b = Int32.ofInt (wI (a.tmod b)) := by
  rw [o_div ha hb, of_wI, of_wI, ← Int32.ofInt_mul, ← Int32.ofInt_sub]
  congr 1
  have := Int.tmod_add_mul_tdiv a b
  have h2 : b * a.tdiv b = a.tdiv b * b := Int.mul_comm _ _
  omega
theorem o_cmp {a b : Int} (ha : inL a) (hb : inL b) : lg_cmp (Int64.ofInt a) (Int64.ofInt b) = Int32.ofInt (lCmp a b) := by
  unfold lg_cmp lCmp
  simp only [gt_iff_lt, Int64.lt_iff_toInt_lt, ← Int64.toInt_inj, ofL_toInt ha, ofL_toInt hb]
  split
  · rfl
  · split <;> rfl
theorem inI_lCmp (a b : Int) : inI (lCmp a b) := by
  unfold lCmp inI
  split
  · omega
  · split <;> omega
theorem jt_eq {pc : Nat} {off : Int} {t : Nat} (h : jt pc off = some t) : (pc : Int) + off = (t : Int) := by
  unfold jt at h
  split at h
  · cases h
    omega
  · cases h
section SOUND2
variable {l : Launch} {Y : aM} {p : Program} {e : Env} {R : Room} {s : State} {m : MethodId} {args : Array Value} {below : List Frame} {meth : Method} {c : Code} {cells slots : Nat} {Z : State → Prop} {D : va_G} {cy : Nat → ClassId} {ad : Nat → Nat} {A : Nat → Prop}
variable {k : aK} {pc : Nat} {ls : aL} {stk : List aV} {S : aS} {H : Heap} {locs : List Loc} {jl : Array Slot}
theorem s_st1 (hx : p.tables.exec = Jvm.exec) (hb : c.code = Y.2.1) (hk : aKt l Y p e R s m args below meth c cells slots Z D cy ad A k) (hi : aIn ls stk S) (hH : aHp D cy ad A S s.heap H locs) (hl : lv_has jl Y.2.2.1 (mL ad ls)) {ty i pc' : Nat} (hty : ty ≠ 1) (h : wSt Y.2.2.1 ty i k pc' ls stk S)
    (hrow : ∀ (v : aV) (r : List aV), stk = v :: r → isL v = false → (ty = 0 → ∃ a, v = .inl a) → (ty = 2 → ∃ a, v = .inr (.inr a)) → ty < 3 → i < Y.2.2.1 → (∀ jl' : Array Slot, lv_has jl' Y.2.2.1 ((i, mv ad v) :: (mL ad ls).filter (fun q => !(q.1 == i) && !(q.1 + 1 == i && q.2.category == 2))) → W p l e R s m args below meth c H locs cells slots Z (F0 m pc' jl' (r.map (mv ad)))) → W p l e R s m args below meth c H locs cells slots Z (F0 m pc jl (mv ad v :: r.map (mv ad)))) : W p l e R s m args below meth c H locs cells slots Z (F0 m pc jl (stk.map (mv ad))) := by
  unfold wSt at h
  split at h
  · rename_i a r
    exact hrow (.inl a) r rfl rfl (fun _ => ⟨a, rfl⟩) (fun q => by cases q) (by decide) h.1 (fun jl' hh => hk _ _ _ _ h.2 (hi.popd.set hi.top) H locs jl' hH (has_set1 rfl hh))
  · exact absurd rfl hty
  · rename_i a r
    exact hrow (.inr (.inr a)) r rfl rfl (fun q => by cases q) (fun _ => ⟨a, rfl⟩) (by decide) h.1 (fun jl' hh => hk _ _ _ _ h.2 (hi.popd.set hi.top) H locs jl' hH (has_set1 rfl hh))
  · exact h.elim
theorem s_istore (hx : p.tables.exec = Jvm.exec) (hb : c.code = Y.2.1) (hk : aKt l Y p e R s m args below meth c cells slots Z D cy ad A k) (hi : aIn ls stk S) (hH : aHp D cy ad A S s.heap H locs) (hl : lv_has jl Y.2.2.1 (mL ad ls)) {i : Nat} (h : wSt Y.2.2.1 0 i k (pc + 2) ls stk S) (hd : decode Y.2.1 pc = .ok (.istore i, 2)) : W p l e R s m args below meth c H locs cells slots Z (F0 m pc jl (stk.map (mv ad))) :=
  s_st1 hx hb hk hi hH hl (by decide) h fun v r he _ h0 h2 _ hn hw => by subst he; obtain ⟨a, rfl⟩ := h0 rfl; exact lv_istore hx hb hd hl hn rfl hw
theorem s_istore_n (hx : p.tables.exec = Jvm.exec) (hb : c.code = Y.2.1) (hk : aKt l Y p e R s m args below meth c cells slots Z D cy ad A k) (hi : aIn ls stk S) (hH : aHp D cy ad A S s.heap H locs) (hl : lv_has jl Y.2.2.1 (mL ad ls)) {i : Fin 4} (h : wSt Y.2.2.1 0 i k (pc + 1) ls stk S) (hd : decode Y.2.1 pc = .ok (.istore_n i, 1)) : W p l e R s m args below meth c H locs cells slots Z (F0 m pc jl (stk.map (mv ad))) :=
  s_st1 hx hb hk hi hH hl (by decide) h fun v r he _ h0 h2 _ hn hw => by subst he; obtain ⟨a, rfl⟩ := h0 rfl; exact lv_istore_n hx hb hd rfl hl hn rfl hw
theorem s_astore (hx : p.tables.exec = Jvm.exec) (hb : c.code = Y.2.1) (hk : aKt l Y p e R s m args below meth c cells slots Z D cy ad A k) (hi : aIn ls stk S) (hH : aHp D cy ad A S s.heap H locs) (hl : lv_has jl Y.2.2.1 (mL ad ls)) {i : Nat} (h : wSt Y.2.2.1 2 i k (pc + 2) ls stk S) (hd : decode Y.2.1 pc = .ok (.astore i, 2)) : W p l e R s m args below meth c H locs cells slots Z (F0 m pc jl (stk.map (mv ad))) :=
  s_st1 hx hb hk hi hH hl (by decide) h fun v r he _ h0 h2 _ hn hw => by subst he; obtain ⟨a, rfl⟩ := h2 rfl; exact lv_astore hx hb hd hl hn rfl hw
theorem s_astore_n (hx : p.tables.exec = Jvm.exec) (hb : c.code = Y.2.1) (hk : aKt l Y p e R s m args below meth c cells slots Z D cy ad A k) (hi : aIn ls stk S) (hH : aHp D cy ad A S s.heap H locs) (hl : lv_has jl Y.2.2.1 (mL ad ls)) {i : Fin 4} (h : wSt Y.2.2.1 2 i k (pc + 1) ls stk S) (hd : decode Y.2.1 pc = .ok (.astore_n i, 1)) : W p l e R s m args below meth c H locs cells slots Z (F0 m pc jl (stk.map (mv ad))) :=
  s_st1 hx hb hk hi hH hl (by decide) h fun v r he _ h0 h2 _ hn hw => by subst he; obtain ⟨a, rfl⟩ := h2 rfl; exact lv_astore_n hx hb hd rfl hl hn rfl hw
theorem s_lstore (hx : p.tables.exec = Jvm.exec) (hb : c.code = Y.2.1) (hk : aKt l Y p e R s m args below meth c cells slots Z D cy ad A k) (hi : aIn ls stk S) (hH : aHp D cy ad A S s.heap H locs) (hl : lv_has jl Y.2.2.1 (mL ad ls)) {i : Nat} (h : wSt Y.2.2.1 1 i k (pc + 2) ls stk S) (hd : decode Y.2.1 pc = .ok (.lstore i, 2)) : W p l e R s m args below meth c H locs cells slots Z (F0 m pc jl (stk.map (mv ad))) := by
  unfold wSt at h
  split at h
  · rename_i q; cases q
  · rename_i a r _
    exact lv_lstore hx hb hd hl h.1 rfl (fun jl' hh => hk _ _ _ _ h.2 (hi.popd.set hi.top) H locs jl' hH (has_set2 rfl hh))
  · rename_i q; cases q
  · exact h.elim
theorem s_lstore_n (hx : p.tables.exec = Jvm.exec) (hb : c.code = Y.2.1) (hk : aKt l Y p e R s m args below meth c cells slots Z D cy ad A k) (hi : aIn ls stk S) (hH : aHp D cy ad A S s.heap H locs) (hl : lv_has jl Y.2.2.1 (mL ad ls)) {i : Fin 4} (h : wSt Y.2.2.1 1 i k (pc + 1) ls stk S) (hd : decode Y.2.1 pc = .ok (.lstore_n i, 1)) : W p l e R s m args below meth c H locs cells slots Z (F0 m pc jl (stk.map (mv ad))) := by
  unfold wSt at h
  split at h
  · rename_i q; cases q
  · rename_i a r _
    exact lv_lstore_n hx hb hd rfl hl h.1 rfl (fun jl' hh => hk _ _ _ _ h.2 (hi.popd.set hi.top) H locs jl' hH (has_set2 rfl hh))
  · rename_i q; cases q
  · exact h.elim
theorem s_push (hx : p.tables.exec = Jvm.exec) (hb : c.code = Y.2.1) (hk : aKt l Y p e R s m args below meth c cells slots Z D cy ad A k) (hi : aIn ls stk S) (hH : aHp D cy ad A S s.heap H locs) (hl : lv_has jl Y.2.2.1 (mL ad ls)) {pc' : Nat} (v : aV) (hv : aOk v) (h : k pc' ls (v :: stk) S) (hrow : W p l e R s m args below meth c H locs cells slots Z (F0 m pc' jl (mv ad v :: stk.map (mv ad))) → W p l e R s m args below meth c H locs cells slots Z (F0 m pc jl (stk.map (mv ad)))) : W p l e R s m args below meth c H locs cells slots Z (F0 m pc jl (stk.map (mv ad))) :=
  hrow (hk _ _ _ _ h (hi.push hv) H locs jl hH hl)
theorem s_i2 (hx : p.tables.exec = Jvm.exec) (hb : c.code = Y.2.1) (hk : aKt l Y p e R s m args below meth c cells slots Z D cy ad A k) (hi : aIn ls stk S) (hH : aHp D cy ad A S s.heap H locs) (hl : lv_has jl Y.2.2.1 (mL ad ls)) {f : Int → Int → Int} {pc' : Nat} (h : wI2 f k pc' ls stk S) (hf : ∀ a b, inI (f a b))
    (hrow : ∀ (a b : Int) (r : List Value), inI a → inI b → W p l e R s m args below meth c H locs cells slots Z (F0 m pc' jl (.int (Int32.ofInt (f a b)) :: r)) → W p l e R s m args below meth c H locs cells slots Z (F0 m pc jl (.int (Int32.ofInt b) :: .int (Int32.ofInt a) :: r))) : W p l e R s m args below meth c H locs cells slots Z (F0 m pc jl (stk.map (mv ad))) := by
  unfold wI2 at h
  split at h
  · rename_i b a r
    exact hrow a b _ hi.popd.top hi.top (hk _ _ _ _ h (hi.popd.popd.push (hf a b)) H locs jl hH hl)
  · exact h.elim
theorem s_d2 (hx : p.tables.exec = Jvm.exec) (hb : c.code = Y.2.1) (hk : aKt l Y p e R s m args below meth c cells slots Z D cy ad A k) (hi : aIn ls stk S) (hH : aHp D cy ad A S s.heap H locs) (hl : lv_has jl Y.2.2.1 (mL ad ls)) {f : Int → Int → Int} {pc' : Nat} (h : wD2 f k pc' ls stk S) (hf : ∀ a b, inI (f a b))
    (hrow : ∀ (a b : Int) (r : List Value), inI a → inI b → b ≠ 0 → W p l e R s m args below meth c H locs cells slots Z (F0 m pc' jl (.int (Int32.ofInt (f a b)) :: r)) → W p l e R s m args below meth c H locs cells slots Z (F0 m pc jl (.int (Int32.ofInt b) :: .int (Int32.ofInt a) :: r))) : W p l e R s m args below meth c H locs cells slots Z (F0 m pc jl (stk.map (mv ad))) := by
  unfold wD2 at h
  split at h
  · rename_i b a r
    exact hrow a b _ hi.popd.top hi.top h.1 (hk _ _ _ _ h.2 (hi.popd.popd.push (hf a b)) H locs jl hH hl)
  · exact h.elim
theorem s_l2 (hx : p.tables.exec = Jvm.exec) (hb : c.code = Y.2.1) (hk : aKt l Y p e R s m args below meth c cells slots Z D cy ad A k) (hi : aIn ls stk S) (hH : aHp D cy ad A S s.heap H locs) (hl : lv_has jl Y.2.2.1 (mL ad ls)) {f : Int → Int → Int} {pc' : Nat} (h : wL2 f k pc' ls stk S) (hf : ∀ a b, inL (f a b))
    (hrow : ∀ (a b : Int) (r : List Value), inL a → inL b → W p l e R s m args below meth c H locs cells slots Z (F0 m pc' jl (.long (Int64.ofInt (f a b)) :: r)) → W p l e R s m args below meth c H locs cells slots Z (F0 m pc jl (.long (Int64.ofInt b) :: .long (Int64.ofInt a) :: r))) : W p l e R s m args below meth c H locs cells slots Z (F0 m pc jl (stk.map (mv ad))) := by
  unfold wL2 at h
  split at h
  · rename_i b a r
    exact hrow a b _ hi.popd.top hi.top (hk _ _ _ _ h (hi.popd.popd.push (hf a b)) H locs jl hH hl)
  · exact h.elim
theorem s_li2 (hx : p.tables.exec = Jvm.exec) (hb : c.code = Y.2.1) (hk : aKt l Y p e R s m args below meth c cells slots Z D cy ad A k) (hi : aIn ls stk S) (hH : aHp D cy ad A S s.heap H locs) (hl : lv_has jl Y.2.2.1 (mL ad ls)) {f : Int → Int → Int} {pc' : Nat} (h : wLI2 f k pc' ls stk S) (hf : ∀ a b, inL (f a b))
    (hrow : ∀ (a b : Int) (r : List Value), inL a → inI b → W p l e R s m args below meth c H locs cells slots Z (F0 m pc' jl (.long (Int64.ofInt (f a b)) :: r)) → W p l e R s m args below meth c H locs cells slots Z (F0 m pc jl (.int (Int32.ofInt b) :: .long (Int64.ofInt a) :: r))) : W p l e R s m args below meth c H locs cells slots Z (F0 m pc jl (stk.map (mv ad))) := by
  unfold wLI2 at h
  split at h
  · rename_i b a r
    exact hrow a b _ hi.popd.top hi.top (hk _ _ _ _ h (hi.popd.popd.push (hf a b)) H locs jl hH hl)
  · exact h.elim
theorem s_lcmp (hx : p.tables.exec = Jvm.exec) (hb : c.code = Y.2.1) (hk : aKt l Y p e R s m args below meth c cells slots Z D cy ad A k) (hi : aIn ls stk S) (hH : aHp D cy ad A S s.heap H locs) (hl : lv_has jl Y.2.2.1 (mL ad ls)) (h : wCmp k (pc + 1) ls stk S) (hd : decode Y.2.1 pc = .ok (.lcmp, 1)) : W p l e R s m args below meth c H locs cells slots Z (F0 m pc jl (stk.map (mv ad))) := by
  unfold wCmp at h
  split at h
  · rename_i b a r
    refine W.lcmp hx hb hd ?_
    rw [o_cmp hi.popd.top hi.top]
    exact hk _ _ _ _ h (hi.popd.popd.push (inI_lCmp a b)) H locs jl hH hl
  · exact h.elim
theorem s_i2l (hx : p.tables.exec = Jvm.exec) (hb : c.code = Y.2.1) (hk : aKt l Y p e R s m args below meth c cells slots Z D cy ad A k) (hi : aIn ls stk S) (hH : aHp D cy ad A S s.heap H locs) (hl : lv_has jl Y.2.2.1 (mL ad ls)) (h : wI2L k (pc + 1) ls stk S) (hd : decode Y.2.1 pc = .ok (.i2l, 1)) : W p l e R s m args below meth c H locs cells slots Z (F0 m pc jl (stk.map (mv ad))) := by
  unfold wI2L at h
  split at h
  · rename_i a r
    have h1 : inI a := hi.top
    refine lv_i2l (v := Int64.ofInt a) hx hb hd ?_ (hk _ _ _ _ h (hi.popd.push (v := .inr (.inl a)) (show inL a by unfold inI at h1; unfold inL; omega)) H locs jl hH hl)
    rw [← Int64.toInt_inj, Int32.toInt_toInt64, ofI_toInt h1, ofL_toInt (by unfold inI at h1; unfold inL; omega)]
  · exact h.elim
theorem s_l2i (hx : p.tables.exec = Jvm.exec) (hb : c.code = Y.2.1) (hk : aKt l Y p e R s m args below meth c cells slots Z D cy ad A k) (hi : aIn ls stk S) (hH : aHp D cy ad A S s.heap H locs) (hl : lv_has jl Y.2.2.1 (mL ad ls)) (h : wL2I k (pc + 1) ls stk S) (hd : decode Y.2.1 pc = .ok (.l2i, 1)) : W p l e R s m args below meth c H locs cells slots Z (F0 m pc jl (stk.map (mv ad))) := by
  unfold wL2I at h
  split at h
  · rename_i a r
    have h1 : inL a := hi.top
    refine lv_l2i (v := Int32.ofInt (wI a)) hx hb hd ?_ (hk _ _ _ _ h (hi.popd.push (v := .inl (wI a)) (inI_wI a)) H locs jl hH hl)
    rw [of_wI, ← Int32.toInt_inj, Int64.toInt_toInt32, ofL_toInt h1, Int32.toInt_ofInt]
  · exact h.elim
theorem s_i2b (hx : p.tables.exec = Jvm.exec) (hb : c.code = Y.2.1) (hk : aKt l Y p e R s m args below meth c cells slots Z D cy ad A k) (hi : aIn ls stk S) (hH : aHp D cy ad A S s.heap H locs) (hl : lv_has jl Y.2.2.1 (mL ad ls)) (h : wI2B k (pc + 1) ls stk S) (hd : decode Y.2.1 pc = .ok (.i2b, 1)) : W p l e R s m args below meth c H locs cells slots Z (F0 m pc jl (stk.map (mv ad))) := by
  unfold wI2B at h
  split at h
  · rename_i a r
    exact lv_i2b (v := Int32.ofInt ((Int32.ofInt a).toInt8.toInt32).toInt) hx hb hd (by rw [of_toI]) (hk _ _ _ _ h (hi.popd.push (v := .inl _) (inI_toInt _)) H locs jl hH hl)
  · exact h.elim
theorem s_dup (hx : p.tables.exec = Jvm.exec) (hb : c.code = Y.2.1) (hk : aKt l Y p e R s m args below meth c cells slots Z D cy ad A k) (hi : aIn ls stk S) (hH : aHp D cy ad A S s.heap H locs) (hl : lv_has jl Y.2.2.1 (mL ad ls)) (h : wDup k (pc + 1) ls stk S) (hd : decode Y.2.1 pc = .ok (.dup, 1)) : W p l e R s m args below meth c H locs cells slots Z (F0 m pc jl (stk.map (mv ad))) := by
  unfold wDup at h
  split at h
  · exact lv_dup hx hb hd rfl (hk _ _ _ _ h (hi.push hi.top) H locs jl hH hl)
  · exact lv_dup hx hb hd rfl (hk _ _ _ _ h (hi.push hi.top) H locs jl hH hl)
  · exact h.elim
theorem s_dup2 (hx : p.tables.exec = Jvm.exec) (hb : c.code = Y.2.1) (hk : aKt l Y p e R s m args below meth c cells slots Z D cy ad A k) (hi : aIn ls stk S) (hH : aHp D cy ad A S s.heap H locs) (hl : lv_has jl Y.2.2.1 (mL ad ls)) (h : wDup2 k (pc + 1) ls stk S) (hd : decode Y.2.1 pc = .ok (.dup2, 1)) : W p l e R s m args below meth c H locs cells slots Z (F0 m pc jl (stk.map (mv ad))) := by
  unfold wDup2 at h
  split at h
  · exact lv_dup2_11 hx hb hd rfl rfl (hk _ _ _ _ h ((hi.push hi.popd.top).push hi.top) H locs jl hH hl)
  · exact h.elim
theorem s_pop (hx : p.tables.exec = Jvm.exec) (hb : c.code = Y.2.1) (hk : aKt l Y p e R s m args below meth c cells slots Z D cy ad A k) (hi : aIn ls stk S) (hH : aHp D cy ad A S s.heap H locs) (hl : lv_has jl Y.2.2.1 (mL ad ls)) (h : wPop k (pc + 1) ls stk S) (hd : decode Y.2.1 pc = .ok (.pop, 1)) : W p l e R s m args below meth c H locs cells slots Z (F0 m pc jl (stk.map (mv ad))) := by
  unfold wPop at h
  split at h
  · exact lv_pop hx hb hd rfl (hk _ _ _ _ h hi.popd H locs jl hH hl)
  · exact h.elim
theorem s_iinc (hx : p.tables.exec = Jvm.exec) (hb : c.code = Y.2.1) (hk : aKt l Y p e R s m args below meth c cells slots Z D cy ad A k) (hi : aIn ls stk S) (hH : aHp D cy ad A S s.heap H locs) (hl : lv_has jl Y.2.2.1 (mL ad ls)) {i : Nat} {n : Int} (h : wInc Y.2.2.1 i n k (pc + 3) ls stk S) (hd : decode Y.2.1 pc = .ok (.iinc i n, 3)) : W p l e R s m args below meth c H locs cells slots Z (F0 m pc jl (stk.map (mv ad))) := by
  unfold wInc at h
  split at h
  · rename_i a hg
    have hm : (i, mv ad (.inl a)) ∈ mL ad ls := List.mem_map.mpr ⟨_, lget_mem hg, rfl⟩
    obtain ⟨q, hq⟩ := List.getElem?_of_mem hm
    exact lv_iinc (v := Int32.ofInt (wI (a + n))) hx hb hd hl hq (by rw [o_add]) h.1 rfl (fun jl' hh => hk _ _ _ _ h.2 (hi.set (inI_wI _)) H locs jl' hH (has_set1 (v := .inl (wI (a + n))) rfl hh))
  · exact h.elim
theorem s_J (hx : p.tables.exec = Jvm.exec) (hb : c.code = Y.2.1) (hk : aKt l Y p e R s m args below meth c cells slots Z D cy ad A k) (hi : aIn ls stk S) (hH : aHp D cy ad A S s.heap H locs) (hl : lv_has jl Y.2.2.1 (mL ad ls)) {off : Int} (h : wJ k pc off ls stk S) : ∃ t : Nat, (pc : Int) + off = (t : Int) ∧ W p l e R s m args below meth c H locs cells slots Z (F0 m t jl (stk.map (mv ad))) := by
  unfold wJ at h
  split at h
  · rename_i t ht
    exact ⟨t, jt_eq ht, hk _ _ _ _ h hi H locs jl hH hl⟩
  · exact h.elim
theorem s_goto (hx : p.tables.exec = Jvm.exec) (hb : c.code = Y.2.1) (hk : aKt l Y p e R s m args below meth c cells slots Z D cy ad A k) (hi : aIn ls stk S) (hH : aHp D cy ad A S s.heap H locs) (hl : lv_has jl Y.2.2.1 (mL ad ls)) {off : Int} (h : wJ k pc off ls stk S) (hd : decode Y.2.1 pc = .ok (.goto off, 3)) : W p l e R s m args below meth c H locs cells slots Z (F0 m pc jl (stk.map (mv ad))) := by
  obtain ⟨t, ht, hw⟩ := s_J hx hb hk hi hH hl h
  exact lv_goto hx hb hd ht hw
theorem s_if (hx : p.tables.exec = Jvm.exec) (hb : c.code = Y.2.1) (hk : aKt l Y p e R s m args below meth c cells slots Z D cy ad A k) (hi : aIn ls stk S) (hH : aHp D cy ad A S s.heap H locs) (hl : lv_has jl Y.2.2.1 (mL ad ls)) {cd : Jvm.ClassFile.Cond} {off : Int} (h : wIf (cN cd) (jt pc off) k pc ls stk S) (hd : decode Y.2.1 pc = .ok (.ifCond cd off, 3)) : W p l e R s m args below meth c H locs cells slots Z (F0 m pc jl (stk.map (mv ad))) := by
  have hK : ∀ (t : Nat) (r : List aV), aIn ls r S → k t ls r S → W p l e R s m args below meth c H locs cells slots Z (F0 m t jl (r.map (mv ad))) := fun t r hi' hw => hk _ _ _ _ hw hi' H locs jl hH hl
  generalize hj : jt pc off = jo at h
  rcases stk with _ | ⟨a | a | a, r⟩ <;> rcases jo with _ | t <;> cases cd <;> first | exact False.elim h | skip
  · have h : (a = 0 → k t ls r S) ∧ (¬ a = 0 → k (pc + 3) ls r S) := h
    exact lv_if_eq hx hb hd (jt_eq hj) (fun q => hK t r hi.popd (h.1 ((c_eq0 hi.top).mp q))) (fun q => hK (pc + 3) r hi.popd (h.2 (fun z => q ((c_eq0 hi.top).mpr z))))
  · have h : (¬ a = 0 → k t ls r S) ∧ (a = 0 → k (pc + 3) ls r S) := h
    exact lv_if_ne hx hb hd (jt_eq hj) (fun q => hK t r hi.popd (h.1 (fun z => q ((c_eq0 hi.top).mpr z)))) (fun q => hK (pc + 3) r hi.popd (h.2 ((c_eq0 hi.top).mp q)))
  · have h : (a < 0 → k t ls r S) ∧ (¬ a < 0 → k (pc + 3) ls r S) := h
    exact lv_if_lt hx hb hd (jt_eq hj) (fun q => hK t r hi.popd (h.1 ((c_lt0 hi.top).mp q))) (fun q => hK (pc + 3) r hi.popd (h.2 (fun z => q ((c_lt0 hi.top).mpr z))))
  · have h : (0 ≤ a → k t ls r S) ∧ (¬ 0 ≤ a → k (pc + 3) ls r S) := h
    exact lv_if_ge hx hb hd (jt_eq hj) (fun q => hK t r hi.popd (h.1 ((c_ge0 hi.top).mp q))) (fun q => hK (pc + 3) r hi.popd (h.2 (fun z => q ((c_ge0 hi.top).mpr z))))
  · have h : (0 < a → k t ls r S) ∧ (¬ 0 < a → k (pc + 3) ls r S) := h
    exact lv_if_gt hx hb hd (jt_eq hj) (fun q => hK t r hi.popd (h.1 ((c_gt0 hi.top).mp q))) (fun q => hK (pc + 3) r hi.popd (h.2 (fun z => q ((c_gt0 hi.top).mpr z))))
  · have h : (a ≤ 0 → k t ls r S) ∧ (¬ a ≤ 0 → k (pc + 3) ls r S) := h
    exact lv_if_le hx hb hd (jt_eq hj) (fun q => hK t r hi.popd (h.1 ((c_le0 hi.top).mp q))) (fun q => hK (pc + 3) r hi.popd (h.2 (fun z => q ((c_le0 hi.top).mpr z))))
theorem s_ic (hx : p.tables.exec = Jvm.exec) (hb : c.code = Y.2.1) (hk : aKt l Y p e R s m args below meth c cells slots Z D cy ad A k) (hi : aIn ls stk S) (hH : aHp D cy ad A S s.heap H locs) (hl : lv_has jl Y.2.2.1 (mL ad ls)) {cd : Jvm.ClassFile.Cond} {off : Int} (h : wIc (cN cd) (jt pc off) k pc ls stk S) (hd : decode Y.2.1 pc = .ok (.if_icmp cd off, 3)) : W p l e R s m args below meth c H locs cells slots Z (F0 m pc jl (stk.map (mv ad))) := by
  have hK : ∀ (t : Nat) (r : List aV), aIn ls r S → k t ls r S → W p l e R s m args below meth c H locs cells slots Z (F0 m t jl (r.map (mv ad))) := fun t r hi' hw => hk _ _ _ _ hw hi' H locs jl hH hl
  generalize hj : jt pc off = jo at h
  rcases stk with _ | ⟨b | b | b, _ | ⟨a | a | a, r⟩⟩ <;> rcases jo with _ | t <;> cases cd <;> first | exact False.elim h | skip
  · have h : (a = b → k t ls r S) ∧ (¬ a = b → k (pc + 3) ls r S) := h
    exact lv_icmp_eq hx hb hd (jt_eq hj) (fun q => hK t r hi.popd.popd (h.1 ((c_eq hi.popd.top hi.top).mp q))) (fun q => hK (pc + 3) r hi.popd.popd (h.2 (fun z => q ((c_eq hi.popd.top hi.top).mpr z))))
  · have h : (¬ a = b → k t ls r S) ∧ (a = b → k (pc + 3) ls r S) := h
    exact lv_icmp_ne hx hb hd (jt_eq hj) (fun q => hK t r hi.popd.popd (h.1 (fun z => q ((c_eq hi.popd.top hi.top).mpr z)))) (fun q => hK (pc + 3) r hi.popd.popd (h.2 ((c_eq hi.popd.top hi.top).mp q)))
  · have h : (a < b → k t ls r S) ∧ (¬ a < b → k (pc + 3) ls r S) := h
    exact lv_icmp_lt hx hb hd (jt_eq hj) (fun q => hK t r hi.popd.popd (h.1 ((c_lt hi.popd.top hi.top).mp q))) (fun q => hK (pc + 3) r hi.popd.popd (h.2 (fun z => q ((c_lt hi.popd.top hi.top).mpr z))))
  · have h : (b ≤ a → k t ls r S) ∧ (¬ b ≤ a → k (pc + 3) ls r S) := h
    exact lv_icmp_ge hx hb hd (jt_eq hj) (fun q => hK t r hi.popd.popd (h.1 ((c_le hi.top hi.popd.top).mp q))) (fun q => hK (pc + 3) r hi.popd.popd (h.2 (fun z => q ((c_le hi.top hi.popd.top).mpr z))))
  · have h : (b < a → k t ls r S) ∧ (¬ b < a → k (pc + 3) ls r S) := h
    exact lv_icmp_gt hx hb hd (jt_eq hj) (fun q => hK t r hi.popd.popd (h.1 ((c_lt hi.top hi.popd.top).mp q))) (fun q => hK (pc + 3) r hi.popd.popd (h.2 (fun z => q ((c_lt hi.top hi.popd.top).mpr z))))
  · have h : (a ≤ b → k t ls r S) ∧ (¬ a ≤ b → k (pc + 3) ls r S) := h
    exact lv_icmp_le hx hb hd (jt_eq hj) (fun q => hK t r hi.popd.popd (h.1 ((c_le hi.popd.top hi.top).mp q))) (fun q => hK (pc + 3) r hi.popd.popd (h.2 (fun z => q ((c_le hi.popd.top hi.top).mpr z))))
theorem s_J2 (hx : p.tables.exec = Jvm.exec) (hb : c.code = Y.2.1) (hk : aKt l Y p e R s m args below meth c cells slots Z D cy ad A k) (hi : aIn ls stk S) (hH : aHp D cy ad A S s.heap H locs) (hl : lv_has jl Y.2.2.1 (mL ad ls)) {off : Int} {r : List aV} (hr : aIn ls r S) (h : wJ k pc off ls r S) : ∃ t : Nat, (pc : Int) + off = (t : Int) ∧ W p l e R s m args below meth c H locs cells slots Z (F0 m t jl (r.map (mv ad))) := by
  unfold wJ at h
  split at h
  · rename_i t ht
    exact ⟨t, jt_eq ht, hk _ _ _ _ h hr H locs jl hH hl⟩
  · exact h.elim
theorem tsw_spec {a : Int} {r : List aV} : ∀ (os : List Int) (v : Int), tsw k pc a ls r S v os → ∀ (n : Nat) (off : Int), os[n]? = some off → a = v + n → wJ k pc off ls r S
  | [], _, _, _, _, h, _ => by simp at h
  | o :: os, v, h, 0, off, h1, h2 => by
    simp at h1
    subst h1
    exact h.1 (by simpa using h2)
  | o :: os, v, h, n + 1, off, h1, h2 => tsw_spec os (v + 1) h.2 n off (by simpa using h1) (by rw [h2]; push_cast; omega)
theorem s_tsw (hx : p.tables.exec = Jvm.exec) (hb : c.code = Y.2.1) (hk : aKt l Y p e R s m args below meth c cells slots Z D cy ad A k) (hi : aIn ls stk S) (hH : aHp D cy ad A S s.heap H locs) (hl : lv_has jl Y.2.2.1 (mL ad ls)) {d lo hi' : Int} {offs : Array Int} {len : Nat} (h : wTsw d lo hi' offs.toList k pc ls stk S) (hd : decode Y.2.1 pc = .ok (.tableswitch d lo hi' offs, len)) : W p l e R s m args below meth c H locs cells slots Z (F0 m pc jl (stk.map (mv ad))) := by
  rcases stk with _ | ⟨a | a | a, r⟩
  · exact False.elim h
  · have h : (hi' - lo < (offs.toList.length : Int)) ∧ (a < lo ∨ hi' < a → wJ k pc d ls r S) ∧ tsw k pc a ls r S lo offs.toList := h
    have ha : (Int32.ofInt a).toInt = a := ofI_toInt hi.top
    by_cases hc : a < lo ∨ hi' < a
    · obtain ⟨t, ht, hw⟩ := s_J2 hx hb hk hi hH hl hi.popd (h.2.1 hc)
      exact lv_tableOut hx hb hd (by rw [ha]; exact hc) ht hw
    · have hlt : (a - lo).toNat < offs.toList.length := by omega
      have hg : offs.toList[(a - lo).toNat]? = some (offs.toList[(a - lo).toNat]) := List.getElem?_eq_getElem hlt
      obtain ⟨t, ht, hw⟩ := s_J2 hx hb hk hi hH hl hi.popd (tsw_spec _ _ h.2.2 (a - lo).toNat _ hg (by omega))
      exact lv_tableIn hx hb hd (by rw [ha]; omega) (by rw [ha]; omega) (by rw [ha, ← Array.getElem?_toList]; exact hg) ht hw
  · exact False.elim h
  · exact False.elim h
end SOUND2
end
section
theorem inI_narB (a : Int) : inI (narB a) := inI_toInt _
theorem inI_narZ (a : Int) : inI (narZ a) := inI_toInt _
theorem toN {j : Int} (h : inI j) (h0 : 0 ≤ j) : (Int32.ofInt j).toNatClampNeg = j.toNat := by
  rw [Int32.toNatClampNeg, ofI_toInt h]
theorem vp_in_j {j : Int} {n : Nat} (h : inI j) (h0 : 0 ≤ j) (h1 : j < n) : vp_in (Int32.ofInt j) n := by
  intro q
  rw [toN h h0, c_lt0 h] at q
  omega
theorem ly_obj {a ci : Nat} (h : lyC a = some ci) : ∃ fs, LY a = .inl (ci, fs) := by
  unfold lyC at h
  split at h
  · rename_i c fs he
    cases h
    exact ⟨fs, he⟩
  · cases h
theorem ly_arr {a : Nat} (h : lyT a ≠ 9) : LY a = .inr (lyT a, lyN a, lyB a) := by
  unfold lyT at h
  unfold lyT lyN lyB
  split at h
  · exact absurd rfl h
  · rename_i he
    rw [he]
theorem mIdx_set {ad : Nat → Nat} {S : aS} {a f : Nat} {v : Int} {fs : List (Option Nat)} (hf : fs[f]? = some none) : fs.mapIdx (aFv ad (upI S a f v) a) = (fs.mapIdx (aFv ad S a)).set f (.int (Int32.ofInt v)) := by
  apply List.ext_getElem?
  intro j
  rw [List.getElem?_set, List.getElem?_mapIdx, List.getElem?_mapIdx, List.length_mapIdx]
  by_cases h : f = j
  · subst h
    have hl : f < fs.length := (List.getElem?_eq_some_iff.mp hf).1
    rw [if_pos rfl, if_pos hl, hf]
    simp [aFv, upI, up2]
  · rw [if_neg h]
    cases fs[j]? with
    | none => rfl
    | some x =>
      show some _ = some _
      rw [aFv_upI (fun q => h q.2.symm)]
section SOUND3
variable {l : Launch} {Y : aM} {p : Program} {e : Env} {R : Room} {s : State} {m : MethodId} {args : Array Value} {below : List Frame} {meth : Method} {c : Code} {cells slots : Nat} {Z : State → Prop} {D : va_G} {cy : Nat → ClassId} {ad : Nat → Nat} {A : Nat → Prop}
variable {k : aK} {pc : Nat} {ls : aL} {stk : List aV} {S : aS} {H : Heap} {locs : List Loc} {jl : Array Slot}
theorem lsw_spec {a d : Int} {r : List aV} : ∀ (ps : List (Int × Int)), lsw k pc a ls r S d ps → wJ k pc (Op.lookupswitch.offset ps d a) ls r S
  | [], h => h
  | (v, o) :: os, h => by
    rw [Op.lookupswitch.offset_cons]
    by_cases hv : v = a
    · rw [if_pos hv]; exact h.1 hv.symm
    · rw [if_neg hv]; exact lsw_spec os (h.2 (fun q => hv q.symm))
theorem s_lsw (hx : p.tables.exec = Jvm.exec) (hb : c.code = Y.2.1) (hk : aKt l Y p e R s m args below meth c cells slots Z D cy ad A k) (hi : aIn ls stk S) (hH : aHp D cy ad A S s.heap H locs) (hl : lv_has jl Y.2.2.1 (mL ad ls)) {d : Int} {ps : Array (Int × Int)} {len : Nat} (h : wLsw d ps k pc ls stk S) (hd : decode Y.2.1 pc = .ok (.lookupswitch d ps, len)) : W p l e R s m args below meth c H locs cells slots Z (F0 m pc jl (stk.map (mv ad))) := by
  rcases stk with _ | ⟨a | a | a, r⟩
  · exact False.elim h
  · have h : (ps.toList.zip (ps.toList.drop 1)).all (fun (a, next) => a.1 < next.1) = true ∧ lsw k pc a ls r S d ps.toList := h
    have ha : (Int32.ofInt a).toInt = a := ofI_toInt hi.top
    obtain ⟨t, ht, hw⟩ := s_J2 hx hb hk hi hH hl hi.popd (lsw_spec _ h.2)
    exact lv_lookup hx hb hd h.1 (by rw [ha]) ht hw
  · exact False.elim h
  · exact False.elim h
theorem s_get (hx : p.tables.exec = Jvm.exec) (hb : c.code = Y.2.1) (hk : aKt l Y p e R s m args below meth c cells slots Z D cy ad A k) (hi : aIn ls stk S) (hH : aHp D cy ad A S s.heap H locs) (hl : lv_has jl Y.2.2.1 (mL ad ls)) (hKK : aKK D cy s) (hown : s.vm.findClass Y.1.cls = some m.cls) (hts : ∀ w ∈ gw, w.before args s = true) {idx : Nat} {fo : Option (Nat × Nat)} (hfo : ∀ ci f, fo = some (ci, f) → fOK Y.1.cls idx ci f) (h : wGet fo k (pc + 3) ls stk S) (hd : decode Y.2.1 pc = .ok (.getfield idx, 3)) : W p l e R s m args below meth c H locs cells slots Z (F0 m pc jl (stk.map (mv ad))) := by
  have hK := hKK.1
  unfold wGet at h
  split at h
  · rename_i ci f a r
    obtain ⟨haN, hC, h⟩ := h
    obtain ⟨C, T, N, hcl, hf, hin, hlink⟩ := hfo ci f rfl
    obtain ⟨fs, hLY⟩ := ly_obj hC
    have hgo : ∀ v : aV, aOk v → k (pc + 3) ls (v :: r) S → (fs.mapIdx (aFv ad S a))[f]? = some (mv ad v) → W p l e R s m args below meth c H locs cells slots Z (F0 m pc jl (.ref (ad a) :: r.map (mv ad))) := by
      intro v hv hkk hfs
      have he : (aW cy ad S)[a]? = some (ad a, .inr (ci, fs.mapIdx (aFv ad S a))) := by rw [aW_get haN, hLY]; rfl
      have hw := hk _ _ _ _ hkk (hi.popd.push hv) H locs jl hH hl
      rcases hlink with hlink | ⟨host, hlink⟩
      · exact va_get hx hb hts hin hown hK hH.1 a he hcl f hf (hts _ hlink) (fun _ h9 => h9) hfs hd hw
      · exact va_getN hx hb hts hin hown hK hH.1 a he hcl f hf (va_Nw.use rfl (hKK.2 _ hlink)) (fun _ h9 => h9) hfs hd hw
    have hFl : lyF a f = fs[f]? := by unfold lyF; rw [hLY]
    split at h
    · rename_i b hb'
      rw [hFl] at hb'
      exact hgo (.inr (.inr b)) trivial h (by rw [List.getElem?_mapIdx, hb']; rfl)
    · rename_i hb'
      rw [hFl] at hb'
      exact hgo (.inl (S.1 a f)) (hi.1.1 a f) h (by rw [List.getElem?_mapIdx, hb']; rfl)
    · exact h.elim
  · exact h.elim
theorem s_put (hx : p.tables.exec = Jvm.exec) (hb : c.code = Y.2.1) (hk : aKt l Y p e R s m args below meth c cells slots Z D cy ad A k) (hi : aIn ls stk S) (hH : aHp D cy ad A S s.heap H locs) (hl : lv_has jl Y.2.2.1 (mL ad ls)) (hKK : aKK D cy s) (hown : s.vm.findClass Y.1.cls = some m.cls) (hts : ∀ w ∈ gw, w.before args s = true) {idx : Nat} {fo : Option (Nat × Nat)} (hfo : ∀ ci f, fo = some (ci, f) → fOK Y.1.cls idx ci f ∧ fPk ci f) (h : wPut fo k (pc + 3) ls stk S) (hd : decode Y.2.1 pc = .ok (.putfield idx, 3)) : W p l e R s m args below meth c H locs cells slots Z (F0 m pc jl (stk.map (mv ad))) := by
  have hK := hKK.1
  unfold wPut at h
  split at h
  · rename_i ci f v a r
    obtain ⟨haN, hC, h⟩ := h
    obtain ⟨⟨C, T, N, hcl, hf, hin, hlink⟩, C', T', N', ty0, hcl', hfin, hpd, hty, hnm⟩ := hfo ci f rfl
    rw [hcl] at hcl'
    cases hcl'
    obtain ⟨fs, hLY⟩ := ly_obj hC
    have hFl : lyF a f = fs[f]? := by unfold lyF; rw [hLY]
    split at h
    · rename_i hb'
      rw [hFl] at hb'
      have he : (aW cy ad S)[a]? = some (ad a, .inr (ci, fs.mapIdx (aFv ad S a))) := by rw [aW_get haN, hLY]; rfl
      have hlen : f < (fs.mapIdx (aFv ad S a)).length := by rw [List.length_mapIdx]; exact (List.getElem?_eq_some_iff.mp hb').1
      have hset : (aW cy ad S).set a (ad a, .inr (ci, (fs.mapIdx (aFv ad S a)).set f (.int (Int32.ofInt v)))) = aW cy ad (upI S a f v) := by
        refine aW_set haN ?_ (fun j hj => aE_upI hj _)
        rw [hLY]
        show Sum.inr (ci, _) = _
        rw [mIdx_set hb']
      have hw : ∀ (H1 : Heap) (locs1 : List Loc), va_P D vwCl ((aW cy ad S).set a (ad a, .inr (ci, (fs.mapIdx (aFv ad S a)).set f (.int (Int32.ofInt v))))) H1 → va_D A ((aW cy ad S).set a (ad a, .inr (ci, (fs.mapIdx (aFv ad S a)).set f (.int (Int32.ofInt v))))) → va_S A s.heap H1 locs1 → W p l e R s m args below meth c H1 locs1 cells slots Z (F0 m (pc + 3) jl (r.map (mv ad))) := by
        intro H1 locs1 g1 g2 g3
        rw [hset] at g1 g2
        have hi' := hi.popd.popd
        exact hk _ _ _ _ h ⟨hi'.1.upI hi.top, hi'.2⟩ H1 locs1 jl ⟨g1, g2, g3⟩ hl
      rcases hlink with hlink | ⟨host, hlink⟩
      · exact va_put hx hb hts hin ty0 hty hnm hown hK hH.1 hH.2.1 hH.2.2 a he hcl f hf (hts _ hlink) (fun _ h9 => h9) hfin hpd rfl rfl hlen hd hw
      · exact va_putN hx hb hts hin ty0 hty hnm hown hK hH.1 hH.2.1 hH.2.2 a he hcl f hf (va_Nw.use rfl (hKK.2 _ hlink)) (fun _ h9 => h9) hfin hpd rfl rfl hlen hd hw
    · exact h.elim
  · exact h.elim
theorem aE_i {a : Nat} (h : lyT a < 3) : aE cy ad S a (LY a) = .inl (cy (lyT a), lyN a, .inl (fun j => Int32.ofInt (S.1 a j))) := by
  rw [ly_arr (by omega)]
  show Sum.inl (_, _, ite _ _ _) = _
  rw [if_neg (by omega), if_pos h]
theorem aE_l {a : Nat} (h : lyT a = 3) : aE cy ad S a (LY a) = .inl (cy 3, lyN a, .inr (.inl (fun j => Int64.ofInt (S.2 a j)))) := by
  rw [ly_arr (by omega)]
  show Sum.inl (_, _, ite _ _ _) = _
  rw [if_pos h, h]
theorem aE_r {a : Nat} (h : lyT a = 4 ∨ lyT a = 5) : aE cy ad S a (LY a) = .inl (cy (lyT a), lyN a, .inr (.inr (.inr (.inr fun j => some (ad (lyB a + j)))))) := by
  rw [ly_arr (by omega)]
  show Sum.inl (_, _, ite _ _ _) = _
  rw [if_neg (by omega), if_neg (by omega)]
theorem s_iald (hx : p.tables.exec = Jvm.exec) (hb : c.code = Y.2.1) (hk : aKt l Y p e R s m args below meth c cells slots Z D cy ad A k) (hi : aIn ls stk S) (hH : aHp D cy ad A S s.heap H locs) (hl : lv_has jl Y.2.2.1 (mL ad ls)) (hKK : aKK D cy s) (hown : s.vm.findClass Y.1.cls = some m.cls) (hts : ∀ w ∈ gw, w.before args s = true) (h : wAld (fun t => t == 0) k (pc + 1) ls stk S) (hd : decode Y.2.1 pc = .ok (.iaload, 1)) : W p l e R s m args below meth c H locs cells slots Z (F0 m pc jl (stk.map (mv ad))) := by
  have hK := hKK.1
  unfold wAld at h
  split at h
  · rename_i j a r
    obtain ⟨haN, ht, h0, h1, h⟩ := h
    have ht : lyT a = 0 := by simpa using ht
    have hw := hk _ _ _ _ h (hi.popd.popd.push (v := .inl _) (hi.1.1 a j.toNat)) H locs jl hH hl
    refine va_iald (cA := cy 0) (n := lyN a) (f := fun j => Int32.ofInt (S.1 a j)) hx hb hK hH.1 a 0 ?_ rfl (vp_in_j hi.top h0 h1) hd ?_
    · rw [aW_get haN, aE_i (by omega), ht]
    · rw [toN hi.top h0]; exact hw
  · exact h.elim
theorem s_bald (hx : p.tables.exec = Jvm.exec) (hb : c.code = Y.2.1) (hk : aKt l Y p e R s m args below meth c cells slots Z D cy ad A k) (hi : aIn ls stk S) (hH : aHp D cy ad A S s.heap H locs) (hl : lv_has jl Y.2.2.1 (mL ad ls)) (hKK : aKK D cy s) (hown : s.vm.findClass Y.1.cls = some m.cls) (hts : ∀ w ∈ gw, w.before args s = true) (h : wAld (fun t => t == 1 || t == 2) k (pc + 1) ls stk S) (hd : decode Y.2.1 pc = .ok (.baload, 1)) : W p l e R s m args below meth c H locs cells slots Z (F0 m pc jl (stk.map (mv ad))) := by
  have hK := hKK.1
  unfold wAld at h
  split at h
  · rename_i j a r
    obtain ⟨haN, ht, h0, h1, h⟩ := h
    have ht : lyT a = 1 ∨ lyT a = 2 := by simpa using ht
    have hw := hk _ _ _ _ h (hi.popd.popd.push (v := .inl _) (hi.1.1 a j.toNat)) H locs jl hH hl
    rcases ht with ht | ht
    · refine va_bald (cA := cy 1) (n := lyN a) (f := fun j => Int32.ofInt (S.1 a j)) hx hb hK hH.1 a 1 ?_ rfl (vp_in_j hi.top h0 h1) hd ?_
      · rw [aW_get haN, aE_i (by omega), ht]
      · rw [toN hi.top h0]; exact hw
    · refine va_zald (cA := cy 2) (n := lyN a) (f := fun j => Int32.ofInt (S.1 a j)) hx hb hK hH.1 a 2 ?_ rfl (vp_in_j hi.top h0 h1) hd ?_
      · rw [aW_get haN, aE_i (by omega), ht]
      · rw [toN hi.top h0]; exact hw
  · exact h.elim
theorem s_lald (hx : p.tables.exec = Jvm.exec) (hb : c.code = Y.2.1) (hk : aKt l Y p e R s m args below meth c cells slots Z D cy ad A k) (hi : aIn ls stk S) (hH : aHp D cy ad A S s.heap H locs) (hl : lv_has jl Y.2.2.1 (mL ad ls)) (hKK : aKK D cy s) (hown : s.vm.findClass Y.1.cls = some m.cls) (hts : ∀ w ∈ gw, w.before args s = true) (h : wAll k (pc + 1) ls stk S) (hd : decode Y.2.1 pc = .ok (.laload, 1)) : W p l e R s m args below meth c H locs cells slots Z (F0 m pc jl (stk.map (mv ad))) := by
  have hK := hKK.1
  unfold wAll at h
  split at h
  · rename_i j a r
    obtain ⟨haN, ht, h0, h1, h⟩ := h
    have hw := hk _ _ _ _ h (hi.popd.popd.push (v := .inr (.inl _)) (hi.1.2 a j.toNat)) H locs jl hH hl
    refine va_lald (cA := cy 3) (n := lyN a) (f := fun j => Int64.ofInt (S.2 a j)) hx hb hK hH.1 a 3 ?_ rfl (vp_in_j hi.top h0 h1) hd ?_
    · rw [aW_get haN, aE_l ht]
    · rw [toN hi.top h0]; exact hw
  · exact h.elim
theorem s_aald (hx : p.tables.exec = Jvm.exec) (hb : c.code = Y.2.1) (hk : aKt l Y p e R s m args below meth c cells slots Z D cy ad A k) (hi : aIn ls stk S) (hH : aHp D cy ad A S s.heap H locs) (hl : lv_has jl Y.2.2.1 (mL ad ls)) (hKK : aKK D cy s) (hown : s.vm.findClass Y.1.cls = some m.cls) (hts : ∀ w ∈ gw, w.before args s = true) (h : wAlr k (pc + 1) ls stk S) (hd : decode Y.2.1 pc = .ok (.aaload, 1)) : W p l e R s m args below meth c H locs cells slots Z (F0 m pc jl (stk.map (mv ad))) := by
  have hK := hKK.1
  unfold wAlr at h
  split at h
  · rename_i j a r
    obtain ⟨haN, ht, h0, h1, h⟩ := h
    have hw := hk _ _ _ _ h (hi.popd.popd.push (v := .inr (.inr _)) trivial) H locs jl hH hl
    have he : (aW cy ad S)[a]? = some (ad a, .inl (cy (lyT a), lyN a, .inr (.inr (.inr (.inr fun j => some (ad (lyB a + j))))))) := by rw [aW_get haN, aE_r ht]
    have hin := vp_in_j hi.top h0 h1
    have hlt : (Int32.ofInt j).toNatClampNeg < lyN a := Nat.not_le.mp fun q => hin (Or.inr q)
    rcases ht with ht | ht
    · rw [ht] at he
      exact W.aald (v := va_rf (some (ad (lyB a + (Int32.ofInt j).toNatClampNeg)))) (ty := .array .int) hx hb (hH.1 a _ he) ((hK.2 4 (cy 4, .array .int) rfl).1 (lyN a) (fun j => va_rf (some (ad (lyB a + j))))) rfl (fun q => by cases q) (by show ¬ (Int32.ofInt j < 0 ∨ (arrV _ _ _).slots.size ≤ _); rw [arrV_size]; exact hin) (by show (arrV _ _ _).slots[_]? = _; rw [arrV_read _ _ hlt]) rfl rfl hd (by rw [toN hi.top h0]; exact hw)
    · rw [ht] at he
      exact W.aald (v := va_rf (some (ad (lyB a + (Int32.ofInt j).toNatClampNeg)))) (ty := .array .long) hx hb (hH.1 a _ he) ((hK.2 5 (cy 5, .array .long) rfl).1 (lyN a) (fun j => va_rf (some (ad (lyB a + j))))) rfl (fun q => by cases q) (by show ¬ (Int32.ofInt j < 0 ∨ (arrV _ _ _).slots.size ≤ _); rw [arrV_size]; exact hin) (by show (arrV _ _ _).slots[_]? = _; rw [arrV_read _ _ hlt]) rfl rfl hd (by rw [toN hi.top h0]; exact hw)
  · exact h.elim
theorem s_alen (hx : p.tables.exec = Jvm.exec) (hb : c.code = Y.2.1) (hk : aKt l Y p e R s m args below meth c cells slots Z D cy ad A k) (hi : aIn ls stk S) (hH : aHp D cy ad A S s.heap H locs) (hl : lv_has jl Y.2.2.1 (mL ad ls)) (hKK : aKK D cy s) (hown : s.vm.findClass Y.1.cls = some m.cls) (hts : ∀ w ∈ gw, w.before args s = true) (h : wAln k (pc + 1) ls stk S) (hd : decode Y.2.1 pc = .ok (.arraylength, 1)) : W p l e R s m args below meth c H locs cells slots Z (F0 m pc jl (stk.map (mv ad))) := by
  have hK := hKK.1
  unfold wAln at h
  split at h
  · rename_i a r
    obtain ⟨haN, ht, hN, h⟩ := h
    have hw := hk _ _ _ _ h (hi.popd.push (v := .inl _) (show inI (lyN a : Int) by unfold inI; omega)) H locs jl hH hl
    have he : ∃ x : vp_A, x.1 = lyN a ∧ (aW cy ad S)[a]? = some (ad a, .inl (cy (lyT a), x)) := by
      rw [aW_get haN, ly_arr (by omega)]
      exact ⟨_, rfl, rfl⟩
    obtain ⟨x, hx1, he⟩ := he
    have htt : ∃ ty, (aTys cy)[lyT a]? = some (cy (lyT a), ty) := by
      have h6 : lyT a = 0 ∨ lyT a = 1 ∨ lyT a = 2 ∨ lyT a = 3 ∨ lyT a = 4 ∨ lyT a = 5 := by omega
      rcases h6 with h6 | h6 | h6 | h6 | h6 | h6 <;> rw [h6] <;> exact ⟨_, rfl⟩
    obtain ⟨ty, htt⟩ := htt
    exact va_alen (v := Int32.ofInt (lyN a : Int)) hx hb hK hH.1 a (lyT a) he htt (by rw [hx1]; exact (Int32.ofInt_eq_ofNat).symm) hd hw
  · exact h.elim
theorem s_iast (hx : p.tables.exec = Jvm.exec) (hb : c.code = Y.2.1) (hk : aKt l Y p e R s m args below meth c cells slots Z D cy ad A k) (hi : aIn ls stk S) (hH : aHp D cy ad A S s.heap H locs) (hl : lv_has jl Y.2.2.1 (mL ad ls)) (hKK : aKK D cy s) (hown : s.vm.findClass Y.1.cls = some m.cls) (hts : ∀ w ∈ gw, w.before args s = true) (h : wAst k (pc + 1) ls stk S) (hd : decode Y.2.1 pc = .ok (.iastore, 1)) : W p l e R s m args below meth c H locs cells slots Z (F0 m pc jl (stk.map (mv ad))) := by
  have hK := hKK.1
  unfold wAst at h
  split at h
  · rename_i v j a r
    obtain ⟨haN, ht, h0, h1, h⟩ := h
    have he : (aW cy ad S)[a]? = some (ad a, .inl (cy 0, lyN a, .inl (fun j => Int32.ofInt (S.1 a j)))) := by rw [aW_get haN, aE_i (by omega), ht]
    have hset : (aW cy ad S).set a (ad a, .inl (cy 0, lyN a, .inl (upd (fun j => Int32.ofInt (S.1 a j)) (Int32.ofInt j).toNatClampNeg (Int32.ofInt v)))) = aW cy ad (upI S a j.toNat v) := by
      refine aW_set haN ?_ (fun j hj => aE_upI hj _)
      rw [aE_i (by omega), ht, toN hi.popd.top h0]
      congr 3
      congr 1
      funext q
      simp only [upI, up2, upd, true_and]
      split <;> rfl
    refine va_iast hx hb hK hH.1 hH.2.1 hH.2.2 a 0 he rfl (vp_in_j hi.popd.top h0 h1) hd (fun H1 locs1 g1 g2 g3 => ?_)
    rw [hset] at g1 g2
    have hi' := hi.popd.popd.popd
    exact hk _ _ _ _ h ⟨hi'.1.upI hi.top, hi'.2⟩ H1 locs1 jl ⟨g1, g2, g3⟩ hl
  · exact h.elim
theorem s_bast (hx : p.tables.exec = Jvm.exec) (hb : c.code = Y.2.1) (hk : aKt l Y p e R s m args below meth c cells slots Z D cy ad A k) (hi : aIn ls stk S) (hH : aHp D cy ad A S s.heap H locs) (hl : lv_has jl Y.2.2.1 (mL ad ls)) (hKK : aKK D cy s) (hown : s.vm.findClass Y.1.cls = some m.cls) (hts : ∀ w ∈ gw, w.before args s = true) (h : wBst k (pc + 1) ls stk S) (hd : decode Y.2.1 pc = .ok (.bastore, 1)) : W p l e R s m args below meth c H locs cells slots Z (F0 m pc jl (stk.map (mv ad))) := by
  have hK := hKK.1
  unfold wBst at h
  split at h
  · rename_i v j a r
    obtain ⟨haN, h0, h1, ⟨ht, h⟩ | ⟨ht, h⟩⟩ := h
    · have he : (aW cy ad S)[a]? = some (ad a, .inl (cy 1, lyN a, .inl (fun j => Int32.ofInt (S.1 a j)))) := by rw [aW_get haN, aE_i (by omega), ht]
      have hset : (aW cy ad S).set a (ad a, .inl (cy 1, lyN a, .inl (upd (fun j => Int32.ofInt (S.1 a j)) (Int32.ofInt j).toNatClampNeg (vp_nar .byte (Int32.ofInt v))))) = aW cy ad (upI S a j.toNat (narB v)) := by
        refine aW_set haN ?_ (fun j hj => aE_upI hj _)
        rw [aE_i (by omega), ht, toN hi.popd.top h0]
        congr 3
        congr 1
        funext q
        simp only [upI, up2, upd, true_and]
        split
        · unfold narB; rw [of_toI]
        · rfl
      refine va_bast hx hb hK hH.1 hH.2.1 hH.2.2 a 1 he rfl (vp_in_j hi.popd.top h0 h1) hd (fun H1 locs1 g1 g2 g3 => ?_)
      rw [hset] at g1 g2
      have hi' := hi.popd.popd.popd
      exact hk _ _ _ _ h ⟨hi'.1.upI (inI_narB v), hi'.2⟩ H1 locs1 jl ⟨g1, g2, g3⟩ hl
    · have he : (aW cy ad S)[a]? = some (ad a, .inl (cy 2, lyN a, .inl (fun j => Int32.ofInt (S.1 a j)))) := by rw [aW_get haN, aE_i (by omega), ht]
      have hset : (aW cy ad S).set a (ad a, .inl (cy 2, lyN a, .inl (upd (fun j => Int32.ofInt (S.1 a j)) (Int32.ofInt j).toNatClampNeg (vp_nar .boolean (Int32.ofInt v))))) = aW cy ad (upI S a j.toNat (narZ v)) := by
        refine aW_set haN ?_ (fun j hj => aE_upI hj _)
        rw [aE_i (by omega), ht, toN hi.popd.top h0]
        congr 3
        congr 1
        funext q
        simp only [upI, up2, upd, true_and]
        split
        · unfold narZ; rw [of_toI]
        · rfl
      refine va_zast hx hb hK hH.1 hH.2.1 hH.2.2 a 2 he rfl (vp_in_j hi.popd.top h0 h1) hd (fun H1 locs1 g1 g2 g3 => ?_)
      rw [hset] at g1 g2
      have hi' := hi.popd.popd.popd
      exact hk _ _ _ _ h ⟨hi'.1.upI (inI_narZ v), hi'.2⟩ H1 locs1 jl ⟨g1, g2, g3⟩ hl
  · exact h.elim
theorem s_last (hx : p.tables.exec = Jvm.exec) (hb : c.code = Y.2.1) (hk : aKt l Y p e R s m args below meth c cells slots Z D cy ad A k) (hi : aIn ls stk S) (hH : aHp D cy ad A S s.heap H locs) (hl : lv_has jl Y.2.2.1 (mL ad ls)) (hKK : aKK D cy s) (hown : s.vm.findClass Y.1.cls = some m.cls) (hts : ∀ w ∈ gw, w.before args s = true) (h : wLst k (pc + 1) ls stk S) (hd : decode Y.2.1 pc = .ok (.lastore, 1)) : W p l e R s m args below meth c H locs cells slots Z (F0 m pc jl (stk.map (mv ad))) := by
  have hK := hKK.1
  unfold wLst at h
  split at h
  · rename_i v j a r
    obtain ⟨haN, ht, h0, h1, h⟩ := h
    have he : (aW cy ad S)[a]? = some (ad a, .inl (cy 3, lyN a, .inr (.inl (fun j => Int64.ofInt (S.2 a j))))) := by rw [aW_get haN, aE_l ht]
    have hset : (aW cy ad S).set a (ad a, .inl (cy 3, lyN a, .inr (.inl (vp_updL (fun j => Int64.ofInt (S.2 a j)) (Int32.ofInt j).toNatClampNeg (Int64.ofInt v))))) = aW cy ad (upL S a j.toNat v) := by
      refine aW_set haN ?_ (fun j hj => aE_upL hj _)
      rw [aE_l ht, toN hi.popd.top h0]
      congr 4
      congr 1
      funext q
      simp only [upL, up2, vp_updL, true_and]
      split <;> rfl
    refine va_last hx hb hK hH.1 hH.2.1 hH.2.2 a 3 he rfl (vp_in_j hi.popd.top h0 h1) hd (fun H1 locs1 g1 g2 g3 => ?_)
    rw [hset] at g1 g2
    have hi' := hi.popd.popd.popd
    exact hk _ _ _ _ h ⟨hi'.1.upL hi.top, hi'.2⟩ H1 locs1 jl ⟨g1, g2, g3⟩ hl
  · exact h.elim
end SOUND3
end
section
theorem few_sum {ad : Nat → Nat} {r : List aV} (h : few r = true) : ((r.map (mv ad)).map fun v => v.category).sum ≤ 8 := by
  have hc : ∀ v : aV, (mv ad v).category ≤ 2 := fun v => by rw [mv_cat]; split <;> omega
  unfold few at h
  split at h
  · simp
  · rename_i a; have := hc a; simp; omega
  · rename_i a b; have := hc a; have := hc b; simp; omega
  · rename_i a b c; have := hc a; have := hc b; have := hc c; simp; omega
  · rename_i a b c d; have := hc a; have := hc b; have := hc c; have := hc d; simp; omega
  · cases h
theorem pop_spec : ∀ (n : Nat) (acc stk as r : List aV), pop n acc stk = some (as, r) → ∃ xs, stk = xs ++ r ∧ xs.length = n ∧ as = xs.reverse ++ acc
  | 0, acc, stk, as, r, h => by
    cases h
    exact ⟨[], rfl, rfl, rfl⟩
  | n + 1, acc, v :: stk, as, r, h => by
    obtain ⟨xs, h1, h2, h3⟩ := pop_spec n (v :: acc) stk as r h
    exact ⟨v :: xs, by rw [h1]; rfl, by simp [h2], by rw [h3]; simp⟩
  | n + 1, acc, [], as, r, h => by cases h
section SOUND4
variable {l : Launch} {Y : aM} {p : Program} {e : Env} {R : Room} {s : State} {m : MethodId} {args : Array Value} {below : List Frame} {meth : Method} {c : Code} {cells slots : Nat} {Z : State → Prop} {D : va_G} {cy : Nat → ClassId} {ad : Nat → Nat} {A : Nat → Prop}
variable {k : aK} {pc : Nat} {ls : aL} {stk : List aV} {S : aS} {H : Heap} {locs : List Loc} {jl : Array Slot}
theorem s_run (hx : p.tables.exec = Jvm.exec) (hb : c.code = Y.2.1) (hk : aKt l Y p e R s m args below meth c cells slots Z D cy ad A k) (hi : aIn ls stk S) (hH : aHp D cy ad A S s.heap H locs) (hl : lv_has jl Y.2.2.1 (mL ad ls)) (hA : ∀ q, s.heap.size ≤ q → A q) (hKs : va_K D vwCl (aTys cy) s) {Q' : Option aV → aS → Prop} {r : List aV} {st0 : List Value} (hir : aIn ls r S) (hQ' : ∀ v S', Q' v S' → k (pc + 3) ls (v.toList ++ r) S') {a : Array Value}
    (hr : va_Run p l e R s m args below meth c H locs cells slots 0 0 (F0 m pc jl st0) (r.map (mv ad)) ((fun _ st oc t => (∃ (v : Option aV) (S' : aS), oc = .returned (v.map (mv ad)) ∧ Q' v S' ∧ aRg S' ∧ (∀ w, v = some w → aOk w) ∧ va_P D vwCl (aW cy ad S') t.heap ∧ va_K D vwCl (aTys cy) t ∧ va_D (va_A (aW cy ad S) H.size) (aW cy ad S')) ∧ va_F (va_A (aW cy ad S) H.size) st t : Array Value → State → Outcome → State → Prop) a) (va_A (aW cy ad S) H.size)) : W p l e R s m args below meth c H locs cells slots Z (F0 m pc jl st0) := by
  intro T hT X
  obtain ⟨v, st₀, t, T', L, h0, X', hL, e1, e2, ⟨⟨v', S', hv, hQ, hRg, hvok, hP1, hK1, hD1⟩, hz, hk1⟩, st⟩ := hr T hT X
  cases hv
  rw [h0] at hz hk1
  have hF : ∀ q, va_A (aW cy ad S) H.size q → A q := by
    intro q h
    rcases h with ⟨k2, e2, h⟩ | h
    · exact hH.2.1.2 k2 _ h
    · exact hA q (Nat.le_trans hH.2.2.1 h)
  have hw := hk _ _ _ _ (hQ' _ _ hQ) (show aIn ls (v'.toList ++ r) S' from ⟨hRg, hir.2.1, fun w hw => (List.mem_append.mp hw).elim (fun h => hvok w (by cases v' with | none => simp at h | some x => simp at h; rw [h])) (fun h => hir.2.2 w h)⟩) T'.heap (locs ++ L) jl
    ⟨by rw [e1]; exact hP1, hD1.weaken (fun _ q _ h => hF q.1 h), Nat.le_trans hH.2.2.1 (by rw [e1]; exact hz), fun q h1 h2 => by rw [e1, hk1 q (Nat.lt_of_lt_of_le h1 hH.2.2.1) (fun z => h2 (hF q z))]; exact hH.2.2.2.1 q h1 h2, fun q hq => by
      rcases List.mem_append.mp hq with h | h
      · exact hH.2.2.2.2 q h
      · exact hF _ (hL q h)⟩ hl
  obtain ⟨t2, a1, b1⟩ := hw T' rfl X'
  refine ⟨t2, st t2 ?_, b1⟩
  have hst : (v'.map (mv ad)).toList ++ r.map (mv ad) = (v'.toList ++ r).map (mv ad) := by cases v' <;> simp
  show Steps p.tables e below (T'.setTop (F0 m (pc + 3) jl ((v'.map (mv ad)).toList ++ r.map (mv ad)))) t2
  rw [hst]
  exact a1
theorem s_call (hx : p.tables.exec = Jvm.exec) (hb : c.code = Y.2.1) (hk : aKt l Y p e R s m args below meth c cells slots Z D cy ad A k) (hi : aIn ls stk S) (hH : aHp D cy ad A S s.heap H locs) (hl : lv_has jl Y.2.2.1 (mL ad ls)) (hKK : aKK D cy s) (hown : s.vm.findClass Y.1.cls = some m.cls) (hts : ∀ w ∈ gw, w.before args s = true) (hA : ∀ q, s.heap.size ≤ q → A q) (hml : c.maxLocals = Y.2.2.1) (hR : Y.2.2.2.2.1 ≤ R.frames ∧ Y.2.2.2.2.2 ≤ R.locals ∧ cells ≤ R.cells ∧ slots ≤ R.slots) {idx : Nat} {co : Option (Option Nat × Nat × aSp)} (hco : ∀ cr n sp, co = some (cr, n, sp) → cOK l Y idx cr n sp) {vt : Bool} (h : wCall co vt k (pc + 3) ls stk S) (hd : decode Y.2.1 pc = .ok (if vt then .invokevirtual idx else .invokestatic idx, 3)) : W p l e R s m args below meth c H locs cells slots Z (F0 m pc jl (stk.map (mv ad))) := by
  have hK := hKK.1
  unfold wCall at h
  split at h
  · rename_i cr n sp
    obtain ⟨Y', hok, hG, hlink, hini, hd1, hfr, hlo, hcr⟩ := hco cr n sp rfl
    split at h
    · rename_i as r hp
      obtain ⟨hfew, hrc, hsp⟩ := h
      obtain ⟨xs, hstk, hxl, has⟩ := pop_spec n [] stk as r hp
      rw [List.append_nil] at has
      have hir : aIn ls r S := ⟨hi.1, hi.2.1, fun w hw => hi.2.2 w (by rw [hstk]; exact List.mem_append_right _ hw)⟩
      have has' : ∀ v ∈ as, aOk v := fun w hw => hi.2.2 w (by rw [hstk]; exact List.mem_append_left _ (by rw [has] at hw; exact List.mem_reverse.mp hw))
      have hM := hok as S _ hsp hi.1 has' D cy ad H.size
      have hfb : FrameBlind (va_Pc (as.map (mv ad)) (fun U => U.heap.size = H.size ∧ va_P D vwCl (aW cy ad S) U.heap ∧ aKK D cy U ∧ va_D (fun _ => True) (aW cy ad S))) := fun a U g mk q => by
        obtain ⟨q0, q1, qP, qK, qD⟩ := q
        exact ⟨q0, q1, qP, ⟨va_K.moved (u := U) (U := U.calling g mk a) (Vm.Alike.refl U.vm) qK.1, qK.2.same (U := U.calling g mk a) rfl⟩, qD⟩
      have hpre : ∀ U : State, U.heap = H → s.WarmedH U.vm → (fun U : State => U.heap.size = H.size ∧ va_P D vwCl (aW cy ad S) U.heap ∧ aKK D cy U ∧ va_D (fun _ => True) (aW cy ad S)) U := fun U hU hW => ⟨by rw [hU], by rw [hU]; exact hH.1, ⟨va_K.moved hW.alike hK, hKK.2.warm hW⟩, hH.2.1.weaken (fun _ _ _ _ => trivial)⟩
      have hRoom : (aRm Y').frames + 1 ≤ R.frames ∧ 8 + (Y'.2.2.1 + 11) + (aRm Y').locals ≤ R.locals := ⟨Nat.le_trans hfr hR.1, Nat.le_trans hlo hR.2.1⟩
      have hstm : stk.map (mv ad) = (as.map (mv ad)).reverse ++ r.map (mv ad) := by rw [hstk, has, List.map_append, ← List.map_reverse, List.reverse_reverse]
      split at hrc
      · rename_i ci b as'
        obtain ⟨hbN, hbC⟩ := hrc
        obtain ⟨hn, ⟨CT, CN, hcl⟩, hinst, hsel⟩ := hcr
        obtain ⟨fs, hLY⟩ := ly_obj hbC
        have he : (aW cy ad S)[b]? = some (ad b, .inr (ci, fs.mapIdx (aFv ad S b))) := by rw [aW_get hbN, hLY]; rfl
        have hlen : as'.length + 1 = n := by
          have h1 : (Sum.inr (Sum.inr b) :: as' : List aV).length = xs.length := by rw [has, List.length_reverse]
          simpa [hxl] using h1
        have hB := callB_of (R := R) (own := Y.1.cls) (index := idx) (y := Y'.1) (bytes := Y'.2.1) (maxL := Y'.2.2.1) (ret := Y'.2.2.2.1) (mc := 0) (ms := 0) (rm := aRm Y') (n - 1) hts hG rfl rfl rfl (hts _ hini) (hts _ hlink) hd1 hRoom
        refine s_run hx hb hk hi hH hl hA hK hir (fun v S' hq => hq) (a := (Value.ref (ad b) :: as'.map (mv ad)).toArray) (va_runV (As := as'.map (mv ad)) ⟨hx, hb, hml, hown, hts⟩ hM ⟨hB, hts _ hinst, hts _ hsel⟩ ⟨hfb, va_recv hK hH.1 hcl he, fun U hU hW => ⟨rfl, hpre U hU hW⟩⟩ rfl ?_ hl.1 ?_ (lv_room (few_sum hfew)) hd ⟨hR.2.2.1, hR.2.2.2⟩)
        · rw [List.length_map]; omega
        · show stk.map (mv ad) = _
          rw [hstm]
          simp [mv]
      · have hst : Cond.static Y'.1 ∈ gw := hcr
        have hB := callB_of (R := R) (own := Y.1.cls) (index := idx) (y := Y'.1) (bytes := Y'.2.1) (maxL := Y'.2.2.1) (ret := Y'.2.2.2.1) (mc := 0) (ms := 0) (rm := aRm Y') n hts hG rfl rfl rfl (hts _ hini) (hts _ hlink) hd1 hRoom
        refine s_run hx hb hk hi hH hl hA hK hir (fun v S' hq => hq) (a := (as.map (mv ad)).toArray) (va_runS (As := as.map (mv ad)) ⟨hx, hb, hml, hown, hts⟩ hM ⟨hB, hts _ hst⟩ ⟨hfb, fun U hU hW => ⟨rfl, hpre U hU hW⟩⟩ rfl ?_ hl.1 hstm (lv_room (few_sum hfew)) hd ⟨hR.2.2.1, hR.2.2.2⟩)
        · rw [List.length_map, has, List.length_reverse, hxl]
      · exact hrc.elim
    · exact h.elim
  · exact h.elim
theorem s_ret {Q : Option aV → aS → Prop} (hE : aEnd Y Q p l e R s m args below meth c cells slots Z D cy ad A) (hi : aIn ls stk S) (hH : aHp D cy ad A S s.heap H locs) {i : Instr} (v : Option aV) (hst : stk = v.toList) (hQ : Q v S) (hr : aRet i Y.2.2.2.1 v) (hd : decode Y.2.1 pc = .ok (i, 1)) : W p l e R s m args below meth c H locs cells slots Z (F0 m pc jl (stk.map (mv ad))) := by
  rw [hst]
  exact hE v S H locs pc jl i hQ hi.1 (fun w hw => hi.2.2 w (by rw [hst, hw]; exact List.mem_cons_self)) hH hd hr
end SOUND4
end
section
section SOUND5
variable {l : Launch} {Y : aM} {p : Program} {e : Env} {R : Room} {s : State} {m : MethodId} {args : Array Value} {below : List Frame} {meth : Method} {c : Code} {cells slots : Nat} {Z : State → Prop} {D : va_G} {cy : Nat → ClassId} {ad : Nat → Nat} {A : Nat → Prop}
variable {k : aK} {pc : Nat} {ls : aL} {stk : List aV} {S : aS} {H : Heap} {locs : List Loc} {jl : Array Slot}
set_option maxHeartbeats 4000000 in
theorem ws1_ok (hx : p.tables.exec = Jvm.exec) (hb : c.code = Y.2.1) (hk : aKt l Y p e R s m args below meth c cells slots Z D cy ad A k) (hi : aIn ls stk S) (hH : aHp D cy ad A S s.heap H locs) (hl : lv_has jl Y.2.2.1 (mL ad ls)) (hK : aKK D cy s) (hown : s.vm.findClass Y.1.cls = some m.cls) (hts : ∀ w ∈ gw, w.before args s = true) {Q : Option aV → aS → Prop} {tb : aTb} (htb : tOK l Y tb) (hE : aEnd Y Q p l e R s m args below meth c cells slots Z D cy ad A) (hA : ∀ q, s.heap.size ≤ q → A q) (hml : c.maxLocals = Y.2.2.1) (hR : Y.2.2.2.2.1 ≤ R.frames ∧ Y.2.2.2.2.2 ≤ R.locals ∧ cells ≤ R.cells ∧ slots ≤ R.slots) {i : Instr} {len : Nat} (h : ws1 tb Y.2.2.1 Y.2.2.2.1 Q k i len pc ls stk S) (hd : decode Y.2.1 pc = .ok (i, len)) : W p l e R s m args below meth c H locs cells slots Z (F0 m pc jl (stk.map (mv ad))) := by
  unfold ws1 at h
  split at h
  · exact s_aload_n hx hb hk hi hH hl h hd
  · exact s_aload hx hb hk hi hH hl h hd
  · exact s_iload_n hx hb hk hi hH hl h hd
  · exact s_iload hx hb hk hi hH hl h hd
  · exact s_lload_n hx hb hk hi hH hl h hd
  · exact s_lload hx hb hk hi hH hl h hd
  · exact s_istore_n hx hb hk hi hH hl h hd
  · exact s_istore hx hb hk hi hH hl h hd
  · exact s_lstore_n hx hb hk hi hH hl h hd
  · exact s_lstore hx hb hk hi hH hl h hd
  · exact s_astore_n hx hb hk hi hH hl h hd
  · exact s_astore hx hb hk hi hH hl h hd
  · exact s_push hx hb hk hi hH hl (.inl (wI _)) (inI_wI _) h (fun hw => lv_iconst hx hb hd (of_wI _).symm hw)
  · exact s_push hx hb hk hi hH hl (.inl _) (inI_toInt _) h (fun hw => lv_bipush hx hb hd (of_toI _).symm hw)
  · exact s_push hx hb hk hi hH hl (.inl _) (inI_toInt _) h (fun hw => lv_sipush hx hb hd (of_toI _).symm hw)
  · exact s_push hx hb hk hi hH hl (.inr (.inl _)) (inL_toInt _) h (fun hw => lv_lconst hx hb hd (of_toL _).symm hw)
  · split at h
    · rename_i x hx'
      obtain ⟨v, rfl, hc⟩ := htb.2.2.2 _ _ hx'
      exact s_push hx hb hk hi hH hl (.inr (.inl v.toInt)) (inL_toInt _) h (fun hw => lv_ldc2 hx hb hown (hts _ hc) hd (by rw [← of_toL v]; exact hw))
    · exact h.elim
  · exact s_i2 hx hb hk hi hH hl h (fun a b => inI_wI _) (fun a b r _ _ hw => lv_iadd hx hb hd (by rw [o_add]; exact hw))
  · exact s_i2 hx hb hk hi hH hl h (fun a b => inI_wI _) (fun a b r _ _ hw => lv_isub hx hb hd (by rw [o_sub]; exact hw))
  · exact s_i2 hx hb hk hi hH hl h (fun a b => inI_wI _) (fun a b r _ _ hw => lv_imul hx hb hd (by rw [o_mul]; exact hw))
  · exact s_d2 hx hb hk hi hH hl h (fun a b => inI_wI _) (fun a b r h1 h2 h3 hw => lv_idiv hx hb hd (fun q => h3 ((c_eq0 h2).mp q)) (by rw [o_div h1 h2]; exact hw))
  · exact s_d2 hx hb hk hi hH hl h (fun a b => inI_wI _) (fun a b r h1 h2 h3 hw => lv_irem hx hb hd (fun q => h3 ((c_eq0 h2).mp q)) (by rw [o_rem h1 h2]; exact hw))
  · refine s_i2 hx hb hk hi hH hl h (fun a b => inI_toInt _) (fun a b r _ _ hw => ?_)
    have e : Int32.ofInt (bAnd a b) = Int32.ofInt a &&& Int32.ofInt b := of_toI _
    rw [e] at hw
    exact lv_iand hx hb hd hw
  · refine s_i2 hx hb hk hi hH hl h (fun a b => inI_toInt _) (fun a b r _ _ hw => ?_)
    have e : Int32.ofInt (bOr a b) = Int32.ofInt a ||| Int32.ofInt b := of_toI _
    rw [e] at hw
    exact lv_ior hx hb hd hw
  · refine s_i2 hx hb hk hi hH hl h (fun a b => inI_toInt _) (fun a b r _ _ hw => ?_)
    have e : Int32.ofInt (bXor a b) = Int32.ofInt a ^^^ Int32.ofInt b := of_toI _
    rw [e] at hw
    exact lv_ixor hx hb hd hw
  · refine s_i2 hx hb hk hi hH hl h (fun a b => inI_toInt _) (fun a b r _ _ hw => ?_)
    have e : Int32.ofInt (bShl a b) = Int32.ofInt a <<< (Int32.ofInt b &&& 31) := of_toI _
    rw [e] at hw
    exact lv_ishl hx hb hd hw
  · refine s_i2 hx hb hk hi hH hl h (fun a b => inI_toInt _) (fun a b r _ _ hw => ?_)
    have e : Int32.ofInt (bShr a b) = Int32.ofInt a >>> (Int32.ofInt b &&& 31) := of_toI _
    rw [e] at hw
    exact lv_ishr hx hb hd hw
  · exact s_i2 hx hb hk hi hH hl h (fun a b => inI_toInt _) (fun a b r _ _ hw => lv_iushr hx hb hd (of_toI _).symm hw)
  · exact s_l2 hx hb hk hi hH hl h (fun a b => inL_wL _) (fun a b r _ _ hw => lv_lsub hx hb hd (by rw [o_lsub]; exact hw))
  · refine s_l2 hx hb hk hi hH hl h (fun a b => inL_toInt _) (fun a b r _ _ hw => ?_)
    have e : Int64.ofInt (lAnd a b) = Int64.ofInt a &&& Int64.ofInt b := of_toL _
    rw [e] at hw
    exact lv_land hx hb hd hw
  · refine s_l2 hx hb hk hi hH hl h (fun a b => inL_toInt _) (fun a b r _ _ hw => ?_)
    have e : Int64.ofInt (lOr a b) = Int64.ofInt a ||| Int64.ofInt b := of_toL _
    rw [e] at hw
    exact lv_lor hx hb hd hw
  · exact s_li2 hx hb hk hi hH hl h (fun a b => inL_toInt _) (fun a b r _ _ hw => lv_lshl hx hb hd (of_toL _).symm hw)
  · exact s_li2 hx hb hk hi hH hl h (fun a b => inL_toInt _) (fun a b r _ _ hw => lv_lushr hx hb hd (of_toL _).symm hw)
  · exact s_lcmp hx hb hk hi hH hl h hd
  · exact s_i2l hx hb hk hi hH hl h hd
  · exact s_l2i hx hb hk hi hH hl h hd
  · exact s_i2b hx hb hk hi hH hl h hd
  · exact s_dup hx hb hk hi hH hl h hd
  · exact s_dup2 hx hb hk hi hH hl h hd
  · exact s_pop hx hb hk hi hH hl h hd
  · exact s_iinc hx hb hk hi hH hl h hd
  · exact s_if hx hb hk hi hH hl h hd
  · exact s_ic hx hb hk hi hH hl h hd
  · exact s_goto hx hb hk hi hH hl h hd
  · exact s_tsw hx hb hk hi hH hl h hd
  · exact s_lsw hx hb hk hi hH hl h hd
  · exact s_get hx hb hk hi hH hl hK hown hts (fun ci f e => htb.1 _ ci f e) h hd
  · exact s_put hx hb hk hi hH hl hK hown hts (fun ci f e => htb.2.1 _ ci f e) h hd
  · exact s_iald hx hb hk hi hH hl hK hown hts h hd
  · exact s_bald hx hb hk hi hH hl hK hown hts h hd
  · exact s_lald hx hb hk hi hH hl hK hown hts h hd
  · exact s_aald hx hb hk hi hH hl hK hown hts h hd
  · exact s_alen hx hb hk hi hH hl hK hown hts h hd
  · exact s_iast hx hb hk hi hH hl hK hown hts h hd
  · exact s_bast hx hb hk hi hH hl hK hown hts h hd
  · exact s_last hx hb hk hi hH hl hK hown hts h hd
  · exact s_call hx hb hk hi hH hl hK hown hts hA hml hR (fun cr n sp e => htb.2.2.1 _ cr n sp e) (vt := true) h hd
  · exact s_call hx hb hk hi hH hl hK hown hts hA hml hR (fun cr n sp e => htb.2.2.1 _ cr n sp e) (vt := false) h hd
  · unfold wRi at h
    split at h
    · rename_i a he
      exact s_ret hE hi hH (some (.inl a)) rfl h (by rw [he]; trivial) hd
    · rename_i a he
      exact s_ret hE hi hH (some (.inl a)) rfl h.2 (by rw [he]; exact h.1) hd
    · exact h.elim
  · unfold wRl at h
    split at h
    · rename_i a he
      exact s_ret hE hi hH (some (.inr (.inl a))) rfl h (by rw [he]; trivial) hd
    · exact h.elim
  · unfold wRv at h
    split at h
    · rename_i he
      exact s_ret hE hi hH none rfl h (by rw [he]; trivial) hd
    · exact h.elim
  · exact h.elim
end SOUND5
/-- THE STEPS ARE SOUND: what the way says, the machine does -/
theorem wp_ok {l : Launch} {Y : aM} {tb : aTb} (htb : tOK l Y tb) (Q : Option aV → aS → Prop) (cut : Nat → Bool) : ∀ (n pc : Nat) (ls : aL) (stk : List aV) (S : aS), wp Y.2.1 tb Y.2.2.1 Y.2.2.2.1 Q cut (aGo l Y Q) n pc ls stk S → aGo l Y Q pc ls stk S := by
  intro n pc ls stk S h hi p e R s m args below meth c cells slots Z D cy ad A hC hK hA hE
  have key : ∀ n : Nat, aKt l Y p e R s m args below meth c cells slots Z D cy ad A (wp Y.2.1 tb Y.2.2.1 Y.2.2.2.1 Q cut (aGo l Y Q) n) := by
    intro n
    induction n with
    | zero =>
      intro pc ls stk S h hi H locs jl hH hl
      exact h hi p e R s m args below meth c cells slots Z D cy ad A hC hK hA hE H locs jl hH hl
    | succ n ih =>
      intro pc ls stk S h hi H locs jl hH hl
      unfold wp at h
      cases hc : cut pc with
      | true =>
        rw [hc] at h
        exact h hi p e R s m args below meth c cells slots Z D cy ad A hC hK hA hE H locs jl hH hl
      | false =>
        rw [hc] at h
        dsimp only [cond_false] at h
        obtain ⟨c1, c2, c3, c4, c5, c6⟩ := hC
        split at h
        · rename_i i len hd
          exact ws1_ok c1 c2 ih hi hH hl hK c4 c5 htb hE hA c3 c6 h hd
        · exact h.elim
  intro H locs jl hH hl
  exact key n pc ls stk S h hi H locs jl hH hl
/-- one step from a place that may be a cut, then the way -/
theorem wp_go {l : Launch} {Y : aM} {tb : aTb} (htb : tOK l Y tb) {Q : Option aV → aS → Prop} (cut : Nat → Bool) (n : Nat) {pc : Nat} {ls : aL} {stk : List aV} {S : aS} {i : Instr} {len : Nat} (hd : decode Y.2.1 pc = .ok (i, len)) (h : ws1 tb Y.2.2.1 Y.2.2.2.1 Q (wp Y.2.1 tb Y.2.2.1 Y.2.2.2.1 Q cut (aGo l Y Q) n) i len pc ls stk S) : aGo l Y Q pc ls stk S := by
  intro hi p e R s m args below meth c cells slots Z D cy ad A hC hK hA hE H locs jl hH hl
  have hC' := hC
  obtain ⟨c1, c2, c3, c4, c5, c6⟩ := hC'
  exact ws1_ok c1 c2 (fun pc ls stk S h hi => wp_ok htb Q cut n pc ls stk S h hi p e R s m args below meth c cells slots Z D cy ad A hC hK hA hE) hi hH hl hK c4 c5 htb hE hA c3 c6 h hd
theorem aGo_sub {l : Launch} {Y : aM} {Q : Option aV → aS → Prop} {pc : Nat} {ls ls' : aL} {stk : List aV} {S : aS} (h : aGo l Y Q pc ls' stk S) (hs : ∀ q ∈ ls', q ∈ ls) : aGo l Y Q pc ls stk S := by
  intro hi p e R s m args below meth c cells slots Z D cy ad A hC hK hA hE H locs jl hH hl
  refine h ⟨hi.1, fun q hq => hi.2.1 q (hs q hq), hi.2.2⟩ p e R s m args below meth c cells slots Z D cy ad A hC hK hA hE H locs jl hH (has_sub hl fun q hq => ?_)
  obtain ⟨q', h1, rfl⟩ := List.mem_map.mp hq
  exact List.mem_map.mpr ⟨q', hs _ h1, rfl⟩
/-- the ranges may be used -/
theorem aGo_in {l : Launch} {Y : aM} {Q : Option aV → aS → Prop} {pc : Nat} {ls : aL} {stk : List aV} {S : aS} (h : aIn ls stk S → aGo l Y Q pc ls stk S) : aGo l Y Q pc ls stk S := fun hi => h hi hi
/-- a method's entry -/
def aAr : Nat → List aV → aL
  | _, [] => []
  | n, .inl a :: r => (n, .inl a) :: aAr (n + 1) r
  | n, .inr (.inl a) :: r => (n, .inr (.inl a)) :: aAr (n + 2) r
  | n, .inr (.inr a) :: r => (n, .inr (.inr a)) :: aAr (n + 1) r
def aLn : List aV → Nat
  | [] => 0
  | .inl _ :: r => aLn r + 1
  | .inr (.inl _) :: r => aLn r + 2
  | .inr (.inr _) :: r => aLn r + 1
end
section
/-! a method's contract out of its way from the entry -/
theorem aAr_eq (ad : Nat → Nat) : ∀ (as : List aV) (n : Nat), lv_args n (as.map (mv ad)) = mL ad (aAr n as)
  | [], _ => rfl
  | .inl a :: r, n => by
    show (n, mv ad (.inl a)) :: lv_args (n + 1) (r.map (mv ad)) = _
    rw [aAr_eq ad r (n + 1)]; rfl
  | .inr (.inl a) :: r, n => by
    show (n, mv ad (.inr (.inl a))) :: lv_args (n + 2) (r.map (mv ad)) = _
    rw [aAr_eq ad r (n + 2)]; rfl
  | .inr (.inr a) :: r, n => by
    show (n, mv ad (.inr (.inr a))) :: lv_args (n + 1) (r.map (mv ad)) = _
    rw [aAr_eq ad r (n + 1)]; rfl
theorem aLn_eq (ad : Nat → Nat) : ∀ (as : List aV), (lg_sl (as.map (mv ad))).length = aLn as
  | [] => rfl
  | .inl a :: r => by
    show (lg_sl (r.map (mv ad))).length + 1 = _
    rw [aLn_eq ad r]; rfl
  | .inr (.inl a) :: r => by
    show (lg_sl (r.map (mv ad))).length + 2 = _
    rw [aLn_eq ad r]; rfl
  | .inr (.inr a) :: r => by
    show (lg_sl (r.map (mv ad))).length + 1 = _
    rw [aLn_eq ad r]; rfl
theorem aAr_ok : ∀ (as : List aV) (n : Nat), (∀ v ∈ as, aOk v) → ∀ q ∈ aAr n as, aOk q.2
  | [], _, _, q, hq => by cases hq
  | .inl a :: r, n, h, q, hq => by
    rcases List.mem_cons.mp hq with e | e
    · rw [e]; exact h _ List.mem_cons_self
    · exact aAr_ok r _ (fun v hv => h v (List.mem_cons_of_mem _ hv)) q e
  | .inr (.inl a) :: r, n, h, q, hq => by
    rcases List.mem_cons.mp hq with e | e
    · rw [e]; exact h _ List.mem_cons_self
    · exact aAr_ok r _ (fun v hv => h v (List.mem_cons_of_mem _ hv)) q e
  | .inr (.inr a) :: r, n, h, q, hq => by
    rcases List.mem_cons.mp hq with e | e
    · rw [e]; exact h _ List.mem_cons_self
    · exact aAr_ok r _ (fun v hv => h v (List.mem_cons_of_mem _ hv)) q e
theorem aOK_of {l : Launch} {Y : aM} {sp : aSp} (hpl : plainName Y.1.cls = true) (h : ∀ as S Q, sp as S Q → aLn as ≤ Y.2.2.1 ∧ aGo l Y Q 0 (aAr 0 as) [] S) : aOK l Y sp := by
  intro as S Q hsp hRg has D cy ad sz
  obtain ⟨hlen, hgo⟩ := h as S Q hsp
  refine Met.ofW (cc := Y.2.1) (maxL := Y.2.2.1) (ret := Y.2.2.2.1) hpl rfl ?_
  intro p e s m args below meth c s₁ B hml hv
  obtain ⟨rfl, hsz, hP, hK, hD0⟩ := hv
  have hx := B.exec
  have hb := B.bytes
  have hr := B.returns
  have hts := atoms_spec (ws := aWs Y) B.pre
  have hown : s.vm.findClass Y.1.cls = some m.cls := findClass_of_methodNamed B.named
  have hlocks := B.notSynchronized
  subst hsz
  have hD := hD0.self (sz := s.heap.size)
  have hA : ∀ q : Nat, s.heap.size ≤ q → va_A (aW cy ad S) s.heap.size q := fun q h => Or.inr h
  have hl := lv_entry (as.map (mv ad)) (n := Y.2.2.1) (by rw [aLn_eq]; exact hlen)
  rw [aAr_eq] at hl
  rw [lg_entry_eq]
  have hE : aEnd Y Q p l e (headSpec (aWs Y) (aRm Y)).room s m (as.map (mv ad)).toArray below meth c 0 0 (MQ below (fun _ st oc t => (∃ (v : Option aV) (S' : aS), oc = .returned (v.map (mv ad)) ∧ Q v S' ∧ aRg S' ∧ (∀ w, v = some w → aOk w) ∧ va_P D vwCl (aW cy ad S') t.heap ∧ va_K D vwCl (aTys cy) t ∧ va_D (va_A (aW cy ad S) s.heap.size) (aW cy ad S')) ∧ va_F (va_A (aW cy ad S) s.heap.size) st t) (as.map (mv ad)).toArray s 0 0 (va_A (aW cy ad S) s.heap.size)) D cy ad (va_A (aW cy ad S) s.heap.size) := by
    intro v S' H locs pc jl i hQ hRg' hok hH hd hret
    have hq : ∀ t : State, t.heap = H → s.WarmedH t.vm → ((∃ (v0 : Option aV) (S1 : aS), Outcome.returned (v.map (mv ad)) = .returned (v0.map (mv ad)) ∧ Q v0 S1 ∧ aRg S1 ∧ (∀ w, v0 = some w → aOk w) ∧ va_P D vwCl (aW cy ad S1) t.heap ∧ va_K D vwCl (aTys cy) t ∧ va_D (va_A (aW cy ad S) s.heap.size) (aW cy ad S1)) ∧ va_F (va_A (aW cy ad S) s.heap.size) s t) := fun t ht hW =>
      ⟨⟨v, S', rfl, hQ, hRg', hok, by rw [ht]; exact hH.1, va_K.moved hW.alike hK.1, hH.2.1⟩, hH.2.2.F ht⟩
    unfold aRet at hret
    split at hret
    · rename_i a he
      exact W.iret hx hb (hr.trans he) hq hH.2.2.2.2 hd hlocks
    · rename_i a he
      refine W.zret hx hb (hr.trans he) ?_ hq hH.2.2.2.2 hd hlocks
      rcases hret with rfl | rfl <;> rfl
    · rename_i a he
      exact W.lret hx hb (hr.trans he) hq hH.2.2.2.2 hd hlocks
    · rename_i he
      exact W.vret hx hb (hr.trans he) hq hH.2.2.2.2 hd hlocks
    · exact hret.elim
  exact hgo ⟨hRg, aAr_ok as 0 has, fun v hv => by cases hv⟩ p e (headSpec (aWs Y) (aRm Y)).room s m _ below meth c 0 0 _ D cy ad (va_A (aW cy ad S) s.heap.size)
    ⟨hx, hb, hml, hown, fun w hw => hts w (List.mem_cons_of_mem _ hw), Nat.le_refl _, Nat.le_refl _, Nat.le_refl _, Nat.le_refl _⟩ hK hA hE s.heap [] _ ⟨hP, hD, va_S.rf⟩ hl
/-! calls -/
def cF (own : String) (idx : Nat) (Y' : aM) (cr : Option Nat) (n : Nat) : Prop := Cond.methodLink own idx Y'.1 ∈ gw ∧ Cond.initialized Y'.1.cls ∈ gw ∧
  (Y'.1.cls ≠ "java/lang/invoke/MethodHandle" ∧ Y'.1.cls ≠ "java/lang/invoke/VarHandle" ∧ (parseMethodDescriptor Y'.1.desc).map (fun d => d.parameters.length) = some (if cr.isSome then n - 1 else n)) ∧
  match cr with
    | some ci => 0 < n ∧ (∃ T N, vwCl[ci]? = some (Y'.1.cls, T, N)) ∧ Cond.instanceMethod Y'.1 ∈ gw ∧ Cond.selects Y'.1.cls Y'.1 Y'.1 ∈ gw
    | none => Cond.static Y'.1 ∈ gw
theorem gw_in {w : Cond} (h : w ∈ lw_tbl) (hg : goodWord w = true) : w ∈ gw := List.mem_filter.mpr ⟨h, hg⟩
theorem goodY {Y : aM} (h : Cond.code Y.1 Y.2.1 Y.2.2.1 Y.2.2.2.1 ∈ gw) : GoodIn gw (aWs Y) := by
  intro w hw
  have hm : w ∈ gw := by
    rcases List.mem_cons.mp hw with e | e
    · rw [e]; exact h
    · exact e
  exact ⟨hm, good_of_word (List.mem_filter.mp hm).2⟩
theorem cOK_of {l : Launch} {Y Y' : aM} {sp : aSp} {idx n : Nat} {cr : Option Nat} (hok : aOK l Y' sp) (hg : Cond.code Y'.1 Y'.2.1 Y'.2.2.1 Y'.2.2.2.1 ∈ gw) (hf : cF Y.1.cls idx Y' cr n) (h1 : Y'.2.2.2.2.1 + 1 ≤ Y.2.2.2.2.1) (h2 : 8 + (Y'.2.2.1 + 11) + Y'.2.2.2.2.2 ≤ Y.2.2.2.2.2) : cOK l Y idx cr n sp :=
  ⟨Y', hok, goodY hg, hf.1, hf.2.1, hf.2.2.1, h1, h2, hf.2.2.2⟩
theorem mem_by {α : Type} {ws big : List α} (ps : List Nat) (h : ws = ps.filterMap (fun i => big[i]?)) : ∀ w ∈ ws, w ∈ big := by
  intro w hw
  rw [h] at hw
  obtain ⟨i, -, hi⟩ := List.mem_filterMap.mp hw
  exact List.mem_of_getElem? hi
def lk {β : Type} : List (Nat × β) → Nat → Option β
  | [], _ => none
  | (k, v) :: r, j => if j = k then some v else lk r j
theorem lk_mem {β : Type} : ∀ {l : List (Nat × β)} {j : Nat} {v : β}, lk l j = some v → (j, v) ∈ l
  | (k, w) :: r, j, v, h => by
    unfold lk at h
    split at h
    · rename_i e
      cases h; subst e; exact List.mem_cons_self
    · exact List.mem_cons_of_mem _ (lk_mem h)
theorem all_nil {α : Type} {P : α → Prop} : ∀ e ∈ ([] : List α), P e := fun _ h => absurd h List.not_mem_nil
theorem all_cons {α : Type} {P : α → Prop} {a : α} {l : List α} (h : P a) (t : ∀ e ∈ l, P e) : ∀ e ∈ a :: l, P e := List.forall_mem_cons.mpr ⟨h, t⟩
theorem in_0 {w : Cond} (h : w ∈ k2_sels lw_privs) (hg : goodWord w = true) : w ∈ gw := gw_in (List.mem_append_left _ h) hg
theorem in_1 {w : Cond} (h : w ∈ tables_1_1) (hg : goodWord w = true) : w ∈ gw := gw_in (List.mem_append_right _ (List.mem_append_left _ h)) hg
theorem in_2 {w : Cond} (h : w ∈ tables_1_2) (hg : goodWord w = true) : w ∈ gw := gw_in (List.mem_append_right _ (List.mem_append_right _ (List.mem_append_left _ h))) hg
theorem in_3 {w : Cond} (h : w ∈ tables_1_3) (hg : goodWord w = true) : w ∈ gw := gw_in (List.mem_append_right _ (List.mem_append_right _ (List.mem_append_right _ (List.mem_append_left _ h)))) hg
theorem in_4 {w : Cond} (h : w ∈ tables_1_4) (hg : goodWord w = true) : w ∈ gw := gw_in (List.mem_append_right _ (List.mem_append_right _ (List.mem_append_right _ (List.mem_append_right _ (List.mem_append_left _ h))))) hg
theorem in_5 {w : Cond} (h : w ∈ tables_1_5) (hg : goodWord w = true) : w ∈ gw := gw_in (List.mem_append_right _ (List.mem_append_right _ (List.mem_append_right _ (List.mem_append_right _ (List.mem_append_right _ (List.mem_append_left _ h)))))) hg
theorem in_6 {w : Cond} (h : w ∈ tables_1_6) (hg : goodWord w = true) : w ∈ gw := gw_in (List.mem_append_right _ (List.mem_append_right _ (List.mem_append_right _ (List.mem_append_right _ (List.mem_append_right _ (List.mem_append_right _ h)))))) hg
end
section
theorem inX0 : ∀ w ∈ u_ws RX0 TX0 9, w ∈ gw := all_cons (in_1 (List.mem_of_getElem? (i := 61) rfl) rfl) (all_cons (in_1 (List.mem_of_getElem? (i := 63) rfl) rfl) (all_cons (in_1 (List.mem_of_getElem? (i := 65) rfl) rfl) (all_cons (in_1 (List.mem_of_getElem? (i := 67) rfl) rfl) (all_cons (in_1 (List.mem_of_getElem? (i := 69) rfl) rfl) (all_cons (in_1 (List.mem_of_getElem? (i := 71) rfl) rfl) (all_cons (in_1 (List.mem_of_getElem? (i := 73) rfl) rfl) (all_cons (in_1 (List.mem_of_getElem? (i := 75) rfl) rfl) (all_cons (in_1 (List.mem_of_getElem? (i := 77) rfl) rfl) (all_nil)))))))))
theorem fpkX0_7 : fPk 0 7 := ⟨RX0, TX0, 9, tyX0, rfl, rfl, by decide +kernel, tyX0_ok, nmX0⟩
theorem fpkX0_8 : fPk 0 8 := ⟨RX0, TX0, 9, tyX0, rfl, rfl, by decide +kernel, tyX0_ok, nmX0⟩
theorem inX1 : ∀ w ∈ u_ws RX1 TX1 5, w ∈ gw := all_cons (in_2 (List.mem_of_getElem? (i := 41) rfl) rfl) (all_cons (in_2 (List.mem_of_getElem? (i := 43) rfl) rfl) (all_cons (in_2 (List.mem_of_getElem? (i := 45) rfl) rfl) (all_cons (in_2 (List.mem_of_getElem? (i := 47) rfl) rfl) (all_cons (in_2 (List.mem_of_getElem? (i := 49) rfl) rfl) (all_nil)))))
theorem fpkX1_4 : fPk 1 4 := ⟨RX1, TX1, 5, tyX1, rfl, rfl, by decide +kernel, tyX1_ok, nmX1⟩
theorem inX2 : ∀ w ∈ u_ws RX2 TX2 5, w ∈ gw := all_cons (in_1 (List.mem_of_getElem? (i := 136) rfl) rfl) (all_cons (in_1 (List.mem_of_getElem? (i := 138) rfl) rfl) (all_cons (in_1 (List.mem_of_getElem? (i := 140) rfl) rfl) (all_cons (in_1 (List.mem_of_getElem? (i := 142) rfl) rfl) (all_cons (in_1 (List.mem_of_getElem? (i := 144) rfl) rfl) (all_nil)))))
theorem fpkX2_4 : fPk 2 4 := ⟨RX2, TX2, 5, tyX2, rfl, rfl, by decide +kernel, tyX2_ok, nmX2⟩
theorem inX3 : ∀ w ∈ u_ws RX3 TX3 3, w ∈ gw := all_cons (in_2 (List.mem_of_getElem? (i := 20) rfl) rfl) (all_cons (in_2 (List.mem_of_getElem? (i := 22) rfl) rfl) (all_cons (in_2 (List.mem_of_getElem? (i := 24) rfl) rfl) (all_nil)))
theorem fpkX3_2 : fPk 3 2 := ⟨RX3, TX3, 3, tyX3, rfl, rfl, by decide +kernel, tyX3_ok, nmX3⟩
theorem inX4 : ∀ w ∈ u_ws RX4 TX4 8, w ∈ gw := all_cons (in_2 (List.mem_of_getElem? (i := 66) rfl) rfl) (all_cons (in_2 (List.mem_of_getElem? (i := 68) rfl) rfl) (all_cons (in_2 (List.mem_of_getElem? (i := 70) rfl) rfl) (all_cons (in_2 (List.mem_of_getElem? (i := 72) rfl) rfl) (all_cons (in_2 (List.mem_of_getElem? (i := 74) rfl) rfl) (all_cons (in_2 (List.mem_of_getElem? (i := 76) rfl) rfl) (all_cons (in_2 (List.mem_of_getElem? (i := 78) rfl) rfl) (all_cons (in_2 (List.mem_of_getElem? (i := 80) rfl) rfl) (all_nil))))))))
theorem fpkX4_7 : fPk 4 7 := ⟨RX4, TX4, 8, tyX4, rfl, rfl, by decide +kernel, tyX4_ok, nmX4⟩
theorem inX5 : ∀ w ∈ u_ws RX5 TX5 3, w ∈ gw := all_cons (in_1 (List.mem_of_getElem? (i := 93) rfl) rfl) (all_cons (in_1 (List.mem_of_getElem? (i := 95) rfl) rfl) (all_cons (in_1 (List.mem_of_getElem? (i := 97) rfl) rfl) (all_nil)))
theorem fpkX5_2 : fPk 5 2 := ⟨RX5, TX5, 3, tyX5, rfl, rfl, by decide +kernel, tyX5_ok, nmX5⟩
theorem inX6 : ∀ w ∈ u_ws RX6 TX6 2, w ∈ gw := all_cons (in_1 (List.mem_of_getElem? (i := 195) rfl) rfl) (all_cons (in_1 (List.mem_of_getElem? (i := 197) rfl) rfl) (all_nil))
theorem inX7 : ∀ w ∈ u_ws RX7 TX7 5, w ∈ gw := all_cons (in_1 (List.mem_of_getElem? (i := 171) rfl) rfl) (all_cons (in_1 (List.mem_of_getElem? (i := 173) rfl) rfl) (all_cons (in_1 (List.mem_of_getElem? (i := 175) rfl) rfl) (all_cons (in_1 (List.mem_of_getElem? (i := 177) rfl) rfl) (all_cons (in_1 (List.mem_of_getElem? (i := 179) rfl) rfl) (all_nil)))))
theorem fpkX7_4 : fPk 7 4 := ⟨RX7, TX7, 5, tyX7, rfl, rfl, by decide +kernel, tyX7_ok, nmX7⟩
theorem inX8 : ∀ w ∈ u_ws RX8 TX8 2, w ∈ gw := all_cons (in_1 (List.mem_of_getElem? (i := 32) rfl) rfl) (all_cons (in_1 (List.mem_of_getElem? (i := 34) rfl) rfl) (all_nil))
theorem fpkX8_1 : fPk 8 1 := ⟨RX8, TX8, 2, tyX8, rfl, rfl, by decide +kernel, tyX8_ok, nmX8⟩
theorem inX9 : ∀ w ∈ u_ws RX9 TX9 10, w ∈ gw := all_cons (in_1 (List.mem_of_getElem? (i := 224) rfl) rfl) (all_cons (in_1 (List.mem_of_getElem? (i := 226) rfl) rfl) (all_cons (in_1 (List.mem_of_getElem? (i := 228) rfl) rfl) (all_cons (in_1 (List.mem_of_getElem? (i := 230) rfl) rfl) (all_cons (in_1 (List.mem_of_getElem? (i := 232) rfl) rfl) (all_cons (in_1 (List.mem_of_getElem? (i := 234) rfl) rfl) (all_cons (in_1 (List.mem_of_getElem? (i := 236) rfl) rfl) (all_cons (in_1 (List.mem_of_getElem? (i := 238) rfl) rfl) (all_cons (in_2 (List.mem_of_getElem? (i := 0) rfl) rfl) (all_cons (in_2 (List.mem_of_getElem? (i := 2) rfl) rfl) (all_nil))))))))))
theorem inX10 : ∀ w ∈ u_ws RX10 TX10 4, w ∈ gw := all_cons (in_1 (List.mem_of_getElem? (i := 119) rfl) rfl) (all_cons (in_1 (List.mem_of_getElem? (i := 121) rfl) rfl) (all_cons (in_1 (List.mem_of_getElem? (i := 123) rfl) rfl) (all_cons (in_1 (List.mem_of_getElem? (i := 125) rfl) rfl) (all_nil))))
theorem inX11 : ∀ w ∈ u_ws RX11 TX11 10, w ∈ gw := all_cons (in_2 (List.mem_of_getElem? (i := 94) rfl) rfl) (all_cons (in_2 (List.mem_of_getElem? (i := 96) rfl) rfl) (all_cons (in_2 (List.mem_of_getElem? (i := 98) rfl) rfl) (all_cons (in_2 (List.mem_of_getElem? (i := 100) rfl) rfl) (all_cons (in_2 (List.mem_of_getElem? (i := 102) rfl) rfl) (all_cons (in_2 (List.mem_of_getElem? (i := 104) rfl) rfl) (all_cons (in_2 (List.mem_of_getElem? (i := 106) rfl) rfl) (all_cons (in_2 (List.mem_of_getElem? (i := 108) rfl) rfl) (all_cons (in_2 (List.mem_of_getElem? (i := 110) rfl) rfl) (all_cons (in_2 (List.mem_of_getElem? (i := 112) rfl) rfl) (all_nil))))))))))
theorem inX12 : ∀ w ∈ u_ws RX12 TX12 44, w ∈ gw := all_cons (in_4 (List.mem_of_getElem? (i := 208) rfl) rfl) (all_cons (in_4 (List.mem_of_getElem? (i := 210) rfl) rfl) (all_cons (in_4 (List.mem_of_getElem? (i := 212) rfl) rfl) (all_cons (in_4 (List.mem_of_getElem? (i := 214) rfl) rfl) (all_cons (in_4 (List.mem_of_getElem? (i := 216) rfl) rfl) (all_cons (in_4 (List.mem_of_getElem? (i := 218) rfl) rfl) (all_cons (in_4 (List.mem_of_getElem? (i := 220) rfl) rfl) (all_cons (in_4 (List.mem_of_getElem? (i := 222) rfl) rfl) (all_cons (in_4 (List.mem_of_getElem? (i := 224) rfl) rfl) (all_cons (in_4 (List.mem_of_getElem? (i := 226) rfl) rfl) (all_cons (in_4 (List.mem_of_getElem? (i := 228) rfl) rfl) (all_cons (in_4 (List.mem_of_getElem? (i := 230) rfl) rfl) (all_cons (in_4 (List.mem_of_getElem? (i := 232) rfl) rfl) (all_cons (in_4 (List.mem_of_getElem? (i := 234) rfl) rfl) (all_cons (in_4 (List.mem_of_getElem? (i := 236) rfl) rfl) (all_cons (in_4 (List.mem_of_getElem? (i := 238) rfl) rfl) (all_cons (in_5 (List.mem_of_getElem? (i := 0) rfl) rfl) (all_cons (in_5 (List.mem_of_getElem? (i := 2) rfl) rfl) (all_cons (in_5 (List.mem_of_getElem? (i := 4) rfl) rfl) (all_cons (in_5 (List.mem_of_getElem? (i := 6) rfl) rfl) (all_cons (in_5 (List.mem_of_getElem? (i := 8) rfl) rfl) (all_cons (in_5 (List.mem_of_getElem? (i := 10) rfl) rfl) (all_cons (in_5 (List.mem_of_getElem? (i := 12) rfl) rfl) (all_cons (in_5 (List.mem_of_getElem? (i := 14) rfl) rfl) (all_cons (in_5 (List.mem_of_getElem? (i := 16) rfl) rfl) (all_cons (in_5 (List.mem_of_getElem? (i := 18) rfl) rfl) (all_cons (in_5 (List.mem_of_getElem? (i := 20) rfl) rfl) (all_cons (in_5 (List.mem_of_getElem? (i := 22) rfl) rfl) (all_cons (in_5 (List.mem_of_getElem? (i := 24) rfl) rfl) (all_cons (in_5 (List.mem_of_getElem? (i := 26) rfl) rfl) (all_cons (in_5 (List.mem_of_getElem? (i := 28) rfl) rfl) (all_cons (in_5 (List.mem_of_getElem? (i := 30) rfl) rfl) (all_cons (in_5 (List.mem_of_getElem? (i := 32) rfl) rfl) (all_cons (in_5 (List.mem_of_getElem? (i := 34) rfl) rfl) (all_cons (in_5 (List.mem_of_getElem? (i := 36) rfl) rfl) (all_cons (in_5 (List.mem_of_getElem? (i := 38) rfl) rfl) (all_cons (in_5 (List.mem_of_getElem? (i := 40) rfl) rfl) (all_cons (in_5 (List.mem_of_getElem? (i := 42) rfl) rfl) (all_cons (in_5 (List.mem_of_getElem? (i := 44) rfl) rfl) (all_cons (in_5 (List.mem_of_getElem? (i := 46) rfl) rfl) (all_cons (in_5 (List.mem_of_getElem? (i := 48) rfl) rfl) (all_cons (in_5 (List.mem_of_getElem? (i := 50) rfl) rfl) (all_cons (in_5 (List.mem_of_getElem? (i := 52) rfl) rfl) (all_cons (in_5 (List.mem_of_getElem? (i := 54) rfl) rfl) (all_nil))))))))))))))))))))))))))))))))))))))))))))
theorem fpkX12_2 : fPk 12 2 := ⟨RX12, TX12, 44, tyX12, rfl, rfl, by decide +kernel, tyX12_ok, nmX12⟩
theorem fpkX12_3 : fPk 12 3 := ⟨RX12, TX12, 44, tyX12, rfl, rfl, by decide +kernel, tyX12_ok, nmX12⟩
theorem fpkX12_4 : fPk 12 4 := ⟨RX12, TX12, 44, tyX12, rfl, rfl, by decide +kernel, tyX12_ok, nmX12⟩
theorem fpkX12_12 : fPk 12 12 := ⟨RX12, TX12, 44, tyX12, rfl, rfl, by decide +kernel, tyX12_ok, nmX12⟩
theorem fpkX12_13 : fPk 12 13 := ⟨RX12, TX12, 44, tyX12, rfl, rfl, by decide +kernel, tyX12_ok, nmX12⟩
theorem fpkX12_14 : fPk 12 14 := ⟨RX12, TX12, 44, tyX12, rfl, rfl, by decide +kernel, tyX12_ok, nmX12⟩
theorem fpkX12_29 : fPk 12 29 := ⟨RX12, TX12, 44, tyX12, rfl, rfl, by decide +kernel, tyX12_ok, nmX12⟩
theorem fpkX12_32 : fPk 12 32 := ⟨RX12, TX12, 44, tyX12, rfl, rfl, by decide +kernel, tyX12_ok, nmX12⟩
theorem fpkX12_33 : fPk 12 33 := ⟨RX12, TX12, 44, tyX12, rfl, rfl, by decide +kernel, tyX12_ok, nmX12⟩
theorem fpkX12_34 : fPk 12 34 := ⟨RX12, TX12, 44, tyX12, rfl, rfl, by decide +kernel, tyX12_ok, nmX12⟩
theorem fpkX12_35 : fPk 12 35 := ⟨RX12, TX12, 44, tyX12, rfl, rfl, by decide +kernel, tyX12_ok, nmX12⟩
theorem fpkX12_36 : fPk 12 36 := ⟨RX12, TX12, 44, tyX12, rfl, rfl, by decide +kernel, tyX12_ok, nmX12⟩
theorem fpkX12_37 : fPk 12 37 := ⟨RX12, TX12, 44, tyX12, rfl, rfl, by decide +kernel, tyX12_ok, nmX12⟩
theorem fpkX12_42 : fPk 12 42 := ⟨RX12, TX12, 44, tyX12, rfl, rfl, by decide +kernel, tyX12_ok, nmX12⟩
theorem fokX0_9 : fOK RX0 9 0 0 := ⟨RX0, TX0, 9, rfl, by decide, inX0, Or.inl (in_1 (List.mem_of_getElem? (i := 44) rfl) rfl)⟩
theorem fokX0_15 : fOK RX0 15 0 1 := ⟨RX0, TX0, 9, rfl, by decide, inX0, Or.inl (in_1 (List.mem_of_getElem? (i := 46) rfl) rfl)⟩
theorem fokX0_18 : fOK RX0 18 0 2 := ⟨RX0, TX0, 9, rfl, by decide, inX0, Or.inl (in_1 (List.mem_of_getElem? (i := 48) rfl) rfl)⟩
theorem fokX0_21 : fOK RX0 21 0 3 := ⟨RX0, TX0, 9, rfl, by decide, inX0, Or.inl (in_1 (List.mem_of_getElem? (i := 51) rfl) rfl)⟩
theorem fokX0_24 : fOK RX0 24 0 4 := ⟨RX0, TX0, 9, rfl, by decide, inX0, Or.inl (in_1 (List.mem_of_getElem? (i := 54) rfl) rfl)⟩
theorem fokX0_27 : fOK RX0 27 0 5 := ⟨RX0, TX0, 9, rfl, by decide, inX0, Or.inl (in_1 (List.mem_of_getElem? (i := 55) rfl) rfl)⟩
theorem fokX0_30 : fOK RX0 30 0 6 := ⟨RX0, TX0, 9, rfl, by decide, inX0, Or.inl (in_1 (List.mem_of_getElem? (i := 56) rfl) rfl)⟩
theorem fokX0_33 : fOK RX0 33 0 7 := ⟨RX0, TX0, 9, rfl, by decide, inX0, Or.inl (in_1 (List.mem_of_getElem? (i := 57) rfl) rfl)⟩
theorem fokX0_37 : fOK RX0 37 0 8 := ⟨RX0, TX0, 9, rfl, by decide, inX0, Or.inl (in_1 (List.mem_of_getElem? (i := 59) rfl) rfl)⟩
def fX0l : List (Nat × Nat × Nat) := [(9, 0, 0), (15, 0, 1), (18, 0, 2), (21, 0, 3), (24, 0, 4), (27, 0, 5), (30, 0, 6), (33, 0, 7), (37, 0, 8)]
def fX0 (j : Nat) : Option (Nat × Nat) := lk fX0l j
theorem fX0_9 : fX0 9 = some (0, 0) := rfl
theorem fX0_15 : fX0 15 = some (0, 1) := rfl
theorem fX0_18 : fX0 18 = some (0, 2) := rfl
theorem fX0_21 : fX0 21 = some (0, 3) := rfl
theorem fX0_24 : fX0 24 = some (0, 4) := rfl
theorem fX0_27 : fX0 27 = some (0, 5) := rfl
theorem fX0_30 : fX0 30 = some (0, 6) := rfl
theorem fX0_33 : fX0 33 = some (0, 7) := rfl
theorem fX0_37 : fX0 37 = some (0, 8) := rfl
theorem fX0_all : ∀ e ∈ fX0l, fOK RX0 e.1 e.2.1 e.2.2 := all_cons fokX0_9 (all_cons fokX0_15 (all_cons fokX0_18 (all_cons fokX0_21 (all_cons fokX0_24 (all_cons fokX0_27 (all_cons fokX0_30 (all_cons fokX0_33 (all_cons fokX0_37 (all_nil)))))))))
theorem fX0_ok : ∀ idx ci f, fX0 idx = some (ci, f) → fOK RX0 idx ci f := fun _ _ _ h => fX0_all _ (lk_mem h)
def pX0l : List (Nat × Nat × Nat) := [(33, 0, 7), (37, 0, 8)]
def pX0 (j : Nat) : Option (Nat × Nat) := lk pX0l j
theorem pX0_33 : pX0 33 = some (0, 7) := rfl
theorem pX0_37 : pX0 37 = some (0, 8) := rfl
theorem pX0_all : ∀ e ∈ pX0l, fOK RX0 e.1 e.2.1 e.2.2 ∧ fPk e.2.1 e.2.2 := all_cons ⟨fokX0_33, fpkX0_7⟩ (all_cons ⟨fokX0_37, fpkX0_8⟩ (all_nil))
theorem pX0_ok : ∀ idx ci f, pX0 idx = some (ci, f) → fOK RX0 idx ci f ∧ fPk ci f := fun _ _ _ h => pX0_all _ (lk_mem h)
def kX0 (j : Nat) : Option Int := none
theorem kX0_ok : ∀ idx x, kX0 idx = some x → ∃ v : Int64, x = v.toInt ∧ Cond.constantLong RX0 idx v ∈ gw := by
  intro idx x h
  unfold kX0 at h
  cases h
theorem fokX1_9 : fOK RX1 9 1 1 := ⟨RX1, TX1, 5, rfl, by decide, inX1, Or.inl (in_2 (List.mem_of_getElem? (i := 36) rfl) rfl)⟩
theorem fokX1_17 : fOK RX1 17 1 2 := ⟨RX1, TX1, 5, rfl, by decide, inX1, Or.inl (in_2 (List.mem_of_getElem? (i := 37) rfl) rfl)⟩
theorem fokX1_20 : fOK RX1 20 1 3 := ⟨RX1, TX1, 5, rfl, by decide, inX1, Or.inl (in_2 (List.mem_of_getElem? (i := 38) rfl) rfl)⟩
theorem fokX1_23 : fOK RX1 23 1 0 := ⟨RX1, TX1, 5, rfl, by decide, inX1, Or.inl (in_2 (List.mem_of_getElem? (i := 35) rfl) rfl)⟩
theorem fokX1_27 : fOK RX1 27 1 4 := ⟨RX1, TX1, 5, rfl, by decide, inX1, Or.inl (in_2 (List.mem_of_getElem? (i := 39) rfl) rfl)⟩
theorem fokX1_31 : fOK RX1 31 7 4 := ⟨RX7, TX7, 5, rfl, by decide, inX7, Or.inr ⟨"SlipHouse", List.mem_of_getElem? (i := 26) rfl⟩⟩
theorem fokX1_34 : fOK RX1 34 7 1 := ⟨RX7, TX7, 5, rfl, by decide, inX7, Or.inr ⟨"SlipHouse", List.mem_of_getElem? (i := 27) rfl⟩⟩
theorem fokX1_36 : fOK RX1 36 7 2 := ⟨RX7, TX7, 5, rfl, by decide, inX7, Or.inr ⟨"SlipHouse", List.mem_of_getElem? (i := 28) rfl⟩⟩
def fX1l : List (Nat × Nat × Nat) := [(9, 1, 1), (17, 1, 2), (20, 1, 3), (23, 1, 0), (27, 1, 4), (31, 7, 4), (34, 7, 1), (36, 7, 2)]
def fX1 (j : Nat) : Option (Nat × Nat) := lk fX1l j
theorem fX1_9 : fX1 9 = some (1, 1) := rfl
theorem fX1_17 : fX1 17 = some (1, 2) := rfl
theorem fX1_20 : fX1 20 = some (1, 3) := rfl
theorem fX1_23 : fX1 23 = some (1, 0) := rfl
theorem fX1_27 : fX1 27 = some (1, 4) := rfl
theorem fX1_31 : fX1 31 = some (7, 4) := rfl
theorem fX1_34 : fX1 34 = some (7, 1) := rfl
theorem fX1_36 : fX1 36 = some (7, 2) := rfl
theorem fX1_all : ∀ e ∈ fX1l, fOK RX1 e.1 e.2.1 e.2.2 := all_cons fokX1_9 (all_cons fokX1_17 (all_cons fokX1_20 (all_cons fokX1_23 (all_cons fokX1_27 (all_cons fokX1_31 (all_cons fokX1_34 (all_cons fokX1_36 (all_nil))))))))
theorem fX1_ok : ∀ idx ci f, fX1 idx = some (ci, f) → fOK RX1 idx ci f := fun _ _ _ h => fX1_all _ (lk_mem h)
def pX1l : List (Nat × Nat × Nat) := [(27, 1, 4), (31, 7, 4)]
def pX1 (j : Nat) : Option (Nat × Nat) := lk pX1l j
theorem pX1_27 : pX1 27 = some (1, 4) := rfl
theorem pX1_31 : pX1 31 = some (7, 4) := rfl
theorem pX1_all : ∀ e ∈ pX1l, fOK RX1 e.1 e.2.1 e.2.2 ∧ fPk e.2.1 e.2.2 := all_cons ⟨fokX1_27, fpkX1_4⟩ (all_cons ⟨fokX1_31, fpkX7_4⟩ (all_nil))
theorem pX1_ok : ∀ idx ci f, pX1 idx = some (ci, f) → fOK RX1 idx ci f ∧ fPk ci f := fun _ _ _ h => pX1_all _ (lk_mem h)
def kX1 (j : Nat) : Option Int := none
theorem kX1_ok : ∀ idx x, kX1 idx = some x → ∃ v : Int64, x = v.toInt ∧ Cond.constantLong RX1 idx v ∈ gw := by
  intro idx x h
  unfold kX1 at h
  cases h
theorem fokX2_9 : fOK RX2 9 2 0 := ⟨RX2, TX2, 5, rfl, by decide, inX2, Or.inl (in_1 (List.mem_of_getElem? (i := 128) rfl) rfl)⟩
theorem fokX2_15 : fOK RX2 15 2 1 := ⟨RX2, TX2, 5, rfl, by decide, inX2, Or.inl (in_1 (List.mem_of_getElem? (i := 130) rfl) rfl)⟩
theorem fokX2_18 : fOK RX2 18 2 2 := ⟨RX2, TX2, 5, rfl, by decide, inX2, Or.inl (in_1 (List.mem_of_getElem? (i := 131) rfl) rfl)⟩
theorem fokX2_26 : fOK RX2 26 2 3 := ⟨RX2, TX2, 5, rfl, by decide, inX2, Or.inl (in_1 (List.mem_of_getElem? (i := 132) rfl) rfl)⟩
theorem fokX2_30 : fOK RX2 30 2 4 := ⟨RX2, TX2, 5, rfl, by decide, inX2, Or.inl (in_1 (List.mem_of_getElem? (i := 134) rfl) rfl)⟩
def fX2l : List (Nat × Nat × Nat) := [(9, 2, 0), (15, 2, 1), (18, 2, 2), (26, 2, 3), (30, 2, 4)]
def fX2 (j : Nat) : Option (Nat × Nat) := lk fX2l j
theorem fX2_9 : fX2 9 = some (2, 0) := rfl
theorem fX2_15 : fX2 15 = some (2, 1) := rfl
theorem fX2_18 : fX2 18 = some (2, 2) := rfl
theorem fX2_26 : fX2 26 = some (2, 3) := rfl
theorem fX2_30 : fX2 30 = some (2, 4) := rfl
theorem fX2_all : ∀ e ∈ fX2l, fOK RX2 e.1 e.2.1 e.2.2 := all_cons fokX2_9 (all_cons fokX2_15 (all_cons fokX2_18 (all_cons fokX2_26 (all_cons fokX2_30 (all_nil)))))
theorem fX2_ok : ∀ idx ci f, fX2 idx = some (ci, f) → fOK RX2 idx ci f := fun _ _ _ h => fX2_all _ (lk_mem h)
def pX2l : List (Nat × Nat × Nat) := [(30, 2, 4)]
def pX2 (j : Nat) : Option (Nat × Nat) := lk pX2l j
theorem pX2_30 : pX2 30 = some (2, 4) := rfl
theorem pX2_all : ∀ e ∈ pX2l, fOK RX2 e.1 e.2.1 e.2.2 ∧ fPk e.2.1 e.2.2 := all_cons ⟨fokX2_30, fpkX2_4⟩ (all_nil)
theorem pX2_ok : ∀ idx ci f, pX2 idx = some (ci, f) → fOK RX2 idx ci f ∧ fPk ci f := fun _ _ _ h => pX2_all _ (lk_mem h)
def kX2 (j : Nat) : Option Int := none
theorem kX2_ok : ∀ idx x, kX2 idx = some x → ∃ v : Int64, x = v.toInt ∧ Cond.constantLong RX2 idx v ∈ gw := by
  intro idx x h
  unfold kX2 at h
  cases h
theorem fokX3_9 : fOK RX3 9 3 0 := ⟨RX3, TX3, 3, rfl, by decide, inX3, Or.inl (in_2 (List.mem_of_getElem? (i := 11) rfl) rfl)⟩
theorem fokX3_15 : fOK RX3 15 3 1 := ⟨RX3, TX3, 3, rfl, by decide, inX3, Or.inl (in_2 (List.mem_of_getElem? (i := 14) rfl) rfl)⟩
theorem fokX3_18 : fOK RX3 18 3 2 := ⟨RX3, TX3, 3, rfl, by decide, inX3, Or.inl (in_2 (List.mem_of_getElem? (i := 17) rfl) rfl)⟩
def fX3l : List (Nat × Nat × Nat) := [(9, 3, 0), (15, 3, 1), (18, 3, 2)]
def fX3 (j : Nat) : Option (Nat × Nat) := lk fX3l j
theorem fX3_9 : fX3 9 = some (3, 0) := rfl
theorem fX3_15 : fX3 15 = some (3, 1) := rfl
theorem fX3_18 : fX3 18 = some (3, 2) := rfl
theorem fX3_all : ∀ e ∈ fX3l, fOK RX3 e.1 e.2.1 e.2.2 := all_cons fokX3_9 (all_cons fokX3_15 (all_cons fokX3_18 (all_nil)))
theorem fX3_ok : ∀ idx ci f, fX3 idx = some (ci, f) → fOK RX3 idx ci f := fun _ _ _ h => fX3_all _ (lk_mem h)
def pX3l : List (Nat × Nat × Nat) := [(18, 3, 2)]
def pX3 (j : Nat) : Option (Nat × Nat) := lk pX3l j
theorem pX3_18 : pX3 18 = some (3, 2) := rfl
theorem pX3_all : ∀ e ∈ pX3l, fOK RX3 e.1 e.2.1 e.2.2 ∧ fPk e.2.1 e.2.2 := all_cons ⟨fokX3_18, fpkX3_2⟩ (all_nil)
theorem pX3_ok : ∀ idx ci f, pX3 idx = some (ci, f) → fOK RX3 idx ci f ∧ fPk ci f := fun _ _ _ h => pX3_all _ (lk_mem h)
def kX3 (j : Nat) : Option Int := none
theorem kX3_ok : ∀ idx x, kX3 idx = some x → ∃ v : Int64, x = v.toInt ∧ Cond.constantLong RX3 idx v ∈ gw := by
  intro idx x h
  unfold kX3 at h
  cases h
theorem fokX4_11 : fOK RX4 11 4 5 := ⟨RX4, TX4, 8, rfl, by decide, inX4, Or.inl (in_2 (List.mem_of_getElem? (i := 63) rfl) rfl)⟩
theorem fokX4_15 : fOK RX4 15 4 6 := ⟨RX4, TX4, 8, rfl, by decide, inX4, Or.inl (in_2 (List.mem_of_getElem? (i := 64) rfl) rfl)⟩
theorem fokX4_19 : fOK RX4 19 4 0 := ⟨RX4, TX4, 8, rfl, by decide, inX4, Or.inl (in_2 (List.mem_of_getElem? (i := 58) rfl) rfl)⟩
theorem fokX4_23 : fOK RX4 23 4 1 := ⟨RX4, TX4, 8, rfl, by decide, inX4, Or.inl (in_2 (List.mem_of_getElem? (i := 59) rfl) rfl)⟩
theorem fokX4_27 : fOK RX4 27 4 2 := ⟨RX4, TX4, 8, rfl, by decide, inX4, Or.inl (in_2 (List.mem_of_getElem? (i := 60) rfl) rfl)⟩
theorem fokX4_31 : fOK RX4 31 4 3 := ⟨RX4, TX4, 8, rfl, by decide, inX4, Or.inl (in_2 (List.mem_of_getElem? (i := 61) rfl) rfl)⟩
theorem fokX4_35 : fOK RX4 35 4 4 := ⟨RX4, TX4, 8, rfl, by decide, inX4, Or.inl (in_2 (List.mem_of_getElem? (i := 62) rfl) rfl)⟩
theorem fokX4_39 : fOK RX4 39 4 7 := ⟨RX4, TX4, 8, rfl, by decide, inX4, Or.inl (in_2 (List.mem_of_getElem? (i := 65) rfl) rfl)⟩
theorem fokX4_88 : fOK RX4 88 6 0 := ⟨RX6, TX6, 2, rfl, by decide, inX6, Or.inr ⟨"SlipHouse", List.mem_of_getElem? (i := 29) rfl⟩⟩
theorem fokX4_91 : fOK RX4 91 6 1 := ⟨RX6, TX6, 2, rfl, by decide, inX6, Or.inr ⟨"SlipHouse", List.mem_of_getElem? (i := 30) rfl⟩⟩
theorem fokX4_94 : fOK RX4 94 9 9 := ⟨RX9, TX9, 10, rfl, by decide, inX9, Or.inr ⟨"SlipHouse", List.mem_of_getElem? (i := 31) rfl⟩⟩
theorem fokX4_103 : fOK RX4 103 3 2 := ⟨RX3, TX3, 3, rfl, by decide, inX3, Or.inr ⟨"SlipHouse", List.mem_of_getElem? (i := 32) rfl⟩⟩
theorem fokX4_106 : fOK RX4 106 3 0 := ⟨RX3, TX3, 3, rfl, by decide, inX3, Or.inr ⟨"SlipHouse", List.mem_of_getElem? (i := 33) rfl⟩⟩
theorem fokX4_109 : fOK RX4 109 3 1 := ⟨RX3, TX3, 3, rfl, by decide, inX3, Or.inr ⟨"SlipHouse", List.mem_of_getElem? (i := 34) rfl⟩⟩
theorem fokX4_118 : fOK RX4 118 9 5 := ⟨RX9, TX9, 10, rfl, by decide, inX9, Or.inr ⟨"SlipHouse", List.mem_of_getElem? (i := 35) rfl⟩⟩
theorem fokX4_121 : fOK RX4 121 9 7 := ⟨RX9, TX9, 10, rfl, by decide, inX9, Or.inr ⟨"SlipHouse", List.mem_of_getElem? (i := 36) rfl⟩⟩
theorem fokX4_124 : fOK RX4 124 9 8 := ⟨RX9, TX9, 10, rfl, by decide, inX9, Or.inr ⟨"SlipHouse", List.mem_of_getElem? (i := 37) rfl⟩⟩
def fX4l : List (Nat × Nat × Nat) := [(11, 4, 5), (15, 4, 6), (19, 4, 0), (23, 4, 1), (27, 4, 2), (31, 4, 3), (35, 4, 4), (39, 4, 7), (88, 6, 0), (91, 6, 1), (94, 9, 9), (103, 3, 2), (106, 3, 0), (109, 3, 1), (118, 9, 5), (121, 9, 7), (124, 9, 8)]
def fX4 (j : Nat) : Option (Nat × Nat) := lk fX4l j
theorem fX4_11 : fX4 11 = some (4, 5) := rfl
theorem fX4_15 : fX4 15 = some (4, 6) := rfl
theorem fX4_19 : fX4 19 = some (4, 0) := rfl
theorem fX4_23 : fX4 23 = some (4, 1) := rfl
theorem fX4_27 : fX4 27 = some (4, 2) := rfl
theorem fX4_31 : fX4 31 = some (4, 3) := rfl
theorem fX4_35 : fX4 35 = some (4, 4) := rfl
theorem fX4_39 : fX4 39 = some (4, 7) := rfl
theorem fX4_88 : fX4 88 = some (6, 0) := rfl
theorem fX4_91 : fX4 91 = some (6, 1) := rfl
theorem fX4_94 : fX4 94 = some (9, 9) := rfl
theorem fX4_103 : fX4 103 = some (3, 2) := rfl
theorem fX4_106 : fX4 106 = some (3, 0) := rfl
theorem fX4_109 : fX4 109 = some (3, 1) := rfl
theorem fX4_118 : fX4 118 = some (9, 5) := rfl
theorem fX4_121 : fX4 121 = some (9, 7) := rfl
theorem fX4_124 : fX4 124 = some (9, 8) := rfl
theorem fX4_all : ∀ e ∈ fX4l, fOK RX4 e.1 e.2.1 e.2.2 := all_cons fokX4_11 (all_cons fokX4_15 (all_cons fokX4_19 (all_cons fokX4_23 (all_cons fokX4_27 (all_cons fokX4_31 (all_cons fokX4_35 (all_cons fokX4_39 (all_cons fokX4_88 (all_cons fokX4_91 (all_cons fokX4_94 (all_cons fokX4_103 (all_cons fokX4_106 (all_cons fokX4_109 (all_cons fokX4_118 (all_cons fokX4_121 (all_cons fokX4_124 (all_nil)))))))))))))))))
theorem fX4_ok : ∀ idx ci f, fX4 idx = some (ci, f) → fOK RX4 idx ci f := fun _ _ _ h => fX4_all _ (lk_mem h)
def pX4l : List (Nat × Nat × Nat) := [(39, 4, 7), (103, 3, 2)]
def pX4 (j : Nat) : Option (Nat × Nat) := lk pX4l j
theorem pX4_39 : pX4 39 = some (4, 7) := rfl
theorem pX4_103 : pX4 103 = some (3, 2) := rfl
theorem pX4_all : ∀ e ∈ pX4l, fOK RX4 e.1 e.2.1 e.2.2 ∧ fPk e.2.1 e.2.2 := all_cons ⟨fokX4_39, fpkX4_7⟩ (all_cons ⟨fokX4_103, fpkX3_2⟩ (all_nil))
theorem pX4_ok : ∀ idx ci f, pX4 idx = some (ci, f) → fOK RX4 idx ci f ∧ fPk ci f := fun _ _ _ h => pX4_all _ (lk_mem h)
def kX4 (j : Nat) : Option Int := none
theorem kX4_ok : ∀ idx x, kX4 idx = some x → ∃ v : Int64, x = v.toInt ∧ Cond.constantLong RX4 idx v ∈ gw := by
  intro idx x h
  unfold kX4 at h
  cases h
theorem fokX5_9 : fOK RX5 9 5 0 := ⟨RX5, TX5, 3, rfl, by decide, inX5, Or.inl (in_1 (List.mem_of_getElem? (i := 86) rfl) rfl)⟩
theorem fokX5_15 : fOK RX5 15 5 1 := ⟨RX5, TX5, 3, rfl, by decide, inX5, Or.inl (in_1 (List.mem_of_getElem? (i := 88) rfl) rfl)⟩
theorem fokX5_18 : fOK RX5 18 5 2 := ⟨RX5, TX5, 3, rfl, by decide, inX5, Or.inl (in_1 (List.mem_of_getElem? (i := 90) rfl) rfl)⟩
def fX5l : List (Nat × Nat × Nat) := [(9, 5, 0), (15, 5, 1), (18, 5, 2)]
def fX5 (j : Nat) : Option (Nat × Nat) := lk fX5l j
theorem fX5_9 : fX5 9 = some (5, 0) := rfl
theorem fX5_15 : fX5 15 = some (5, 1) := rfl
theorem fX5_18 : fX5 18 = some (5, 2) := rfl
theorem fX5_all : ∀ e ∈ fX5l, fOK RX5 e.1 e.2.1 e.2.2 := all_cons fokX5_9 (all_cons fokX5_15 (all_cons fokX5_18 (all_nil)))
theorem fX5_ok : ∀ idx ci f, fX5 idx = some (ci, f) → fOK RX5 idx ci f := fun _ _ _ h => fX5_all _ (lk_mem h)
def pX5l : List (Nat × Nat × Nat) := [(18, 5, 2)]
def pX5 (j : Nat) : Option (Nat × Nat) := lk pX5l j
theorem pX5_18 : pX5 18 = some (5, 2) := rfl
theorem pX5_all : ∀ e ∈ pX5l, fOK RX5 e.1 e.2.1 e.2.2 ∧ fPk e.2.1 e.2.2 := all_cons ⟨fokX5_18, fpkX5_2⟩ (all_nil)
theorem pX5_ok : ∀ idx ci f, pX5 idx = some (ci, f) → fOK RX5 idx ci f ∧ fPk ci f := fun _ _ _ h => pX5_all _ (lk_mem h)
def kX5 (j : Nat) : Option Int := none
theorem kX5_ok : ∀ idx x, kX5 idx = some x → ∃ v : Int64, x = v.toInt ∧ Cond.constantLong RX5 idx v ∈ gw := by
  intro idx x h
  unfold kX5 at h
  cases h
theorem fokX6_9 : fOK RX6 9 6 0 := ⟨RX6, TX6, 2, rfl, by decide, inX6, Or.inl (in_1 (List.mem_of_getElem? (i := 188) rfl) rfl)⟩
theorem fokX6_15 : fOK RX6 15 6 1 := ⟨RX6, TX6, 2, rfl, by decide, inX6, Or.inl (in_1 (List.mem_of_getElem? (i := 191) rfl) rfl)⟩
def fX6l : List (Nat × Nat × Nat) := [(9, 6, 0), (15, 6, 1)]
def fX6 (j : Nat) : Option (Nat × Nat) := lk fX6l j
theorem fX6_9 : fX6 9 = some (6, 0) := rfl
theorem fX6_15 : fX6 15 = some (6, 1) := rfl
theorem fX6_all : ∀ e ∈ fX6l, fOK RX6 e.1 e.2.1 e.2.2 := all_cons fokX6_9 (all_cons fokX6_15 (all_nil))
theorem fX6_ok : ∀ idx ci f, fX6 idx = some (ci, f) → fOK RX6 idx ci f := fun _ _ _ h => fX6_all _ (lk_mem h)
def pX6l : List (Nat × Nat × Nat) := []
def pX6 (j : Nat) : Option (Nat × Nat) := lk pX6l j
theorem pX6_all : ∀ e ∈ pX6l, fOK RX6 e.1 e.2.1 e.2.2 ∧ fPk e.2.1 e.2.2 := all_nil
theorem pX6_ok : ∀ idx ci f, pX6 idx = some (ci, f) → fOK RX6 idx ci f ∧ fPk ci f := fun _ _ _ h => pX6_all _ (lk_mem h)
def kX6 (j : Nat) : Option Int := none
theorem kX6_ok : ∀ idx x, kX6 idx = some x → ∃ v : Int64, x = v.toInt ∧ Cond.constantLong RX6 idx v ∈ gw := by
  intro idx x h
  unfold kX6 at h
  cases h
theorem fokX7_9 : fOK RX7 9 7 0 := ⟨RX7, TX7, 5, rfl, by decide, inX7, Or.inl (in_1 (List.mem_of_getElem? (i := 155) rfl) rfl)⟩
theorem fokX7_15 : fOK RX7 15 7 1 := ⟨RX7, TX7, 5, rfl, by decide, inX7, Or.inl (in_1 (List.mem_of_getElem? (i := 158) rfl) rfl)⟩
theorem fokX7_18 : fOK RX7 18 7 2 := ⟨RX7, TX7, 5, rfl, by decide, inX7, Or.inl (in_1 (List.mem_of_getElem? (i := 161) rfl) rfl)⟩
theorem fokX7_26 : fOK RX7 26 7 3 := ⟨RX7, TX7, 5, rfl, by decide, inX7, Or.inl (in_1 (List.mem_of_getElem? (i := 165) rfl) rfl)⟩
theorem fokX7_30 : fOK RX7 30 7 4 := ⟨RX7, TX7, 5, rfl, by decide, inX7, Or.inl (in_1 (List.mem_of_getElem? (i := 167) rfl) rfl)⟩
def fX7l : List (Nat × Nat × Nat) := [(9, 7, 0), (15, 7, 1), (18, 7, 2), (26, 7, 3), (30, 7, 4)]
def fX7 (j : Nat) : Option (Nat × Nat) := lk fX7l j
theorem fX7_9 : fX7 9 = some (7, 0) := rfl
theorem fX7_15 : fX7 15 = some (7, 1) := rfl
theorem fX7_18 : fX7 18 = some (7, 2) := rfl
theorem fX7_26 : fX7 26 = some (7, 3) := rfl
theorem fX7_30 : fX7 30 = some (7, 4) := rfl
theorem fX7_all : ∀ e ∈ fX7l, fOK RX7 e.1 e.2.1 e.2.2 := all_cons fokX7_9 (all_cons fokX7_15 (all_cons fokX7_18 (all_cons fokX7_26 (all_cons fokX7_30 (all_nil)))))
theorem fX7_ok : ∀ idx ci f, fX7 idx = some (ci, f) → fOK RX7 idx ci f := fun _ _ _ h => fX7_all _ (lk_mem h)
def pX7l : List (Nat × Nat × Nat) := [(30, 7, 4)]
def pX7 (j : Nat) : Option (Nat × Nat) := lk pX7l j
theorem pX7_30 : pX7 30 = some (7, 4) := rfl
theorem pX7_all : ∀ e ∈ pX7l, fOK RX7 e.1 e.2.1 e.2.2 ∧ fPk e.2.1 e.2.2 := all_cons ⟨fokX7_30, fpkX7_4⟩ (all_nil)
theorem pX7_ok : ∀ idx ci f, pX7 idx = some (ci, f) → fOK RX7 idx ci f ∧ fPk ci f := fun _ _ _ h => pX7_all _ (lk_mem h)
def kX7 (j : Nat) : Option Int := none
theorem kX7_ok : ∀ idx x, kX7 idx = some x → ∃ v : Int64, x = v.toInt ∧ Cond.constantLong RX7 idx v ∈ gw := by
  intro idx x h
  unfold kX7 at h
  cases h
theorem fokX8_9 : fOK RX8 9 8 0 := ⟨RX8, TX8, 2, rfl, by decide, inX8, Or.inl (in_1 (List.mem_of_getElem? (i := 29) rfl) rfl)⟩
theorem fokX8_15 : fOK RX8 15 8 1 := ⟨RX8, TX8, 2, rfl, by decide, inX8, Or.inl (in_1 (List.mem_of_getElem? (i := 31) rfl) rfl)⟩
def fX8l : List (Nat × Nat × Nat) := [(9, 8, 0), (15, 8, 1)]
def fX8 (j : Nat) : Option (Nat × Nat) := lk fX8l j
theorem fX8_9 : fX8 9 = some (8, 0) := rfl
theorem fX8_15 : fX8 15 = some (8, 1) := rfl
theorem fX8_all : ∀ e ∈ fX8l, fOK RX8 e.1 e.2.1 e.2.2 := all_cons fokX8_9 (all_cons fokX8_15 (all_nil))
theorem fX8_ok : ∀ idx ci f, fX8 idx = some (ci, f) → fOK RX8 idx ci f := fun _ _ _ h => fX8_all _ (lk_mem h)
def pX8l : List (Nat × Nat × Nat) := [(15, 8, 1)]
def pX8 (j : Nat) : Option (Nat × Nat) := lk pX8l j
theorem pX8_15 : pX8 15 = some (8, 1) := rfl
theorem pX8_all : ∀ e ∈ pX8l, fOK RX8 e.1 e.2.1 e.2.2 ∧ fPk e.2.1 e.2.2 := all_cons ⟨fokX8_15, fpkX8_1⟩ (all_nil)
theorem pX8_ok : ∀ idx ci f, pX8 idx = some (ci, f) → fOK RX8 idx ci f ∧ fPk ci f := fun _ _ _ h => pX8_all _ (lk_mem h)
def kX8 (j : Nat) : Option Int := none
theorem kX8_ok : ∀ idx x, kX8 idx = some x → ∃ v : Int64, x = v.toInt ∧ Cond.constantLong RX8 idx v ∈ gw := by
  intro idx x h
  unfold kX8 at h
  cases h
theorem fokX9_9 : fOK RX9 9 9 3 := ⟨RX9, TX9, 10, rfl, by decide, inX9, Or.inl (in_1 (List.mem_of_getElem? (i := 209) rfl) rfl)⟩
theorem fokX9_15 : fOK RX9 15 9 4 := ⟨RX9, TX9, 10, rfl, by decide, inX9, Or.inl (in_1 (List.mem_of_getElem? (i := 211) rfl) rfl)⟩
theorem fokX9_18 : fOK RX9 18 9 5 := ⟨RX9, TX9, 10, rfl, by decide, inX9, Or.inl (in_1 (List.mem_of_getElem? (i := 212) rfl) rfl)⟩
theorem fokX9_21 : fOK RX9 21 9 6 := ⟨RX9, TX9, 10, rfl, by decide, inX9, Or.inl (in_1 (List.mem_of_getElem? (i := 215) rfl) rfl)⟩
theorem fokX9_24 : fOK RX9 24 9 7 := ⟨RX9, TX9, 10, rfl, by decide, inX9, Or.inl (in_1 (List.mem_of_getElem? (i := 217) rfl) rfl)⟩
theorem fokX9_27 : fOK RX9 27 9 8 := ⟨RX9, TX9, 10, rfl, by decide, inX9, Or.inl (in_1 (List.mem_of_getElem? (i := 219) rfl) rfl)⟩
theorem fokX9_30 : fOK RX9 30 9 9 := ⟨RX9, TX9, 10, rfl, by decide, inX9, Or.inl (in_1 (List.mem_of_getElem? (i := 221) rfl) rfl)⟩
theorem fokX9_33 : fOK RX9 33 9 0 := ⟨RX9, TX9, 10, rfl, by decide, inX9, Or.inl (in_1 (List.mem_of_getElem? (i := 206) rfl) rfl)⟩
theorem fokX9_37 : fOK RX9 37 9 1 := ⟨RX9, TX9, 10, rfl, by decide, inX9, Or.inl (in_1 (List.mem_of_getElem? (i := 207) rfl) rfl)⟩
theorem fokX9_41 : fOK RX9 41 9 2 := ⟨RX9, TX9, 10, rfl, by decide, inX9, Or.inl (in_1 (List.mem_of_getElem? (i := 208) rfl) rfl)⟩
theorem fokX9_45 : fOK RX9 45 7 4 := ⟨RX7, TX7, 5, rfl, by decide, inX7, Or.inr ⟨"SlipHouse", List.mem_of_getElem? (i := 38) rfl⟩⟩
theorem fokX9_51 : fOK RX9 51 7 2 := ⟨RX7, TX7, 5, rfl, by decide, inX7, Or.inr ⟨"SlipHouse", List.mem_of_getElem? (i := 39) rfl⟩⟩
theorem fokX9_54 : fOK RX9 54 7 0 := ⟨RX7, TX7, 5, rfl, by decide, inX7, Or.inr ⟨"SlipHouse", List.mem_of_getElem? (i := 40) rfl⟩⟩
theorem fokX9_67 : fOK RX9 67 0 2 := ⟨RX0, TX0, 9, rfl, by decide, inX0, Or.inr ⟨"SlipHouse", List.mem_of_getElem? (i := 41) rfl⟩⟩
theorem fokX9_76 : fOK RX9 76 0 3 := ⟨RX0, TX0, 9, rfl, by decide, inX0, Or.inr ⟨"SlipHouse", List.mem_of_getElem? (i := 42) rfl⟩⟩
theorem fokX9_83 : fOK RX9 83 6 1 := ⟨RX6, TX6, 2, rfl, by decide, inX6, Or.inr ⟨"SlipHouse", List.mem_of_getElem? (i := 43) rfl⟩⟩
def fX9l : List (Nat × Nat × Nat) := [(9, 9, 3), (15, 9, 4), (18, 9, 5), (21, 9, 6), (24, 9, 7), (27, 9, 8), (30, 9, 9), (33, 9, 0), (37, 9, 1), (41, 9, 2), (45, 7, 4), (51, 7, 2), (54, 7, 0), (67, 0, 2), (76, 0, 3), (83, 6, 1)]
def fX9 (j : Nat) : Option (Nat × Nat) := lk fX9l j
theorem fX9_9 : fX9 9 = some (9, 3) := rfl
theorem fX9_15 : fX9 15 = some (9, 4) := rfl
theorem fX9_18 : fX9 18 = some (9, 5) := rfl
theorem fX9_21 : fX9 21 = some (9, 6) := rfl
theorem fX9_24 : fX9 24 = some (9, 7) := rfl
theorem fX9_27 : fX9 27 = some (9, 8) := rfl
theorem fX9_30 : fX9 30 = some (9, 9) := rfl
theorem fX9_33 : fX9 33 = some (9, 0) := rfl
theorem fX9_37 : fX9 37 = some (9, 1) := rfl
theorem fX9_41 : fX9 41 = some (9, 2) := rfl
theorem fX9_45 : fX9 45 = some (7, 4) := rfl
theorem fX9_51 : fX9 51 = some (7, 2) := rfl
theorem fX9_54 : fX9 54 = some (7, 0) := rfl
theorem fX9_67 : fX9 67 = some (0, 2) := rfl
theorem fX9_76 : fX9 76 = some (0, 3) := rfl
theorem fX9_83 : fX9 83 = some (6, 1) := rfl
theorem fX9_all : ∀ e ∈ fX9l, fOK RX9 e.1 e.2.1 e.2.2 := all_cons fokX9_9 (all_cons fokX9_15 (all_cons fokX9_18 (all_cons fokX9_21 (all_cons fokX9_24 (all_cons fokX9_27 (all_cons fokX9_30 (all_cons fokX9_33 (all_cons fokX9_37 (all_cons fokX9_41 (all_cons fokX9_45 (all_cons fokX9_51 (all_cons fokX9_54 (all_cons fokX9_67 (all_cons fokX9_76 (all_cons fokX9_83 (all_nil))))))))))))))))
theorem fX9_ok : ∀ idx ci f, fX9 idx = some (ci, f) → fOK RX9 idx ci f := fun _ _ _ h => fX9_all _ (lk_mem h)
def pX9l : List (Nat × Nat × Nat) := [(45, 7, 4)]
def pX9 (j : Nat) : Option (Nat × Nat) := lk pX9l j
theorem pX9_45 : pX9 45 = some (7, 4) := rfl
theorem pX9_all : ∀ e ∈ pX9l, fOK RX9 e.1 e.2.1 e.2.2 ∧ fPk e.2.1 e.2.2 := all_cons ⟨fokX9_45, fpkX7_4⟩ (all_nil)
theorem pX9_ok : ∀ idx ci f, pX9 idx = some (ci, f) → fOK RX9 idx ci f ∧ fPk ci f := fun _ _ _ h => pX9_all _ (lk_mem h)
def kX9 (j : Nat) : Option Int := none
theorem kX9_ok : ∀ idx x, kX9 idx = some x → ∃ v : Int64, x = v.toInt ∧ Cond.constantLong RX9 idx v ∈ gw := by
  intro idx x h
  unfold kX9 at h
  cases h
theorem fokX10_9 : fOK RX10 9 10 0 := ⟨RX10, TX10, 4, rfl, by decide, inX10, Or.inl (in_1 (List.mem_of_getElem? (i := 115) rfl) rfl)⟩
theorem fokX10_15 : fOK RX10 15 10 1 := ⟨RX10, TX10, 4, rfl, by decide, inX10, Or.inl (in_1 (List.mem_of_getElem? (i := 116) rfl) rfl)⟩
theorem fokX10_21 : fOK RX10 21 10 2 := ⟨RX10, TX10, 4, rfl, by decide, inX10, Or.inl (in_1 (List.mem_of_getElem? (i := 117) rfl) rfl)⟩
theorem fokX10_24 : fOK RX10 24 10 3 := ⟨RX10, TX10, 4, rfl, by decide, inX10, Or.inl (in_1 (List.mem_of_getElem? (i := 118) rfl) rfl)⟩
theorem fokX10_28 : fOK RX10 28 5 2 := ⟨RX5, TX5, 3, rfl, by decide, inX5, Or.inr ⟨"SlipHouse", List.mem_of_getElem? (i := 44) rfl⟩⟩
theorem fokX10_42 : fOK RX10 42 5 1 := ⟨RX5, TX5, 3, rfl, by decide, inX5, Or.inr ⟨"SlipHouse", List.mem_of_getElem? (i := 45) rfl⟩⟩
theorem fokX10_46 : fOK RX10 46 5 0 := ⟨RX5, TX5, 3, rfl, by decide, inX5, Or.inr ⟨"SlipHouse", List.mem_of_getElem? (i := 46) rfl⟩⟩
def fX10l : List (Nat × Nat × Nat) := [(9, 10, 0), (15, 10, 1), (21, 10, 2), (24, 10, 3), (28, 5, 2), (42, 5, 1), (46, 5, 0)]
def fX10 (j : Nat) : Option (Nat × Nat) := lk fX10l j
theorem fX10_9 : fX10 9 = some (10, 0) := rfl
theorem fX10_15 : fX10 15 = some (10, 1) := rfl
theorem fX10_21 : fX10 21 = some (10, 2) := rfl
theorem fX10_24 : fX10 24 = some (10, 3) := rfl
theorem fX10_28 : fX10 28 = some (5, 2) := rfl
theorem fX10_42 : fX10 42 = some (5, 1) := rfl
theorem fX10_46 : fX10 46 = some (5, 0) := rfl
theorem fX10_all : ∀ e ∈ fX10l, fOK RX10 e.1 e.2.1 e.2.2 := all_cons fokX10_9 (all_cons fokX10_15 (all_cons fokX10_21 (all_cons fokX10_24 (all_cons fokX10_28 (all_cons fokX10_42 (all_cons fokX10_46 (all_nil)))))))
theorem fX10_ok : ∀ idx ci f, fX10 idx = some (ci, f) → fOK RX10 idx ci f := fun _ _ _ h => fX10_all _ (lk_mem h)
def pX10l : List (Nat × Nat × Nat) := [(28, 5, 2)]
def pX10 (j : Nat) : Option (Nat × Nat) := lk pX10l j
theorem pX10_28 : pX10 28 = some (5, 2) := rfl
theorem pX10_all : ∀ e ∈ pX10l, fOK RX10 e.1 e.2.1 e.2.2 ∧ fPk e.2.1 e.2.2 := all_cons ⟨fokX10_28, fpkX5_2⟩ (all_nil)
theorem pX10_ok : ∀ idx ci f, pX10 idx = some (ci, f) → fOK RX10 idx ci f ∧ fPk ci f := fun _ _ _ h => pX10_all _ (lk_mem h)
def kX10 (j : Nat) : Option Int := if j = 57 then some 31 else none
theorem kX10_57 : kX10 57 = some 31 := rfl
theorem kX10_ok : ∀ idx x, kX10 idx = some x → ∃ v : Int64, x = v.toInt ∧ Cond.constantLong RX10 idx v ∈ gw := by
  intro idx x h
  unfold kX10 at h
  split at h
  · rename_i e; subst e; cases h; exact ⟨31, rfl, in_4 (List.mem_of_getElem? (i := 31) rfl) rfl⟩
  cases h
theorem fokX11_10 : fOK RX11 10 11 0 := ⟨RX11, TX11, 10, rfl, by decide, inX11, Or.inl (in_2 (List.mem_of_getElem? (i := 84) rfl) rfl)⟩
theorem fokX11_19 : fOK RX11 19 11 1 := ⟨RX11, TX11, 10, rfl, by decide, inX11, Or.inl (in_2 (List.mem_of_getElem? (i := 85) rfl) rfl)⟩
theorem fokX11_26 : fOK RX11 26 11 2 := ⟨RX11, TX11, 10, rfl, by decide, inX11, Or.inl (in_2 (List.mem_of_getElem? (i := 86) rfl) rfl)⟩
theorem fokX11_35 : fOK RX11 35 11 3 := ⟨RX11, TX11, 10, rfl, by decide, inX11, Or.inl (in_2 (List.mem_of_getElem? (i := 87) rfl) rfl)⟩
theorem fokX11_42 : fOK RX11 42 11 4 := ⟨RX11, TX11, 10, rfl, by decide, inX11, Or.inl (in_2 (List.mem_of_getElem? (i := 88) rfl) rfl)⟩
theorem fokX11_49 : fOK RX11 49 11 5 := ⟨RX11, TX11, 10, rfl, by decide, inX11, Or.inl (in_2 (List.mem_of_getElem? (i := 89) rfl) rfl)⟩
theorem fokX11_58 : fOK RX11 58 11 6 := ⟨RX11, TX11, 10, rfl, by decide, inX11, Or.inl (in_2 (List.mem_of_getElem? (i := 90) rfl) rfl)⟩
theorem fokX11_65 : fOK RX11 65 11 7 := ⟨RX11, TX11, 10, rfl, by decide, inX11, Or.inl (in_2 (List.mem_of_getElem? (i := 91) rfl) rfl)⟩
theorem fokX11_74 : fOK RX11 74 11 8 := ⟨RX11, TX11, 10, rfl, by decide, inX11, Or.inl (in_2 (List.mem_of_getElem? (i := 92) rfl) rfl)⟩
theorem fokX11_83 : fOK RX11 83 11 9 := ⟨RX11, TX11, 10, rfl, by decide, inX11, Or.inl (in_2 (List.mem_of_getElem? (i := 93) rfl) rfl)⟩
theorem fokX11_87 : fOK RX11 87 8 1 := ⟨RX8, TX8, 2, rfl, by decide, inX8, Or.inr ⟨"SlipHouse", List.mem_of_getElem? (i := 0) rfl⟩⟩
theorem fokX11_99 : fOK RX11 99 0 7 := ⟨RX0, TX0, 9, rfl, by decide, inX0, Or.inr ⟨"SlipHouse", List.mem_of_getElem? (i := 1) rfl⟩⟩
theorem fokX11_111 : fOK RX11 111 0 2 := ⟨RX0, TX0, 9, rfl, by decide, inX0, Or.inr ⟨"SlipHouse", List.mem_of_getElem? (i := 2) rfl⟩⟩
theorem fokX11_115 : fOK RX11 115 0 3 := ⟨RX0, TX0, 9, rfl, by decide, inX0, Or.inr ⟨"SlipHouse", List.mem_of_getElem? (i := 3) rfl⟩⟩
theorem fokX11_118 : fOK RX11 118 0 0 := ⟨RX0, TX0, 9, rfl, by decide, inX0, Or.inr ⟨"SlipHouse", List.mem_of_getElem? (i := 4) rfl⟩⟩
theorem fokX11_121 : fOK RX11 121 0 1 := ⟨RX0, TX0, 9, rfl, by decide, inX0, Or.inr ⟨"SlipHouse", List.mem_of_getElem? (i := 5) rfl⟩⟩
theorem fokX11_128 : fOK RX11 128 7 4 := ⟨RX7, TX7, 5, rfl, by decide, inX7, Or.inr ⟨"SlipHouse", List.mem_of_getElem? (i := 6) rfl⟩⟩
theorem fokX11_141 : fOK RX11 141 2 4 := ⟨RX2, TX2, 5, rfl, by decide, inX2, Or.inr ⟨"SlipHouse", List.mem_of_getElem? (i := 7) rfl⟩⟩
theorem fokX11_155 : fOK RX11 155 5 2 := ⟨RX5, TX5, 3, rfl, by decide, inX5, Or.inr ⟨"SlipHouse", List.mem_of_getElem? (i := 8) rfl⟩⟩
theorem fokX11_166 : fOK RX11 166 2 3 := ⟨RX2, TX2, 5, rfl, by decide, inX2, Or.inr ⟨"SlipHouse", List.mem_of_getElem? (i := 9) rfl⟩⟩
theorem fokX11_173 : fOK RX11 173 7 3 := ⟨RX7, TX7, 5, rfl, by decide, inX7, Or.inr ⟨"SlipHouse", List.mem_of_getElem? (i := 10) rfl⟩⟩
theorem fokX11_203 : fOK RX11 203 6 0 := ⟨RX6, TX6, 2, rfl, by decide, inX6, Or.inr ⟨"SlipHouse", List.mem_of_getElem? (i := 11) rfl⟩⟩
theorem fokX11_206 : fOK RX11 206 6 1 := ⟨RX6, TX6, 2, rfl, by decide, inX6, Or.inr ⟨"SlipHouse", List.mem_of_getElem? (i := 12) rfl⟩⟩
theorem fokX11_228 : fOK RX11 228 3 2 := ⟨RX3, TX3, 3, rfl, by decide, inX3, Or.inr ⟨"SlipHouse", List.mem_of_getElem? (i := 13) rfl⟩⟩
theorem fokX11_235 : fOK RX11 235 3 0 := ⟨RX3, TX3, 3, rfl, by decide, inX3, Or.inr ⟨"SlipHouse", List.mem_of_getElem? (i := 14) rfl⟩⟩
theorem fokX11_238 : fOK RX11 238 3 1 := ⟨RX3, TX3, 3, rfl, by decide, inX3, Or.inr ⟨"SlipHouse", List.mem_of_getElem? (i := 15) rfl⟩⟩
theorem fokX11_244 : fOK RX11 244 9 5 := ⟨RX9, TX9, 10, rfl, by decide, inX9, Or.inr ⟨"SlipHouse", List.mem_of_getElem? (i := 16) rfl⟩⟩
theorem fokX11_247 : fOK RX11 247 9 6 := ⟨RX9, TX9, 10, rfl, by decide, inX9, Or.inr ⟨"SlipHouse", List.mem_of_getElem? (i := 17) rfl⟩⟩
theorem fokX11_253 : fOK RX11 253 9 3 := ⟨RX9, TX9, 10, rfl, by decide, inX9, Or.inr ⟨"SlipHouse", List.mem_of_getElem? (i := 18) rfl⟩⟩
theorem fokX11_256 : fOK RX11 256 9 9 := ⟨RX9, TX9, 10, rfl, by decide, inX9, Or.inr ⟨"SlipHouse", List.mem_of_getElem? (i := 19) rfl⟩⟩
theorem fokX11_267 : fOK RX11 267 7 1 := ⟨RX7, TX7, 5, rfl, by decide, inX7, Or.inr ⟨"SlipHouse", List.mem_of_getElem? (i := 20) rfl⟩⟩
theorem fokX11_268 : fOK RX11 268 7 2 := ⟨RX7, TX7, 5, rfl, by decide, inX7, Or.inr ⟨"SlipHouse", List.mem_of_getElem? (i := 21) rfl⟩⟩
theorem fokX11_274 : fOK RX11 274 7 0 := ⟨RX7, TX7, 5, rfl, by decide, inX7, Or.inr ⟨"SlipHouse", List.mem_of_getElem? (i := 22) rfl⟩⟩
theorem fokX11_291 : fOK RX11 291 1 4 := ⟨RX1, TX1, 5, rfl, by decide, inX1, Or.inr ⟨"SlipHouse", List.mem_of_getElem? (i := 23) rfl⟩⟩
theorem fokX11_316 : fOK RX11 316 0 8 := ⟨RX0, TX0, 9, rfl, by decide, inX0, Or.inr ⟨"SlipHouse", List.mem_of_getElem? (i := 24) rfl⟩⟩
theorem fokX11_322 : fOK RX11 322 2 0 := ⟨RX2, TX2, 5, rfl, by decide, inX2, Or.inr ⟨"SlipHouse", List.mem_of_getElem? (i := 25) rfl⟩⟩
def fX11l : List (Nat × Nat × Nat) := [(10, 11, 0), (19, 11, 1), (26, 11, 2), (35, 11, 3), (42, 11, 4), (49, 11, 5), (58, 11, 6), (65, 11, 7), (74, 11, 8), (83, 11, 9), (87, 8, 1), (99, 0, 7), (111, 0, 2), (115, 0, 3), (118, 0, 0), (121, 0, 1), (128, 7, 4), (141, 2, 4), (155, 5, 2), (166, 2, 3), (173, 7, 3), (203, 6, 0), (206, 6, 1), (228, 3, 2), (235, 3, 0), (238, 3, 1), (244, 9, 5), (247, 9, 6), (253, 9, 3), (256, 9, 9), (267, 7, 1), (268, 7, 2), (274, 7, 0), (291, 1, 4), (316, 0, 8), (322, 2, 0)]
def fX11 (j : Nat) : Option (Nat × Nat) := lk fX11l j
theorem fX11_10 : fX11 10 = some (11, 0) := rfl
theorem fX11_19 : fX11 19 = some (11, 1) := rfl
theorem fX11_26 : fX11 26 = some (11, 2) := rfl
theorem fX11_35 : fX11 35 = some (11, 3) := rfl
theorem fX11_42 : fX11 42 = some (11, 4) := rfl
theorem fX11_49 : fX11 49 = some (11, 5) := rfl
theorem fX11_58 : fX11 58 = some (11, 6) := rfl
theorem fX11_65 : fX11 65 = some (11, 7) := rfl
theorem fX11_74 : fX11 74 = some (11, 8) := rfl
theorem fX11_83 : fX11 83 = some (11, 9) := rfl
theorem fX11_87 : fX11 87 = some (8, 1) := rfl
theorem fX11_99 : fX11 99 = some (0, 7) := rfl
theorem fX11_111 : fX11 111 = some (0, 2) := rfl
theorem fX11_115 : fX11 115 = some (0, 3) := rfl
theorem fX11_118 : fX11 118 = some (0, 0) := rfl
theorem fX11_121 : fX11 121 = some (0, 1) := rfl
theorem fX11_128 : fX11 128 = some (7, 4) := rfl
theorem fX11_141 : fX11 141 = some (2, 4) := rfl
theorem fX11_155 : fX11 155 = some (5, 2) := rfl
theorem fX11_166 : fX11 166 = some (2, 3) := rfl
theorem fX11_173 : fX11 173 = some (7, 3) := rfl
theorem fX11_203 : fX11 203 = some (6, 0) := rfl
theorem fX11_206 : fX11 206 = some (6, 1) := rfl
theorem fX11_228 : fX11 228 = some (3, 2) := rfl
theorem fX11_235 : fX11 235 = some (3, 0) := rfl
theorem fX11_238 : fX11 238 = some (3, 1) := rfl
theorem fX11_244 : fX11 244 = some (9, 5) := rfl
theorem fX11_247 : fX11 247 = some (9, 6) := rfl
theorem fX11_253 : fX11 253 = some (9, 3) := rfl
theorem fX11_256 : fX11 256 = some (9, 9) := rfl
theorem fX11_267 : fX11 267 = some (7, 1) := rfl
theorem fX11_268 : fX11 268 = some (7, 2) := rfl
theorem fX11_274 : fX11 274 = some (7, 0) := rfl
theorem fX11_291 : fX11 291 = some (1, 4) := rfl
theorem fX11_316 : fX11 316 = some (0, 8) := rfl
theorem fX11_322 : fX11 322 = some (2, 0) := rfl
theorem fX11_all : ∀ e ∈ fX11l, fOK RX11 e.1 e.2.1 e.2.2 := all_cons fokX11_10 (all_cons fokX11_19 (all_cons fokX11_26 (all_cons fokX11_35 (all_cons fokX11_42 (all_cons fokX11_49 (all_cons fokX11_58 (all_cons fokX11_65 (all_cons fokX11_74 (all_cons fokX11_83 (all_cons fokX11_87 (all_cons fokX11_99 (all_cons fokX11_111 (all_cons fokX11_115 (all_cons fokX11_118 (all_cons fokX11_121 (all_cons fokX11_128 (all_cons fokX11_141 (all_cons fokX11_155 (all_cons fokX11_166 (all_cons fokX11_173 (all_cons fokX11_203 (all_cons fokX11_206 (all_cons fokX11_228 (all_cons fokX11_235 (all_cons fokX11_238 (all_cons fokX11_244 (all_cons fokX11_247 (all_cons fokX11_253 (all_cons fokX11_256 (all_cons fokX11_267 (all_cons fokX11_268 (all_cons fokX11_274 (all_cons fokX11_291 (all_cons fokX11_316 (all_cons fokX11_322 (all_nil))))))))))))))))))))))))))))))))))))
theorem fX11_ok : ∀ idx ci f, fX11 idx = some (ci, f) → fOK RX11 idx ci f := fun _ _ _ h => fX11_all _ (lk_mem h)
def pX11l : List (Nat × Nat × Nat) := [(87, 8, 1), (99, 0, 7), (128, 7, 4), (141, 2, 4), (155, 5, 2), (228, 3, 2), (291, 1, 4), (316, 0, 8)]
def pX11 (j : Nat) : Option (Nat × Nat) := lk pX11l j
theorem pX11_87 : pX11 87 = some (8, 1) := rfl
theorem pX11_99 : pX11 99 = some (0, 7) := rfl
theorem pX11_128 : pX11 128 = some (7, 4) := rfl
theorem pX11_141 : pX11 141 = some (2, 4) := rfl
theorem pX11_155 : pX11 155 = some (5, 2) := rfl
theorem pX11_228 : pX11 228 = some (3, 2) := rfl
theorem pX11_291 : pX11 291 = some (1, 4) := rfl
theorem pX11_316 : pX11 316 = some (0, 8) := rfl
theorem pX11_all : ∀ e ∈ pX11l, fOK RX11 e.1 e.2.1 e.2.2 ∧ fPk e.2.1 e.2.2 := all_cons ⟨fokX11_87, fpkX8_1⟩ (all_cons ⟨fokX11_99, fpkX0_7⟩ (all_cons ⟨fokX11_128, fpkX7_4⟩ (all_cons ⟨fokX11_141, fpkX2_4⟩ (all_cons ⟨fokX11_155, fpkX5_2⟩ (all_cons ⟨fokX11_228, fpkX3_2⟩ (all_cons ⟨fokX11_291, fpkX1_4⟩ (all_cons ⟨fokX11_316, fpkX0_8⟩ (all_nil))))))))
theorem pX11_ok : ∀ idx ci f, pX11 idx = some (ci, f) → fOK RX11 idx ci f ∧ fPk ci f := fun _ _ _ h => pX11_all _ (lk_mem h)
def kX11 (j : Nat) : Option Int := none
theorem kX11_ok : ∀ idx x, kX11 idx = some x → ∃ v : Int64, x = v.toInt ∧ Cond.constantLong RX11 idx v ∈ gw := by
  intro idx x h
  unfold kX11 at h
  cases h
theorem fokX12_7 : fOK RX12 7 12 0 := ⟨RX12, TX12, 44, rfl, by decide, inX12, Or.inl (in_4 (List.mem_of_getElem? (i := 164) rfl) rfl)⟩
theorem fokX12_13 : fOK RX12 13 12 1 := ⟨RX12, TX12, 44, rfl, by decide, inX12, Or.inl (in_4 (List.mem_of_getElem? (i := 165) rfl) rfl)⟩
theorem fokX12_16 : fOK RX12 16 12 5 := ⟨RX12, TX12, 44, rfl, by decide, inX12, Or.inl (in_4 (List.mem_of_getElem? (i := 169) rfl) rfl)⟩
theorem fokX12_20 : fOK RX12 20 12 6 := ⟨RX12, TX12, 44, rfl, by decide, inX12, Or.inl (in_4 (List.mem_of_getElem? (i := 170) rfl) rfl)⟩
theorem fokX12_23 : fOK RX12 23 12 7 := ⟨RX12, TX12, 44, rfl, by decide, inX12, Or.inl (in_4 (List.mem_of_getElem? (i := 171) rfl) rfl)⟩
theorem fokX12_26 : fOK RX12 26 12 8 := ⟨RX12, TX12, 44, rfl, by decide, inX12, Or.inl (in_4 (List.mem_of_getElem? (i := 172) rfl) rfl)⟩
theorem fokX12_29 : fOK RX12 29 12 9 := ⟨RX12, TX12, 44, rfl, by decide, inX12, Or.inl (in_4 (List.mem_of_getElem? (i := 173) rfl) rfl)⟩
theorem fokX12_32 : fOK RX12 32 12 10 := ⟨RX12, TX12, 44, rfl, by decide, inX12, Or.inl (in_4 (List.mem_of_getElem? (i := 174) rfl) rfl)⟩
theorem fokX12_35 : fOK RX12 35 12 11 := ⟨RX12, TX12, 44, rfl, by decide, inX12, Or.inl (in_4 (List.mem_of_getElem? (i := 175) rfl) rfl)⟩
theorem fokX12_39 : fOK RX12 39 12 15 := ⟨RX12, TX12, 44, rfl, by decide, inX12, Or.inl (in_4 (List.mem_of_getElem? (i := 179) rfl) rfl)⟩
theorem fokX12_42 : fOK RX12 42 12 16 := ⟨RX12, TX12, 44, rfl, by decide, inX12, Or.inl (in_4 (List.mem_of_getElem? (i := 180) rfl) rfl)⟩
theorem fokX12_45 : fOK RX12 45 12 17 := ⟨RX12, TX12, 44, rfl, by decide, inX12, Or.inl (in_4 (List.mem_of_getElem? (i := 181) rfl) rfl)⟩
theorem fokX12_48 : fOK RX12 48 12 18 := ⟨RX12, TX12, 44, rfl, by decide, inX12, Or.inl (in_4 (List.mem_of_getElem? (i := 182) rfl) rfl)⟩
theorem fokX12_52 : fOK RX12 52 12 19 := ⟨RX12, TX12, 44, rfl, by decide, inX12, Or.inl (in_4 (List.mem_of_getElem? (i := 183) rfl) rfl)⟩
theorem fokX12_55 : fOK RX12 55 12 20 := ⟨RX12, TX12, 44, rfl, by decide, inX12, Or.inl (in_4 (List.mem_of_getElem? (i := 184) rfl) rfl)⟩
theorem fokX12_58 : fOK RX12 58 12 21 := ⟨RX12, TX12, 44, rfl, by decide, inX12, Or.inl (in_4 (List.mem_of_getElem? (i := 185) rfl) rfl)⟩
theorem fokX12_61 : fOK RX12 61 12 22 := ⟨RX12, TX12, 44, rfl, by decide, inX12, Or.inl (in_4 (List.mem_of_getElem? (i := 186) rfl) rfl)⟩
theorem fokX12_64 : fOK RX12 64 12 23 := ⟨RX12, TX12, 44, rfl, by decide, inX12, Or.inl (in_4 (List.mem_of_getElem? (i := 187) rfl) rfl)⟩
theorem fokX12_67 : fOK RX12 67 12 24 := ⟨RX12, TX12, 44, rfl, by decide, inX12, Or.inl (in_4 (List.mem_of_getElem? (i := 188) rfl) rfl)⟩
theorem fokX12_70 : fOK RX12 70 12 25 := ⟨RX12, TX12, 44, rfl, by decide, inX12, Or.inl (in_4 (List.mem_of_getElem? (i := 189) rfl) rfl)⟩
theorem fokX12_73 : fOK RX12 73 12 26 := ⟨RX12, TX12, 44, rfl, by decide, inX12, Or.inl (in_4 (List.mem_of_getElem? (i := 190) rfl) rfl)⟩
theorem fokX12_76 : fOK RX12 76 12 27 := ⟨RX12, TX12, 44, rfl, by decide, inX12, Or.inl (in_4 (List.mem_of_getElem? (i := 191) rfl) rfl)⟩
theorem fokX12_79 : fOK RX12 79 12 28 := ⟨RX12, TX12, 44, rfl, by decide, inX12, Or.inl (in_4 (List.mem_of_getElem? (i := 192) rfl) rfl)⟩
theorem fokX12_82 : fOK RX12 82 12 30 := ⟨RX12, TX12, 44, rfl, by decide, inX12, Or.inl (in_4 (List.mem_of_getElem? (i := 194) rfl) rfl)⟩
theorem fokX12_85 : fOK RX12 85 12 31 := ⟨RX12, TX12, 44, rfl, by decide, inX12, Or.inl (in_4 (List.mem_of_getElem? (i := 195) rfl) rfl)⟩
theorem fokX12_88 : fOK RX12 88 12 38 := ⟨RX12, TX12, 44, rfl, by decide, inX12, Or.inl (in_4 (List.mem_of_getElem? (i := 202) rfl) rfl)⟩
theorem fokX12_91 : fOK RX12 91 12 39 := ⟨RX12, TX12, 44, rfl, by decide, inX12, Or.inl (in_4 (List.mem_of_getElem? (i := 203) rfl) rfl)⟩
theorem fokX12_94 : fOK RX12 94 12 40 := ⟨RX12, TX12, 44, rfl, by decide, inX12, Or.inl (in_4 (List.mem_of_getElem? (i := 204) rfl) rfl)⟩
theorem fokX12_97 : fOK RX12 97 12 41 := ⟨RX12, TX12, 44, rfl, by decide, inX12, Or.inl (in_4 (List.mem_of_getElem? (i := 205) rfl) rfl)⟩
theorem fokX12_100 : fOK RX12 100 12 43 := ⟨RX12, TX12, 44, rfl, by decide, inX12, Or.inl (in_4 (List.mem_of_getElem? (i := 207) rfl) rfl)⟩
theorem fokX12_103 : fOK RX12 103 12 2 := ⟨RX12, TX12, 44, rfl, by decide, inX12, Or.inl (in_4 (List.mem_of_getElem? (i := 166) rfl) rfl)⟩
theorem fokX12_111 : fOK RX12 111 12 3 := ⟨RX12, TX12, 44, rfl, by decide, inX12, Or.inl (in_4 (List.mem_of_getElem? (i := 167) rfl) rfl)⟩
theorem fokX12_122 : fOK RX12 122 12 4 := ⟨RX12, TX12, 44, rfl, by decide, inX12, Or.inl (in_4 (List.mem_of_getElem? (i := 168) rfl) rfl)⟩
theorem fokX12_132 : fOK RX12 132 12 12 := ⟨RX12, TX12, 44, rfl, by decide, inX12, Or.inl (in_4 (List.mem_of_getElem? (i := 176) rfl) rfl)⟩
theorem fokX12_145 : fOK RX12 145 12 13 := ⟨RX12, TX12, 44, rfl, by decide, inX12, Or.inl (in_4 (List.mem_of_getElem? (i := 177) rfl) rfl)⟩
theorem fokX12_155 : fOK RX12 155 12 14 := ⟨RX12, TX12, 44, rfl, by decide, inX12, Or.inl (in_4 (List.mem_of_getElem? (i := 178) rfl) rfl)⟩
theorem fokX12_196 : fOK RX12 196 12 29 := ⟨RX12, TX12, 44, rfl, by decide, inX12, Or.inl (in_4 (List.mem_of_getElem? (i := 193) rfl) rfl)⟩
theorem fokX12_211 : fOK RX12 211 12 32 := ⟨RX12, TX12, 44, rfl, by decide, inX12, Or.inl (in_4 (List.mem_of_getElem? (i := 196) rfl) rfl)⟩
theorem fokX12_218 : fOK RX12 218 12 33 := ⟨RX12, TX12, 44, rfl, by decide, inX12, Or.inl (in_4 (List.mem_of_getElem? (i := 197) rfl) rfl)⟩
theorem fokX12_221 : fOK RX12 221 12 34 := ⟨RX12, TX12, 44, rfl, by decide, inX12, Or.inl (in_4 (List.mem_of_getElem? (i := 198) rfl) rfl)⟩
theorem fokX12_224 : fOK RX12 224 12 35 := ⟨RX12, TX12, 44, rfl, by decide, inX12, Or.inl (in_4 (List.mem_of_getElem? (i := 199) rfl) rfl)⟩
theorem fokX12_227 : fOK RX12 227 12 36 := ⟨RX12, TX12, 44, rfl, by decide, inX12, Or.inl (in_4 (List.mem_of_getElem? (i := 200) rfl) rfl)⟩
theorem fokX12_266 : fOK RX12 266 12 37 := ⟨RX12, TX12, 44, rfl, by decide, inX12, Or.inl (in_4 (List.mem_of_getElem? (i := 201) rfl) rfl)⟩
theorem fokX12_272 : fOK RX12 272 12 42 := ⟨RX12, TX12, 44, rfl, by decide, inX12, Or.inl (in_4 (List.mem_of_getElem? (i := 206) rfl) rfl)⟩
def fX12l : List (Nat × Nat × Nat) := [(7, 12, 0), (13, 12, 1), (16, 12, 5), (20, 12, 6), (23, 12, 7), (26, 12, 8), (29, 12, 9), (32, 12, 10), (35, 12, 11), (39, 12, 15), (42, 12, 16), (45, 12, 17), (48, 12, 18), (52, 12, 19), (55, 12, 20), (58, 12, 21), (61, 12, 22), (64, 12, 23), (67, 12, 24), (70, 12, 25), (73, 12, 26), (76, 12, 27), (79, 12, 28), (82, 12, 30), (85, 12, 31), (88, 12, 38), (91, 12, 39), (94, 12, 40), (97, 12, 41), (100, 12, 43), (103, 12, 2), (111, 12, 3), (122, 12, 4), (132, 12, 12), (145, 12, 13), (155, 12, 14), (196, 12, 29), (211, 12, 32), (218, 12, 33), (221, 12, 34), (224, 12, 35), (227, 12, 36), (266, 12, 37), (272, 12, 42)]
def fX12 (j : Nat) : Option (Nat × Nat) := lk fX12l j
theorem fX12_7 : fX12 7 = some (12, 0) := rfl
theorem fX12_13 : fX12 13 = some (12, 1) := rfl
theorem fX12_16 : fX12 16 = some (12, 5) := rfl
theorem fX12_20 : fX12 20 = some (12, 6) := rfl
theorem fX12_23 : fX12 23 = some (12, 7) := rfl
theorem fX12_26 : fX12 26 = some (12, 8) := rfl
theorem fX12_29 : fX12 29 = some (12, 9) := rfl
theorem fX12_32 : fX12 32 = some (12, 10) := rfl
theorem fX12_35 : fX12 35 = some (12, 11) := rfl
theorem fX12_39 : fX12 39 = some (12, 15) := rfl
theorem fX12_42 : fX12 42 = some (12, 16) := rfl
theorem fX12_45 : fX12 45 = some (12, 17) := rfl
theorem fX12_48 : fX12 48 = some (12, 18) := rfl
theorem fX12_52 : fX12 52 = some (12, 19) := rfl
theorem fX12_55 : fX12 55 = some (12, 20) := rfl
theorem fX12_58 : fX12 58 = some (12, 21) := rfl
theorem fX12_61 : fX12 61 = some (12, 22) := rfl
theorem fX12_64 : fX12 64 = some (12, 23) := rfl
theorem fX12_67 : fX12 67 = some (12, 24) := rfl
theorem fX12_70 : fX12 70 = some (12, 25) := rfl
theorem fX12_73 : fX12 73 = some (12, 26) := rfl
theorem fX12_76 : fX12 76 = some (12, 27) := rfl
theorem fX12_79 : fX12 79 = some (12, 28) := rfl
theorem fX12_82 : fX12 82 = some (12, 30) := rfl
theorem fX12_85 : fX12 85 = some (12, 31) := rfl
theorem fX12_88 : fX12 88 = some (12, 38) := rfl
theorem fX12_91 : fX12 91 = some (12, 39) := rfl
theorem fX12_94 : fX12 94 = some (12, 40) := rfl
theorem fX12_97 : fX12 97 = some (12, 41) := rfl
theorem fX12_100 : fX12 100 = some (12, 43) := rfl
theorem fX12_103 : fX12 103 = some (12, 2) := rfl
theorem fX12_111 : fX12 111 = some (12, 3) := rfl
theorem fX12_122 : fX12 122 = some (12, 4) := rfl
theorem fX12_132 : fX12 132 = some (12, 12) := rfl
theorem fX12_145 : fX12 145 = some (12, 13) := rfl
theorem fX12_155 : fX12 155 = some (12, 14) := rfl
theorem fX12_196 : fX12 196 = some (12, 29) := rfl
theorem fX12_211 : fX12 211 = some (12, 32) := rfl
theorem fX12_218 : fX12 218 = some (12, 33) := rfl
theorem fX12_221 : fX12 221 = some (12, 34) := rfl
theorem fX12_224 : fX12 224 = some (12, 35) := rfl
theorem fX12_227 : fX12 227 = some (12, 36) := rfl
theorem fX12_266 : fX12 266 = some (12, 37) := rfl
theorem fX12_272 : fX12 272 = some (12, 42) := rfl
theorem fX12_all : ∀ e ∈ fX12l, fOK RX12 e.1 e.2.1 e.2.2 := all_cons fokX12_7 (all_cons fokX12_13 (all_cons fokX12_16 (all_cons fokX12_20 (all_cons fokX12_23 (all_cons fokX12_26 (all_cons fokX12_29 (all_cons fokX12_32 (all_cons fokX12_35 (all_cons fokX12_39 (all_cons fokX12_42 (all_cons fokX12_45 (all_cons fokX12_48 (all_cons fokX12_52 (all_cons fokX12_55 (all_cons fokX12_58 (all_cons fokX12_61 (all_cons fokX12_64 (all_cons fokX12_67 (all_cons fokX12_70 (all_cons fokX12_73 (all_cons fokX12_76 (all_cons fokX12_79 (all_cons fokX12_82 (all_cons fokX12_85 (all_cons fokX12_88 (all_cons fokX12_91 (all_cons fokX12_94 (all_cons fokX12_97 (all_cons fokX12_100 (all_cons fokX12_103 (all_cons fokX12_111 (all_cons fokX12_122 (all_cons fokX12_132 (all_cons fokX12_145 (all_cons fokX12_155 (all_cons fokX12_196 (all_cons fokX12_211 (all_cons fokX12_218 (all_cons fokX12_221 (all_cons fokX12_224 (all_cons fokX12_227 (all_cons fokX12_266 (all_cons fokX12_272 (all_nil))))))))))))))))))))))))))))))))))))))))))))
theorem fX12_ok : ∀ idx ci f, fX12 idx = some (ci, f) → fOK RX12 idx ci f := fun _ _ _ h => fX12_all _ (lk_mem h)
def pX12l : List (Nat × Nat × Nat) := [(103, 12, 2), (111, 12, 3), (122, 12, 4), (132, 12, 12), (145, 12, 13), (155, 12, 14), (196, 12, 29), (211, 12, 32), (218, 12, 33), (221, 12, 34), (224, 12, 35), (227, 12, 36), (266, 12, 37), (272, 12, 42)]
def pX12 (j : Nat) : Option (Nat × Nat) := lk pX12l j
theorem pX12_103 : pX12 103 = some (12, 2) := rfl
theorem pX12_111 : pX12 111 = some (12, 3) := rfl
theorem pX12_122 : pX12 122 = some (12, 4) := rfl
theorem pX12_132 : pX12 132 = some (12, 12) := rfl
theorem pX12_145 : pX12 145 = some (12, 13) := rfl
theorem pX12_155 : pX12 155 = some (12, 14) := rfl
theorem pX12_196 : pX12 196 = some (12, 29) := rfl
theorem pX12_211 : pX12 211 = some (12, 32) := rfl
theorem pX12_218 : pX12 218 = some (12, 33) := rfl
theorem pX12_221 : pX12 221 = some (12, 34) := rfl
theorem pX12_224 : pX12 224 = some (12, 35) := rfl
theorem pX12_227 : pX12 227 = some (12, 36) := rfl
theorem pX12_266 : pX12 266 = some (12, 37) := rfl
theorem pX12_272 : pX12 272 = some (12, 42) := rfl
theorem pX12_all : ∀ e ∈ pX12l, fOK RX12 e.1 e.2.1 e.2.2 ∧ fPk e.2.1 e.2.2 := all_cons ⟨fokX12_103, fpkX12_2⟩ (all_cons ⟨fokX12_111, fpkX12_3⟩ (all_cons ⟨fokX12_122, fpkX12_4⟩ (all_cons ⟨fokX12_132, fpkX12_12⟩ (all_cons ⟨fokX12_145, fpkX12_13⟩ (all_cons ⟨fokX12_155, fpkX12_14⟩ (all_cons ⟨fokX12_196, fpkX12_29⟩ (all_cons ⟨fokX12_211, fpkX12_32⟩ (all_cons ⟨fokX12_218, fpkX12_33⟩ (all_cons ⟨fokX12_221, fpkX12_34⟩ (all_cons ⟨fokX12_224, fpkX12_35⟩ (all_cons ⟨fokX12_227, fpkX12_36⟩ (all_cons ⟨fokX12_266, fpkX12_37⟩ (all_cons ⟨fokX12_272, fpkX12_42⟩ (all_nil))))))))))))))
theorem pX12_ok : ∀ idx ci f, pX12 idx = some (ci, f) → fOK RX12 idx ci f ∧ fPk ci f := fun _ _ _ h => pX12_all _ (lk_mem h)
def kX12 (j : Nat) : Option Int := none
theorem kX12_ok : ∀ idx x, kX12 idx = some x → ∃ v : Int64, x = v.toInt ∧ Cond.constantLong RX12 idx v ∈ gw := by
  intro idx x h
  unfold kX12 at h
  cases h
def mX11_feed : aM := (yX11_feed, cX11_feed, 6, (some .int), 1, 22)
theorem meX11_feed : Cond.code mX11_feed.1 mX11_feed.2.1 mX11_feed.2.2.1 mX11_feed.2.2.2.1 ∈ gw := in_2 (List.mem_of_getElem? (i := 118) rfl) rfl
def mX8_addFour : aM := (yX8_addFour, cX8_addFour, 3, none, 0, 0)
theorem meX8_addFour : Cond.code mX8_addFour.1 mX8_addFour.2.1 mX8_addFour.2.2.1 mX8_addFour.2.2.2.1 ∈ gw := in_2 (List.mem_of_getElem? (i := 122) rfl) rfl
def mX11_book : aM := (yX11_book, cX11_book, 3, (some .int), 1, 23)
theorem meX11_book : Cond.code mX11_book.1 mX11_book.2.1 mX11_book.2.2.1 mX11_book.2.2.2.1 ∈ gw := in_2 (List.mem_of_getElem? (i := 126) rfl) rfl
def mX11_areYears : aM := (yX11_areYears, cX11_areYears, 2, (some .boolean), 0, 0)
theorem meX11_areYears : Cond.code mX11_areYears.1 mX11_areYears.2.1 mX11_areYears.2.2.1 mX11_areYears.2.2.2.1 ∈ gw := in_2 (List.mem_of_getElem? (i := 129) rfl) rfl
def mX0_add : aM := (yX0_add, cX0_add, 4, (some .int), 0, 0)
theorem meX0_add : Cond.code mX0_add.1 mX0_add.2.1 mX0_add.2.2.1 mX0_add.2.2.2.1 ∈ gw := in_2 (List.mem_of_getElem? (i := 133) rfl) rfl
def mX11_before : aM := (yX11_before, cX11_before, 3, (some .boolean), 3, 68)
theorem meX11_before : Cond.code mX11_before.1 mX11_before.2.1 mX11_before.2.2.1 mX11_before.2.2.2.1 ∈ gw := in_2 (List.mem_of_getElem? (i := 137) rfl) rfl
def mX0_has : aM := (yX0_has, cX0_has, 2, (some .boolean), 0, 0)
theorem meX0_has : Cond.code mX0_has.1 mX0_has.2.1 mX0_has.2.2.1 mX0_has.2.2.2.1 ∈ gw := in_2 (List.mem_of_getElem? (i := 141) rfl) rfl
def mX0_addBefore : aM := (yX0_addBefore, cX0_addBefore, 3, (some .boolean), 2, 46)
theorem meX0_addBefore : Cond.code mX0_addBefore.1 mX0_addBefore.2.1 mX0_addBefore.2.2.1 mX0_addBefore.2.2.2.1 ∈ gw := in_2 (List.mem_of_getElem? (i := 145) rfl) rfl
def mX0_wasTold : aM := (yX0_wasTold, cX0_wasTold, 4, (some .boolean), 0, 0)
theorem meX0_wasTold : Cond.code mX0_wasTold.1 mX0_wasTold.2.1 mX0_wasTold.2.2.1 mX0_wasTold.2.2.2.1 ∈ gw := in_2 (List.mem_of_getElem? (i := 149) rfl) rfl
def mX0_tighten : aM := (yX0_tighten, cX0_tighten, 3, (some .boolean), 1, 24)
theorem meX0_tighten : Cond.code mX0_tighten.1 mX0_tighten.2.1 mX0_tighten.2.2.1 mX0_tighten.2.2.2.1 ∈ gw := in_2 (List.mem_of_getElem? (i := 153) rfl) rfl
def mX0_tightenOnce : aM := (yX0_tightenOnce, cX0_tightenOnce, 5, (some .boolean), 0, 0)
theorem meX0_tightenOnce : Cond.code mX0_tightenOnce.1 mX0_tightenOnce.2.1 mX0_tightenOnce.2.2.1 mX0_tightenOnce.2.2.2.1 ∈ gw := in_2 (List.mem_of_getElem? (i := 157) rfl) rfl
def mX0_allHaveYears : aM := (yX0_allHaveYears, cX0_allHaveYears, 2, (some .boolean), 0, 0)
theorem meX0_allHaveYears : Cond.code mX0_allHaveYears.1 mX0_allHaveYears.2.1 mX0_allHaveYears.2.2.1 mX0_allHaveYears.2.2.2.1 ∈ gw := in_2 (List.mem_of_getElem? (i := 161) rfl) rfl
def mX0_setBehind : aM := (yX0_setBehind, cX0_setBehind, 5, none, 1, 21)
theorem meX0_setBehind : Cond.code mX0_setBehind.1 mX0_setBehind.2.1 mX0_setBehind.2.2.1 mX0_setBehind.2.2.2.1 ∈ gw := in_2 (List.mem_of_getElem? (i := 165) rfl) rfl
def mX0_isIn : aM := (yX0_isIn, cX0_isIn, 2, (some .boolean), 0, 0)
theorem meX0_isIn : Cond.code mX0_isIn.1 mX0_isIn.2.1 mX0_isIn.2.2.1 mX0_isIn.2.2.2.1 ∈ gw := in_2 (List.mem_of_getElem? (i := 168) rfl) rfl
def mX11_span : aM := (yX11_span, cX11_span, 3, (some .int), 1, 23)
theorem meX11_span : Cond.code mX11_span.1 mX11_span.2.1 mX11_span.2.2.1 mX11_span.2.2.2.1 ∈ gw := in_2 (List.mem_of_getElem? (i := 172) rfl) rfl
def mX7_ofBook : aM := (yX7_ofBook, cX7_ofBook, 4, (some .int), 0, 0)
theorem meX7_ofBook : Cond.code mX7_ofBook.1 mX7_ofBook.2.1 mX7_ofBook.2.2.1 mX7_ofBook.2.2.2.1 ∈ gw := in_2 (List.mem_of_getElem? (i := 176) rfl) rfl
def mX11_slip : aM := (yX11_slip, cX11_slip, 5, (some .int), 5, 136)
theorem meX11_slip : Cond.code mX11_slip.1 mX11_slip.2.1 mX11_slip.2.2.1 mX11_slip.2.2.2.1 ∈ gw := in_2 (List.mem_of_getElem? (i := 180) rfl) rfl
def mX11_tapeHasWord : aM := (yX11_tapeHasWord, cX11_tapeHasWord, 2, (some .boolean), 0, 0)
theorem meX11_tapeHasWord : Cond.code mX11_tapeHasWord.1 mX11_tapeHasWord.2.1 mX11_tapeHasWord.2.2.1 mX11_tapeHasWord.2.2.2.1 ∈ gw := in_2 (List.mem_of_getElem? (i := 184) rfl) rfl
def mX8_takeWord : aM := (yX8_takeWord, cX8_takeWord, 4, (some .long), 2, 47)
theorem meX8_takeWord : Cond.code mX8_takeWord.1 mX8_takeWord.2.1 mX8_takeWord.2.2.1 mX8_takeWord.2.2.2.1 ∈ gw := in_2 (List.mem_of_getElem? (i := 188) rfl) rfl
def mX8_wordAt : aM := (yX8_wordAt, cX8_wordAt, 6, (some .long), 1, 22)
theorem meX8_wordAt : Cond.code mX8_wordAt.1 mX8_wordAt.2.1 mX8_wordAt.2.2.1 mX8_wordAt.2.2.2.1 ∈ gw := in_2 (List.mem_of_getElem? (i := 192) rfl) rfl
def mX10_append : aM := (yX10_append, cX10_append, 3, (some .long), 0, 0)
theorem meX10_append : Cond.code mX10_append.1 mX10_append.2.1 mX10_append.2.2.1 mX10_append.2.2.2.1 ∈ gw := in_2 (List.mem_of_getElem? (i := 195) rfl) rfl
def mX8_clear : aM := (yX8_clear, cX8_clear, 1, none, 0, 0)
theorem meX8_clear : Cond.code mX8_clear.1 mX8_clear.2.1 mX8_clear.2.2.1 mX8_clear.2.2.2.1 ∈ gw := in_2 (List.mem_of_getElem? (i := 199) rfl) rfl
def mX7_add : aM := (yX7_add, cX7_add, 5, (some .int), 4, 112)
theorem meX7_add : Cond.code mX7_add.1 mX7_add.2.1 mX7_add.2.2.1 mX7_add.2.2.2.1 ∈ gw := in_2 (List.mem_of_getElem? (i := 203) rfl) rfl
def mX10_set : aM := (yX10_set, cX10_set, 5, none, 3, 88)
theorem meX10_set : Cond.code mX10_set.1 mX10_set.2.1 mX10_set.2.2.1 mX10_set.2.2.2.1 ∈ gw := in_2 (List.mem_of_getElem? (i := 207) rfl) rfl
def mX10_addNeighboursOf : aM := (yX10_addNeighboursOf, cX10_addNeighboursOf, 10, none, 2, 59)
theorem meX10_addNeighboursOf : Cond.code mX10_addNeighboursOf.1 mX10_addNeighboursOf.2.1 mX10_addNeighboursOf.2.2.1 mX10_addNeighboursOf.2.2.2.1 ∈ gw := in_2 (List.mem_of_getElem? (i := 211) rfl) rfl
def mX10_changed : aM := (yX10_changed, cX10_changed, 16, (some .long), 1, 24)
theorem meX10_changed : Cond.code mX10_changed.1 mX10_changed.2.1 mX10_changed.2.2.1 mX10_changed.2.2.2.1 ∈ gw := in_2 (List.mem_of_getElem? (i := 214) rfl) rfl
def mX10_lettersIn : aM := (yX10_lettersIn, cX10_lettersIn, 5, (some .int), 0, 0)
theorem meX10_lettersIn : Cond.code mX10_lettersIn.1 mX10_lettersIn.2.1 mX10_lettersIn.2.2.1 mX10_lettersIn.2.2.2.1 ∈ gw := in_2 (List.mem_of_getElem? (i := 217) rfl) rfl
def mX10_lowest : aM := (yX10_lowest, cX10_lowest, 3, (some .long), 0, 0)
theorem meX10_lowest : Cond.code mX10_lowest.1 mX10_lowest.2.1 mX10_lowest.2.2.1 mX10_lowest.2.2.2.1 ∈ gw := in_2 (List.mem_of_getElem? (i := 220) rfl) rfl
def mX7_place : aM := (yX7_place, cX7_place, 4, none, 1, 21)
theorem meX7_place : Cond.code mX7_place.1 mX7_place.2.1 mX7_place.2.2.1 mX7_place.2.2.2.1 ∈ gw := in_2 (List.mem_of_getElem? (i := 224) rfl) rfl
def mX7_has : aM := (yX7_has, cX7_has, 2, (some .boolean), 0, 0)
theorem meX7_has : Cond.code mX7_has.1 mX7_has.2.1 mX7_has.2.2.1 mX7_has.2.2.2.1 ∈ gw := in_2 (List.mem_of_getElem? (i := 228) rfl) rfl
def mX11_entry : aM := (yX11_entry, cX11_entry, 6, (some .int), 6, 163)
theorem meX11_entry : Cond.code mX11_entry.1 mX11_entry.2.1 mX11_entry.2.2.1 mX11_entry.2.2.2.1 ∈ gw := in_2 (List.mem_of_getElem? (i := 232) rfl) rfl
def mX2_add : aM := (yX2_add, cX2_add, 6, (some .int), 5, 138)
theorem meX2_add : Cond.code mX2_add.1 mX2_add.2.1 mX2_add.2.2.1 mX2_add.2.2.2.1 ∈ gw := in_2 (List.mem_of_getElem? (i := 236) rfl) rfl
def mX2_addForm : aM := (yX2_addForm, cX2_addForm, 7, (some .int), 4, 112)
theorem meX2_addForm : Cond.code mX2_addForm.1 mX2_addForm.2.1 mX2_addForm.2.2.1 mX2_addForm.2.2.2.1 ∈ gw := in_3 (List.mem_of_getElem? (i := 0) rfl) rfl
def mX2_hasRoomForForm : aM := (yX2_hasRoomForForm, cX2_hasRoomForForm, 2, (some .boolean), 1, 21)
theorem meX2_hasRoomForForm : Cond.code mX2_hasRoomForForm.1 mX2_hasRoomForForm.2.1 mX2_hasRoomForForm.2.2.1 mX2_hasRoomForForm.2.2.2.1 ∈ gw := in_3 (List.mem_of_getElem? (i := 4) rfl) rfl
def mX2_has : aM := (yX2_has, cX2_has, 2, (some .boolean), 0, 0)
theorem meX2_has : Cond.code mX2_has.1 mX2_has.2.1 mX2_has.2.2.1 mX2_has.2.2.2.1 ∈ gw := in_3 (List.mem_of_getElem? (i := 8) rfl) rfl
def mX2_formOf : aM := (yX2_formOf, cX2_formOf, 2, (some .int), 0, 0)
theorem meX2_formOf : Cond.code mX2_formOf.1 mX2_formOf.2.1 mX2_formOf.2.2.1 mX2_formOf.2.2.2.1 ∈ gw := in_3 (List.mem_of_getElem? (i := 11) rfl) rfl
def mX11_form : aM := (yX11_form, cX11_form, 7, (some .int), 5, 138)
theorem meX11_form : Cond.code mX11_form.1 mX11_form.2.1 mX11_form.2.2.1 mX11_form.2.2.2.1 ∈ gw := in_3 (List.mem_of_getElem? (i := 16) rfl) rfl
def mX11_rule : aM := (yX11_rule, cX11_rule, 8, (some .int), 4, 110)
theorem meX11_rule : Cond.code mX11_rule.1 mX11_rule.2.1 mX11_rule.2.2.1 mX11_rule.2.2.2.1 ∈ gw := in_3 (List.mem_of_getElem? (i := 22) rfl) rfl
def mX11_isRuleLength : aM := (yX11_isRuleLength, cX11_isRuleLength, 1, (some .boolean), 0, 0)
theorem meX11_isRuleLength : Cond.code mX11_isRuleLength.1 mX11_isRuleLength.2.1 mX11_isRuleLength.2.2.1 mX11_isRuleLength.2.2.2.1 ∈ gw := in_3 (List.mem_of_getElem? (i := 25) rfl) rfl
def mX5_add : aM := (yX5_add, cX5_add, 6, (some .int), 0, 0)
theorem meX5_add : Cond.code mX5_add.1 mX5_add.2.1 mX5_add.2.2.1 mX5_add.2.2.2.1 ∈ gw := in_3 (List.mem_of_getElem? (i := 31) rfl) rfl
def mX10_addNeighbours : aM := (yX10_addNeighbours, cX10_addNeighbours, 3, none, 3, 88)
theorem meX10_addNeighbours : Cond.code mX10_addNeighbours.1 mX10_addNeighbours.2.1 mX10_addNeighbours.2.2.1 mX10_addNeighbours.2.2.2.1 ∈ gw := in_3 (List.mem_of_getElem? (i := 35) rfl) rfl
def mX10_has : aM := (yX10_has, cX10_has, 2, (some .boolean), 0, 0)
theorem meX10_has : Cond.code mX10_has.1 mX10_has.2.1 mX10_has.2.2.1 mX10_has.2.2.2.1 ∈ gw := in_3 (List.mem_of_getElem? (i := 39) rfl) rfl
def mX11_fits : aM := (yX11_fits, cX11_fits, 3, (some .int), 3, 71)
theorem meX11_fits : Cond.code mX11_fits.1 mX11_fits.2.1 mX11_fits.2.2.1 mX11_fits.2.2.2.1 ∈ gw := in_3 (List.mem_of_getElem? (i := 43) rfl) rfl
def mX11_isFit : aM := (yX11_isFit, cX11_isFit, 6, (some .boolean), 2, 46)
theorem meX11_isFit : Cond.code mX11_isFit.1 mX11_isFit.2.1 mX11_isFit.2.2.1 mX11_isFit.2.2.2.1 ∈ gw := in_3 (List.mem_of_getElem? (i := 49) rfl) rfl
def mX2_isSpelledIn : aM := (yX2_isSpelledIn, cX2_isSpelledIn, 4, (some .boolean), 0, 0)
theorem meX2_isSpelledIn : Cond.code mX2_isSpelledIn.1 mX2_isSpelledIn.2.1 mX2_isSpelledIn.2.2.1 mX2_isSpelledIn.2.2.2.1 ∈ gw := in_3 (List.mem_of_getElem? (i := 54) rfl) rfl
def mX10_meet : aM := (yX10_meet, cX10_meet, 6, (some .boolean), 1, 21)
theorem meX10_meet : Cond.code mX10_meet.1 mX10_meet.2.1 mX10_meet.2.2.1 mX10_meet.2.2.2.1 ∈ gw := in_3 (List.mem_of_getElem? (i := 58) rfl) rfl
def mX11_sort : aM := (yX11_sort, cX11_sort, 3, (some .int), 4, 94)
theorem meX11_sort : Cond.code mX11_sort.1 mX11_sort.2.1 mX11_sort.2.2.1 mX11_sort.2.2.2.1 ∈ gw := in_3 (List.mem_of_getElem? (i := 62) rfl) rfl
def mX7_isLoose : aM := (yX7_isLoose, cX7_isLoose, 2, (some .boolean), 2, 44)
theorem meX7_isLoose : Cond.code mX7_isLoose.1 mX7_isLoose.2.1 mX7_isLoose.2.2.1 mX7_isLoose.2.2.2.1 ∈ gw := in_3 (List.mem_of_getElem? (i := 66) rfl) rfl
def mX7_standsAt : aM := (yX7_standsAt, cX7_standsAt, 4, (some .boolean), 1, 21)
theorem meX7_standsAt : Cond.code mX7_standsAt.1 mX7_standsAt.2.1 mX7_standsAt.2.2.1 mX7_standsAt.2.2.2.1 ∈ gw := in_3 (List.mem_of_getElem? (i := 70) rfl) rfl
def mX11_entriesFitted : aM := (yX11_entriesFitted, cX11_entriesFitted, 4, (some .int), 3, 71)
theorem meX11_entriesFitted : Cond.code mX11_entriesFitted.1 mX11_entriesFitted.2.1 mX11_entriesFitted.2.2.1 mX11_entriesFitted.2.2.2.1 ∈ gw := in_3 (List.mem_of_getElem? (i := 74) rfl) rfl
def mX11_firstEntryFitted : aM := (yX11_firstEntryFitted, cX11_firstEntryFitted, 3, (some .int), 3, 71)
theorem meX11_firstEntryFitted : Cond.code mX11_firstEntryFitted.1 mX11_firstEntryFitted.2.1 mX11_firstEntryFitted.2.2.1 mX11_firstEntryFitted.2.2.2.1 ∈ gw := in_3 (List.mem_of_getElem? (i := 78) rfl) rfl
def mX11_sense : aM := (yX11_sense, cX11_sense, 3, (some .int), 2, 44)
theorem meX11_sense : Cond.code mX11_sense.1 mX11_sense.2.1 mX11_sense.2.2.1 mX11_sense.2.2.2.1 ∈ gw := in_3 (List.mem_of_getElem? (i := 83) rfl) rfl
def mX11_isTopOrSenseOf : aM := (yX11_isTopOrSenseOf, cX11_isTopOrSenseOf, 3, (some .boolean), 1, 21)
theorem meX11_isTopOrSenseOf : Cond.code mX11_isTopOrSenseOf.1 mX11_isTopOrSenseOf.2.1 mX11_isTopOrSenseOf.2.2.1 mX11_isTopOrSenseOf.2.2.2.1 ∈ gw := in_3 (List.mem_of_getElem? (i := 87) rfl) rfl
def mX6_has : aM := (yX6_has, cX6_has, 2, (some .boolean), 0, 0)
theorem meX6_has : Cond.code mX6_has.1 mX6_has.2.1 mX6_has.2.2.1 mX6_has.2.2.2.1 ∈ gw := in_3 (List.mem_of_getElem? (i := 91) rfl) rfl
def mX6_add : aM := (yX6_add, cX6_add, 4, (some .int), 1, 21)
theorem meX6_add : Cond.code mX6_add.1 mX6_add.2.1 mX6_add.2.2.1 mX6_add.2.2.2.1 ∈ gw := in_3 (List.mem_of_getElem? (i := 95) rfl) rfl
def mX11_put : aM := (yX11_put, cX11_put, 5, (some .boolean), 2, 44)
theorem meX11_put : Cond.code mX11_put.1 mX11_put.2.1 mX11_put.2.2.1 mX11_put.2.2.2.1 ∈ gw := in_3 (List.mem_of_getElem? (i := 100) rfl) rfl
def mX11_move : aM := (yX11_move, cX11_move, 3, (some .boolean), 2, 45)
theorem meX11_move : Cond.code mX11_move.1 mX11_move.2.1 mX11_move.2.2.1 mX11_move.2.2.2.1 ∈ gw := in_3 (List.mem_of_getElem? (i := 105) rfl) rfl
def mX6_isWithin : aM := (yX6_isWithin, cX6_isWithin, 5, (some .boolean), 1, 21)
theorem meX6_isWithin : Cond.code mX6_isWithin.1 mX6_isWithin.2.1 mX6_isWithin.2.2.1 mX6_isWithin.2.2.2.1 ∈ gw := in_3 (List.mem_of_getElem? (i := 109) rfl) rfl
def mX11_join : aM := (yX11_join, cX11_join, 3, (some .boolean), 4, 86)
theorem meX11_join : Cond.code mX11_join.1 mX11_join.2.1 mX11_join.2.2.1 mX11_join.2.2.2.1 ∈ gw := in_3 (List.mem_of_getElem? (i := 113) rfl) rfl
def mX7_moveAll : aM := (yX7_moveAll, cX7_moveAll, 4, none, 0, 0)
theorem meX7_moveAll : Cond.code mX7_moveAll.1 mX7_moveAll.2.1 mX7_moveAll.2.2.1 mX7_moveAll.2.2.2.1 ∈ gw := in_3 (List.mem_of_getElem? (i := 117) rfl) rfl
def mX6_moveAllUnder : aM := (yX6_moveAllUnder, cX6_moveAllUnder, 4, none, 1, 21)
theorem meX6_moveAllUnder : Cond.code mX6_moveAllUnder.1 mX6_moveAllUnder.2.1 mX6_moveAllUnder.2.2.1 mX6_moveAllUnder.2.2.2.1 ∈ gw := in_3 (List.mem_of_getElem? (i := 121) rfl) rfl
def mX11_forgetSense : aM := (yX11_forgetSense, cX11_forgetSense, 2, none, 3, 65)
theorem meX11_forgetSense : Cond.code mX11_forgetSense.1 mX11_forgetSense.2.1 mX11_forgetSense.2.2.1 mX11_forgetSense.2.2.2.1 ∈ gw := in_3 (List.mem_of_getElem? (i := 125) rfl) rfl
def mX6_remove : aM := (yX6_remove, cX6_remove, 2, none, 1, 21)
theorem meX6_remove : Cond.code mX6_remove.1 mX6_remove.2.1 mX6_remove.2.2.1 mX6_remove.2.2.2.1 ∈ gw := in_3 (List.mem_of_getElem? (i := 129) rfl) rfl
def mX3_forget : aM := (yX3_forget, cX3_forget, 3, none, 2, 43)
theorem meX3_forget : Cond.code mX3_forget.1 mX3_forget.2.1 mX3_forget.2.2.1 mX3_forget.2.2.2.1 ∈ gw := in_3 (List.mem_of_getElem? (i := 133) rfl) rfl
def mX3_remove : aM := (yX3_remove, cX3_remove, 3, none, 1, 21)
theorem meX3_remove : Cond.code mX3_remove.1 mX3_remove.2.1 mX3_remove.2.2.1 mX3_remove.2.2.2.1 ∈ gw := in_3 (List.mem_of_getElem? (i := 137) rfl) rfl
def mX3_has : aM := (yX3_has, cX3_has, 2, (some .boolean), 0, 0)
theorem meX3_has : Cond.code mX3_has.1 mX3_has.2.1 mX3_has.2.2.1 mX3_has.2.2.2.1 ∈ gw := in_3 (List.mem_of_getElem? (i := 141) rfl) rfl
def mX11_part : aM := (yX11_part, cX11_part, 2, (some .int), 2, 44)
theorem meX11_part : Cond.code mX11_part.1 mX11_part.2.1 mX11_part.2.2.1 mX11_part.2.2.2.1 ∈ gw := in_3 (List.mem_of_getElem? (i := 145) rfl) rfl
def mX11_drop : aM := (yX11_drop, cX11_drop, 2, (some .boolean), 4, 86)
theorem meX11_drop : Cond.code mX11_drop.1 mX11_drop.2.1 mX11_drop.2.2.1 mX11_drop.2.2.2.1 ∈ gw := in_3 (List.mem_of_getElem? (i := 149) rfl) rfl
def mX6_justUnder : aM := (yX6_justUnder, cX6_justUnder, 4, (some .int), 1, 21)
theorem meX6_justUnder : Cond.code mX6_justUnder.1 mX6_justUnder.2.1 mX6_justUnder.2.2.1 mX6_justUnder.2.2.2.1 ∈ gw := in_3 (List.mem_of_getElem? (i := 153) rfl) rfl
def mX7_at : aM := (yX7_at, cX7_at, 5, (some .int), 2, 44)
theorem meX7_at : Cond.code mX7_at.1 mX7_at.2.1 mX7_at.2.2.1 mX7_at.2.2.2.1 ∈ gw := in_3 (List.mem_of_getElem? (i := 157) rfl) rfl
def mX11_point : aM := (yX11_point, cX11_point, 3, (some .int), 1, 23)
theorem meX11_point : Cond.code mX11_point.1 mX11_point.2.1 mX11_point.2.2.1 mX11_point.2.2.2.1 ∈ gw := in_3 (List.mem_of_getElem? (i := 161) rfl) rfl
def mX3_add : aM := (yX3_add, cX3_add, 4, (some .int), 0, 0)
theorem meX3_add : Cond.code mX3_add.1 mX3_add.2.1 mX3_add.2.2.1 mX3_add.2.2.2.1 ∈ gw := in_3 (List.mem_of_getElem? (i := 165) rfl) rfl
def mX11_lead : aM := (yX11_lead, cX11_lead, 3, (some .boolean), 2, 43)
theorem meX11_lead : Cond.code mX11_lead.1 mX11_lead.2.1 mX11_lead.2.2.1 mX11_lead.2.2.2.1 ∈ gw := in_3 (List.mem_of_getElem? (i := 169) rfl) rfl
def mX3_isLoose : aM := (yX3_isLoose, cX3_isLoose, 2, (some .boolean), 1, 21)
theorem meX3_isLoose : Cond.code mX3_isLoose.1 mX3_isLoose.2.1 mX3_isLoose.2.2.1 mX3_isLoose.2.2.2.1 ∈ gw := in_3 (List.mem_of_getElem? (i := 174) rfl) rfl
def mX11_told : aM := (yX11_told, cX11_told, 3, (some .int), 4, 91)
theorem meX11_told : Cond.code mX11_told.1 mX11_told.2.1 mX11_told.2.2.1 mX11_told.2.2.2.1 ∈ gw := in_3 (List.mem_of_getElem? (i := 179) rfl) rfl
def mX9_gather : aM := (yX9_gather, cX9_gather, 2, none, 3, 66)
theorem meX9_gather : Cond.code mX9_gather.1 mX9_gather.2.1 mX9_gather.2.2.1 mX9_gather.2.2.2.1 ∈ gw := in_3 (List.mem_of_getElem? (i := 183) rfl) rfl
def mX9_addSlip : aM := (yX9_addSlip, cX9_addSlip, 5, none, 1, 21)
theorem meX9_addSlip : Cond.code mX9_addSlip.1 mX9_addSlip.2.1 mX9_addSlip.2.2.1 mX9_addSlip.2.2.2.1 ∈ gw := in_3 (List.mem_of_getElem? (i := 187) rfl) rfl
def mX0_least : aM := (yX0_least, cX0_least, 5, (some .int), 1, 21)
theorem meX0_least : Cond.code mX0_least.1 mX0_least.2.1 mX0_least.2.2.1 mX0_least.2.2.2.1 ∈ gw := in_3 (List.mem_of_getElem? (i := 192) rfl) rfl
def mJ9_min_7cf53 : aM := (yJ9_min_7cf53, cJ9_min_7cf53, 2, (some .int), 0, 0)
theorem meJ9_min_7cf53 : Cond.code mJ9_min_7cf53.1 mJ9_min_7cf53.2.1 mJ9_min_7cf53.2.2.1 mJ9_min_7cf53.2.2.2.1 ∈ gw := in_3 (List.mem_of_getElem? (i := 195) rfl) rfl
def mX9_placeOf : aM := (yX9_placeOf, cX9_placeOf, 4, (some .int), 2, 43)
theorem meX9_placeOf : Cond.code mX9_placeOf.1 mX9_placeOf.2.1 mX9_placeOf.2.2.1 mX9_placeOf.2.2.2.1 ∈ gw := in_3 (List.mem_of_getElem? (i := 199) rfl) rfl
def mX6_areBeside : aM := (yX6_areBeside, cX6_areBeside, 3, (some .boolean), 1, 21)
theorem meX6_areBeside : Cond.code mX6_areBeside.1 mX6_areBeside.2.1 mX6_areBeside.2.2.1 mX6_areBeside.2.2.2.1 ∈ gw := in_3 (List.mem_of_getElem? (i := 203) rfl) rfl
def mX9_isAhead : aM := (yX9_isAhead, cX9_isAhead, 3, (some .boolean), 0, 0)
theorem meX9_isAhead : Cond.code mX9_isAhead.1 mX9_isAhead.2.1 mX9_isAhead.2.2.1 mX9_isAhead.2.2.2.1 ∈ gw := in_3 (List.mem_of_getElem? (i := 207) rfl) rfl
def mX11_toldYears : aM := (yX11_toldYears, cX11_toldYears, 3, (some .int), 3, 69)
theorem meX11_toldYears : Cond.code mX11_toldYears.1 mX11_toldYears.2.1 mX11_toldYears.2.2.1 mX11_toldYears.2.2.2.1 ∈ gw := in_3 (List.mem_of_getElem? (i := 211) rfl) rfl
def mX0_greatest : aM := (yX0_greatest, cX0_greatest, 5, (some .int), 1, 21)
theorem meX0_greatest : Cond.code mX0_greatest.1 mX0_greatest.2.1 mX0_greatest.2.2.1 mX0_greatest.2.2.2.1 ∈ gw := in_3 (List.mem_of_getElem? (i := 216) rfl) rfl
def mJ9_max_7cf53 : aM := (yJ9_max_7cf53, cJ9_max_7cf53, 2, (some .int), 0, 0)
theorem meJ9_max_7cf53 : Cond.code mJ9_max_7cf53.1 mJ9_max_7cf53.2.1 mJ9_max_7cf53.2.2.1 mJ9_max_7cf53.2.2.2.1 ∈ gw := in_3 (List.mem_of_getElem? (i := 219) rfl) rfl
def mX0_widestGap : aM := (yX0_widestGap, cX0_widestGap, 4, (some .int), 2, 46)
theorem meX0_widestGap : Cond.code mX0_widestGap.1 mX0_widestGap.2.1 mX0_widestGap.2.2.1 mX0_widestGap.2.2.2.1 ∈ gw := in_3 (List.mem_of_getElem? (i := 223) rfl) rfl
def mX0_gapAhead : aM := (yX0_gapAhead, cX0_gapAhead, 6, (some .int), 1, 21)
theorem meX0_gapAhead : Cond.code mX0_gapAhead.1 mX0_gapAhead.2.1 mX0_gapAhead.2.2.1 mX0_gapAhead.2.2.2.1 ∈ gw := in_3 (List.mem_of_getElem? (i := 227) rfl) rfl
def mX6_depth : aM := (yX6_depth, cX6_depth, 4, (some .int), 1, 21)
theorem meX6_depth : Cond.code mX6_depth.1 mX6_depth.2.1 mX6_depth.2.2.1 mX6_depth.2.2.2.1 ∈ gw := in_3 (List.mem_of_getElem? (i := 231) rfl) rfl
def mX11_older : aM := (yX11_older, cX11_older, 3, (some .int), 4, 87)
theorem meX11_older : Cond.code mX11_older.1 mX11_older.2.1 mX11_older.2.2.1 mX11_older.2.2.2.1 ∈ gw := in_3 (List.mem_of_getElem? (i := 235) rfl) rfl
def mX0_areSurelyOlder : aM := (yX0_areSurelyOlder, cX0_areSurelyOlder, 4, (some .boolean), 2, 45)
theorem meX0_areSurelyOlder : Cond.code mX0_areSurelyOlder.1 mX0_areSurelyOlder.2.1 mX0_areSurelyOlder.2.2.1 mX0_areSurelyOlder.2.2.2.1 ∈ gw := in_3 (List.mem_of_getElem? (i := 239) rfl) rfl
def mX11_flaw : aM := (yX11_flaw, cX11_flaw, 4, (some .int), 4, 90)
theorem meX11_flaw : Cond.code mX11_flaw.1 mX11_flaw.2.1 mX11_flaw.2.2.1 mX11_flaw.2.2.2.1 ∈ gw := in_4 (List.mem_of_getElem? (i := 4) rfl) rfl
def mX9_isFlaw : aM := (yX9_isFlaw, cX9_isFlaw, 3, (some .boolean), 3, 68)
theorem meX9_isFlaw : Cond.code mX9_isFlaw.1 mX9_isFlaw.2.1 mX9_isFlaw.2.2.1 mX9_isFlaw.2.2.2.1 ∈ gw := in_4 (List.mem_of_getElem? (i := 8) rfl) rfl
def mX9_hasOwn : aM := (yX9_hasOwn, cX9_hasOwn, 2, (some .boolean), 1, 21)
theorem meX9_hasOwn : Cond.code mX9_hasOwn.1 mX9_hasOwn.2.1 mX9_hasOwn.2.2.1 mX9_hasOwn.2.2.2.1 ∈ gw := in_4 (List.mem_of_getElem? (i := 12) rfl) rfl
def mX11_where : aM := (yX11_where, cX11_where, 3, (some .int), 5, 115)
theorem meX11_where : Cond.code mX11_where.1 mX11_where.2.1 mX11_where.2.2.1 mX11_where.2.2.2.1 ∈ gw := in_4 (List.mem_of_getElem? (i := 18) rfl) rfl
def mX11_isInDoubt : aM := (yX11_isInDoubt, cX11_isInDoubt, 2, (some .boolean), 4, 94)
theorem meX11_isInDoubt : Cond.code mX11_isInDoubt.1 mX11_isInDoubt.2.1 mX11_isInDoubt.2.2.1 mX11_isInDoubt.2.2.2.1 ∈ gw := in_4 (List.mem_of_getElem? (i := 22) rfl) rfl
def mX10_wordAt : aM := (yX10_wordAt, cX10_wordAt, 2, (some .long), 1, 21)
theorem meX10_wordAt : Cond.code mX10_wordAt.1 mX10_wordAt.2.1 mX10_wordAt.2.2.1 mX10_wordAt.2.2.2.1 ∈ gw := in_4 (List.mem_of_getElem? (i := 26) rfl) rfl
def mX10_letterAt : aM := (yX10_letterAt, cX10_letterAt, 4, (some .int), 1, 24)
theorem meX10_letterAt : Cond.code mX10_letterAt.1 mX10_letterAt.2.1 mX10_letterAt.2.2.1 mX10_letterAt.2.2.2.1 ∈ gw := in_4 (List.mem_of_getElem? (i := 30) rfl) rfl
def mX11_edition : aM := (yX11_edition, cX11_edition, 1, (some .int), 3, 64)
theorem meX11_edition : Cond.code mX11_edition.1 mX11_edition.2.1 mX11_edition.2.2.1 mX11_edition.2.2.2.1 ∈ gw := in_4 (List.mem_of_getElem? (i := 35) rfl) rfl
def mX3_loose : aM := (yX3_loose, cX3_loose, 3, (some .int), 2, 42)
theorem meX3_loose : Cond.code mX3_loose.1 mX3_loose.2.1 mX3_loose.2.2.1 mX3_loose.2.2.2.1 ∈ gw := in_4 (List.mem_of_getElem? (i := 39) rfl) rfl
def mX1_add : aM := (yX1_add, cX1_add, 3, (some .int), 0, 0)
theorem meX1_add : Cond.code mX1_add.1 mX1_add.2.1 mX1_add.2.2.1 mX1_add.2.2.2.1 ∈ gw := in_4 (List.mem_of_getElem? (i := 44) rfl) rfl
def mX11_as : aM := (yX11_as, cX11_as, 4, (some .int), 3, 65)
theorem meX11_as : Cond.code mX11_as.1 mX11_as.2.1 mX11_as.2.2.1 mX11_as.2.2.2.1 ∈ gw := in_4 (List.mem_of_getElem? (i := 48) rfl) rfl
def mX1_has : aM := (yX1_has, cX1_has, 2, (some .boolean), 0, 0)
theorem meX1_has : Cond.code mX1_has.1 mX1_has.2.1 mX1_has.2.2.1 mX1_has.2.2.2.1 ∈ gw := in_4 (List.mem_of_getElem? (i := 52) rfl) rfl
def mX1_entryOf : aM := (yX1_entryOf, cX1_entryOf, 3, (some .int), 2, 43)
theorem meX1_entryOf : Cond.code mX1_entryOf.1 mX1_entryOf.2.1 mX1_entryOf.2.2.1 mX1_entryOf.2.2.2.1 ∈ gw := in_4 (List.mem_of_getElem? (i := 56) rfl) rfl
def mX1_wasThere : aM := (yX1_wasThere, cX1_wasThere, 3, (some .boolean), 1, 21)
theorem meX1_wasThere : Cond.code mX1_wasThere.1 mX1_wasThere.2.1 mX1_wasThere.2.2.1 mX1_wasThere.2.2.2.1 ∈ gw := in_4 (List.mem_of_getElem? (i := 60) rfl) rfl
def mX1_senseOf : aM := (yX1_senseOf, cX1_senseOf, 3, (some .int), 2, 43)
theorem meX1_senseOf : Cond.code mX1_senseOf.1 mX1_senseOf.2.1 mX1_senseOf.2.2.1 mX1_senseOf.2.2.2.1 ∈ gw := in_4 (List.mem_of_getElem? (i := 65) rfl) rfl
def mX11_differ : aM := (yX11_differ, cX11_differ, 6, (some .int), 4, 88)
theorem meX11_differ : Cond.code mX11_differ.1 mX11_differ.2.1 mX11_differ.2.2.1 mX11_differ.2.2.2.1 ∈ gw := in_4 (List.mem_of_getElem? (i := 69) rfl) rfl
def mX1_isOtherwise : aM := (yX1_isOtherwise, cX1_isOtherwise, 4, (some .boolean), 3, 65)
theorem meX1_isOtherwise : Cond.code mX1_isOtherwise.1 mX1_isOtherwise.2.1 mX1_isOtherwise.2.2.1 mX1_isOtherwise.2.2.2.1 ∈ gw := in_4 (List.mem_of_getElem? (i := 73) rfl) rfl
def mX11_print : aM := (yX11_print, cX11_print, 2, (some .int), 6, 137)
theorem meX11_print : Cond.code mX11_print.1 mX11_print.2.1 mX11_print.2.2.1 mX11_print.2.2.2.1 ∈ gw := in_4 (List.mem_of_getElem? (i := 79) rfl) rfl
def mX4_compose : aM := (yX4_compose, cX4_compose, 4, (some .int), 5, 114)
theorem meX4_compose : Cond.code mX4_compose.1 mX4_compose.2.1 mX4_compose.2.2.1 mX4_compose.2.2.2.1 ∈ gw := in_4 (List.mem_of_getElem? (i := 83) rfl) rfl
def mX2_head : aM := (yX2_head, cX2_head, 2, (some .long), 2, 42)
theorem meX2_head : Cond.code mX2_head.1 mX2_head.2.1 mX2_head.2.2.1 mX2_head.2.2.2.1 ∈ gw := in_4 (List.mem_of_getElem? (i := 88) rfl) rfl
def mX4_addWord : aM := (yX4_addWord, cX4_addWord, 5, none, 2, 47)
theorem meX4_addWord : Cond.code mX4_addWord.1 mX4_addWord.2.1 mX4_addWord.2.2.1 mX4_addWord.2.2.2.1 ∈ gw := in_4 (List.mem_of_getElem? (i := 93) rfl) rfl
def mX4_addByte : aM := (yX4_addByte, cX4_addByte, 2, none, 0, 0)
theorem meX4_addByte : Cond.code mX4_addByte.1 mX4_addByte.2.1 mX4_addByte.2.2.1 mX4_addByte.2.2.2.1 ∈ gw := in_4 (List.mem_of_getElem? (i := 99) rfl) rfl
def mX4_senseAt : aM := (yX4_senseAt, cX4_senseAt, 5, (some .int), 1, 21)
theorem meX4_senseAt : Cond.code mX4_senseAt.1 mX4_senseAt.2.1 mX4_senseAt.2.2.1 mX4_senseAt.2.2.2.1 ∈ gw := in_4 (List.mem_of_getElem? (i := 103) rfl) rfl
def mX4_addSense : aM := (yX4_addSense, cX4_addSense, 3, none, 4, 92)
theorem meX4_addSense : Cond.code mX4_addSense.1 mX4_addSense.2.1 mX4_addSense.2.2.1 mX4_addSense.2.2.2.1 ∈ gw := in_4 (List.mem_of_getElem? (i := 108) rfl) rfl
def mX4_addMark : aM := (yX4_addMark, cX4_addMark, 4, none, 2, 43)
theorem meX4_addMark : Cond.code mX4_addMark.1 mX4_addMark.2.1 mX4_addMark.2.2.1 mX4_addMark.2.2.2.1 ∈ gw := in_4 (List.mem_of_getElem? (i := 112) rfl) rfl
def mX4_addNumber : aM := (yX4_addNumber, cX4_addNumber, 3, none, 1, 21)
theorem meX4_addNumber : Cond.code mX4_addNumber.1 mX4_addNumber.2.1 mX4_addNumber.2.2.1 mX4_addNumber.2.2.2.1 ∈ gw := in_4 (List.mem_of_getElem? (i := 116) rfl) rfl
def mX4_addWitnesses : aM := (yX4_addWitnesses, cX4_addWitnesses, 2, none, 2, 43)
theorem meX4_addWitnesses : Cond.code mX4_addWitnesses.1 mX4_addWitnesses.2.1 mX4_addWitnesses.2.2.1 mX4_addWitnesses.2.2.2.1 ∈ gw := in_4 (List.mem_of_getElem? (i := 120) rfl) rfl
def mX4_addPointer : aM := (yX4_addPointer, cX4_addPointer, 2, none, 3, 71)
theorem meX4_addPointer : Cond.code mX4_addPointer.1 mX4_addPointer.2.1 mX4_addPointer.2.2.1 mX4_addPointer.2.2.2.1 ∈ gw := in_4 (List.mem_of_getElem? (i := 124) rfl) rfl
def mX4_senseBehind : aM := (yX4_senseBehind, cX4_senseBehind, 6, (some .int), 2, 45)
theorem meX4_senseBehind : Cond.code mX4_senseBehind.1 mX4_senseBehind.2.1 mX4_senseBehind.2.2.1 mX4_senseBehind.2.2.2.1 ∈ gw := in_4 (List.mem_of_getElem? (i := 128) rfl) rfl
def mX4_addHeap : aM := (yX4_addHeap, cX4_addHeap, 2, none, 2, 43)
theorem meX4_addHeap : Cond.code mX4_addHeap.1 mX4_addHeap.2.1 mX4_addHeap.2.2.1 mX4_addHeap.2.2.2.1 ∈ gw := in_4 (List.mem_of_getElem? (i := 133) rfl) rfl
def mX11_octet : aM := (yX11_octet, cX11_octet, 2, (some .int), 1, 21)
theorem meX11_octet : Cond.code mX11_octet.1 mX11_octet.2.1 mX11_octet.2.2.1 mX11_octet.2.2.2.1 ∈ gw := in_4 (List.mem_of_getElem? (i := 137) rfl) rfl
def mX4_byteAt : aM := (yX4_byteAt, cX4_byteAt, 2, (some .int), 0, 0)
theorem meX4_byteAt : Cond.code mX4_byteAt.1 mX4_byteAt.2.1 mX4_byteAt.2.2.1 mX4_byteAt.2.2.2.1 ∈ gw := in_4 (List.mem_of_getElem? (i := 141) rfl) rfl
def mX11_count : aM := (yX11_count, cX11_count, 2, (some .int), 6, 137)
theorem meX11_count : Cond.code mX11_count.1 mX11_count.2.1 mX11_count.2.2.1 mX11_count.2.2.2.1 ∈ gw := in_4 (List.mem_of_getElem? (i := 145) rfl) rfl
def mX6_inUse : aM := (yX6_inUse, cX6_inUse, 3, (some .int), 1, 21)
theorem meX6_inUse : Cond.code mX6_inUse.1 mX6_inUse.2.1 mX6_inUse.2.2.1 mX6_inUse.2.2.2.1 ∈ gw := in_4 (List.mem_of_getElem? (i := 149) rfl) rfl
def mX11_slipsInDoubt : aM := (yX11_slipsInDoubt, cX11_slipsInDoubt, 3, (some .int), 5, 115)
theorem meX11_slipsInDoubt : Cond.code mX11_slipsInDoubt.1 mX11_slipsInDoubt.2.1 mX11_slipsInDoubt.2.2.1 mX11_slipsInDoubt.2.2.2.1 ∈ gw := in_4 (List.mem_of_getElem? (i := 153) rfl) rfl
def mX11_flaws : aM := (yX11_flaws, cX11_flaws, 3, (some .int), 4, 90)
theorem meX11_flaws : Cond.code mX11_flaws.1 mX11_flaws.2.1 mX11_flaws.2.2.1 mX11_flaws.2.2.2.1 ∈ gw := in_4 (List.mem_of_getElem? (i := 157) rfl) rfl
def mX12_feed : aM := (yX12_feed, cX12_feed, 6, (some .int), 1, 22)
theorem meX12_feed : Cond.code mX12_feed.1 mX12_feed.2.1 mX12_feed.2.2.1 mX12_feed.2.2.2.1 ∈ gw := in_5 (List.mem_of_getElem? (i := 61) rfl) rfl
def mX12_types : aM := (yX12_types, cX12_types, 3, none, 0, 0)
theorem meX12_types : Cond.code mX12_types.1 mX12_types.2.1 mX12_types.2.2.1 mX12_types.2.2.2.1 ∈ gw := in_5 (List.mem_of_getElem? (i := 65) rfl) rfl
def mX12_book : aM := (yX12_book, cX12_book, 3, (some .int), 1, 24)
theorem meX12_book : Cond.code mX12_book.1 mX12_book.2.1 mX12_book.2.2.1 mX12_book.2.2.2.1 ∈ gw := in_5 (List.mem_of_getElem? (i := 69) rfl) rfl
def mX12_areYears : aM := (yX12_areYears, cX12_areYears, 2, (some .boolean), 0, 0)
theorem meX12_areYears : Cond.code mX12_areYears.1 mX12_areYears.2.1 mX12_areYears.2.2.1 mX12_areYears.2.2.2.1 ∈ gw := in_5 (List.mem_of_getElem? (i := 72) rfl) rfl
def mX12_tightens : aM := (yX12_tightens, cX12_tightens, 5, (some .boolean), 0, 0)
theorem meX12_tightens : Cond.code mX12_tightens.1 mX12_tightens.2.1 mX12_tightens.2.2.1 mX12_tightens.2.2.2.1 ∈ gw := in_5 (List.mem_of_getElem? (i := 76) rfl) rfl
def mX12_before : aM := (yX12_before, cX12_before, 4, (some .boolean), 1, 24)
theorem meX12_before : Cond.code mX12_before.1 mX12_before.2.1 mX12_before.2.2.1 mX12_before.2.2.2.1 ∈ gw := in_5 (List.mem_of_getElem? (i := 80) rfl) rfl
def mX12_isBook : aM := (yX12_isBook, cX12_isBook, 2, (some .boolean), 0, 0)
theorem meX12_isBook : Cond.code mX12_isBook.1 mX12_isBook.2.1 mX12_isBook.2.2.1 mX12_isBook.2.2.2.1 ∈ gw := in_5 (List.mem_of_getElem? (i := 84) rfl) rfl
def mX12_closes : aM := (yX12_closes, cX12_closes, 4, none, 0, 0)
theorem meX12_closes : Cond.code mX12_closes.1 mX12_closes.2.1 mX12_closes.2.2.1 mX12_closes.2.2.2.1 ∈ gw := in_5 (List.mem_of_getElem? (i := 88) rfl) rfl
def mX12_span : aM := (yX12_span, cX12_span, 5, (some .int), 1, 21)
theorem meX12_span : Cond.code mX12_span.1 mX12_span.2.1 mX12_span.2.2.1 mX12_span.2.2.2.1 ∈ gw := in_5 (List.mem_of_getElem? (i := 92) rfl) rfl
def mX12_slip : aM := (yX12_slip, cX12_slip, 5, (some .int), 1, 25)
theorem meX12_slip : Cond.code mX12_slip.1 mX12_slip.2.1 mX12_slip.2.2.1 mX12_slip.2.2.2.1 ∈ gw := in_5 (List.mem_of_getElem? (i := 96) rfl) rfl
def mX12_isWordSize : aM := (yX12_isWordSize, cX12_isWordSize, 2, (some .boolean), 0, 0)
theorem meX12_isWordSize : Cond.code mX12_isWordSize.1 mX12_isWordSize.2.1 mX12_isWordSize.2.2.1 mX12_isWordSize.2.2.2.1 ∈ gw := in_5 (List.mem_of_getElem? (i := 100) rfl) rfl
def mX12_takes : aM := (yX12_takes, cX12_takes, 3, none, 0, 0)
theorem meX12_takes : Cond.code mX12_takes.1 mX12_takes.2.1 mX12_takes.2.2.1 mX12_takes.2.2.2.1 ∈ gw := in_5 (List.mem_of_getElem? (i := 104) rfl) rfl
def mX12_word : aM := (yX12_word, cX12_word, 6, (some .long), 0, 0)
theorem meX12_word : Cond.code mX12_word.1 mX12_word.2.1 mX12_word.2.2.1 mX12_word.2.2.2.1 ∈ gw := in_5 (List.mem_of_getElem? (i := 108) rfl) rfl
def mX12_entry : aM := (yX12_entry, cX12_entry, 6, (some .int), 1, 26)
theorem meX12_entry : Cond.code mX12_entry.1 mX12_entry.2.1 mX12_entry.2.2.1 mX12_entry.2.2.2.1 ∈ gw := in_5 (List.mem_of_getElem? (i := 112) rfl) rfl
def mX12_lays : aM := (yX12_lays, cX12_lays, 7, none, 0, 0)
theorem meX12_lays : Cond.code mX12_lays.1 mX12_lays.2.1 mX12_lays.2.2.1 mX12_lays.2.2.2.1 ∈ gw := in_5 (List.mem_of_getElem? (i := 116) rfl) rfl
def mX12_form : aM := (yX12_form, cX12_form, 7, (some .int), 1, 26)
theorem meX12_form : Cond.code mX12_form.1 mX12_form.2.1 mX12_form.2.2.1 mX12_form.2.2.2.1 ∈ gw := in_5 (List.mem_of_getElem? (i := 120) rfl) rfl
def mX12_isEntry : aM := (yX12_isEntry, cX12_isEntry, 2, (some .boolean), 0, 0)
theorem meX12_isEntry : Cond.code mX12_isEntry.1 mX12_isEntry.2.1 mX12_isEntry.2.2.1 mX12_isEntry.2.2.2.1 ∈ gw := in_5 (List.mem_of_getElem? (i := 124) rfl) rfl
def mX12_rule : aM := (yX12_rule, cX12_rule, 8, (some .int), 1, 25)
theorem meX12_rule : Cond.code mX12_rule.1 mX12_rule.2.1 mX12_rule.2.2.1 mX12_rule.2.2.2.1 ∈ gw := in_5 (List.mem_of_getElem? (i := 128) rfl) rfl
def mX12_fits : aM := (yX12_fits, cX12_fits, 3, (some .int), 6, 158)
theorem meX12_fits : Cond.code mX12_fits.1 mX12_fits.2.1 mX12_fits.2.2.1 mX12_fits.2.2.2.1 ∈ gw := in_5 (List.mem_of_getElem? (i := 132) rfl) rfl
def mX12_isSlip : aM := (yX12_isSlip, cX12_isSlip, 2, (some .boolean), 0, 0)
theorem meX12_isSlip : Cond.code mX12_isSlip.1 mX12_isSlip.2.1 mX12_isSlip.2.2.1 mX12_isSlip.2.2.2.1 ∈ gw := in_5 (List.mem_of_getElem? (i := 136) rfl) rfl
def mX12_isFitting : aM := (yX12_isFitting, cX12_isFitting, 5, (some .boolean), 5, 134)
theorem meX12_isFitting : Cond.code mX12_isFitting.1 mX12_isFitting.2.1 mX12_isFitting.2.2.1 mX12_isFitting.2.2.2.1 ∈ gw := in_5 (List.mem_of_getElem? (i := 140) rfl) rfl
def mX12_isLed : aM := (yX12_isLed, cX12_isLed, 4, (some .boolean), 4, 111)
theorem meX12_isLed : Cond.code mX12_isLed.1 mX12_isLed.2.1 mX12_isLed.2.2.1 mX12_isLed.2.2.2.1 ∈ gw := in_5 (List.mem_of_getElem? (i := 144) rfl) rfl
def mX12_leads : aM := (yX12_leads, cX12_leads, 9, (some .boolean), 3, 83)
theorem meX12_leads : Cond.code mX12_leads.1 mX12_leads.2.1 mX12_leads.2.2.1 mX12_leads.2.2.2.1 ∈ gw := in_5 (List.mem_of_getElem? (i := 148) rfl) rfl
def mX12_leadsByOne : aM := (yX12_leadsByOne, cX12_leadsByOne, 7, (some .boolean), 2, 57)
theorem meX12_leadsByOne : Cond.code mX12_leadsByOne.1 mX12_leadsByOne.2.1 mX12_leadsByOne.2.2.1 mX12_leadsByOne.2.2.2.1 ∈ gw := in_5 (List.mem_of_getElem? (i := 152) rfl) rfl
def mX12_changed : aM := (yX12_changed, cX12_changed, 16, (some .long), 1, 22)
theorem meX12_changed : Cond.code mX12_changed.1 mX12_changed.2.1 mX12_changed.2.2.1 mX12_changed.2.2.2.1 ∈ gw := in_5 (List.mem_of_getElem? (i := 156) rfl) rfl
def mX12_size : aM := (yX12_size, cX12_size, 3, (some .int), 0, 0)
theorem meX12_size : Cond.code mX12_size.1 mX12_size.2.1 mX12_size.2.2.1 mX12_size.2.2.2.1 ∈ gw := in_5 (List.mem_of_getElem? (i := 159) rfl) rfl
def mX12_sort : aM := (yX12_sort, cX12_sort, 4, (some .int), 7, 181)
theorem meX12_sort : Cond.code mX12_sort.1 mX12_sort.2.1 mX12_sort.2.2.1 mX12_sort.2.2.2.1 ∈ gw := in_5 (List.mem_of_getElem? (i := 163) rfl) rfl
def mX12_fitting : aM := (yX12_fitting, cX12_fitting, 4, (some .int), 6, 158)
theorem meX12_fitting : Cond.code mX12_fitting.1 mX12_fitting.2.1 mX12_fitting.2.2.1 mX12_fitting.2.2.2.1 ∈ gw := in_5 (List.mem_of_getElem? (i := 167) rfl) rfl
def mX12_sense : aM := (yX12_sense, cX12_sense, 3, (some .int), 1, 23)
theorem meX12_sense : Cond.code mX12_sense.1 mX12_sense.2.1 mX12_sense.2.2.1 mX12_sense.2.2.2.1 ∈ gw := in_5 (List.mem_of_getElem? (i := 171) rfl) rfl
def mX12_isSense : aM := (yX12_isSense, cX12_isSense, 2, (some .boolean), 0, 0)
theorem meX12_isSense : Cond.code mX12_isSense.1 mX12_isSense.2.1 mX12_isSense.2.2.1 mX12_isSense.2.2.2.1 ∈ gw := in_5 (List.mem_of_getElem? (i := 175) rfl) rfl
def mX12_makes : aM := (yX12_makes, cX12_makes, 4, (some .int), 0, 0)
theorem meX12_makes : Cond.code mX12_makes.1 mX12_makes.2.1 mX12_makes.2.2.1 mX12_makes.2.2.2.1 ∈ gw := in_5 (List.mem_of_getElem? (i := 179) rfl) rfl
def mX12_put : aM := (yX12_put, cX12_put, 4, (some .boolean), 1, 21)
theorem meX12_put : Cond.code mX12_put.1 mX12_put.2.1 mX12_put.2.2.1 mX12_put.2.2.2.1 ∈ gw := in_5 (List.mem_of_getElem? (i := 183) rfl) rfl
def mX12_move : aM := (yX12_move, cX12_move, 3, (some .boolean), 1, 23)
theorem meX12_move : Cond.code mX12_move.1 mX12_move.2.1 mX12_move.2.2.1 mX12_move.2.2.2.1 ∈ gw := in_5 (List.mem_of_getElem? (i := 187) rfl) rfl
def mX12_isWithin : aM := (yX12_isWithin, cX12_isWithin, 4, (some .boolean), 0, 0)
theorem meX12_isWithin : Cond.code mX12_isWithin.1 mX12_isWithin.2.1 mX12_isWithin.2.2.1 mX12_isWithin.2.2.2.1 ∈ gw := in_5 (List.mem_of_getElem? (i := 191) rfl) rfl
def mX12_join : aM := (yX12_join, cX12_join, 4, (some .boolean), 2, 44)
theorem meX12_join : Cond.code mX12_join.1 mX12_join.2.1 mX12_join.2.2.1 mX12_join.2.2.2.1 ∈ gw := in_5 (List.mem_of_getElem? (i := 195) rfl) rfl
def mX12_goes : aM := (yX12_goes, cX12_goes, 3, none, 1, 22)
theorem meX12_goes : Cond.code mX12_goes.1 mX12_goes.2.1 mX12_goes.2.2.1 mX12_goes.2.2.2.1 ∈ gw := in_5 (List.mem_of_getElem? (i := 199) rfl) rfl
def mX12_removes : aM := (yX12_removes, cX12_removes, 3, none, 0, 0)
theorem meX12_removes : Cond.code mX12_removes.1 mX12_removes.2.1 mX12_removes.2.2.1 mX12_removes.2.2.2.1 ∈ gw := in_5 (List.mem_of_getElem? (i := 203) rfl) rfl
def mX12_part : aM := (yX12_part, cX12_part, 2, (some .int), 1, 23)
theorem meX12_part : Cond.code mX12_part.1 mX12_part.2.1 mX12_part.2.2.1 mX12_part.2.2.2.1 ∈ gw := in_5 (List.mem_of_getElem? (i := 207) rfl) rfl
def mX12_drop : aM := (yX12_drop, cX12_drop, 2, (some .boolean), 2, 44)
theorem meX12_drop : Cond.code mX12_drop.1 mX12_drop.2.1 mX12_drop.2.2.1 mX12_drop.2.2.2.1 ∈ gw := in_5 (List.mem_of_getElem? (i := 211) rfl) rfl
def mX12_own : aM := (yX12_own, cX12_own, 4, (some .int), 0, 0)
theorem meX12_own : Cond.code mX12_own.1 mX12_own.2.1 mX12_own.2.2.1 mX12_own.2.2.2.1 ∈ gw := in_5 (List.mem_of_getElem? (i := 215) rfl) rfl
def mX12_below : aM := (yX12_below, cX12_below, 4, (some .int), 0, 0)
theorem meX12_below : Cond.code mX12_below.1 mX12_below.2.1 mX12_below.2.2.1 mX12_below.2.2.2.1 ∈ gw := in_5 (List.mem_of_getElem? (i := 219) rfl) rfl
def mX12_point : aM := (yX12_point, cX12_point, 3, (some .int), 1, 21)
theorem meX12_point : Cond.code mX12_point.1 mX12_point.2.1 mX12_point.2.2.1 mX12_point.2.2.2.1 ∈ gw := in_5 (List.mem_of_getElem? (i := 223) rfl) rfl
def mX12_lead : aM := (yX12_lead, cX12_lead, 3, (some .boolean), 1, 22)
theorem meX12_lead : Cond.code mX12_lead.1 mX12_lead.2.1 mX12_lead.2.2.1 mX12_lead.2.2.2.1 ∈ gw := in_5 (List.mem_of_getElem? (i := 227) rfl) rfl
def mX12_told : aM := (yX12_told, cX12_told, 3, (some .int), 5, 119)
theorem meX12_told : Cond.code mX12_told.1 mX12_told.2.1 mX12_told.2.2.1 mX12_told.2.2.2.1 ∈ gw := in_5 (List.mem_of_getElem? (i := 231) rfl) rfl
def mX12_witnesses : aM := (yX12_witnesses, cX12_witnesses, 6, none, 2, 46)
theorem meX12_witnesses : Cond.code mX12_witnesses.1 mX12_witnesses.2.1 mX12_witnesses.2.2.1 mX12_witnesses.2.2.2.1 ∈ gw := in_5 (List.mem_of_getElem? (i := 235) rfl) rfl
def mX12_isWitness : aM := (yX12_isWitness, cX12_isWitness, 4, (some .boolean), 1, 23)
theorem meX12_isWitness : Cond.code mX12_isWitness.1 mX12_isWitness.2.1 mX12_isWitness.2.2.1 mX12_isWitness.2.2.2.1 ∈ gw := in_5 (List.mem_of_getElem? (i := 239) rfl) rfl
def mX12_gap : aM := (yX12_gap, cX12_gap, 8, (some .int), 3, 71)
theorem meX12_gap : Cond.code mX12_gap.1 mX12_gap.2.1 mX12_gap.2.2.1 mX12_gap.2.2.2.1 ∈ gw := in_6 (List.mem_of_getElem? (i := 3) rfl) rfl
def mX12_place : aM := (yX12_place, cX12_place, 4, (some .int), 4, 96)
theorem meX12_place : Cond.code mX12_place.1 mX12_place.2.1 mX12_place.2.2.1 mX12_place.2.2.2.1 ∈ gw := in_6 (List.mem_of_getElem? (i := 7) rfl) rfl
def mX12_isAhead : aM := (yX12_isAhead, cX12_isAhead, 6, (some .boolean), 3, 71)
theorem meX12_isAhead : Cond.code mX12_isAhead.1 mX12_isAhead.2.1 mX12_isAhead.2.2.1 mX12_isAhead.2.2.2.1 ∈ gw := in_6 (List.mem_of_getElem? (i := 11) rfl) rfl
def mX12_depth : aM := (yX12_depth, cX12_depth, 4, (some .int), 0, 0)
theorem meX12_depth : Cond.code mX12_depth.1 mX12_depth.2.1 mX12_depth.2.2.1 mX12_depth.2.2.2.1 ∈ gw := in_6 (List.mem_of_getElem? (i := 15) rfl) rfl
def mX12_older : aM := (yX12_older, cX12_older, 4, (some .int), 4, 97)
theorem meX12_older : Cond.code mX12_older.1 mX12_older.2.1 mX12_older.2.2.1 mX12_older.2.2.2.1 ∈ gw := in_6 (List.mem_of_getElem? (i := 19) rfl) rfl
def mX12_isOlder : aM := (yX12_isOlder, cX12_isOlder, 6, (some .boolean), 3, 72)
theorem meX12_isOlder : Cond.code mX12_isOlder.1 mX12_isOlder.2.1 mX12_isOlder.2.2.1 mX12_isOlder.2.2.2.1 ∈ gw := in_6 (List.mem_of_getElem? (i := 23) rfl) rfl
def mX12_isAheadOfAll : aM := (yX12_isAheadOfAll, cX12_isAheadOfAll, 7, (some .boolean), 2, 46)
theorem meX12_isAheadOfAll : Cond.code mX12_isAheadOfAll.1 mX12_isAheadOfAll.2.1 mX12_isAheadOfAll.2.2.1 mX12_isAheadOfAll.2.2.2.1 ∈ gw := in_6 (List.mem_of_getElem? (i := 27) rfl) rfl
def mX12_flaw : aM := (yX12_flaw, cX12_flaw, 2, (some .int), 5, 121)
theorem meX12_flaw : Cond.code mX12_flaw.1 mX12_flaw.2.1 mX12_flaw.2.2.1 mX12_flaw.2.2.2.1 ∈ gw := in_6 (List.mem_of_getElem? (i := 31) rfl) rfl
def mX12_flaws : aM := (yX12_flaws, cX12_flaws, 5, (some .int), 4, 97)
theorem meX12_flaws : Cond.code mX12_flaws.1 mX12_flaws.2.1 mX12_flaws.2.2.1 mX12_flaws.2.2.2.1 ∈ gw := in_6 (List.mem_of_getElem? (i := 35) rfl) rfl
def mX12_where : aM := (yX12_where, cX12_where, 3, (some .int), 8, 202)
theorem meX12_where : Cond.code mX12_where.1 mX12_where.2.1 mX12_where.2.2.1 mX12_where.2.2.2.1 ∈ gw := in_6 (List.mem_of_getElem? (i := 39) rfl) rfl
def mX12_isDoubted : aM := (yX12_isDoubted, cX12_isDoubted, 2, (some .boolean), 7, 181)
theorem meX12_isDoubted : Cond.code mX12_isDoubted.1 mX12_isDoubted.2.1 mX12_isDoubted.2.2.1 mX12_isDoubted.2.2.2.1 ∈ gw := in_6 (List.mem_of_getElem? (i := 43) rfl) rfl
def mX12_byteOf : aM := (yX12_byteOf, cX12_byteOf, 3, (some .int), 1, 22)
theorem meX12_byteOf : Cond.code mX12_byteOf.1 mX12_byteOf.2.1 mX12_byteOf.2.2.1 mX12_byteOf.2.2.2.1 ∈ gw := in_6 (List.mem_of_getElem? (i := 46) rfl) rfl
def mX12_edition : aM := (yX12_edition, cX12_edition, 2, (some .int), 1, 22)
theorem meX12_edition : Cond.code mX12_edition.1 mX12_edition.2.1 mX12_edition.2.2.1 mX12_edition.2.2.2.1 ∈ gw := in_6 (List.mem_of_getElem? (i := 50) rfl) rfl
def mX12_loosePointers : aM := (yX12_loosePointers, cX12_loosePointers, 3, (some .int), 0, 0)
theorem meX12_loosePointers : Cond.code mX12_loosePointers.1 mX12_loosePointers.2.1 mX12_loosePointers.2.2.1 mX12_loosePointers.2.2.2.1 ∈ gw := in_6 (List.mem_of_getElem? (i := 54) rfl) rfl
def mX12_as : aM := (yX12_as, cX12_as, 4, (some .int), 1, 21)
theorem meX12_as : Cond.code mX12_as.1 mX12_as.2.1 mX12_as.2.2.1 mX12_as.2.2.2.1 ∈ gw := in_6 (List.mem_of_getElem? (i := 58) rfl) rfl
def mX12_isEdition : aM := (yX12_isEdition, cX12_isEdition, 2, (some .boolean), 0, 0)
theorem meX12_isEdition : Cond.code mX12_isEdition.1 mX12_isEdition.2.1 mX12_isEdition.2.2.1 mX12_isEdition.2.2.2.1 ∈ gw := in_6 (List.mem_of_getElem? (i := 62) rfl) rfl
def mX12_differ : aM := (yX12_differ, cX12_differ, 9, (some .int), 1, 21)
theorem meX12_differ : Cond.code mX12_differ.1 mX12_differ.2.1 mX12_differ.2.2.1 mX12_differ.2.2.2.1 ∈ gw := in_6 (List.mem_of_getElem? (i := 66) rfl) rfl
def mX12_print : aM := (yX12_print, cX12_print, 5, (some .int), 7, 166)
theorem meX12_print : Cond.code mX12_print.1 mX12_print.2.1 mX12_print.2.2.1 mX12_print.2.2.2.1 ∈ gw := in_6 (List.mem_of_getElem? (i := 70) rfl) rfl
def mX12_letters : aM := (yX12_letters, cX12_letters, 4, none, 2, 44)
theorem meX12_letters : Cond.code mX12_letters.1 mX12_letters.2.1 mX12_letters.2.2.1 mX12_letters.2.2.2.1 ∈ gw := in_6 (List.mem_of_getElem? (i := 74) rfl) rfl
def mX12_puts : aM := (yX12_puts, cX12_puts, 2, none, 0, 0)
theorem meX12_puts : Cond.code mX12_puts.1 mX12_puts.2.1 mX12_puts.2.2.1 mX12_puts.2.2.2.1 ∈ gw := in_6 (List.mem_of_getElem? (i := 78) rfl) rfl
def mX12_at : aM := (yX12_at, cX12_at, 5, (some .int), 5, 119)
theorem meX12_at : Cond.code mX12_at.1 mX12_at.2.1 mX12_at.2.2.1 mX12_at.2.2.2.1 ∈ gw := in_6 (List.mem_of_getElem? (i := 82) rfl) rfl
def mX12_prints : aM := (yX12_prints, cX12_prints, 5, none, 6, 142)
theorem meX12_prints : Cond.code mX12_prints.1 mX12_prints.2.1 mX12_prints.2.2.1 mX12_prints.2.2.2.1 ∈ gw := in_6 (List.mem_of_getElem? (i := 86) rfl) rfl
def mX12_mark : aM := (yX12_mark, cX12_mark, 4, none, 5, 119)
theorem meX12_mark : Cond.code mX12_mark.1 mX12_mark.2.1 mX12_mark.2.2.1 mX12_mark.2.2.2.1 ∈ gw := in_6 (List.mem_of_getElem? (i := 90) rfl) rfl
def mX12_number : aM := (yX12_number, cX12_number, 4, none, 1, 21)
theorem meX12_number : Cond.code mX12_number.1 mX12_number.2.1 mX12_number.2.2.1 mX12_number.2.2.2.1 ∈ gw := in_6 (List.mem_of_getElem? (i := 94) rfl) rfl
def mX12_heap : aM := (yX12_heap, cX12_heap, 4, (some .int), 0, 0)
theorem meX12_heap : Cond.code mX12_heap.1 mX12_heap.2.1 mX12_heap.2.2.1 mX12_heap.2.2.2.1 ∈ gw := in_6 (List.mem_of_getElem? (i := 98) rfl) rfl
def mX12_octet : aM := (yX12_octet, cX12_octet, 2, (some .int), 0, 0)
theorem meX12_octet : Cond.code mX12_octet.1 mX12_octet.2.1 mX12_octet.2.2.1 mX12_octet.2.2.2.1 ∈ gw := in_6 (List.mem_of_getElem? (i := 102) rfl) rfl
def mX12_count : aM := (yX12_count, cX12_count, 4, (some .int), 8, 202)
theorem meX12_count : Cond.code mX12_count.1 mX12_count.2.1 mX12_count.2.2.1 mX12_count.2.2.2.1 ∈ gw := in_6 (List.mem_of_getElem? (i := 106) rfl) rfl
theorem cfX11_91 : cF RX11 91 mX8_addFour (some 8) 2 := ⟨in_2 (List.mem_of_getElem? (i := 119) rfl) rfl, in_1 (List.mem_of_getElem? (i := 2) rfl) rfl, by decide +kernel, ⟨by decide, ⟨TX8, 2, rfl⟩, in_2 (List.mem_of_getElem? (i := 120) rfl) rfl, in_2 (List.mem_of_getElem? (i := 121) rfl) rfl⟩⟩
theorem cfX11_95 : cF RX11 95 mX11_areYears none 2 := ⟨in_2 (List.mem_of_getElem? (i := 127) rfl) rfl, in_1 (List.mem_of_getElem? (i := 1) rfl) rfl, by decide +kernel, in_2 (List.mem_of_getElem? (i := 128) rfl) rfl⟩
theorem cfX11_100 : cF RX11 100 mX0_add (some 0) 3 := ⟨in_2 (List.mem_of_getElem? (i := 130) rfl) rfl, in_1 (List.mem_of_getElem? (i := 3) rfl) rfl, by decide +kernel, ⟨by decide, ⟨TX0, 9, rfl⟩, in_2 (List.mem_of_getElem? (i := 131) rfl) rfl, in_2 (List.mem_of_getElem? (i := 132) rfl) rfl⟩⟩
theorem cfX11_104 : cF RX11 104 mX0_has (some 0) 2 := ⟨in_2 (List.mem_of_getElem? (i := 138) rfl) rfl, in_1 (List.mem_of_getElem? (i := 3) rfl) rfl, by decide +kernel, ⟨by decide, ⟨TX0, 9, rfl⟩, in_2 (List.mem_of_getElem? (i := 139) rfl) rfl, in_2 (List.mem_of_getElem? (i := 140) rfl) rfl⟩⟩
theorem cfX11_108 : cF RX11 108 mX0_addBefore (some 0) 3 := ⟨in_2 (List.mem_of_getElem? (i := 142) rfl) rfl, in_1 (List.mem_of_getElem? (i := 3) rfl) rfl, by decide +kernel, ⟨by decide, ⟨TX0, 9, rfl⟩, in_2 (List.mem_of_getElem? (i := 143) rfl) rfl, in_2 (List.mem_of_getElem? (i := 144) rfl) rfl⟩⟩
theorem cfX0_40 : cF RX0 40 mX0_wasTold (some 0) 3 := ⟨in_2 (List.mem_of_getElem? (i := 146) rfl) rfl, in_1 (List.mem_of_getElem? (i := 3) rfl) rfl, by decide +kernel, ⟨by decide, ⟨TX0, 9, rfl⟩, in_2 (List.mem_of_getElem? (i := 148) rfl) rfl, in_0 (List.mem_of_getElem? (i := 0) rfl) rfl⟩⟩
theorem cfX0_44 : cF RX0 44 mX0_tighten (some 0) 1 := ⟨in_2 (List.mem_of_getElem? (i := 150) rfl) rfl, in_1 (List.mem_of_getElem? (i := 3) rfl) rfl, by decide +kernel, ⟨by decide, ⟨TX0, 9, rfl⟩, in_2 (List.mem_of_getElem? (i := 152) rfl) rfl, in_0 (List.mem_of_getElem? (i := 1) rfl) rfl⟩⟩
theorem cfX0_48 : cF RX0 48 mX0_setBehind (some 0) 3 := ⟨in_2 (List.mem_of_getElem? (i := 162) rfl) rfl, in_1 (List.mem_of_getElem? (i := 3) rfl) rfl, by decide +kernel, ⟨by decide, ⟨TX0, 9, rfl⟩, in_2 (List.mem_of_getElem? (i := 164) rfl) rfl, in_0 (List.mem_of_getElem? (i := 4) rfl) rfl⟩⟩
theorem cfX0_52 : cF RX0 52 mX0_tightenOnce (some 0) 1 := ⟨in_2 (List.mem_of_getElem? (i := 154) rfl) rfl, in_1 (List.mem_of_getElem? (i := 3) rfl) rfl, by decide +kernel, ⟨by decide, ⟨TX0, 9, rfl⟩, in_2 (List.mem_of_getElem? (i := 156) rfl) rfl, in_0 (List.mem_of_getElem? (i := 2) rfl) rfl⟩⟩
theorem cfX0_55 : cF RX0 55 mX0_allHaveYears (some 0) 1 := ⟨in_2 (List.mem_of_getElem? (i := 158) rfl) rfl, in_1 (List.mem_of_getElem? (i := 3) rfl) rfl, by decide +kernel, ⟨by decide, ⟨TX0, 9, rfl⟩, in_2 (List.mem_of_getElem? (i := 160) rfl) rfl, in_0 (List.mem_of_getElem? (i := 3) rfl) rfl⟩⟩
theorem cfX0_58 : cF RX0 58 mX0_isIn none 2 := ⟨in_2 (List.mem_of_getElem? (i := 166) rfl) rfl, in_1 (List.mem_of_getElem? (i := 3) rfl) rfl, by decide +kernel, in_2 (List.mem_of_getElem? (i := 167) rfl) rfl⟩
theorem cfX11_124 : cF RX11 124 mX7_ofBook (some 7) 2 := ⟨in_2 (List.mem_of_getElem? (i := 173) rfl) rfl, in_1 (List.mem_of_getElem? (i := 7) rfl) rfl, by decide +kernel, ⟨by decide, ⟨TX7, 5, rfl⟩, in_2 (List.mem_of_getElem? (i := 174) rfl) rfl, in_2 (List.mem_of_getElem? (i := 175) rfl) rfl⟩⟩
theorem cfX11_129 : cF RX11 129 mX11_tapeHasWord (some 11) 2 := ⟨in_2 (List.mem_of_getElem? (i := 181) rfl) rfl, in_1 (List.mem_of_getElem? (i := 1) rfl) rfl, by decide +kernel, ⟨by decide, ⟨TX11, 10, rfl⟩, in_2 (List.mem_of_getElem? (i := 183) rfl) rfl, in_0 (List.mem_of_getElem? (i := 5) rfl) rfl⟩⟩
theorem cfX11_132 : cF RX11 132 mX8_takeWord (some 8) 2 := ⟨in_2 (List.mem_of_getElem? (i := 185) rfl) rfl, in_1 (List.mem_of_getElem? (i := 2) rfl) rfl, by decide +kernel, ⟨by decide, ⟨TX8, 2, rfl⟩, in_2 (List.mem_of_getElem? (i := 186) rfl) rfl, in_2 (List.mem_of_getElem? (i := 187) rfl) rfl⟩⟩
theorem cfX11_138 : cF RX11 138 mX7_add (some 7) 3 := ⟨in_2 (List.mem_of_getElem? (i := 200) rfl) rfl, in_1 (List.mem_of_getElem? (i := 7) rfl) rfl, by decide +kernel, ⟨by decide, ⟨TX7, 5, rfl⟩, in_2 (List.mem_of_getElem? (i := 201) rfl) rfl, in_2 (List.mem_of_getElem? (i := 202) rfl) rfl⟩⟩
theorem cfX8_19 : cF RX8 19 mX8_wordAt (some 8) 3 := ⟨in_2 (List.mem_of_getElem? (i := 189) rfl) rfl, in_1 (List.mem_of_getElem? (i := 2) rfl) rfl, by decide +kernel, ⟨by decide, ⟨TX8, 2, rfl⟩, in_2 (List.mem_of_getElem? (i := 190) rfl) rfl, in_2 (List.mem_of_getElem? (i := 191) rfl) rfl⟩⟩
theorem cfX8_23 : cF RX8 23 mX8_clear (some 8) 1 := ⟨in_2 (List.mem_of_getElem? (i := 196) rfl) rfl, in_1 (List.mem_of_getElem? (i := 2) rfl) rfl, by decide +kernel, ⟨by decide, ⟨TX8, 2, rfl⟩, in_2 (List.mem_of_getElem? (i := 197) rfl) rfl, in_2 (List.mem_of_getElem? (i := 198) rfl) rfl⟩⟩
theorem cfX8_28 : cF RX8 28 mX10_append none 2 := ⟨in_2 (List.mem_of_getElem? (i := 193) rfl) rfl, in_1 (List.mem_of_getElem? (i := 6) rfl) rfl, by decide +kernel, in_2 (List.mem_of_getElem? (i := 194) rfl) rfl⟩
theorem cfX7_34 : cF RX7 34 mX10_set (some 10) 3 := ⟨in_2 (List.mem_of_getElem? (i := 204) rfl) rfl, in_1 (List.mem_of_getElem? (i := 6) rfl) rfl, by decide +kernel, ⟨by decide, ⟨TX10, 4, rfl⟩, in_2 (List.mem_of_getElem? (i := 205) rfl) rfl, in_2 (List.mem_of_getElem? (i := 206) rfl) rfl⟩⟩
theorem cfX7_38 : cF RX7 38 mX7_place (some 7) 4 := ⟨in_2 (List.mem_of_getElem? (i := 221) rfl) rfl, in_1 (List.mem_of_getElem? (i := 7) rfl) rfl, by decide +kernel, ⟨by decide, ⟨TX7, 5, rfl⟩, in_2 (List.mem_of_getElem? (i := 222) rfl) rfl, in_2 (List.mem_of_getElem? (i := 223) rfl) rfl⟩⟩
theorem cfX10_34 : cF RX10 34 mX10_addNeighboursOf (some 10) 3 := ⟨in_2 (List.mem_of_getElem? (i := 208) rfl) rfl, in_1 (List.mem_of_getElem? (i := 6) rfl) rfl, by decide +kernel, ⟨by decide, ⟨TX10, 4, rfl⟩, in_2 (List.mem_of_getElem? (i := 210) rfl) rfl, in_0 (List.mem_of_getElem? (i := 6) rfl) rfl⟩⟩
theorem cfX10_49 : cF RX10 49 mX10_changed none 4 := ⟨in_2 (List.mem_of_getElem? (i := 212) rfl) rfl, in_1 (List.mem_of_getElem? (i := 6) rfl) rfl, by decide +kernel, in_2 (List.mem_of_getElem? (i := 213) rfl) rfl⟩
theorem cfX10_53 : cF RX10 53 mX10_lettersIn none 1 := ⟨in_2 (List.mem_of_getElem? (i := 215) rfl) rfl, in_1 (List.mem_of_getElem? (i := 6) rfl) rfl, by decide +kernel, in_2 (List.mem_of_getElem? (i := 216) rfl) rfl⟩
theorem cfX10_59 : cF RX10 59 mX10_lowest none 2 := ⟨in_2 (List.mem_of_getElem? (i := 218) rfl) rfl, in_1 (List.mem_of_getElem? (i := 6) rfl) rfl, by decide +kernel, in_2 (List.mem_of_getElem? (i := 219) rfl) rfl⟩
theorem cfX7_42 : cF RX7 42 mX7_has (some 7) 2 := ⟨in_2 (List.mem_of_getElem? (i := 225) rfl) rfl, in_1 (List.mem_of_getElem? (i := 7) rfl) rfl, by decide +kernel, ⟨by decide, ⟨TX7, 5, rfl⟩, in_2 (List.mem_of_getElem? (i := 226) rfl) rfl, in_2 (List.mem_of_getElem? (i := 227) rfl) rfl⟩⟩
theorem cfX11_142 : cF RX11 142 mX2_add (some 2) 4 := ⟨in_2 (List.mem_of_getElem? (i := 233) rfl) rfl, in_1 (List.mem_of_getElem? (i := 5) rfl) rfl, by decide +kernel, ⟨by decide, ⟨TX2, 5, rfl⟩, in_2 (List.mem_of_getElem? (i := 234) rfl) rfl, in_2 (List.mem_of_getElem? (i := 235) rfl) rfl⟩⟩
theorem cfX2_38 : cF RX2 38 mX2_addForm (some 2) 5 := ⟨in_2 (List.mem_of_getElem? (i := 237) rfl) rfl, in_1 (List.mem_of_getElem? (i := 5) rfl) rfl, by decide +kernel, ⟨by decide, ⟨TX2, 5, rfl⟩, in_2 (List.mem_of_getElem? (i := 238) rfl) rfl, in_2 (List.mem_of_getElem? (i := 239) rfl) rfl⟩⟩
theorem cfX2_42 : cF RX2 42 mX2_hasRoomForForm (some 2) 2 := ⟨in_3 (List.mem_of_getElem? (i := 1) rfl) rfl, in_1 (List.mem_of_getElem? (i := 5) rfl) rfl, by decide +kernel, ⟨by decide, ⟨TX2, 5, rfl⟩, in_3 (List.mem_of_getElem? (i := 2) rfl) rfl, in_3 (List.mem_of_getElem? (i := 3) rfl) rfl⟩⟩
theorem cfX2_45 : cF RX2 45 mX2_formOf none 2 := ⟨in_3 (List.mem_of_getElem? (i := 9) rfl) rfl, in_1 (List.mem_of_getElem? (i := 5) rfl) rfl, by decide +kernel, in_3 (List.mem_of_getElem? (i := 10) rfl) rfl⟩
theorem cfX2_49 : cF RX2 49 mX10_set (some 10) 3 := ⟨in_3 (List.mem_of_getElem? (i := 12) rfl) rfl, in_1 (List.mem_of_getElem? (i := 6) rfl) rfl, by decide +kernel, ⟨by decide, ⟨TX10, 4, rfl⟩, in_2 (List.mem_of_getElem? (i := 205) rfl) rfl, in_2 (List.mem_of_getElem? (i := 206) rfl) rfl⟩⟩
theorem cfX2_34 : cF RX2 34 mX2_has (some 2) 2 := ⟨in_3 (List.mem_of_getElem? (i := 5) rfl) rfl, in_1 (List.mem_of_getElem? (i := 5) rfl) rfl, by decide +kernel, ⟨by decide, ⟨TX2, 5, rfl⟩, in_3 (List.mem_of_getElem? (i := 6) rfl) rfl, in_3 (List.mem_of_getElem? (i := 7) rfl) rfl⟩⟩
theorem cfX11_145 : cF RX11 145 mX2_hasRoomForForm (some 2) 2 := ⟨in_3 (List.mem_of_getElem? (i := 17) rfl) rfl, in_1 (List.mem_of_getElem? (i := 5) rfl) rfl, by decide +kernel, ⟨by decide, ⟨TX2, 5, rfl⟩, in_3 (List.mem_of_getElem? (i := 2) rfl) rfl, in_3 (List.mem_of_getElem? (i := 3) rfl) rfl⟩⟩
theorem cfX11_148 : cF RX11 148 mX2_addForm (some 2) 5 := ⟨in_3 (List.mem_of_getElem? (i := 18) rfl) rfl, in_1 (List.mem_of_getElem? (i := 5) rfl) rfl, by decide +kernel, ⟨by decide, ⟨TX2, 5, rfl⟩, in_2 (List.mem_of_getElem? (i := 238) rfl) rfl, in_2 (List.mem_of_getElem? (i := 239) rfl) rfl⟩⟩
theorem cfX11_152 : cF RX11 152 mX11_isRuleLength none 1 := ⟨in_3 (List.mem_of_getElem? (i := 23) rfl) rfl, in_1 (List.mem_of_getElem? (i := 1) rfl) rfl, by decide +kernel, in_3 (List.mem_of_getElem? (i := 24) rfl) rfl⟩
theorem cfX11_156 : cF RX11 156 mX8_wordAt (some 8) 3 := ⟨in_3 (List.mem_of_getElem? (i := 26) rfl) rfl, in_1 (List.mem_of_getElem? (i := 2) rfl) rfl, by decide +kernel, ⟨by decide, ⟨TX8, 2, rfl⟩, in_2 (List.mem_of_getElem? (i := 190) rfl) rfl, in_2 (List.mem_of_getElem? (i := 191) rfl) rfl⟩⟩
theorem cfX11_160 : cF RX11 160 mX8_clear (some 8) 1 := ⟨in_3 (List.mem_of_getElem? (i := 27) rfl) rfl, in_1 (List.mem_of_getElem? (i := 2) rfl) rfl, by decide +kernel, ⟨by decide, ⟨TX8, 2, rfl⟩, in_2 (List.mem_of_getElem? (i := 197) rfl) rfl, in_2 (List.mem_of_getElem? (i := 198) rfl) rfl⟩⟩
theorem cfX11_163 : cF RX11 163 mX5_add (some 5) 3 := ⟨in_3 (List.mem_of_getElem? (i := 28) rfl) rfl, in_1 (List.mem_of_getElem? (i := 4) rfl) rfl, by decide +kernel, ⟨by decide, ⟨TX5, 3, rfl⟩, in_3 (List.mem_of_getElem? (i := 29) rfl) rfl, in_3 (List.mem_of_getElem? (i := 30) rfl) rfl⟩⟩
theorem cfX11_170 : cF RX11 170 mX10_addNeighbours (some 10) 2 := ⟨in_3 (List.mem_of_getElem? (i := 32) rfl) rfl, in_1 (List.mem_of_getElem? (i := 6) rfl) rfl, by decide +kernel, ⟨by decide, ⟨TX10, 4, rfl⟩, in_3 (List.mem_of_getElem? (i := 33) rfl) rfl, in_3 (List.mem_of_getElem? (i := 34) rfl) rfl⟩⟩
theorem cfX10_38 : cF RX10 38 mX10_has (some 10) 2 := ⟨in_3 (List.mem_of_getElem? (i := 36) rfl) rfl, in_1 (List.mem_of_getElem? (i := 6) rfl) rfl, by decide +kernel, ⟨by decide, ⟨TX10, 4, rfl⟩, in_3 (List.mem_of_getElem? (i := 37) rfl) rfl, in_3 (List.mem_of_getElem? (i := 38) rfl) rfl⟩⟩
theorem cfX11_176 : cF RX11 176 mX7_has (some 7) 2 := ⟨in_3 (List.mem_of_getElem? (i := 44) rfl) rfl, in_1 (List.mem_of_getElem? (i := 7) rfl) rfl, by decide +kernel, ⟨by decide, ⟨TX7, 5, rfl⟩, in_2 (List.mem_of_getElem? (i := 226) rfl) rfl, in_2 (List.mem_of_getElem? (i := 227) rfl) rfl⟩⟩
theorem cfX11_177 : cF RX11 177 mX2_has (some 2) 2 := ⟨in_3 (List.mem_of_getElem? (i := 45) rfl) rfl, in_1 (List.mem_of_getElem? (i := 5) rfl) rfl, by decide +kernel, ⟨by decide, ⟨TX2, 5, rfl⟩, in_3 (List.mem_of_getElem? (i := 6) rfl) rfl, in_3 (List.mem_of_getElem? (i := 7) rfl) rfl⟩⟩
theorem cfX11_178 : cF RX11 178 mX11_isFit (some 11) 3 := ⟨in_3 (List.mem_of_getElem? (i := 46) rfl) rfl, in_1 (List.mem_of_getElem? (i := 1) rfl) rfl, by decide +kernel, ⟨by decide, ⟨TX11, 10, rfl⟩, in_3 (List.mem_of_getElem? (i := 48) rfl) rfl, in_0 (List.mem_of_getElem? (i := 7) rfl) rfl⟩⟩
theorem cfX11_325 : cF RX11 325 mX2_formOf none 2 := ⟨in_3 (List.mem_of_getElem? (i := 50) rfl) rfl, in_1 (List.mem_of_getElem? (i := 5) rfl) rfl, by decide +kernel, in_3 (List.mem_of_getElem? (i := 10) rfl) rfl⟩
theorem cfX11_328 : cF RX11 328 mX2_isSpelledIn (some 2) 4 := ⟨in_3 (List.mem_of_getElem? (i := 51) rfl) rfl, in_1 (List.mem_of_getElem? (i := 5) rfl) rfl, by decide +kernel, ⟨by decide, ⟨TX2, 5, rfl⟩, in_3 (List.mem_of_getElem? (i := 52) rfl) rfl, in_3 (List.mem_of_getElem? (i := 53) rfl) rfl⟩⟩
theorem cfX11_331 : cF RX11 331 mX10_meet (some 10) 4 := ⟨in_3 (List.mem_of_getElem? (i := 55) rfl) rfl, in_1 (List.mem_of_getElem? (i := 6) rfl) rfl, by decide +kernel, ⟨by decide, ⟨TX10, 4, rfl⟩, in_3 (List.mem_of_getElem? (i := 56) rfl) rfl, in_3 (List.mem_of_getElem? (i := 57) rfl) rfl⟩⟩
theorem cfX11_181 : cF RX11 181 mX7_isLoose (some 7) 2 := ⟨in_3 (List.mem_of_getElem? (i := 63) rfl) rfl, in_1 (List.mem_of_getElem? (i := 7) rfl) rfl, by decide +kernel, ⟨by decide, ⟨TX7, 5, rfl⟩, in_3 (List.mem_of_getElem? (i := 64) rfl) rfl, in_3 (List.mem_of_getElem? (i := 65) rfl) rfl⟩⟩
theorem cfX11_184 : cF RX11 184 mX11_entriesFitted (some 11) 2 := ⟨in_3 (List.mem_of_getElem? (i := 71) rfl) rfl, in_1 (List.mem_of_getElem? (i := 1) rfl) rfl, by decide +kernel, ⟨by decide, ⟨TX11, 10, rfl⟩, in_3 (List.mem_of_getElem? (i := 73) rfl) rfl, in_0 (List.mem_of_getElem? (i := 8) rfl) rfl⟩⟩
theorem cfX11_187 : cF RX11 187 mX11_firstEntryFitted (some 11) 2 := ⟨in_3 (List.mem_of_getElem? (i := 75) rfl) rfl, in_1 (List.mem_of_getElem? (i := 1) rfl) rfl, by decide +kernel, ⟨by decide, ⟨TX11, 10, rfl⟩, in_3 (List.mem_of_getElem? (i := 77) rfl) rfl, in_0 (List.mem_of_getElem? (i := 9) rfl) rfl⟩⟩
theorem cfX11_190 : cF RX11 190 mX7_place (some 7) 4 := ⟨in_3 (List.mem_of_getElem? (i := 79) rfl) rfl, in_1 (List.mem_of_getElem? (i := 7) rfl) rfl, by decide +kernel, ⟨by decide, ⟨TX7, 5, rfl⟩, in_2 (List.mem_of_getElem? (i := 222) rfl) rfl, in_2 (List.mem_of_getElem? (i := 223) rfl) rfl⟩⟩
theorem cfX7_46 : cF RX7 46 mX7_standsAt (some 7) 4 := ⟨in_3 (List.mem_of_getElem? (i := 67) rfl) rfl, in_1 (List.mem_of_getElem? (i := 7) rfl) rfl, by decide +kernel, ⟨by decide, ⟨TX7, 5, rfl⟩, in_3 (List.mem_of_getElem? (i := 68) rfl) rfl, in_3 (List.mem_of_getElem? (i := 69) rfl) rfl⟩⟩
theorem cfX11_194 : cF RX11 194 mX11_isTopOrSenseOf (some 11) 3 := ⟨in_3 (List.mem_of_getElem? (i := 84) rfl) rfl, in_1 (List.mem_of_getElem? (i := 1) rfl) rfl, by decide +kernel, ⟨by decide, ⟨TX11, 10, rfl⟩, in_3 (List.mem_of_getElem? (i := 86) rfl) rfl, in_0 (List.mem_of_getElem? (i := 10) rfl) rfl⟩⟩
theorem cfX11_197 : cF RX11 197 mX6_add (some 6) 3 := ⟨in_3 (List.mem_of_getElem? (i := 92) rfl) rfl, in_1 (List.mem_of_getElem? (i := 8) rfl) rfl, by decide +kernel, ⟨by decide, ⟨TX6, 2, rfl⟩, in_3 (List.mem_of_getElem? (i := 93) rfl) rfl, in_3 (List.mem_of_getElem? (i := 94) rfl) rfl⟩⟩
theorem cfX11_202 : cF RX11 202 mX6_has (some 6) 2 := ⟨in_3 (List.mem_of_getElem? (i := 88) rfl) rfl, in_1 (List.mem_of_getElem? (i := 8) rfl) rfl, by decide +kernel, ⟨by decide, ⟨TX6, 2, rfl⟩, in_3 (List.mem_of_getElem? (i := 89) rfl) rfl, in_3 (List.mem_of_getElem? (i := 90) rfl) rfl⟩⟩
theorem cfX6_18 : cF RX6 18 mX6_has (some 6) 2 := ⟨in_3 (List.mem_of_getElem? (i := 96) rfl) rfl, in_1 (List.mem_of_getElem? (i := 8) rfl) rfl, by decide +kernel, ⟨by decide, ⟨TX6, 2, rfl⟩, in_3 (List.mem_of_getElem? (i := 89) rfl) rfl, in_3 (List.mem_of_getElem? (i := 90) rfl) rfl⟩⟩
theorem cfX11_198 : cF RX11 198 mX7_standsAt (some 7) 4 := ⟨in_3 (List.mem_of_getElem? (i := 101) rfl) rfl, in_1 (List.mem_of_getElem? (i := 7) rfl) rfl, by decide +kernel, ⟨by decide, ⟨TX7, 5, rfl⟩, in_3 (List.mem_of_getElem? (i := 68) rfl) rfl, in_3 (List.mem_of_getElem? (i := 69) rfl) rfl⟩⟩
theorem cfX11_209 : cF RX11 209 mX6_isWithin (some 6) 3 := ⟨in_3 (List.mem_of_getElem? (i := 106) rfl) rfl, in_1 (List.mem_of_getElem? (i := 8) rfl) rfl, by decide +kernel, ⟨by decide, ⟨TX6, 2, rfl⟩, in_3 (List.mem_of_getElem? (i := 107) rfl) rfl, in_3 (List.mem_of_getElem? (i := 108) rfl) rfl⟩⟩
theorem cfX11_212 : cF RX11 212 mX7_moveAll (some 7) 3 := ⟨in_3 (List.mem_of_getElem? (i := 114) rfl) rfl, in_1 (List.mem_of_getElem? (i := 7) rfl) rfl, by decide +kernel, ⟨by decide, ⟨TX7, 5, rfl⟩, in_3 (List.mem_of_getElem? (i := 115) rfl) rfl, in_3 (List.mem_of_getElem? (i := 116) rfl) rfl⟩⟩
theorem cfX11_216 : cF RX11 216 mX6_moveAllUnder (some 6) 3 := ⟨in_3 (List.mem_of_getElem? (i := 118) rfl) rfl, in_1 (List.mem_of_getElem? (i := 8) rfl) rfl, by decide +kernel, ⟨by decide, ⟨TX6, 2, rfl⟩, in_3 (List.mem_of_getElem? (i := 119) rfl) rfl, in_3 (List.mem_of_getElem? (i := 120) rfl) rfl⟩⟩
theorem cfX11_219 : cF RX11 219 mX11_forgetSense (some 11) 2 := ⟨in_3 (List.mem_of_getElem? (i := 122) rfl) rfl, in_1 (List.mem_of_getElem? (i := 1) rfl) rfl, by decide +kernel, ⟨by decide, ⟨TX11, 10, rfl⟩, in_3 (List.mem_of_getElem? (i := 124) rfl) rfl, in_0 (List.mem_of_getElem? (i := 11) rfl) rfl⟩⟩
theorem cfX11_345 : cF RX11 345 mX6_remove (some 6) 2 := ⟨in_3 (List.mem_of_getElem? (i := 126) rfl) rfl, in_1 (List.mem_of_getElem? (i := 8) rfl) rfl, by decide +kernel, ⟨by decide, ⟨TX6, 2, rfl⟩, in_3 (List.mem_of_getElem? (i := 127) rfl) rfl, in_3 (List.mem_of_getElem? (i := 128) rfl) rfl⟩⟩
theorem cfX11_346 : cF RX11 346 mX3_forget (some 3) 2 := ⟨in_3 (List.mem_of_getElem? (i := 130) rfl) rfl, in_1 (List.mem_of_getElem? (i := 10) rfl) rfl, by decide +kernel, ⟨by decide, ⟨TX3, 3, rfl⟩, in_3 (List.mem_of_getElem? (i := 131) rfl) rfl, in_3 (List.mem_of_getElem? (i := 132) rfl) rfl⟩⟩
theorem cfX3_29 : cF RX3 29 mX3_remove (some 3) 2 := ⟨in_3 (List.mem_of_getElem? (i := 134) rfl) rfl, in_1 (List.mem_of_getElem? (i := 10) rfl) rfl, by decide +kernel, ⟨by decide, ⟨TX3, 3, rfl⟩, in_3 (List.mem_of_getElem? (i := 135) rfl) rfl, in_3 (List.mem_of_getElem? (i := 136) rfl) rfl⟩⟩
theorem cfX3_22 : cF RX3 22 mX3_has (some 3) 2 := ⟨in_3 (List.mem_of_getElem? (i := 138) rfl) rfl, in_1 (List.mem_of_getElem? (i := 10) rfl) rfl, by decide +kernel, ⟨by decide, ⟨TX3, 3, rfl⟩, in_3 (List.mem_of_getElem? (i := 139) rfl) rfl, in_3 (List.mem_of_getElem? (i := 140) rfl) rfl⟩⟩
theorem cfX11_222 : cF RX11 222 mX6_justUnder (some 6) 2 := ⟨in_3 (List.mem_of_getElem? (i := 150) rfl) rfl, in_1 (List.mem_of_getElem? (i := 8) rfl) rfl, by decide +kernel, ⟨by decide, ⟨TX6, 2, rfl⟩, in_3 (List.mem_of_getElem? (i := 151) rfl) rfl, in_3 (List.mem_of_getElem? (i := 152) rfl) rfl⟩⟩
theorem cfX11_225 : cF RX11 225 mX7_at (some 7) 3 := ⟨in_3 (List.mem_of_getElem? (i := 154) rfl) rfl, in_1 (List.mem_of_getElem? (i := 7) rfl) rfl, by decide +kernel, ⟨by decide, ⟨TX7, 5, rfl⟩, in_3 (List.mem_of_getElem? (i := 155) rfl) rfl, in_3 (List.mem_of_getElem? (i := 156) rfl) rfl⟩⟩
theorem cfX11_229 : cF RX11 229 mX3_add (some 3) 3 := ⟨in_3 (List.mem_of_getElem? (i := 162) rfl) rfl, in_1 (List.mem_of_getElem? (i := 10) rfl) rfl, by decide +kernel, ⟨by decide, ⟨TX3, 3, rfl⟩, in_3 (List.mem_of_getElem? (i := 163) rfl) rfl, in_3 (List.mem_of_getElem? (i := 164) rfl) rfl⟩⟩
theorem cfX11_230 : cF RX11 230 mX3_has (some 3) 2 := ⟨in_3 (List.mem_of_getElem? (i := 170) rfl) rfl, in_1 (List.mem_of_getElem? (i := 10) rfl) rfl, by decide +kernel, ⟨by decide, ⟨TX3, 3, rfl⟩, in_3 (List.mem_of_getElem? (i := 139) rfl) rfl, in_3 (List.mem_of_getElem? (i := 140) rfl) rfl⟩⟩
theorem cfX11_231 : cF RX11 231 mX3_isLoose (some 3) 2 := ⟨in_3 (List.mem_of_getElem? (i := 171) rfl) rfl, in_1 (List.mem_of_getElem? (i := 10) rfl) rfl, by decide +kernel, ⟨by decide, ⟨TX3, 3, rfl⟩, in_3 (List.mem_of_getElem? (i := 172) rfl) rfl, in_3 (List.mem_of_getElem? (i := 173) rfl) rfl⟩⟩
theorem cfX11_232 : cF RX11 232 mX3_remove (some 3) 2 := ⟨in_3 (List.mem_of_getElem? (i := 175) rfl) rfl, in_1 (List.mem_of_getElem? (i := 10) rfl) rfl, by decide +kernel, ⟨by decide, ⟨TX3, 3, rfl⟩, in_3 (List.mem_of_getElem? (i := 135) rfl) rfl, in_3 (List.mem_of_getElem? (i := 136) rfl) rfl⟩⟩
theorem cfX11_241 : cF RX11 241 mX9_gather (some 9) 1 := ⟨in_3 (List.mem_of_getElem? (i := 180) rfl) rfl, in_1 (List.mem_of_getElem? (i := 9) rfl) rfl, by decide +kernel, ⟨by decide, ⟨TX9, 10, rfl⟩, in_3 (List.mem_of_getElem? (i := 181) rfl) rfl, in_3 (List.mem_of_getElem? (i := 182) rfl) rfl⟩⟩
theorem cfX11_250 : cF RX11 250 mX11_toldYears (some 11) 3 := ⟨in_3 (List.mem_of_getElem? (i := 208) rfl) rfl, in_1 (List.mem_of_getElem? (i := 1) rfl) rfl, by decide +kernel, ⟨by decide, ⟨TX11, 10, rfl⟩, in_3 (List.mem_of_getElem? (i := 210) rfl) rfl, in_0 (List.mem_of_getElem? (i := 15) rfl) rfl⟩⟩
theorem cfX11_258 : cF RX11 258 mX6_depth (some 6) 2 := ⟨in_3 (List.mem_of_getElem? (i := 228) rfl) rfl, in_1 (List.mem_of_getElem? (i := 8) rfl) rfl, by decide +kernel, ⟨by decide, ⟨TX6, 2, rfl⟩, in_3 (List.mem_of_getElem? (i := 229) rfl) rfl, in_3 (List.mem_of_getElem? (i := 230) rfl) rfl⟩⟩
theorem cfX9_57 : cF RX9 57 mX9_addSlip (some 9) 3 := ⟨in_3 (List.mem_of_getElem? (i := 184) rfl) rfl, in_1 (List.mem_of_getElem? (i := 9) rfl) rfl, by decide +kernel, ⟨by decide, ⟨TX9, 10, rfl⟩, in_3 (List.mem_of_getElem? (i := 186) rfl) rfl, in_0 (List.mem_of_getElem? (i := 12) rfl) rfl⟩⟩
theorem cfX9_61 : cF RX9 61 mX6_has (some 6) 2 := ⟨in_3 (List.mem_of_getElem? (i := 188) rfl) rfl, in_1 (List.mem_of_getElem? (i := 8) rfl) rfl, by decide +kernel, ⟨by decide, ⟨TX6, 2, rfl⟩, in_3 (List.mem_of_getElem? (i := 89) rfl) rfl, in_3 (List.mem_of_getElem? (i := 90) rfl) rfl⟩⟩
theorem cfX9_72 : cF RX9 72 mX0_least (some 0) 3 := ⟨in_3 (List.mem_of_getElem? (i := 189) rfl) rfl, in_1 (List.mem_of_getElem? (i := 3) rfl) rfl, by decide +kernel, ⟨by decide, ⟨TX0, 9, rfl⟩, in_3 (List.mem_of_getElem? (i := 190) rfl) rfl, in_3 (List.mem_of_getElem? (i := 191) rfl) rfl⟩⟩
theorem cfX9_79 : cF RX9 79 mX9_placeOf (some 9) 2 := ⟨in_3 (List.mem_of_getElem? (i := 196) rfl) rfl, in_1 (List.mem_of_getElem? (i := 9) rfl) rfl, by decide +kernel, ⟨by decide, ⟨TX9, 10, rfl⟩, in_3 (List.mem_of_getElem? (i := 198) rfl) rfl, in_0 (List.mem_of_getElem? (i := 13) rfl) rfl⟩⟩
theorem cfX0_61 : cF RX0 61 mJ9_min_7cf53 none 2 := ⟨in_3 (List.mem_of_getElem? (i := 193) rfl) rfl, in_1 (List.mem_of_getElem? (i := 14) rfl) rfl, by decide +kernel, in_3 (List.mem_of_getElem? (i := 194) rfl) rfl⟩
theorem cfX9_86 : cF RX9 86 mX6_areBeside (some 6) 3 := ⟨in_3 (List.mem_of_getElem? (i := 200) rfl) rfl, in_1 (List.mem_of_getElem? (i := 8) rfl) rfl, by decide +kernel, ⟨by decide, ⟨TX6, 2, rfl⟩, in_3 (List.mem_of_getElem? (i := 201) rfl) rfl, in_3 (List.mem_of_getElem? (i := 202) rfl) rfl⟩⟩
theorem cfX9_90 : cF RX9 90 mX9_isAhead (some 9) 3 := ⟨in_3 (List.mem_of_getElem? (i := 204) rfl) rfl, in_1 (List.mem_of_getElem? (i := 9) rfl) rfl, by decide +kernel, ⟨by decide, ⟨TX9, 10, rfl⟩, in_3 (List.mem_of_getElem? (i := 206) rfl) rfl, in_0 (List.mem_of_getElem? (i := 14) rfl) rfl⟩⟩
theorem cfX11_335 : cF RX11 335 mX0_least (some 0) 3 := ⟨in_3 (List.mem_of_getElem? (i := 212) rfl) rfl, in_1 (List.mem_of_getElem? (i := 3) rfl) rfl, by decide +kernel, ⟨by decide, ⟨TX0, 9, rfl⟩, in_3 (List.mem_of_getElem? (i := 190) rfl) rfl, in_3 (List.mem_of_getElem? (i := 191) rfl) rfl⟩⟩
theorem cfX11_339 : cF RX11 339 mX0_greatest (some 0) 3 := ⟨in_3 (List.mem_of_getElem? (i := 213) rfl) rfl, in_1 (List.mem_of_getElem? (i := 3) rfl) rfl, by decide +kernel, ⟨by decide, ⟨TX0, 9, rfl⟩, in_3 (List.mem_of_getElem? (i := 214) rfl) rfl, in_3 (List.mem_of_getElem? (i := 215) rfl) rfl⟩⟩
theorem cfX11_342 : cF RX11 342 mX0_widestGap (some 0) 2 := ⟨in_3 (List.mem_of_getElem? (i := 220) rfl) rfl, in_1 (List.mem_of_getElem? (i := 3) rfl) rfl, by decide +kernel, ⟨by decide, ⟨TX0, 9, rfl⟩, in_3 (List.mem_of_getElem? (i := 221) rfl) rfl, in_3 (List.mem_of_getElem? (i := 222) rfl) rfl⟩⟩
theorem cfX0_67 : cF RX0 67 mJ9_max_7cf53 none 2 := ⟨in_3 (List.mem_of_getElem? (i := 217) rfl) rfl, in_1 (List.mem_of_getElem? (i := 14) rfl) rfl, by decide +kernel, in_3 (List.mem_of_getElem? (i := 218) rfl) rfl⟩
theorem cfX0_70 : cF RX0 70 mX0_gapAhead (some 0) 3 := ⟨in_3 (List.mem_of_getElem? (i := 224) rfl) rfl, in_1 (List.mem_of_getElem? (i := 3) rfl) rfl, by decide +kernel, ⟨by decide, ⟨TX0, 9, rfl⟩, in_3 (List.mem_of_getElem? (i := 226) rfl) rfl, in_0 (List.mem_of_getElem? (i := 16) rfl) rfl⟩⟩
theorem cfX11_261 : cF RX11 261 mX0_areSurelyOlder (some 0) 3 := ⟨in_3 (List.mem_of_getElem? (i := 236) rfl) rfl, in_1 (List.mem_of_getElem? (i := 3) rfl) rfl, by decide +kernel, ⟨by decide, ⟨TX0, 9, rfl⟩, in_3 (List.mem_of_getElem? (i := 237) rfl) rfl, in_3 (List.mem_of_getElem? (i := 238) rfl) rfl⟩⟩
theorem cfX0_73 : cF RX0 73 mX0_least (some 0) 3 := ⟨in_4 (List.mem_of_getElem? (i := 0) rfl) rfl, in_1 (List.mem_of_getElem? (i := 3) rfl) rfl, by decide +kernel, ⟨by decide, ⟨TX0, 9, rfl⟩, in_3 (List.mem_of_getElem? (i := 190) rfl) rfl, in_3 (List.mem_of_getElem? (i := 191) rfl) rfl⟩⟩
theorem cfX11_264 : cF RX11 264 mX9_isFlaw (some 9) 3 := ⟨in_4 (List.mem_of_getElem? (i := 5) rfl) rfl, in_1 (List.mem_of_getElem? (i := 9) rfl) rfl, by decide +kernel, ⟨by decide, ⟨TX9, 10, rfl⟩, in_4 (List.mem_of_getElem? (i := 6) rfl) rfl, in_4 (List.mem_of_getElem? (i := 7) rfl) rfl⟩⟩
theorem cfX9_93 : cF RX9 93 mX9_hasOwn (some 9) 2 := ⟨in_4 (List.mem_of_getElem? (i := 9) rfl) rfl, in_1 (List.mem_of_getElem? (i := 9) rfl) rfl, by decide +kernel, ⟨by decide, ⟨TX9, 10, rfl⟩, in_4 (List.mem_of_getElem? (i := 11) rfl) rfl, in_0 (List.mem_of_getElem? (i := 17) rfl) rfl⟩⟩
theorem cfX9_96 : cF RX9 96 mX6_isWithin (some 6) 3 := ⟨in_4 (List.mem_of_getElem? (i := 13) rfl) rfl, in_1 (List.mem_of_getElem? (i := 8) rfl) rfl, by decide +kernel, ⟨by decide, ⟨TX6, 2, rfl⟩, in_3 (List.mem_of_getElem? (i := 107) rfl) rfl, in_3 (List.mem_of_getElem? (i := 108) rfl) rfl⟩⟩
theorem cfX9_99 : cF RX9 99 mX0_areSurelyOlder (some 0) 3 := ⟨in_4 (List.mem_of_getElem? (i := 14) rfl) rfl, in_1 (List.mem_of_getElem? (i := 3) rfl) rfl, by decide +kernel, ⟨by decide, ⟨TX0, 9, rfl⟩, in_3 (List.mem_of_getElem? (i := 237) rfl) rfl, in_3 (List.mem_of_getElem? (i := 238) rfl) rfl⟩⟩
theorem cfX11_271 : cF RX11 271 mX11_isInDoubt (some 11) 2 := ⟨in_4 (List.mem_of_getElem? (i := 19) rfl) rfl, in_1 (List.mem_of_getElem? (i := 1) rfl) rfl, by decide +kernel, ⟨by decide, ⟨TX11, 10, rfl⟩, in_4 (List.mem_of_getElem? (i := 21) rfl) rfl, in_0 (List.mem_of_getElem? (i := 18) rfl) rfl⟩⟩
theorem cfX11_277 : cF RX11 277 mX10_wordAt (some 10) 2 := ⟨in_4 (List.mem_of_getElem? (i := 23) rfl) rfl, in_1 (List.mem_of_getElem? (i := 6) rfl) rfl, by decide +kernel, ⟨by decide, ⟨TX10, 4, rfl⟩, in_4 (List.mem_of_getElem? (i := 24) rfl) rfl, in_4 (List.mem_of_getElem? (i := 25) rfl) rfl⟩⟩
theorem cfX11_279 : cF RX11 279 mX10_lettersIn none 1 := ⟨in_4 (List.mem_of_getElem? (i := 27) rfl) rfl, in_1 (List.mem_of_getElem? (i := 6) rfl) rfl, by decide +kernel, in_2 (List.mem_of_getElem? (i := 216) rfl) rfl⟩
theorem cfX11_283 : cF RX11 283 mX10_letterAt none 2 := ⟨in_4 (List.mem_of_getElem? (i := 28) rfl) rfl, in_1 (List.mem_of_getElem? (i := 6) rfl) rfl, by decide +kernel, in_4 (List.mem_of_getElem? (i := 29) rfl) rfl⟩
theorem cfX11_287 : cF RX11 287 mX3_loose (some 3) 1 := ⟨in_4 (List.mem_of_getElem? (i := 36) rfl) rfl, in_1 (List.mem_of_getElem? (i := 10) rfl) rfl, by decide +kernel, ⟨by decide, ⟨TX3, 3, rfl⟩, in_4 (List.mem_of_getElem? (i := 37) rfl) rfl, in_4 (List.mem_of_getElem? (i := 38) rfl) rfl⟩⟩
theorem cfX11_292 : cF RX11 292 mX1_add (some 1) 1 := ⟨in_4 (List.mem_of_getElem? (i := 41) rfl) rfl, in_1 (List.mem_of_getElem? (i := 11) rfl) rfl, by decide +kernel, ⟨by decide, ⟨TX1, 5, rfl⟩, in_4 (List.mem_of_getElem? (i := 42) rfl) rfl, in_4 (List.mem_of_getElem? (i := 43) rfl) rfl⟩⟩
theorem cfX3_26 : cF RX3 26 mX3_isLoose (some 3) 2 := ⟨in_4 (List.mem_of_getElem? (i := 40) rfl) rfl, in_1 (List.mem_of_getElem? (i := 10) rfl) rfl, by decide +kernel, ⟨by decide, ⟨TX3, 3, rfl⟩, in_3 (List.mem_of_getElem? (i := 172) rfl) rfl, in_3 (List.mem_of_getElem? (i := 173) rfl) rfl⟩⟩
theorem cfX11_294 : cF RX11 294 mX1_has (some 1) 2 := ⟨in_4 (List.mem_of_getElem? (i := 49) rfl) rfl, in_1 (List.mem_of_getElem? (i := 11) rfl) rfl, by decide +kernel, ⟨by decide, ⟨TX1, 5, rfl⟩, in_4 (List.mem_of_getElem? (i := 50) rfl) rfl, in_4 (List.mem_of_getElem? (i := 51) rfl) rfl⟩⟩
theorem cfX11_295 : cF RX11 295 mX1_entryOf (some 1) 3 := ⟨in_4 (List.mem_of_getElem? (i := 53) rfl) rfl, in_1 (List.mem_of_getElem? (i := 11) rfl) rfl, by decide +kernel, ⟨by decide, ⟨TX1, 5, rfl⟩, in_4 (List.mem_of_getElem? (i := 54) rfl) rfl, in_4 (List.mem_of_getElem? (i := 55) rfl) rfl⟩⟩
theorem cfX11_298 : cF RX11 298 mX1_senseOf (some 1) 3 := ⟨in_4 (List.mem_of_getElem? (i := 62) rfl) rfl, in_1 (List.mem_of_getElem? (i := 11) rfl) rfl, by decide +kernel, ⟨by decide, ⟨TX1, 5, rfl⟩, in_4 (List.mem_of_getElem? (i := 63) rfl) rfl, in_4 (List.mem_of_getElem? (i := 64) rfl) rfl⟩⟩
theorem cfX1_38 : cF RX1 38 mX1_wasThere (some 1) 3 := ⟨in_4 (List.mem_of_getElem? (i := 57) rfl) rfl, in_1 (List.mem_of_getElem? (i := 11) rfl) rfl, by decide +kernel, ⟨by decide, ⟨TX1, 5, rfl⟩, in_4 (List.mem_of_getElem? (i := 59) rfl) rfl, in_0 (List.mem_of_getElem? (i := 19) rfl) rfl⟩⟩
theorem cfX1_42 : cF RX1 42 mX1_has (some 1) 2 := ⟨in_4 (List.mem_of_getElem? (i := 61) rfl) rfl, in_1 (List.mem_of_getElem? (i := 11) rfl) rfl, by decide +kernel, ⟨by decide, ⟨TX1, 5, rfl⟩, in_4 (List.mem_of_getElem? (i := 50) rfl) rfl, in_4 (List.mem_of_getElem? (i := 51) rfl) rfl⟩⟩
theorem cfX11_301 : cF RX11 301 mX1_isOtherwise (some 1) 4 := ⟨in_4 (List.mem_of_getElem? (i := 70) rfl) rfl, in_1 (List.mem_of_getElem? (i := 11) rfl) rfl, by decide +kernel, ⟨by decide, ⟨TX1, 5, rfl⟩, in_4 (List.mem_of_getElem? (i := 71) rfl) rfl, in_4 (List.mem_of_getElem? (i := 72) rfl) rfl⟩⟩
theorem cfX1_46 : cF RX1 46 mX1_entryOf (some 1) 3 := ⟨in_4 (List.mem_of_getElem? (i := 74) rfl) rfl, in_1 (List.mem_of_getElem? (i := 11) rfl) rfl, by decide +kernel, ⟨by decide, ⟨TX1, 5, rfl⟩, in_4 (List.mem_of_getElem? (i := 54) rfl) rfl, in_4 (List.mem_of_getElem? (i := 55) rfl) rfl⟩⟩
theorem cfX1_50 : cF RX1 50 mX1_senseOf (some 1) 3 := ⟨in_4 (List.mem_of_getElem? (i := 75) rfl) rfl, in_1 (List.mem_of_getElem? (i := 11) rfl) rfl, by decide +kernel, ⟨by decide, ⟨TX1, 5, rfl⟩, in_4 (List.mem_of_getElem? (i := 63) rfl) rfl, in_4 (List.mem_of_getElem? (i := 64) rfl) rfl⟩⟩
theorem cfX11_304 : cF RX11 304 mX4_compose (some 4) 2 := ⟨in_4 (List.mem_of_getElem? (i := 80) rfl) rfl, in_1 (List.mem_of_getElem? (i := 12) rfl) rfl, by decide +kernel, ⟨by decide, ⟨TX4, 8, rfl⟩, in_4 (List.mem_of_getElem? (i := 81) rfl) rfl, in_4 (List.mem_of_getElem? (i := 82) rfl) rfl⟩⟩
theorem cfX4_43 : cF RX4 43 mX9_gather (some 9) 1 := ⟨in_4 (List.mem_of_getElem? (i := 84) rfl) rfl, in_1 (List.mem_of_getElem? (i := 9) rfl) rfl, by decide +kernel, ⟨by decide, ⟨TX9, 10, rfl⟩, in_3 (List.mem_of_getElem? (i := 181) rfl) rfl, in_3 (List.mem_of_getElem? (i := 182) rfl) rfl⟩⟩
theorem cfX4_48 : cF RX4 48 mX2_head (some 2) 2 := ⟨in_4 (List.mem_of_getElem? (i := 85) rfl) rfl, in_1 (List.mem_of_getElem? (i := 5) rfl) rfl, by decide +kernel, ⟨by decide, ⟨TX2, 5, rfl⟩, in_4 (List.mem_of_getElem? (i := 86) rfl) rfl, in_4 (List.mem_of_getElem? (i := 87) rfl) rfl⟩⟩
theorem cfX4_54 : cF RX4 54 mX4_addWord (some 4) 2 := ⟨in_4 (List.mem_of_getElem? (i := 90) rfl) rfl, in_1 (List.mem_of_getElem? (i := 12) rfl) rfl, by decide +kernel, ⟨by decide, ⟨TX4, 8, rfl⟩, in_4 (List.mem_of_getElem? (i := 92) rfl) rfl, in_0 (List.mem_of_getElem? (i := 20) rfl) rfl⟩⟩
theorem cfX4_58 : cF RX4 58 mX4_addByte (some 4) 2 := ⟨in_4 (List.mem_of_getElem? (i := 96) rfl) rfl, in_1 (List.mem_of_getElem? (i := 12) rfl) rfl, by decide +kernel, ⟨by decide, ⟨TX4, 8, rfl⟩, in_4 (List.mem_of_getElem? (i := 98) rfl) rfl, in_0 (List.mem_of_getElem? (i := 21) rfl) rfl⟩⟩
theorem cfX4_62 : cF RX4 62 mX4_senseAt (some 4) 4 := ⟨in_4 (List.mem_of_getElem? (i := 100) rfl) rfl, in_1 (List.mem_of_getElem? (i := 12) rfl) rfl, by decide +kernel, ⟨by decide, ⟨TX4, 8, rfl⟩, in_4 (List.mem_of_getElem? (i := 102) rfl) rfl, in_0 (List.mem_of_getElem? (i := 22) rfl) rfl⟩⟩
theorem cfX4_66 : cF RX4 66 mX6_has (some 6) 2 := ⟨in_4 (List.mem_of_getElem? (i := 104) rfl) rfl, in_1 (List.mem_of_getElem? (i := 8) rfl) rfl, by decide +kernel, ⟨by decide, ⟨TX6, 2, rfl⟩, in_3 (List.mem_of_getElem? (i := 89) rfl) rfl, in_3 (List.mem_of_getElem? (i := 90) rfl) rfl⟩⟩
theorem cfX4_72 : cF RX4 72 mX4_addSense (some 4) 2 := ⟨in_4 (List.mem_of_getElem? (i := 105) rfl) rfl, in_1 (List.mem_of_getElem? (i := 12) rfl) rfl, by decide +kernel, ⟨by decide, ⟨TX4, 8, rfl⟩, in_4 (List.mem_of_getElem? (i := 107) rfl) rfl, in_0 (List.mem_of_getElem? (i := 23) rfl) rfl⟩⟩
theorem cfX4_75 : cF RX4 75 mX4_senseBehind (some 4) 2 := ⟨in_4 (List.mem_of_getElem? (i := 125) rfl) rfl, in_1 (List.mem_of_getElem? (i := 12) rfl) rfl, by decide +kernel, ⟨by decide, ⟨TX4, 8, rfl⟩, in_4 (List.mem_of_getElem? (i := 127) rfl) rfl, in_0 (List.mem_of_getElem? (i := 28) rfl) rfl⟩⟩
theorem cfX4_79 : cF RX4 79 mX7_at (some 7) 3 := ⟨in_4 (List.mem_of_getElem? (i := 129) rfl) rfl, in_1 (List.mem_of_getElem? (i := 7) rfl) rfl, by decide +kernel, ⟨by decide, ⟨TX7, 5, rfl⟩, in_3 (List.mem_of_getElem? (i := 155) rfl) rfl, in_3 (List.mem_of_getElem? (i := 156) rfl) rfl⟩⟩
theorem cfX4_85 : cF RX4 85 mX4_addHeap (some 4) 2 := ⟨in_4 (List.mem_of_getElem? (i := 130) rfl) rfl, in_1 (List.mem_of_getElem? (i := 12) rfl) rfl, by decide +kernel, ⟨by decide, ⟨TX4, 8, rfl⟩, in_4 (List.mem_of_getElem? (i := 132) rfl) rfl, in_0 (List.mem_of_getElem? (i := 29) rfl) rfl⟩⟩
theorem cfX2_53 : cF RX2 53 mX10_wordAt (some 10) 2 := ⟨in_4 (List.mem_of_getElem? (i := 89) rfl) rfl, in_1 (List.mem_of_getElem? (i := 6) rfl) rfl, by decide +kernel, ⟨by decide, ⟨TX10, 4, rfl⟩, in_4 (List.mem_of_getElem? (i := 24) rfl) rfl, in_4 (List.mem_of_getElem? (i := 25) rfl) rfl⟩⟩
theorem cfX4_127 : cF RX4 127 mX10_lettersIn none 1 := ⟨in_4 (List.mem_of_getElem? (i := 94) rfl) rfl, in_1 (List.mem_of_getElem? (i := 6) rfl) rfl, by decide +kernel, in_2 (List.mem_of_getElem? (i := 216) rfl) rfl⟩
theorem cfX4_133 : cF RX4 133 mX10_letterAt none 2 := ⟨in_4 (List.mem_of_getElem? (i := 95) rfl) rfl, in_1 (List.mem_of_getElem? (i := 6) rfl) rfl, by decide +kernel, in_4 (List.mem_of_getElem? (i := 29) rfl) rfl⟩
theorem cfX4_97 : cF RX4 97 mX4_addMark (some 4) 2 := ⟨in_4 (List.mem_of_getElem? (i := 109) rfl) rfl, in_1 (List.mem_of_getElem? (i := 12) rfl) rfl, by decide +kernel, ⟨by decide, ⟨TX4, 8, rfl⟩, in_4 (List.mem_of_getElem? (i := 111) rfl) rfl, in_0 (List.mem_of_getElem? (i := 24) rfl) rfl⟩⟩
theorem cfX4_100 : cF RX4 100 mX4_addWitnesses (some 4) 2 := ⟨in_4 (List.mem_of_getElem? (i := 117) rfl) rfl, in_1 (List.mem_of_getElem? (i := 12) rfl) rfl, by decide +kernel, ⟨by decide, ⟨TX4, 8, rfl⟩, in_4 (List.mem_of_getElem? (i := 119) rfl) rfl, in_0 (List.mem_of_getElem? (i := 26) rfl) rfl⟩⟩
theorem cfX4_112 : cF RX4 112 mX4_addPointer (some 4) 2 := ⟨in_4 (List.mem_of_getElem? (i := 121) rfl) rfl, in_1 (List.mem_of_getElem? (i := 12) rfl) rfl, by decide +kernel, ⟨by decide, ⟨TX4, 8, rfl⟩, in_4 (List.mem_of_getElem? (i := 123) rfl) rfl, in_0 (List.mem_of_getElem? (i := 27) rfl) rfl⟩⟩
theorem cfX4_115 : cF RX4 115 mX4_addNumber (some 4) 2 := ⟨in_4 (List.mem_of_getElem? (i := 113) rfl) rfl, in_1 (List.mem_of_getElem? (i := 12) rfl) rfl, by decide +kernel, ⟨by decide, ⟨TX4, 8, rfl⟩, in_4 (List.mem_of_getElem? (i := 115) rfl) rfl, in_0 (List.mem_of_getElem? (i := 25) rfl) rfl⟩⟩
theorem cfX11_307 : cF RX11 307 mX4_byteAt (some 4) 2 := ⟨in_4 (List.mem_of_getElem? (i := 138) rfl) rfl, in_1 (List.mem_of_getElem? (i := 12) rfl) rfl, by decide +kernel, ⟨by decide, ⟨TX4, 8, rfl⟩, in_4 (List.mem_of_getElem? (i := 139) rfl) rfl, in_4 (List.mem_of_getElem? (i := 140) rfl) rfl⟩⟩
theorem cfX11_310 : cF RX11 310 mX6_inUse (some 6) 1 := ⟨in_4 (List.mem_of_getElem? (i := 146) rfl) rfl, in_1 (List.mem_of_getElem? (i := 8) rfl) rfl, by decide +kernel, ⟨by decide, ⟨TX6, 2, rfl⟩, in_4 (List.mem_of_getElem? (i := 147) rfl) rfl, in_4 (List.mem_of_getElem? (i := 148) rfl) rfl⟩⟩
theorem cfX11_313 : cF RX11 313 mX11_slipsInDoubt (some 11) 1 := ⟨in_4 (List.mem_of_getElem? (i := 150) rfl) rfl, in_1 (List.mem_of_getElem? (i := 1) rfl) rfl, by decide +kernel, ⟨by decide, ⟨TX11, 10, rfl⟩, in_4 (List.mem_of_getElem? (i := 152) rfl) rfl, in_0 (List.mem_of_getElem? (i := 30) rfl) rfl⟩⟩
theorem cfX11_319 : cF RX11 319 mX11_flaws (some 11) 1 := ⟨in_4 (List.mem_of_getElem? (i := 154) rfl) rfl, in_1 (List.mem_of_getElem? (i := 1) rfl) rfl, by decide +kernel, ⟨by decide, ⟨TX11, 10, rfl⟩, in_4 (List.mem_of_getElem? (i := 156) rfl) rfl, in_0 (List.mem_of_getElem? (i := 31) rfl) rfl⟩⟩
theorem cfX12_107 : cF RX12 107 mX12_types (some 12) 2 := ⟨in_5 (List.mem_of_getElem? (i := 62) rfl) rfl, in_1 (List.mem_of_getElem? (i := 13) rfl) rfl, by decide +kernel, ⟨by decide, ⟨TX12, 44, rfl⟩, in_5 (List.mem_of_getElem? (i := 64) rfl) rfl, in_0 (List.mem_of_getElem? (i := 32) rfl) rfl⟩⟩
theorem cfX12_114 : cF RX12 114 mX12_areYears none 2 := ⟨in_5 (List.mem_of_getElem? (i := 70) rfl) rfl, in_1 (List.mem_of_getElem? (i := 13) rfl) rfl, by decide +kernel, in_5 (List.mem_of_getElem? (i := 71) rfl) rfl⟩
theorem cfX12_118 : cF RX12 118 mX12_tightens (some 12) 1 := ⟨in_5 (List.mem_of_getElem? (i := 73) rfl) rfl, in_1 (List.mem_of_getElem? (i := 13) rfl) rfl, by decide +kernel, ⟨by decide, ⟨TX12, 44, rfl⟩, in_5 (List.mem_of_getElem? (i := 75) rfl) rfl, in_0 (List.mem_of_getElem? (i := 33) rfl) rfl⟩⟩
theorem cfX12_125 : cF RX12 125 mX12_isBook (some 12) 2 := ⟨in_5 (List.mem_of_getElem? (i := 81) rfl) rfl, in_1 (List.mem_of_getElem? (i := 13) rfl) rfl, by decide +kernel, ⟨by decide, ⟨TX12, 44, rfl⟩, in_5 (List.mem_of_getElem? (i := 83) rfl) rfl, in_0 (List.mem_of_getElem? (i := 34) rfl) rfl⟩⟩
theorem cfX12_129 : cF RX12 129 mX12_closes (some 12) 1 := ⟨in_5 (List.mem_of_getElem? (i := 85) rfl) rfl, in_1 (List.mem_of_getElem? (i := 13) rfl) rfl, by decide +kernel, ⟨by decide, ⟨TX12, 44, rfl⟩, in_5 (List.mem_of_getElem? (i := 87) rfl) rfl, in_0 (List.mem_of_getElem? (i := 35) rfl) rfl⟩⟩
theorem cfX12_135 : cF RX12 135 mX12_isWordSize (some 12) 2 := ⟨in_5 (List.mem_of_getElem? (i := 97) rfl) rfl, in_1 (List.mem_of_getElem? (i := 13) rfl) rfl, by decide +kernel, ⟨by decide, ⟨TX12, 44, rfl⟩, in_5 (List.mem_of_getElem? (i := 99) rfl) rfl, in_0 (List.mem_of_getElem? (i := 36) rfl) rfl⟩⟩
theorem cfX12_138 : cF RX12 138 mX12_takes (some 12) 2 := ⟨in_5 (List.mem_of_getElem? (i := 101) rfl) rfl, in_1 (List.mem_of_getElem? (i := 13) rfl) rfl, by decide +kernel, ⟨by decide, ⟨TX12, 44, rfl⟩, in_5 (List.mem_of_getElem? (i := 103) rfl) rfl, in_0 (List.mem_of_getElem? (i := 37) rfl) rfl⟩⟩
theorem cfX12_141 : cF RX12 141 mX12_word (some 12) 3 := ⟨in_5 (List.mem_of_getElem? (i := 105) rfl) rfl, in_1 (List.mem_of_getElem? (i := 13) rfl) rfl, by decide +kernel, ⟨by decide, ⟨TX12, 44, rfl⟩, in_5 (List.mem_of_getElem? (i := 107) rfl) rfl, in_0 (List.mem_of_getElem? (i := 38) rfl) rfl⟩⟩
theorem cfX12_148 : cF RX12 148 mX12_lays (some 12) 5 := ⟨in_5 (List.mem_of_getElem? (i := 113) rfl) rfl, in_1 (List.mem_of_getElem? (i := 13) rfl) rfl, by decide +kernel, ⟨by decide, ⟨TX12, 44, rfl⟩, in_5 (List.mem_of_getElem? (i := 115) rfl) rfl, in_0 (List.mem_of_getElem? (i := 39) rfl) rfl⟩⟩
theorem cfX12_152 : cF RX12 152 mX12_isEntry (some 12) 2 := ⟨in_5 (List.mem_of_getElem? (i := 121) rfl) rfl, in_1 (List.mem_of_getElem? (i := 13) rfl) rfl, by decide +kernel, ⟨by decide, ⟨TX12, 44, rfl⟩, in_5 (List.mem_of_getElem? (i := 123) rfl) rfl, in_0 (List.mem_of_getElem? (i := 40) rfl) rfl⟩⟩
theorem cfX12_183 : cF RX12 183 mX12_isSlip (some 12) 2 := ⟨in_5 (List.mem_of_getElem? (i := 133) rfl) rfl, in_1 (List.mem_of_getElem? (i := 13) rfl) rfl, by decide +kernel, ⟨by decide, ⟨TX12, 44, rfl⟩, in_5 (List.mem_of_getElem? (i := 135) rfl) rfl, in_0 (List.mem_of_getElem? (i := 41) rfl) rfl⟩⟩
theorem cfX12_173 : cF RX12 173 mX12_isFitting (some 12) 3 := ⟨in_5 (List.mem_of_getElem? (i := 137) rfl) rfl, in_1 (List.mem_of_getElem? (i := 13) rfl) rfl, by decide +kernel, ⟨by decide, ⟨TX12, 44, rfl⟩, in_5 (List.mem_of_getElem? (i := 139) rfl) rfl, in_0 (List.mem_of_getElem? (i := 42) rfl) rfl⟩⟩
theorem cfX12_180 : cF RX12 180 mX12_isLed (some 12) 3 := ⟨in_5 (List.mem_of_getElem? (i := 141) rfl) rfl, in_1 (List.mem_of_getElem? (i := 13) rfl) rfl, by decide +kernel, ⟨by decide, ⟨TX12, 44, rfl⟩, in_5 (List.mem_of_getElem? (i := 143) rfl) rfl, in_0 (List.mem_of_getElem? (i := 43) rfl) rfl⟩⟩
theorem cfX12_170 : cF RX12 170 mX12_leads (some 12) 3 := ⟨in_5 (List.mem_of_getElem? (i := 145) rfl) rfl, in_1 (List.mem_of_getElem? (i := 13) rfl) rfl, by decide +kernel, ⟨by decide, ⟨TX12, 44, rfl⟩, in_5 (List.mem_of_getElem? (i := 147) rfl) rfl, in_0 (List.mem_of_getElem? (i := 44) rfl) rfl⟩⟩
theorem cfX12_166 : cF RX12 166 mX12_leadsByOne (some 12) 3 := ⟨in_5 (List.mem_of_getElem? (i := 149) rfl) rfl, in_1 (List.mem_of_getElem? (i := 13) rfl) rfl, by decide +kernel, ⟨by decide, ⟨TX12, 44, rfl⟩, in_5 (List.mem_of_getElem? (i := 151) rfl) rfl, in_0 (List.mem_of_getElem? (i := 45) rfl) rfl⟩⟩
theorem cfX12_162 : cF RX12 162 mX12_changed (some 12) 4 := ⟨in_5 (List.mem_of_getElem? (i := 153) rfl) rfl, in_1 (List.mem_of_getElem? (i := 13) rfl) rfl, by decide +kernel, ⟨by decide, ⟨TX12, 44, rfl⟩, in_5 (List.mem_of_getElem? (i := 155) rfl) rfl, in_0 (List.mem_of_getElem? (i := 46) rfl) rfl⟩⟩
theorem cfX12_158 : cF RX12 158 mX12_size none 1 := ⟨in_5 (List.mem_of_getElem? (i := 157) rfl) rfl, in_1 (List.mem_of_getElem? (i := 13) rfl) rfl, by decide +kernel, in_5 (List.mem_of_getElem? (i := 158) rfl) rfl⟩
theorem cfX12_176 : cF RX12 176 mX12_fitting (some 12) 2 := ⟨in_5 (List.mem_of_getElem? (i := 164) rfl) rfl, in_1 (List.mem_of_getElem? (i := 13) rfl) rfl, by decide +kernel, ⟨by decide, ⟨TX12, 44, rfl⟩, in_5 (List.mem_of_getElem? (i := 166) rfl) rfl, in_0 (List.mem_of_getElem? (i := 47) rfl) rfl⟩⟩
theorem cfX12_186 : cF RX12 186 mX12_isSense (some 12) 2 := ⟨in_5 (List.mem_of_getElem? (i := 172) rfl) rfl, in_1 (List.mem_of_getElem? (i := 13) rfl) rfl, by decide +kernel, ⟨by decide, ⟨TX12, 44, rfl⟩, in_5 (List.mem_of_getElem? (i := 174) rfl) rfl, in_0 (List.mem_of_getElem? (i := 48) rfl) rfl⟩⟩
theorem cfX12_189 : cF RX12 189 mX12_makes (some 12) 3 := ⟨in_5 (List.mem_of_getElem? (i := 176) rfl) rfl, in_1 (List.mem_of_getElem? (i := 13) rfl) rfl, by decide +kernel, ⟨by decide, ⟨TX12, 44, rfl⟩, in_5 (List.mem_of_getElem? (i := 178) rfl) rfl, in_0 (List.mem_of_getElem? (i := 49) rfl) rfl⟩⟩
theorem cfX12_193 : cF RX12 193 mX12_isWithin (some 12) 3 := ⟨in_5 (List.mem_of_getElem? (i := 188) rfl) rfl, in_1 (List.mem_of_getElem? (i := 13) rfl) rfl, by decide +kernel, ⟨by decide, ⟨TX12, 44, rfl⟩, in_5 (List.mem_of_getElem? (i := 190) rfl) rfl, in_0 (List.mem_of_getElem? (i := 50) rfl) rfl⟩⟩
theorem cfX12_202 : cF RX12 202 mX12_goes (some 12) 2 := ⟨in_5 (List.mem_of_getElem? (i := 196) rfl) rfl, in_1 (List.mem_of_getElem? (i := 13) rfl) rfl, by decide +kernel, ⟨by decide, ⟨TX12, 44, rfl⟩, in_5 (List.mem_of_getElem? (i := 198) rfl) rfl, in_0 (List.mem_of_getElem? (i := 51) rfl) rfl⟩⟩
theorem cfX12_199 : cF RX12 199 mX12_removes (some 12) 2 := ⟨in_5 (List.mem_of_getElem? (i := 200) rfl) rfl, in_1 (List.mem_of_getElem? (i := 13) rfl) rfl, by decide +kernel, ⟨by decide, ⟨TX12, 44, rfl⟩, in_5 (List.mem_of_getElem? (i := 202) rfl) rfl, in_0 (List.mem_of_getElem? (i := 52) rfl) rfl⟩⟩
theorem cfX12_205 : cF RX12 205 mX12_own (some 12) 2 := ⟨in_5 (List.mem_of_getElem? (i := 212) rfl) rfl, in_1 (List.mem_of_getElem? (i := 13) rfl) rfl, by decide +kernel, ⟨by decide, ⟨TX12, 44, rfl⟩, in_5 (List.mem_of_getElem? (i := 214) rfl) rfl, in_0 (List.mem_of_getElem? (i := 53) rfl) rfl⟩⟩
theorem cfX12_208 : cF RX12 208 mX12_below (some 12) 2 := ⟨in_5 (List.mem_of_getElem? (i := 216) rfl) rfl, in_1 (List.mem_of_getElem? (i := 13) rfl) rfl, by decide +kernel, ⟨by decide, ⟨TX12, 44, rfl⟩, in_5 (List.mem_of_getElem? (i := 218) rfl) rfl, in_0 (List.mem_of_getElem? (i := 54) rfl) rfl⟩⟩
theorem cfX12_230 : cF RX12 230 mX12_witnesses (some 12) 3 := ⟨in_5 (List.mem_of_getElem? (i := 232) rfl) rfl, in_1 (List.mem_of_getElem? (i := 13) rfl) rfl, by decide +kernel, ⟨by decide, ⟨TX12, 44, rfl⟩, in_5 (List.mem_of_getElem? (i := 234) rfl) rfl, in_0 (List.mem_of_getElem? (i := 55) rfl) rfl⟩⟩
theorem cfX12_237 : cF RX12 237 mX12_gap (some 12) 2 := ⟨in_6 (List.mem_of_getElem? (i := 0) rfl) rfl, in_1 (List.mem_of_getElem? (i := 13) rfl) rfl, by decide +kernel, ⟨by decide, ⟨TX12, 44, rfl⟩, in_6 (List.mem_of_getElem? (i := 2) rfl) rfl, in_0 (List.mem_of_getElem? (i := 57) rfl) rfl⟩⟩
theorem cfX12_240 : cF RX12 240 mX12_place (some 12) 2 := ⟨in_6 (List.mem_of_getElem? (i := 4) rfl) rfl, in_1 (List.mem_of_getElem? (i := 13) rfl) rfl, by decide +kernel, ⟨by decide, ⟨TX12, 44, rfl⟩, in_6 (List.mem_of_getElem? (i := 6) rfl) rfl, in_0 (List.mem_of_getElem? (i := 58) rfl) rfl⟩⟩
theorem cfX12_243 : cF RX12 243 mX12_depth (some 12) 2 := ⟨in_6 (List.mem_of_getElem? (i := 12) rfl) rfl, in_1 (List.mem_of_getElem? (i := 13) rfl) rfl, by decide +kernel, ⟨by decide, ⟨TX12, 44, rfl⟩, in_6 (List.mem_of_getElem? (i := 14) rfl) rfl, in_0 (List.mem_of_getElem? (i := 60) rfl) rfl⟩⟩
theorem cfX12_214 : cF RX12 214 mX12_isWitness (some 12) 4 := ⟨in_5 (List.mem_of_getElem? (i := 236) rfl) rfl, in_1 (List.mem_of_getElem? (i := 13) rfl) rfl, by decide +kernel, ⟨by decide, ⟨TX12, 44, rfl⟩, in_5 (List.mem_of_getElem? (i := 238) rfl) rfl, in_0 (List.mem_of_getElem? (i := 56) rfl) rfl⟩⟩
theorem cfX12_234 : cF RX12 234 mX12_isAhead (some 12) 3 := ⟨in_6 (List.mem_of_getElem? (i := 8) rfl) rfl, in_1 (List.mem_of_getElem? (i := 13) rfl) rfl, by decide +kernel, ⟨by decide, ⟨TX12, 44, rfl⟩, in_6 (List.mem_of_getElem? (i := 10) rfl) rfl, in_0 (List.mem_of_getElem? (i := 59) rfl) rfl⟩⟩
theorem cfX12_249 : cF RX12 249 mX12_isOlder (some 12) 4 := ⟨in_6 (List.mem_of_getElem? (i := 20) rfl) rfl, in_1 (List.mem_of_getElem? (i := 13) rfl) rfl, by decide +kernel, ⟨by decide, ⟨TX12, 44, rfl⟩, in_6 (List.mem_of_getElem? (i := 22) rfl) rfl, in_0 (List.mem_of_getElem? (i := 61) rfl) rfl⟩⟩
theorem cfX12_246 : cF RX12 246 mX12_isAheadOfAll (some 12) 4 := ⟨in_6 (List.mem_of_getElem? (i := 24) rfl) rfl, in_1 (List.mem_of_getElem? (i := 13) rfl) rfl, by decide +kernel, ⟨by decide, ⟨TX12, 44, rfl⟩, in_6 (List.mem_of_getElem? (i := 26) rfl) rfl, in_0 (List.mem_of_getElem? (i := 62) rfl) rfl⟩⟩
theorem cfX12_252 : cF RX12 252 mX12_flaws (some 12) 2 := ⟨in_6 (List.mem_of_getElem? (i := 32) rfl) rfl, in_1 (List.mem_of_getElem? (i := 13) rfl) rfl, by decide +kernel, ⟨by decide, ⟨TX12, 44, rfl⟩, in_6 (List.mem_of_getElem? (i := 34) rfl) rfl, in_0 (List.mem_of_getElem? (i := 63) rfl) rfl⟩⟩
theorem cfX12_255 : cF RX12 255 mX12_isDoubted (some 12) 2 := ⟨in_6 (List.mem_of_getElem? (i := 40) rfl) rfl, in_1 (List.mem_of_getElem? (i := 13) rfl) rfl, by decide +kernel, ⟨by decide, ⟨TX12, 44, rfl⟩, in_6 (List.mem_of_getElem? (i := 42) rfl) rfl, in_0 (List.mem_of_getElem? (i := 64) rfl) rfl⟩⟩
theorem cfX12_258 : cF RX12 258 mX12_byteOf none 2 := ⟨in_6 (List.mem_of_getElem? (i := 44) rfl) rfl, in_1 (List.mem_of_getElem? (i := 13) rfl) rfl, by decide +kernel, in_6 (List.mem_of_getElem? (i := 45) rfl) rfl⟩
theorem cfX12_262 : cF RX12 262 mX12_loosePointers (some 12) 1 := ⟨in_6 (List.mem_of_getElem? (i := 51) rfl) rfl, in_1 (List.mem_of_getElem? (i := 13) rfl) rfl, by decide +kernel, ⟨by decide, ⟨TX12, 44, rfl⟩, in_6 (List.mem_of_getElem? (i := 53) rfl) rfl, in_0 (List.mem_of_getElem? (i := 65) rfl) rfl⟩⟩
theorem cfX12_269 : cF RX12 269 mX12_isEdition (some 12) 2 := ⟨in_6 (List.mem_of_getElem? (i := 59) rfl) rfl, in_1 (List.mem_of_getElem? (i := 13) rfl) rfl, by decide +kernel, ⟨by decide, ⟨TX12, 44, rfl⟩, in_6 (List.mem_of_getElem? (i := 61) rfl) rfl, in_0 (List.mem_of_getElem? (i := 66) rfl) rfl⟩⟩
theorem cfX12_284 : cF RX12 284 mX12_letters (some 12) 2 := ⟨in_6 (List.mem_of_getElem? (i := 71) rfl) rfl, in_1 (List.mem_of_getElem? (i := 13) rfl) rfl, by decide +kernel, ⟨by decide, ⟨TX12, 44, rfl⟩, in_6 (List.mem_of_getElem? (i := 73) rfl) rfl, in_0 (List.mem_of_getElem? (i := 67) rfl) rfl⟩⟩
theorem cfX12_275 : cF RX12 275 mX12_puts (some 12) 2 := ⟨in_6 (List.mem_of_getElem? (i := 75) rfl) rfl, in_1 (List.mem_of_getElem? (i := 13) rfl) rfl, by decide +kernel, ⟨by decide, ⟨TX12, 44, rfl⟩, in_6 (List.mem_of_getElem? (i := 77) rfl) rfl, in_0 (List.mem_of_getElem? (i := 68) rfl) rfl⟩⟩
theorem cfX12_288 : cF RX12 288 mX12_at (some 12) 4 := ⟨in_6 (List.mem_of_getElem? (i := 79) rfl) rfl, in_1 (List.mem_of_getElem? (i := 13) rfl) rfl, by decide +kernel, ⟨by decide, ⟨TX12, 44, rfl⟩, in_6 (List.mem_of_getElem? (i := 81) rfl) rfl, in_0 (List.mem_of_getElem? (i := 69) rfl) rfl⟩⟩
theorem cfX12_292 : cF RX12 292 mX12_prints (some 12) 2 := ⟨in_6 (List.mem_of_getElem? (i := 83) rfl) rfl, in_1 (List.mem_of_getElem? (i := 13) rfl) rfl, by decide +kernel, ⟨by decide, ⟨TX12, 44, rfl⟩, in_6 (List.mem_of_getElem? (i := 85) rfl) rfl, in_0 (List.mem_of_getElem? (i := 70) rfl) rfl⟩⟩
theorem cfX12_295 : cF RX12 295 mX12_heap (some 12) 2 := ⟨in_6 (List.mem_of_getElem? (i := 95) rfl) rfl, in_1 (List.mem_of_getElem? (i := 13) rfl) rfl, by decide +kernel, ⟨by decide, ⟨TX12, 44, rfl⟩, in_6 (List.mem_of_getElem? (i := 97) rfl) rfl, in_0 (List.mem_of_getElem? (i := 73) rfl) rfl⟩⟩
theorem cfX12_278 : cF RX12 278 mX12_number (some 12) 2 := ⟨in_6 (List.mem_of_getElem? (i := 91) rfl) rfl, in_1 (List.mem_of_getElem? (i := 13) rfl) rfl, by decide +kernel, ⟨by decide, ⟨TX12, 44, rfl⟩, in_6 (List.mem_of_getElem? (i := 93) rfl) rfl, in_0 (List.mem_of_getElem? (i := 72) rfl) rfl⟩⟩
theorem cfX12_281 : cF RX12 281 mX12_mark (some 12) 2 := ⟨in_6 (List.mem_of_getElem? (i := 87) rfl) rfl, in_1 (List.mem_of_getElem? (i := 13) rfl) rfl, by decide +kernel, ⟨by decide, ⟨TX12, 44, rfl⟩, in_6 (List.mem_of_getElem? (i := 89) rfl) rfl, in_0 (List.mem_of_getElem? (i := 71) rfl) rfl⟩⟩
end
section
/-! how a way is read, row by row -/
def wpC (b : Bool) (g : Prop) (d : Except DecodeError (Instr × Nat)) (f : Instr → Nat → Prop) : Prop := bif b then g else match d with
  | .ok (i, len) => f i len
  | .error _ => False
section EV
variable {cc : ByteArray} {tb : aTb} {nL : Nat} {rt : Option FieldType} {Q : Option aV → aS → Prop} {cut : Nat → Bool} {G k : aK} {n pc i j len : Nat} {ls : aL} {stk r : List aV} {S : aS} {a b v : Int} {x : aV} {off : Int} {f : Int → Int → Int} {t : Nat}
theorem wp_s : wp cc tb nL rt Q cut G (n + 1) pc ls stk S = wpC (cut pc) (G pc ls stk S) (decode cc pc) (fun i len => ws1 tb nL rt Q (wp cc tb nL rt Q cut G n) i len pc ls stk S) := rfl
theorem wpC_f {g : Prop} {i : Instr} {f : Instr → Nat → Prop} : wpC false g (.ok (i, len)) f = f i len := rfl
theorem wpC_t {g : Prop} {d : Except DecodeError (Instr × Nat)} {f : Instr → Nat → Prop} : wpC true g d f = g := rfl
theorem e_aload_n {j : Fin 4} : ws1 tb nL rt Q k (.aload_n j) 1 pc ls stk S = (wLd 2 j k (pc + 1) ls stk S) := rfl
theorem e_aload {j : Nat} : ws1 tb nL rt Q k (.aload j) 2 pc ls stk S = (wLd 2 j k (pc + 2) ls stk S) := rfl
theorem e_iload_n {j : Fin 4} : ws1 tb nL rt Q k (.iload_n j) 1 pc ls stk S = (wLd 0 j k (pc + 1) ls stk S) := rfl
theorem e_iload {j : Nat} : ws1 tb nL rt Q k (.iload j) 2 pc ls stk S = (wLd 0 j k (pc + 2) ls stk S) := rfl
theorem e_lload_n {j : Fin 4} : ws1 tb nL rt Q k (.lload_n j) 1 pc ls stk S = (wLd 1 j k (pc + 1) ls stk S) := rfl
theorem e_lload {j : Nat} : ws1 tb nL rt Q k (.lload j) 2 pc ls stk S = (wLd 1 j k (pc + 2) ls stk S) := rfl
theorem e_istore_n {j : Fin 4} : ws1 tb nL rt Q k (.istore_n j) 1 pc ls stk S = (wSt nL 0 j k (pc + 1) ls stk S) := rfl
theorem e_istore {j : Nat} : ws1 tb nL rt Q k (.istore j) 2 pc ls stk S = (wSt nL 0 j k (pc + 2) ls stk S) := rfl
theorem e_lstore_n {j : Fin 4} : ws1 tb nL rt Q k (.lstore_n j) 1 pc ls stk S = (wSt nL 1 j k (pc + 1) ls stk S) := rfl
theorem e_lstore {j : Nat} : ws1 tb nL rt Q k (.lstore j) 2 pc ls stk S = (wSt nL 1 j k (pc + 2) ls stk S) := rfl
theorem e_astore_n {j : Fin 4} : ws1 tb nL rt Q k (.astore_n j) 1 pc ls stk S = (wSt nL 2 j k (pc + 1) ls stk S) := rfl
theorem e_astore {j : Nat} : ws1 tb nL rt Q k (.astore j) 2 pc ls stk S = (wSt nL 2 j k (pc + 2) ls stk S) := rfl
theorem e_iconst {n : Int} : ws1 tb nL rt Q k (.iconst n) 1 pc ls stk S = (k (pc + 1) ls (.inl (wI n) :: stk) S) := rfl
theorem e_bipush {n : Int} : ws1 tb nL rt Q k (.bipush n) 2 pc ls stk S = (k (pc + 2) ls (.inl ((Int8.ofInt n).toInt32).toInt :: stk) S) := rfl
theorem e_sipush {n : Int} : ws1 tb nL rt Q k (.sipush n) 3 pc ls stk S = (k (pc + 3) ls (.inl ((Int16.ofInt n).toInt32).toInt :: stk) S) := rfl
theorem e_lconst {n : Fin 2} : ws1 tb nL rt Q k (.lconst n) 1 pc ls stk S = (k (pc + 1) ls (.inr (.inl (Int64.ofNat (n : Nat)).toInt) :: stk) S) := rfl
theorem e_iadd  : ws1 tb nL rt Q k (.iadd) 1 pc ls stk S = (wI2 (fun a b => wI (a + b)) k (pc + 1) ls stk S) := rfl
theorem e_isub  : ws1 tb nL rt Q k (.isub) 1 pc ls stk S = (wI2 (fun a b => wI (a - b)) k (pc + 1) ls stk S) := rfl
theorem e_imul  : ws1 tb nL rt Q k (.imul) 1 pc ls stk S = (wI2 (fun a b => wI (a * b)) k (pc + 1) ls stk S) := rfl
theorem e_idiv  : ws1 tb nL rt Q k (.idiv) 1 pc ls stk S = (wD2 (fun a b => wI (a.tdiv b)) k (pc + 1) ls stk S) := rfl
theorem e_irem  : ws1 tb nL rt Q k (.irem) 1 pc ls stk S = (wD2 (fun a b => wI (a.tmod b)) k (pc + 1) ls stk S) := rfl
theorem e_iand  : ws1 tb nL rt Q k (.iand) 1 pc ls stk S = (wI2 bAnd k (pc + 1) ls stk S) := rfl
theorem e_ior  : ws1 tb nL rt Q k (.ior) 1 pc ls stk S = (wI2 bOr k (pc + 1) ls stk S) := rfl
theorem e_ixor  : ws1 tb nL rt Q k (.ixor) 1 pc ls stk S = (wI2 bXor k (pc + 1) ls stk S) := rfl
theorem e_ishl  : ws1 tb nL rt Q k (.ishl) 1 pc ls stk S = (wI2 bShl k (pc + 1) ls stk S) := rfl
theorem e_ishr  : ws1 tb nL rt Q k (.ishr) 1 pc ls stk S = (wI2 bShr k (pc + 1) ls stk S) := rfl
theorem e_iushr  : ws1 tb nL rt Q k (.iushr) 1 pc ls stk S = (wI2 bUshr k (pc + 1) ls stk S) := rfl
theorem e_lsub  : ws1 tb nL rt Q k (.lsub) 1 pc ls stk S = (wL2 (fun a b => wL (a - b)) k (pc + 1) ls stk S) := rfl
theorem e_land  : ws1 tb nL rt Q k (.land) 1 pc ls stk S = (wL2 lAnd k (pc + 1) ls stk S) := rfl
theorem e_lor  : ws1 tb nL rt Q k (.lor) 1 pc ls stk S = (wL2 lOr k (pc + 1) ls stk S) := rfl
theorem e_lshl  : ws1 tb nL rt Q k (.lshl) 1 pc ls stk S = (wLI2 lShl k (pc + 1) ls stk S) := rfl
theorem e_lushr  : ws1 tb nL rt Q k (.lushr) 1 pc ls stk S = (wLI2 lUshr k (pc + 1) ls stk S) := rfl
theorem e_lcmp  : ws1 tb nL rt Q k (.lcmp) 1 pc ls stk S = (wCmp k (pc + 1) ls stk S) := rfl
theorem e_i2l  : ws1 tb nL rt Q k (.i2l) 1 pc ls stk S = (wI2L k (pc + 1) ls stk S) := rfl
theorem e_l2i  : ws1 tb nL rt Q k (.l2i) 1 pc ls stk S = (wL2I k (pc + 1) ls stk S) := rfl
theorem e_i2b  : ws1 tb nL rt Q k (.i2b) 1 pc ls stk S = (wI2B k (pc + 1) ls stk S) := rfl
theorem e_dup  : ws1 tb nL rt Q k (.dup) 1 pc ls stk S = (wDup k (pc + 1) ls stk S) := rfl
theorem e_dup2  : ws1 tb nL rt Q k (.dup2) 1 pc ls stk S = (wDup2 k (pc + 1) ls stk S) := rfl
theorem e_pop  : ws1 tb nL rt Q k (.pop) 1 pc ls stk S = (wPop k (pc + 1) ls stk S) := rfl
theorem e_iinc {j : Nat} {n : Int} : ws1 tb nL rt Q k (.iinc j n) 3 pc ls stk S = (wInc nL j n k (pc + 3) ls stk S) := rfl
theorem e_ifCond {c : Jvm.ClassFile.Cond} {off : Int} : ws1 tb nL rt Q k (.ifCond c off) 3 pc ls stk S = (wIf (cN c) (jt pc off) k pc ls stk S) := rfl
theorem e_if_icmp {c : Jvm.ClassFile.Cond} {off : Int} : ws1 tb nL rt Q k (.if_icmp c off) 3 pc ls stk S = (wIc (cN c) (jt pc off) k pc ls stk S) := rfl
theorem e_goto {off : Int} : ws1 tb nL rt Q k (.goto off) 3 pc ls stk S = (wJ k pc off ls stk S) := rfl
theorem e_tableswitch {d lo hi : Int} {offs : Array Int} : ws1 tb nL rt Q k (.tableswitch d lo hi offs) len pc ls stk S = (wTsw d lo hi offs.toList k pc ls stk S) := rfl
theorem e_lookupswitch {d : Int} {ps : Array (Int × Int)} : ws1 tb nL rt Q k (.lookupswitch d ps) len pc ls stk S = (wLsw d ps k pc ls stk S) := rfl
theorem e_getfield {j : Nat} : ws1 tb nL rt Q k (.getfield j) 3 pc ls stk S = (wGet (tb.1 j) k (pc + 3) ls stk S) := rfl
theorem e_putfield {j : Nat} : ws1 tb nL rt Q k (.putfield j) 3 pc ls stk S = (wPut (tb.2.1 j) k (pc + 3) ls stk S) := rfl
theorem e_iaload  : ws1 tb nL rt Q k (.iaload) 1 pc ls stk S = (wAld (fun t => t == 0) k (pc + 1) ls stk S) := rfl
theorem e_baload  : ws1 tb nL rt Q k (.baload) 1 pc ls stk S = (wAld (fun t => t == 1 || t == 2) k (pc + 1) ls stk S) := rfl
theorem e_laload  : ws1 tb nL rt Q k (.laload) 1 pc ls stk S = (wAll k (pc + 1) ls stk S) := rfl
theorem e_aaload  : ws1 tb nL rt Q k (.aaload) 1 pc ls stk S = (wAlr k (pc + 1) ls stk S) := rfl
theorem e_arraylength  : ws1 tb nL rt Q k (.arraylength) 1 pc ls stk S = (wAln k (pc + 1) ls stk S) := rfl
theorem e_iastore  : ws1 tb nL rt Q k (.iastore) 1 pc ls stk S = (wAst k (pc + 1) ls stk S) := rfl
theorem e_bastore  : ws1 tb nL rt Q k (.bastore) 1 pc ls stk S = (wBst k (pc + 1) ls stk S) := rfl
theorem e_lastore  : ws1 tb nL rt Q k (.lastore) 1 pc ls stk S = (wLst k (pc + 1) ls stk S) := rfl
theorem e_invokevirtual {j : Nat} : ws1 tb nL rt Q k (.invokevirtual j) 3 pc ls stk S = (wCall (tb.2.2.1 j) true k (pc + 3) ls stk S) := rfl
theorem e_invokestatic {j : Nat} : ws1 tb nL rt Q k (.invokestatic j) 3 pc ls stk S = (wCall (tb.2.2.1 j) false k (pc + 3) ls stk S) := rfl
theorem e_ireturn  : ws1 tb nL rt Q k (.ireturn) 1 pc ls stk S = (wRi rt Q stk S) := rfl
theorem e_lreturn  : ws1 tb nL rt Q k (.lreturn) 1 pc ls stk S = (wRl rt Q stk S) := rfl
theorem e_return_  : ws1 tb nL rt Q k (.return_) 1 pc ls stk S = (wRv rt Q stk S) := rfl
theorem e_ldc2 {n : Nat} {x : Int} (h : tb.2.2.2 n = some x) : ws1 tb nL rt Q k (.ldc2_w n) 3 pc ls stk S = k (pc + 3) ls (.inr (.inl x) :: stk) S := by
  show (match tb.2.2.2 n with
    | some x => k (pc + 3) ls (.inr (.inl x) :: stk) S
    | none => False) = _
  rw [h]
def wLdo (ty : Nat) (o : Option aV) (k : aK) (pc : Nat) (ls : aL) (stk : List aV) (S : aS) : Prop := match ty, o with
  | 0, some (.inl a) => k pc ls (.inl a :: stk) S
  | 1, some (.inr (.inl a)) => k pc ls (.inr (.inl a) :: stk) S
  | 2, some (.inr (.inr a)) => k pc ls (.inr (.inr a) :: stk) S
  | _, _ => False
theorem e_wLd {ty : Nat} : wLd ty i k pc ls stk S = wLdo ty (lget ls i) k pc ls stk S := rfl
theorem e_wLd0 : wLdo 0 (some (.inl a)) k pc ls stk S = k pc ls (.inl a :: stk) S := rfl
theorem e_wLd1 : wLdo 1 (some (.inr (.inl a))) k pc ls stk S = k pc ls (.inr (.inl a) :: stk) S := rfl
theorem e_wLd2 : wLdo 2 (some (.inr (.inr t))) k pc ls stk S = k pc ls (.inr (.inr t) :: stk) S := rfl
theorem e_get1 : lget ((i, x) :: ls) i = some x := by simp [lget]
theorem e_get2 (h : (j == i) = false) : lget ((j, x) :: ls) i = lget ls i := by
  have h' : ¬ j = i := by simpa using h
  simp [lget, h']
theorem e_wSt0 : wSt nL 0 i k pc ls (.inl a :: r) S = (i < nL ∧ k pc (lset i (.inl a) ls) r S) := rfl
theorem e_wSt1 : wSt nL 1 i k pc ls (.inr (.inl a) :: r) S = (i + 1 < nL ∧ k pc (lset i (.inr (.inl a)) ls) r S) := rfl
theorem e_wSt2 : wSt nL 2 i k pc ls (.inr (.inr t) :: r) S = (i < nL ∧ k pc (lset i (.inr (.inr t)) ls) r S) := rfl
theorem e_isL0 : isL (.inl a) = false := rfl
theorem e_isL1 : isL (.inr (.inl a)) = true := rfl
theorem e_isL2 : isL (.inr (.inr t)) = false := rfl
theorem e_lset : lset i x ls = lput i x (lclr i (isL x) ls) := rfl
theorem e_lclr0 {vl : Bool} : lclr i vl [] = [] := rfl
theorem e_lclr1 {vl : Bool} (h : (j == i || (j + 1 == i && isL x) || (vl && j == i + 1)) = true) : lclr i vl ((j, x) :: ls) = lclr i vl ls := if_pos h
theorem e_lclr2 {vl : Bool} (h : (j == i || (j + 1 == i && isL x) || (vl && j == i + 1)) = false) : lclr i vl ((j, x) :: ls) = (j, x) :: lclr i vl ls := if_neg (by rw [h]; decide)
theorem e_lput0 : lput i x [] = [(i, x)] := rfl
theorem e_lput1 {w : aV} (h : (Nat.blt i j) = true) : lput i x ((j, w) :: ls) = (i, x) :: (j, w) :: ls := if_pos (by simpa [Nat.blt_eq] using h)
theorem e_lput2 {w : aV} (h : (Nat.blt i j) = false) : lput i x ((j, w) :: ls) = (j, w) :: lput i x ls := if_neg (by intro q; rw [← Nat.blt_eq, h] at q; cases q)
theorem e_wI2 : wI2 f k pc ls (.inl b :: .inl a :: r) S = k pc ls (.inl (f a b) :: r) S := rfl
theorem e_wD2 : wD2 f k pc ls (.inl b :: .inl a :: r) S = (b ≠ 0 ∧ k pc ls (.inl (f a b) :: r) S) := rfl
theorem e_wL2 : wL2 f k pc ls (.inr (.inl b) :: .inr (.inl a) :: r) S = k pc ls (.inr (.inl (f a b)) :: r) S := rfl
theorem e_wLI2 : wLI2 f k pc ls (.inl b :: .inr (.inl a) :: r) S = k pc ls (.inr (.inl (f a b)) :: r) S := rfl
theorem e_wCmp : wCmp k pc ls (.inr (.inl b) :: .inr (.inl a) :: r) S = k pc ls (.inl (lCmp a b) :: r) S := rfl
theorem e_wI2L : wI2L k pc ls (.inl a :: r) S = k pc ls (.inr (.inl a) :: r) S := rfl
theorem e_wL2I : wL2I k pc ls (.inr (.inl a) :: r) S = k pc ls (.inl (wI a) :: r) S := rfl
theorem e_wI2B : wI2B k pc ls (.inl a :: r) S = k pc ls (.inl (narB a) :: r) S := rfl
theorem e_wDup0 : wDup k pc ls (.inl a :: r) S = k pc ls (.inl a :: .inl a :: r) S := rfl
theorem e_wDup1 : wDup k pc ls (.inr (.inr t) :: r) S = k pc ls (.inr (.inr t) :: .inr (.inr t) :: r) S := rfl
theorem e_wDup2 : wDup2 k pc ls (.inl b :: .inr (.inr t) :: r) S = k pc ls (.inl b :: .inr (.inr t) :: .inl b :: .inr (.inr t) :: r) S := rfl
theorem e_wPop : wPop k pc ls (.inl a :: r) S = k pc ls r S := rfl
def wInco (nL i : Nat) (n : Int) (o : Option aV) (k : aK) (pc : Nat) (ls : aL) (stk : List aV) (S : aS) : Prop := match o with
  | some (.inl a) => i < nL ∧ k pc (lset i (.inl (wI (a + n))) ls) stk S
  | _ => False
theorem e_wInc {n : Int} : wInc nL i n k pc ls stk S = wInco nL i n (lget ls i) k pc ls stk S := rfl
theorem e_wInc0 {n : Int} : wInco nL i n (some (.inl a)) k pc ls stk S = (i < nL ∧ k pc (lset i (.inl (wI (a + n))) ls) stk S) := rfl
def wJo (k : aK) (o : Option Nat) (ls : aL) (r : List aV) (S : aS) : Prop := match o with
  | some t => k t ls r S
  | none => False
theorem e_wJ : wJ k pc off ls r S = wJo k (jt pc off) ls r S := rfl
theorem e_wJo : wJo k (some t) ls r S = k t ls r S := rfl
theorem e_wIf_eq : wIf (cN .eq) (some t) k pc ls (.inl a :: r) S = ((a = 0 → k t ls r S) ∧ (¬ a = 0 → k (pc + 3) ls r S)) := rfl
theorem e_wIc_eq : wIc (cN .eq) (some t) k pc ls (.inl b :: .inl a :: r) S = ((a = b → k t ls r S) ∧ (¬ a = b → k (pc + 3) ls r S)) := rfl
theorem e_wIf_ne : wIf (cN .ne) (some t) k pc ls (.inl a :: r) S = ((¬ a = 0 → k t ls r S) ∧ (a = 0 → k (pc + 3) ls r S)) := rfl
theorem e_wIc_ne : wIc (cN .ne) (some t) k pc ls (.inl b :: .inl a :: r) S = ((¬ a = b → k t ls r S) ∧ (a = b → k (pc + 3) ls r S)) := rfl
theorem e_wIf_lt : wIf (cN .lt) (some t) k pc ls (.inl a :: r) S = ((a < 0 → k t ls r S) ∧ (¬ a < 0 → k (pc + 3) ls r S)) := rfl
theorem e_wIc_lt : wIc (cN .lt) (some t) k pc ls (.inl b :: .inl a :: r) S = ((a < b → k t ls r S) ∧ (¬ a < b → k (pc + 3) ls r S)) := rfl
theorem e_wIf_ge : wIf (cN .ge) (some t) k pc ls (.inl a :: r) S = ((0 ≤ a → k t ls r S) ∧ (¬ 0 ≤ a → k (pc + 3) ls r S)) := rfl
theorem e_wIc_ge : wIc (cN .ge) (some t) k pc ls (.inl b :: .inl a :: r) S = ((b ≤ a → k t ls r S) ∧ (¬ b ≤ a → k (pc + 3) ls r S)) := rfl
theorem e_wIf_gt : wIf (cN .gt) (some t) k pc ls (.inl a :: r) S = ((0 < a → k t ls r S) ∧ (¬ 0 < a → k (pc + 3) ls r S)) := rfl
theorem e_wIc_gt : wIc (cN .gt) (some t) k pc ls (.inl b :: .inl a :: r) S = ((b < a → k t ls r S) ∧ (¬ b < a → k (pc + 3) ls r S)) := rfl
theorem e_wIf_le : wIf (cN .le) (some t) k pc ls (.inl a :: r) S = ((a ≤ 0 → k t ls r S) ∧ (¬ a ≤ 0 → k (pc + 3) ls r S)) := rfl
theorem e_wIc_le : wIc (cN .le) (some t) k pc ls (.inl b :: .inl a :: r) S = ((a ≤ b → k t ls r S) ∧ (¬ a ≤ b → k (pc + 3) ls r S)) := rfl
theorem e_tsw {d lo hi : Int} {os : List Int} : wTsw d lo hi os k pc ls (.inl a :: r) S = ((hi - lo < os.length) ∧ (a < lo ∨ hi < a → wJ k pc d ls r S) ∧ tsw k pc a ls r S lo os) := rfl
theorem e_tsw0 : tsw k pc a ls r S v [] = True := rfl
theorem e_tsw1 {os : List Int} : tsw k pc a ls r S v (off :: os) = ((a = v → wJ k pc off ls r S) ∧ tsw k pc a ls r S (v + 1) os) := rfl
theorem e_lsw {d : Int} {ps : Array (Int × Int)} : wLsw d ps k pc ls (.inl a :: r) S = ((ps.toList.zip (ps.toList.drop 1)).all (fun (a, next) => a.1 < next.1) = true ∧ lsw k pc a ls r S d ps.toList) := rfl
theorem e_lsw0 {d : Int} : lsw k pc a ls r S d [] = wJ k pc d ls r S := rfl
theorem e_lsw1 {d : Int} {os : List (Int × Int)} : lsw k pc a ls r S d ((v, off) :: os) = ((a = v → wJ k pc off ls r S) ∧ (¬ a = v → lsw k pc a ls r S d os)) := rfl
theorem e_getI {ci f t : Nat} (h1 : t < aN) (h2 : lyC t = some ci) (h3 : lyF t f = some none) : wGet (some (ci, f)) k pc ls (.inr (.inr t) :: r) S = k pc ls (.inl (S.1 t f) :: r) S := by
  simp only [wGet, h1, h2, h3, true_and]
theorem e_getR {ci f t u : Nat} (h1 : t < aN) (h2 : lyC t = some ci) (h3 : lyF t f = some (some u)) : wGet (some (ci, f)) k pc ls (.inr (.inr t) :: r) S = k pc ls (.inr (.inr u) :: r) S := by
  simp only [wGet, h1, h2, h3, true_and]
theorem e_putI {ci f t : Nat} (h1 : t < aN) (h2 : lyC t = some ci) (h3 : lyF t f = some none) : wPut (some (ci, f)) k pc ls (.inl v :: .inr (.inr t) :: r) S = k pc ls r (upI S t f v) := by
  simp only [wPut, h1, h2, h3, true_and]
theorem e_ald {ts : Nat → Bool} {N : Int} (h1 : t < aN) (h2 : ts (lyT t) = true) (h3 : (lyN t : Int) = N) : wAld ts k pc ls (.inl a :: .inr (.inr t) :: r) S = (0 ≤ a ∧ a < N ∧ k pc ls (.inl (S.1 t a.toNat) :: r) S) := by
  simp only [wAld, h1, h2, ← h3, true_and]
theorem e_all {N : Int} (h1 : t < aN) (h2 : lyT t = 3) (h3 : (lyN t : Int) = N) : wAll k pc ls (.inl a :: .inr (.inr t) :: r) S = (0 ≤ a ∧ a < N ∧ k pc ls (.inr (.inl (S.2 t a.toNat)) :: r) S) := by
  simp only [wAll, h1, h2, ← h3, true_and]
theorem e_alr {N : Int} {b : Nat} (h1 : t < aN) (h2 : lyT t = 4 ∨ lyT t = 5) (h3 : (lyN t : Int) = N) (h4 : lyB t = b) : wAlr k pc ls (.inl a :: .inr (.inr t) :: r) S = (0 ≤ a ∧ a < N ∧ k pc ls (.inr (.inr (b + a.toNat)) :: r) S) := by
  simp only [wAlr, h1, h2, ← h3, h4, true_and]
theorem e_aln {N : Int} (h1 : t < aN) (h2 : lyT t < 6) (h3 : lyN t < 2000000) (h4 : (lyN t : Int) = N) : wAln k pc ls (.inr (.inr t) :: r) S = k pc ls (.inl N :: r) S := by
  simp only [wAln, h1, h2, h3, h4, true_and]
theorem e_ast {N : Int} (h1 : t < aN) (h2 : lyT t = 0) (h3 : (lyN t : Int) = N) : wAst k pc ls (.inl v :: .inl a :: .inr (.inr t) :: r) S = (0 ≤ a ∧ a < N ∧ k pc ls r (upI S t a.toNat v)) := by
  simp only [wAst, h1, h2, ← h3, true_and]
theorem e_bst {N : Int} (h1 : t < aN) (h2 : lyT t = 1) (h3 : (lyN t : Int) = N) : wBst k pc ls (.inl v :: .inl a :: .inr (.inr t) :: r) S = (0 ≤ a ∧ a < N ∧ k pc ls r (upI S t a.toNat (narB v))) := by
  simp only [wBst, h1, h2, ← h3, true_and]
  simp
theorem e_zst {N : Int} (h1 : t < aN) (h2 : lyT t = 2) (h3 : (lyN t : Int) = N) : wBst k pc ls (.inl v :: .inl a :: .inr (.inr t) :: r) S = (0 ≤ a ∧ a < N ∧ k pc ls r (upI S t a.toNat (narZ v))) := by
  simp only [wBst, h1, h2, ← h3, true_and]
  simp
theorem e_lst {N : Int} (h1 : t < aN) (h2 : lyT t = 3) (h3 : (lyN t : Int) = N) : wLst k pc ls (.inr (.inl v) :: .inl a :: .inr (.inr t) :: r) S = (0 ≤ a ∧ a < N ∧ k pc ls r (upL S t a.toNat v)) := by
  simp only [wLst, h1, h2, ← h3, true_and]
theorem e_pop0 {acc : List aV} : pop 0 acc stk = some (acc, stk) := rfl
theorem e_pop1 {acc : List aV} : pop (n + 1) acc (x :: stk) = pop n (x :: acc) stk := rfl
def wCallo (cr : Option Nat) (sp : aSp) (vt : Bool) (o : Option (List aV × List aV)) (k : aK) (pc : Nat) (ls : aL) (S : aS) : Prop := match o with
  | some (as, r) => few r = true ∧ (match cr, vt, as with
      | some c, true, .inr (.inr b) :: _ => b < aN ∧ lyC b = some c
      | none, false, _ => True
      | _, _, _ => False) ∧ sp as S (fun v S' => k pc ls (v.toList ++ r) S')
  | none => False
theorem e_call {cr : Option Nat} {sp : aSp} {vt : Bool} : wCall (some (cr, n, sp)) vt k pc ls stk S = wCallo cr sp vt (pop n [] stk) k pc ls S := rfl
theorem e_callV {c b : Nat} {sp : aSp} {as : List aV} (h1 : b < aN) (h2 : lyC b = some c) (h3 : few r = true) : wCallo (some c) sp true (some (.inr (.inr b) :: as, r)) k pc ls S = sp (.inr (.inr b) :: as) S (fun v S' => k pc ls (v.toList ++ r) S') := by
  simp only [wCallo, h1, h2, h3, true_and]
theorem e_callS {sp : aSp} {as : List aV} (h3 : few r = true) : wCallo none sp false (some (as, r)) k pc ls S = sp as S (fun v S' => k pc ls (v.toList ++ r) S') := by
  simp only [wCallo, h3, true_and]
theorem few0 : few [] = true := rfl
theorem few1 {a : aV} : few [a] = true := rfl
theorem few2 {a b : aV} : few [a, b] = true := rfl
theorem few3 {a b c : aV} : few [a, b, c] = true := rfl
theorem few4 {a b c d : aV} : few [a, b, c, d] = true := rfl
theorem e_tl0 : (none : Option aV).toList ++ r = r := rfl
theorem e_tl1 : (some x).toList ++ r = x :: r := rfl
theorem e_ri : wRi (some .int) Q [.inl a] S = Q (some (.inl a)) S := rfl
theorem e_rz : wRi (some .boolean) Q [.inl a] S = ((a = 0 ∨ a = 1) ∧ Q (some (.inl a)) S) := rfl
theorem e_rl : wRl (some .long) Q [.inr (.inl a)] S = Q (some (.inr (.inl a))) S := rfl
theorem e_rv : wRv none Q [] S = Q none S := rfl
end EV
theorem f40 : ((0 : Fin 4) : Nat) = 0 := rfl
theorem f41 : ((1 : Fin 4) : Nat) = 1 := rfl
theorem f42 : ((2 : Fin 4) : Nat) = 2 := rfl
theorem f43 : ((3 : Fin 4) : Nat) = 3 := rfl
theorem lc0 : (Int64.ofNat ((0 : Fin 2) : Nat)).toInt = 0 := by decide
theorem lc1 : (Int64.ofNat ((1 : Fin 2) : Nat)).toInt = 1 := by decide
theorem wI_id {x : Int} (h : -2147483648 ≤ x) (h2 : x < 2147483648) : wI x = x := ofI_toInt ⟨h, h2⟩
theorem wL_id {x : Int} (h : -9223372036854775808 ≤ x) (h2 : x < 9223372036854775808) : wL x = x := ofL_toInt ⟨h, h2⟩
theorem up_hit {S : aS} {i j : Nat} {v : Int} : (upI S i j v).1 i j = v := by simp [upI, up2]
theorem up_cell {S : aS} {i j m : Nat} {v : Int} (h : ¬ m = j) : (upI S i j v).1 i m = S.1 i m := by simp [upI, up2, h]
theorem up_obj {S : aS} {i j m n : Nat} {v : Int} (h : (n == i) = false) : (upI S i j v).1 n m = S.1 n m := by
  have h' : ¬ n = i := by simpa using h
  simp [upI, up2, h']
theorem up_2 {S : aS} {i j : Nat} {v : Int} : (upI S i j v).2 = S.2 := rfl
theorem upL_hit {S : aS} {i j : Nat} {v : Int} : (upL S i j v).2 i j = v := by simp [upL, up2]
theorem upL_cell {S : aS} {i j m : Nat} {v : Int} (h : ¬ m = j) : (upL S i j v).2 i m = S.2 i m := by simp [upL, up2, h]
theorem upL_obj {S : aS} {i j m n : Nat} {v : Int} (h : (n == i) = false) : (upL S i j v).2 n m = S.2 n m := by
  have h' : ¬ n = i := by simpa using h
  simp [upL, up2, h']
theorem upL_1 {S : aS} {i j : Nat} {v : Int} : (upL S i j v).1 = S.1 := rfl
theorem ic_m1 : wI (-1) = (-1) := by decide
theorem ic_0 : wI 0 = 0 := by decide
theorem ic_1 : wI 1 = 1 := by decide
theorem ic_2 : wI 2 = 2 := by decide
theorem ic_3 : wI 3 = 3 := by decide
theorem ic_4 : wI 4 = 4 := by decide
theorem ic_5 : wI 5 = 5 := by decide
theorem bp_m2 : ((Int8.ofInt (-2)).toInt32).toInt = (-2) := by decide
theorem bp_8 : ((Int8.ofInt 8).toInt32).toInt = 8 := by decide
theorem bp_9 : ((Int8.ofInt 9).toInt32).toInt = 9 := by decide
theorem bp_10 : ((Int8.ofInt 10).toInt32).toInt = 10 := by decide
theorem bp_12 : ((Int8.ofInt 12).toInt32).toInt = 12 := by decide
theorem bp_20 : ((Int8.ofInt 20).toInt32).toInt = 20 := by decide
theorem bp_24 : ((Int8.ofInt 24).toInt32).toInt = 24 := by decide
theorem bp_30 : ((Int8.ofInt 30).toInt32).toInt = 30 := by decide
theorem bp_32 : ((Int8.ofInt 32).toInt32).toInt = 32 := by decide
theorem bp_40 : ((Int8.ofInt 40).toInt32).toInt = 40 := by decide
theorem bp_41 : ((Int8.ofInt 41).toInt32).toInt = 41 := by decide
theorem bp_43 : ((Int8.ofInt 43).toInt32).toInt = 43 := by decide
theorem bp_44 : ((Int8.ofInt 44).toInt32).toInt = 44 := by decide
theorem bp_45 : ((Int8.ofInt 45).toInt32).toInt = 45 := by decide
theorem bp_46 : ((Int8.ofInt 46).toInt32).toInt = 46 := by decide
theorem bp_48 : ((Int8.ofInt 48).toInt32).toInt = 48 := by decide
theorem bp_58 : ((Int8.ofInt 58).toInt32).toInt = 58 := by decide
theorem bp_60 : ((Int8.ofInt 60).toInt32).toInt = 60 := by decide
theorem bp_62 : ((Int8.ofInt 62).toInt32).toInt = 62 := by decide
theorem bp_64 : ((Int8.ofInt 64).toInt32).toInt = 64 := by decide
theorem bp_81 : ((Int8.ofInt 81).toInt32).toInt = 81 := by decide
theorem bp_96 : ((Int8.ofInt 96).toInt32).toInt = 96 := by decide
theorem bp_97 : ((Int8.ofInt 97).toInt32).toInt = 97 := by decide
theorem bp_120 : ((Int8.ofInt 120).toInt32).toInt = 120 := by decide
theorem bp_122 : ((Int8.ofInt 122).toInt32).toInt = 122 := by decide
theorem sp_255 : ((Int16.ofInt 255).toInt32).toInt = 255 := by decide
theorem sp_900 : ((Int16.ofInt 900).toInt32).toInt = 900 := by decide
theorem sp_960 : ((Int16.ofInt 960).toInt32).toInt = 960 := by decide
theorem sp_1000 : ((Int16.ofInt 1000).toInt32).toInt = 1000 := by decide
theorem sp_2000 : ((Int16.ofInt 2000).toInt32).toInt = 2000 := by decide
theorem sp_2001 : ((Int16.ofInt 2001).toInt32).toInt = 2001 := by decide
theorem sp_2560 : ((Int16.ofInt 2560).toInt32).toInt = 2560 := by decide
theorem sp_7200 : ((Int16.ofInt 7200).toInt32).toInt = 7200 := by decide
theorem sp_8000 : ((Int16.ofInt 8000).toInt32).toInt = 8000 := by decide
theorem sp_20000 : ((Int16.ofInt 20000).toInt32).toInt = 20000 := by decide
theorem jt_1_7 : jt 1 7 = some 8 := rfl
theorem jt_1_12 : jt 1 12 = some 13 := rfl
theorem jt_1_14 : jt 1 14 = some 15 := rfl
theorem jt_1_15 : jt 1 15 = some 16 := rfl
theorem jt_1_20 : jt 1 20 = some 21 := rfl
theorem jt_1_22 : jt 1 22 = some 23 := rfl
theorem jt_1_23 : jt 1 23 = some 24 := rfl
theorem jt_1_25 : jt 1 25 = some 26 := rfl
theorem jt_1_31 : jt 1 31 = some 32 := rfl
theorem jt_1_36 : jt 1 36 = some 37 := rfl
theorem jt_1_44 : jt 1 44 = some 45 := rfl
theorem jt_1_47 : jt 1 47 = some 48 := rfl
theorem jt_1_63 : jt 1 63 = some 64 := rfl
theorem jt_1_67 : jt 1 67 = some 68 := rfl
theorem jt_1_75 : jt 1 75 = some 76 := rfl
theorem jt_1_79 : jt 1 79 = some 80 := rfl
theorem jt_1_83 : jt 1 83 = some 84 := rfl
theorem jt_1_91 : jt 1 91 = some 92 := rfl
theorem jt_1_95 : jt 1 95 = some 96 := rfl
theorem jt_1_99 : jt 1 99 = some 100 := rfl
theorem jt_1_107 : jt 1 107 = some 108 := rfl
theorem jt_1_115 : jt 1 115 = some 116 := rfl
theorem jt_1_123 : jt 1 123 = some 124 := rfl
theorem jt_1_133 : jt 1 133 = some 134 := rfl
theorem jt_1_138 : jt 1 138 = some 139 := rfl
theorem jt_1_146 : jt 1 146 = some 147 := rfl
theorem jt_1_154 : jt 1 154 = some 155 := rfl
theorem jt_1_159 : jt 1 159 = some 160 := rfl
theorem jt_1_167 : jt 1 167 = some 168 := rfl
theorem jt_2_7 : jt 2 7 = some 9 := rfl
theorem jt_2_12 : jt 2 12 = some 14 := rfl
theorem jt_2_19 : jt 2 19 = some 21 := rfl
theorem jt_2_21 : jt 2 21 = some 23 := rfl
theorem jt_2_24 : jt 2 24 = some 26 := rfl
theorem jt_2_27 : jt 2 27 = some 29 := rfl
theorem jt_2_37 : jt 2 37 = some 39 := rfl
theorem jt_2_57 : jt 2 57 = some 59 := rfl
theorem jt_3_12 : jt 3 12 = some 15 := rfl
theorem jt_3_35 : jt 3 35 = some 38 := rfl
theorem jt_3_65 : jt 3 65 = some 68 := rfl
theorem jt_3_70 : jt 3 70 = some 73 := rfl
theorem jt_3_75 : jt 3 75 = some 78 := rfl
theorem jt_3_80 : jt 3 80 = some 83 := rfl
theorem jt_3_85 : jt 3 85 = some 88 := rfl
theorem jt_3_118 : jt 3 118 = some 121 := rfl
theorem jt_3_123 : jt 3 123 = some 126 := rfl
theorem jt_3_128 : jt 3 128 = some 131 := rfl
theorem jt_3_164 : jt 3 164 = some 167 := rfl
theorem jt_3_198 : jt 3 198 = some 201 := rfl
theorem jt_3_203 : jt 3 203 = some 206 := rfl
theorem jt_3_208 : jt 3 208 = some 211 := rfl
theorem jt_3_214 : jt 3 214 = some 217 := rfl
theorem jt_3_219 : jt 3 219 = some 222 := rfl
theorem jt_4_12 : jt 4 12 = some 16 := rfl
theorem jt_4_18 : jt 4 18 = some 22 := rfl
theorem jt_4_21 : jt 4 21 = some 25 := rfl
theorem jt_4_35 : jt 4 35 = some 39 := rfl
theorem jt_4_47 : jt 4 47 = some 51 := rfl
theorem jt_5_4 : jt 5 4 = some 9 := rfl
theorem jt_5_5 : jt 5 5 = some 10 := rfl
theorem jt_5_8 : jt 5 8 = some 13 := rfl
theorem jt_5_11 : jt 5 11 = some 16 := rfl
theorem jt_5_12 : jt 5 12 = some 17 := rfl
theorem jt_5_14 : jt 5 14 = some 19 := rfl
theorem jt_5_15 : jt 5 15 = some 20 := rfl
theorem jt_5_16 : jt 5 16 = some 21 := rfl
theorem jt_5_17 : jt 5 17 = some 22 := rfl
theorem jt_5_18 : jt 5 18 = some 23 := rfl
theorem jt_5_19 : jt 5 19 = some 24 := rfl
theorem jt_5_20 : jt 5 20 = some 25 := rfl
theorem jt_5_21 : jt 5 21 = some 26 := rfl
theorem jt_5_22 : jt 5 22 = some 27 := rfl
theorem jt_5_23 : jt 5 23 = some 28 := rfl
theorem jt_5_25 : jt 5 25 = some 30 := rfl
theorem jt_5_26 : jt 5 26 = some 31 := rfl
theorem jt_5_27 : jt 5 27 = some 32 := rfl
theorem jt_5_30 : jt 5 30 = some 35 := rfl
theorem jt_5_33 : jt 5 33 = some 38 := rfl
theorem jt_5_34 : jt 5 34 = some 39 := rfl
theorem jt_5_37 : jt 5 37 = some 42 := rfl
theorem jt_5_39 : jt 5 39 = some 44 := rfl
theorem jt_5_40 : jt 5 40 = some 45 := rfl
theorem jt_5_45 : jt 5 45 = some 50 := rfl
theorem jt_5_50 : jt 5 50 = some 55 := rfl
theorem jt_6_4 : jt 6 4 = some 10 := rfl
theorem jt_6_7 : jt 6 7 = some 13 := rfl
theorem jt_6_12 : jt 6 12 = some 18 := rfl
theorem jt_6_14 : jt 6 14 = some 20 := rfl
theorem jt_6_17 : jt 6 17 = some 23 := rfl
theorem jt_6_22 : jt 6 22 = some 28 := rfl
theorem jt_6_24 : jt 6 24 = some 30 := rfl
theorem jt_6_34 : jt 6 34 = some 40 := rfl
theorem jt_7_7 : jt 7 7 = some 14 := rfl
theorem jt_7_11 : jt 7 11 = some 18 := rfl
theorem jt_7_13 : jt 7 13 = some 20 := rfl
theorem jt_7_14 : jt 7 14 = some 21 := rfl
theorem jt_7_15 : jt 7 15 = some 22 := rfl
theorem jt_7_16 : jt 7 16 = some 23 := rfl
theorem jt_7_17 : jt 7 17 = some 24 := rfl
theorem jt_7_18 : jt 7 18 = some 25 := rfl
theorem jt_7_20 : jt 7 20 = some 27 := rfl
theorem jt_7_26 : jt 7 26 = some 33 := rfl
theorem jt_7_30 : jt 7 30 = some 37 := rfl
theorem jt_7_31 : jt 7 31 = some 38 := rfl
theorem jt_7_32 : jt 7 32 = some 39 := rfl
theorem jt_7_33 : jt 7 33 = some 40 := rfl
theorem jt_7_36 : jt 7 36 = some 43 := rfl
theorem jt_7_38 : jt 7 38 = some 45 := rfl
theorem jt_7_54 : jt 7 54 = some 61 := rfl
theorem jt_7_66 : jt 7 66 = some 73 := rfl
theorem jt_7_91 : jt 7 91 = some 98 := rfl
theorem jt_8_4 : jt 8 4 = some 12 := rfl
theorem jt_8_5 : jt 8 5 = some 13 := rfl
theorem jt_8_12 : jt 8 12 = some 20 := rfl
theorem jt_8_14 : jt 8 14 = some 22 := rfl
theorem jt_8_15 : jt 8 15 = some 23 := rfl
theorem jt_8_16 : jt 8 16 = some 24 := rfl
theorem jt_8_18 : jt 8 18 = some 26 := rfl
theorem jt_8_20 : jt 8 20 = some 28 := rfl
theorem jt_8_23 : jt 8 23 = some 31 := rfl
theorem jt_8_31 : jt 8 31 = some 39 := rfl
theorem jt_8_34 : jt 8 34 = some 42 := rfl
theorem jt_8_35 : jt 8 35 = some 43 := rfl
theorem jt_8_44 : jt 8 44 = some 52 := rfl
theorem jt_8_47 : jt 8 47 = some 55 := rfl
theorem jt_9_5 : jt 9 5 = some 14 := rfl
theorem jt_9_7 : jt 9 7 = some 16 := rfl
theorem jt_9_12 : jt 9 12 = some 21 := rfl
theorem jt_9_13 : jt 9 13 = some 22 := rfl
theorem jt_9_17 : jt 9 17 = some 26 := rfl
theorem jt_9_20 : jt 9 20 = some 29 := rfl
theorem jt_9_22 : jt 9 22 = some 31 := rfl
theorem jt_9_24 : jt 9 24 = some 33 := rfl
theorem jt_9_26 : jt 9 26 = some 35 := rfl
theorem jt_9_27 : jt 9 27 = some 36 := rfl
theorem jt_9_28 : jt 9 28 = some 37 := rfl
theorem jt_9_31 : jt 9 31 = some 40 := rfl
theorem jt_9_36 : jt 9 36 = some 45 := rfl
theorem jt_9_37 : jt 9 37 = some 46 := rfl
theorem jt_9_41 : jt 9 41 = some 50 := rfl
theorem jt_9_67 : jt 9 67 = some 76 := rfl
theorem jt_9_90 : jt 9 90 = some 99 := rfl
theorem jt_9_100 : jt 9 100 = some 109 := rfl
theorem jt_10_4 : jt 10 4 = some 14 := rfl
theorem jt_10_5 : jt 10 5 = some 15 := rfl
theorem jt_10_7 : jt 10 7 = some 17 := rfl
theorem jt_10_11 : jt 10 11 = some 21 := rfl
theorem jt_10_16 : jt 10 16 = some 26 := rfl
theorem jt_10_20 : jt 10 20 = some 30 := rfl
theorem jt_10_23 : jt 10 23 = some 33 := rfl
theorem jt_10_27 : jt 10 27 = some 37 := rfl
theorem jt_10_35 : jt 10 35 = some 45 := rfl
theorem jt_10_49 : jt 10 49 = some 59 := rfl
theorem jt_10_61 : jt 10 61 = some 71 := rfl
theorem jt_11_4 : jt 11 4 = some 15 := rfl
theorem jt_11_8 : jt 11 8 = some 19 := rfl
theorem jt_11_16 : jt 11 16 = some 27 := rfl
theorem jt_11_19 : jt 11 19 = some 30 := rfl
theorem jt_11_23 : jt 11 23 = some 34 := rfl
theorem jt_11_28 : jt 11 28 = some 39 := rfl
theorem jt_11_33 : jt 11 33 = some 44 := rfl
theorem jt_11_34 : jt 11 34 = some 45 := rfl
theorem jt_11_40 : jt 11 40 = some 51 := rfl
theorem jt_11_47 : jt 11 47 = some 58 := rfl
theorem jt_11_61 : jt 11 61 = some 72 := rfl
theorem jt_11_68 : jt 11 68 = some 79 := rfl
theorem jt_11_78 : jt 11 78 = some 89 := rfl
theorem jt_12_4 : jt 12 4 = some 16 := rfl
theorem jt_12_5 : jt 12 5 = some 17 := rfl
theorem jt_12_18 : jt 12 18 = some 30 := rfl
theorem jt_12_20 : jt 12 20 = some 32 := rfl
theorem jt_12_21 : jt 12 21 = some 33 := rfl
theorem jt_12_24 : jt 12 24 = some 36 := rfl
theorem jt_12_27 : jt 12 27 = some 39 := rfl
theorem jt_12_43 : jt 12 43 = some 55 := rfl
theorem jt_12_46 : jt 12 46 = some 58 := rfl
theorem jt_12_55 : jt 12 55 = some 67 := rfl
theorem jt_12_174 : jt 12 174 = some 186 := rfl
theorem jt_13_4 : jt 13 4 = some 17 := rfl
theorem jt_13_5 : jt 13 5 = some 18 := rfl
theorem jt_13_8 : jt 13 8 = some 21 := rfl
theorem jt_13_11 : jt 13 11 = some 24 := rfl
theorem jt_13_12 : jt 13 12 = some 25 := rfl
theorem jt_13_17 : jt 13 17 = some 30 := rfl
theorem jt_13_19 : jt 13 19 = some 32 := rfl
theorem jt_13_20 : jt 13 20 = some 33 := rfl
theorem jt_13_32 : jt 13 32 = some 45 := rfl
theorem jt_13_34 : jt 13 34 = some 47 := rfl
theorem jt_13_35 : jt 13 35 = some 48 := rfl
theorem jt_13_37 : jt 13 37 = some 50 := rfl
theorem jt_13_42 : jt 13 42 = some 55 := rfl
theorem jt_13_49 : jt 13 49 = some 62 := rfl
theorem jt_13_56 : jt 13 56 = some 69 := rfl
theorem jt_13_63 : jt 13 63 = some 76 := rfl
theorem jt_13_102 : jt 13 102 = some 115 := rfl
theorem jt_14_5 : jt 14 5 = some 19 := rfl
theorem jt_14_7 : jt 14 7 = some 21 := rfl
theorem jt_14_10 : jt 14 10 = some 24 := rfl
theorem jt_14_11 : jt 14 11 = some 25 := rfl
theorem jt_14_21 : jt 14 21 = some 35 := rfl
theorem jt_14_34 : jt 14 34 = some 48 := rfl
theorem jt_14_44 : jt 14 44 = some 58 := rfl
theorem jt_14_54 : jt 14 54 = some 68 := rfl
theorem jt_14_64 : jt 14 64 = some 78 := rfl
theorem jt_14_68 : jt 14 68 = some 82 := rfl
theorem jt_14_74 : jt 14 74 = some 88 := rfl
theorem jt_14_78 : jt 14 78 = some 92 := rfl
theorem jt_14_83 : jt 14 83 = some 97 := rfl
theorem jt_14_93 : jt 14 93 = some 107 := rfl
theorem jt_15_m13 : jt 15 (-13) = some 2 := rfl
theorem jt_15_5 : jt 15 5 = some 20 := rfl
theorem jt_15_6 : jt 15 6 = some 21 := rfl
theorem jt_15_7 : jt 15 7 = some 22 := rfl
theorem jt_15_16 : jt 15 16 = some 31 := rfl
theorem jt_15_17 : jt 15 17 = some 32 := rfl
theorem jt_15_30 : jt 15 30 = some 45 := rfl
theorem jt_15_36 : jt 15 36 = some 51 := rfl
theorem jt_15_37 : jt 15 37 = some 52 := rfl
theorem jt_15_41 : jt 15 41 = some 56 := rfl
theorem jt_15_62 : jt 15 62 = some 77 := rfl
theorem jt_16_4 : jt 16 4 = some 20 := rfl
theorem jt_16_7 : jt 16 7 = some 23 := rfl
theorem jt_16_9 : jt 16 9 = some 25 := rfl
theorem jt_16_10 : jt 16 10 = some 26 := rfl
theorem jt_16_16 : jt 16 16 = some 32 := rfl
theorem jt_16_35 : jt 16 35 = some 51 := rfl
theorem jt_17_m13 : jt 17 (-13) = some 4 := rfl
theorem jt_17_5 : jt 17 5 = some 22 := rfl
theorem jt_17_6 : jt 17 6 = some 23 := rfl
theorem jt_17_7 : jt 17 7 = some 24 := rfl
theorem jt_17_8 : jt 17 8 = some 25 := rfl
theorem jt_17_10 : jt 17 10 = some 27 := rfl
theorem jt_17_11 : jt 17 11 = some 28 := rfl
theorem jt_17_14 : jt 17 14 = some 31 := rfl
theorem jt_17_15 : jt 17 15 = some 32 := rfl
theorem jt_17_17 : jt 17 17 = some 34 := rfl
theorem jt_17_22 : jt 17 22 = some 39 := rfl
theorem jt_17_23 : jt 17 23 = some 40 := rfl
theorem jt_17_37 : jt 17 37 = some 54 := rfl
theorem jt_17_38 : jt 17 38 = some 55 := rfl
theorem jt_17_63 : jt 17 63 = some 80 := rfl
theorem jt_17_70 : jt 17 70 = some 87 := rfl
theorem jt_17_75 : jt 17 75 = some 92 := rfl
theorem jt_17_77 : jt 17 77 = some 94 := rfl
theorem jt_17_83 : jt 17 83 = some 100 := rfl
theorem jt_17_88 : jt 17 88 = some 105 := rfl
theorem jt_17_104 : jt 17 104 = some 121 := rfl
theorem jt_17_120 : jt 17 120 = some 137 := rfl
theorem jt_17_136 : jt 17 136 = some 153 := rfl
theorem jt_17_152 : jt 17 152 = some 169 := rfl
theorem jt_17_169 : jt 17 169 = some 186 := rfl
theorem jt_17_175 : jt 17 175 = some 192 := rfl
theorem jt_17_181 : jt 17 181 = some 198 := rfl
theorem jt_17_187 : jt 17 187 = some 204 := rfl
theorem jt_18_4 : jt 18 4 = some 22 := rfl
theorem jt_18_5 : jt 18 5 = some 23 := rfl
theorem jt_18_11 : jt 18 11 = some 29 := rfl
theorem jt_18_12 : jt 18 12 = some 30 := rfl
theorem jt_18_13 : jt 18 13 = some 31 := rfl
theorem jt_18_26 : jt 18 26 = some 44 := rfl
theorem jt_18_27 : jt 18 27 = some 45 := rfl
theorem jt_18_37 : jt 18 37 = some 55 := rfl
theorem jt_18_41 : jt 18 41 = some 59 := rfl
theorem jt_19_m17 : jt 19 (-17) = some 2 := rfl
theorem jt_19_4 : jt 19 4 = some 23 := rfl
theorem jt_19_5 : jt 19 5 = some 24 := rfl
theorem jt_19_6 : jt 19 6 = some 25 := rfl
theorem jt_19_7 : jt 19 7 = some 26 := rfl
theorem jt_19_15 : jt 19 15 = some 34 := rfl
theorem jt_19_20 : jt 19 20 = some 39 := rfl
theorem jt_19_23 : jt 19 23 = some 42 := rfl
theorem jt_19_24 : jt 19 24 = some 43 := rfl
theorem jt_19_25 : jt 19 25 = some 44 := rfl
theorem jt_19_26 : jt 19 26 = some 45 := rfl
theorem jt_19_36 : jt 19 36 = some 55 := rfl
theorem jt_19_48 : jt 19 48 = some 67 := rfl
theorem jt_19_51 : jt 19 51 = some 70 := rfl
theorem jt_19_64 : jt 19 64 = some 83 := rfl
theorem jt_20_m16 : jt 20 (-16) = some 4 := rfl
theorem jt_20_4 : jt 20 4 = some 24 := rfl
theorem jt_20_6 : jt 20 6 = some 26 := rfl
theorem jt_20_7 : jt 20 7 = some 27 := rfl
theorem jt_20_11 : jt 20 11 = some 31 := rfl
theorem jt_20_15 : jt 20 15 = some 35 := rfl
theorem jt_20_17 : jt 20 17 = some 37 := rfl
theorem jt_20_27 : jt 20 27 = some 47 := rfl
theorem jt_20_40 : jt 20 40 = some 60 := rfl
theorem jt_21_m19 : jt 21 (-19) = some 2 := rfl
theorem jt_21_4 : jt 21 4 = some 25 := rfl
theorem jt_21_5 : jt 21 5 = some 26 := rfl
theorem jt_21_6 : jt 21 6 = some 27 := rfl
theorem jt_21_24 : jt 21 24 = some 45 := rfl
theorem jt_21_34 : jt 21 34 = some 55 := rfl
theorem jt_21_46 : jt 21 46 = some 67 := rfl
theorem jt_22_m20 : jt 22 (-20) = some 2 := rfl
theorem jt_22_5 : jt 22 5 = some 27 := rfl
theorem jt_22_6 : jt 22 6 = some 28 := rfl
theorem jt_22_15 : jt 22 15 = some 37 := rfl
theorem jt_22_40 : jt 22 40 = some 62 := rfl
theorem jt_23_m21 : jt 23 (-21) = some 2 := rfl
theorem jt_23_4 : jt 23 4 = some 27 := rfl
theorem jt_23_10 : jt 23 10 = some 33 := rfl
theorem jt_23_23 : jt 23 23 = some 46 := rfl
theorem jt_23_29 : jt 23 29 = some 52 := rfl
theorem jt_23_43 : jt 23 43 = some 66 := rfl
theorem jt_23_63 : jt 23 63 = some 86 := rfl
theorem jt_23_80 : jt 23 80 = some 103 := rfl
theorem jt_24_m20 : jt 24 (-20) = some 4 := rfl
theorem jt_24_4 : jt 24 4 = some 28 := rfl
theorem jt_24_7 : jt 24 7 = some 31 := rfl
theorem jt_24_11 : jt 24 11 = some 35 := rfl
theorem jt_24_15 : jt 24 15 = some 39 := rfl
theorem jt_24_17 : jt 24 17 = some 41 := rfl
theorem jt_24_19 : jt 24 19 = some 43 := rfl
theorem jt_24_23 : jt 24 23 = some 47 := rfl
theorem jt_24_27 : jt 24 27 = some 51 := rfl
theorem jt_24_53 : jt 24 53 = some 77 := rfl
theorem jt_25_5 : jt 25 5 = some 30 := rfl
theorem jt_25_6 : jt 25 6 = some 31 := rfl
theorem jt_25_7 : jt 25 7 = some 32 := rfl
theorem jt_25_10 : jt 25 10 = some 35 := rfl
theorem jt_25_23 : jt 25 23 = some 48 := rfl
theorem jt_25_27 : jt 25 27 = some 52 := rfl
theorem jt_25_37 : jt 25 37 = some 62 := rfl
theorem jt_25_47 : jt 25 47 = some 72 := rfl
theorem jt_25_49 : jt 25 49 = some 74 := rfl
theorem jt_25_155 : jt 25 155 = some 180 := rfl
theorem jt_26_m22 : jt 26 (-22) = some 4 := rfl
theorem jt_26_7 : jt 26 7 = some 33 := rfl
theorem jt_26_13 : jt 26 13 = some 39 := rfl
theorem jt_26_17 : jt 26 17 = some 43 := rfl
theorem jt_26_20 : jt 26 20 = some 46 := rfl
theorem jt_26_33 : jt 26 33 = some 59 := rfl
theorem jt_26_37 : jt 26 37 = some 63 := rfl
theorem jt_26_54 : jt 26 54 = some 80 := rfl
theorem jt_26_55 : jt 26 55 = some 81 := rfl
theorem jt_26_107 : jt 26 107 = some 133 := rfl
theorem jt_27_m25 : jt 27 (-25) = some 2 := rfl
theorem jt_27_m23 : jt 27 (-23) = some 4 := rfl
theorem jt_27_m19 : jt 27 (-19) = some 8 := rfl
theorem jt_27_5 : jt 27 5 = some 32 := rfl
theorem jt_27_7 : jt 27 7 = some 34 := rfl
theorem jt_27_12 : jt 27 12 = some 39 := rfl
theorem jt_28_m26 : jt 28 (-26) = some 2 := rfl
theorem jt_28_m24 : jt 28 (-24) = some 4 := rfl
theorem jt_28_4 : jt 28 4 = some 32 := rfl
theorem jt_28_5 : jt 28 5 = some 33 := rfl
theorem jt_28_6 : jt 28 6 = some 34 := rfl
theorem jt_28_12 : jt 28 12 = some 40 := rfl
theorem jt_28_22 : jt 28 22 = some 50 := rfl
theorem jt_28_27 : jt 28 27 = some 55 := rfl
theorem jt_28_34 : jt 28 34 = some 62 := rfl
theorem jt_28_49 : jt 28 49 = some 77 := rfl
theorem jt_28_66 : jt 28 66 = some 94 := rfl
theorem jt_29_m25 : jt 29 (-25) = some 4 := rfl
theorem jt_29_4 : jt 29 4 = some 33 := rfl
theorem jt_29_12 : jt 29 12 = some 41 := rfl
theorem jt_29_53 : jt 29 53 = some 82 := rfl
theorem jt_30_m28 : jt 30 (-28) = some 2 := rfl
theorem jt_30_m26 : jt 30 (-26) = some 4 := rfl
theorem jt_30_4 : jt 30 4 = some 34 := rfl
theorem jt_30_7 : jt 30 7 = some 37 := rfl
theorem jt_30_10 : jt 30 10 = some 40 := rfl
theorem jt_30_29 : jt 30 29 = some 59 := rfl
theorem jt_30_32 : jt 30 32 = some 62 := rfl
theorem jt_31_m26 : jt 31 (-26) = some 5 := rfl
theorem jt_31_4 : jt 31 4 = some 35 := rfl
theorem jt_31_13 : jt 31 13 = some 44 := rfl
theorem jt_31_39 : jt 31 39 = some 70 := rfl
theorem jt_32_m28 : jt 32 (-28) = some 4 := rfl
theorem jt_32_5 : jt 32 5 = some 37 := rfl
theorem jt_32_12 : jt 32 12 = some 44 := rfl
theorem jt_32_13 : jt 32 13 = some 45 := rfl
theorem jt_32_20 : jt 32 20 = some 52 := rfl
theorem jt_32_54 : jt 32 54 = some 86 := rfl
theorem jt_33_m29 : jt 33 (-29) = some 4 := rfl
theorem jt_33_5 : jt 33 5 = some 38 := rfl
theorem jt_33_6 : jt 33 6 = some 39 := rfl
theorem jt_33_7 : jt 33 7 = some 40 := rfl
theorem jt_33_12 : jt 33 12 = some 45 := rfl
theorem jt_33_13 : jt 33 13 = some 46 := rfl
theorem jt_33_22 : jt 33 22 = some 55 := rfl
theorem jt_33_26 : jt 33 26 = some 59 := rfl
theorem jt_33_34 : jt 33 34 = some 67 := rfl
theorem jt_33_61 : jt 33 61 = some 94 := rfl
theorem jt_34_m30 : jt 34 (-30) = some 4 := rfl
theorem jt_34_4 : jt 34 4 = some 38 := rfl
theorem jt_34_5 : jt 34 5 = some 39 := rfl
theorem jt_34_6 : jt 34 6 = some 40 := rfl
theorem jt_34_36 : jt 34 36 = some 70 := rfl
theorem jt_35_m33 : jt 35 (-33) = some 2 := rfl
theorem jt_35_16 : jt 35 16 = some 51 := rfl
theorem jt_35_33 : jt 35 33 = some 68 := rfl
theorem jt_35_141 : jt 35 141 = some 176 := rfl
theorem jt_36_m34 : jt 36 (-34) = some 2 := rfl
theorem jt_36_5 : jt 36 5 = some 41 := rfl
theorem jt_36_7 : jt 36 7 = some 43 := rfl
theorem jt_36_10 : jt 36 10 = some 46 := rfl
theorem jt_36_15 : jt 36 15 = some 51 := rfl
theorem jt_36_31 : jt 36 31 = some 67 := rfl
theorem jt_36_39 : jt 36 39 = some 75 := rfl
theorem jt_37_m35 : jt 37 (-35) = some 2 := rfl
theorem jt_37_m33 : jt 37 (-33) = some 4 := rfl
theorem jt_37_m32 : jt 37 (-32) = some 5 := rfl
theorem jt_37_4 : jt 37 4 = some 41 := rfl
theorem jt_37_5 : jt 37 5 = some 42 := rfl
theorem jt_37_7 : jt 37 7 = some 44 := rfl
theorem jt_37_25 : jt 37 25 = some 62 := rfl
theorem jt_37_72 : jt 37 72 = some 109 := rfl
theorem jt_38_5 : jt 38 5 = some 43 := rfl
theorem jt_38_7 : jt 38 7 = some 45 := rfl
theorem jt_38_18 : jt 38 18 = some 56 := rfl
theorem jt_38_58 : jt 38 58 = some 96 := rfl
theorem jt_39_m37 : jt 39 (-37) = some 2 := rfl
theorem jt_39_5 : jt 39 5 = some 44 := rfl
theorem jt_39_16 : jt 39 16 = some 55 := rfl
theorem jt_39_31 : jt 39 31 = some 70 := rfl
theorem jt_39_35 : jt 39 35 = some 74 := rfl
theorem jt_40_m36 : jt 40 (-36) = some 4 := rfl
theorem jt_40_4 : jt 40 4 = some 44 := rfl
theorem jt_40_7 : jt 40 7 = some 47 := rfl
theorem jt_40_14 : jt 40 14 = some 54 := rfl
theorem jt_40_15 : jt 40 15 = some 55 := rfl
theorem jt_40_20 : jt 40 20 = some 60 := rfl
theorem jt_40_31 : jt 40 31 = some 71 := rfl
theorem jt_41_m26 : jt 41 (-26) = some 15 := rfl
theorem jt_41_4 : jt 41 4 = some 45 := rfl
theorem jt_41_5 : jt 41 5 = some 46 := rfl
theorem jt_41_15 : jt 41 15 = some 56 := rfl
theorem jt_41_17 : jt 41 17 = some 58 := rfl
theorem jt_41_50 : jt 41 50 = some 91 := rfl
theorem jt_41_66 : jt 41 66 = some 107 := rfl
theorem jt_42_m37 : jt 42 (-37) = some 5 := rfl
theorem jt_42_m31 : jt 42 (-31) = some 11 := rfl
theorem jt_42_m22 : jt 42 (-22) = some 20 := rfl
theorem jt_42_4 : jt 42 4 = some 46 := rfl
theorem jt_42_5 : jt 42 5 = some 47 := rfl
theorem jt_42_8 : jt 42 8 = some 50 := rfl
theorem jt_42_10 : jt 42 10 = some 52 := rfl
theorem jt_42_13 : jt 42 13 = some 55 := rfl
theorem jt_42_16 : jt 42 16 = some 58 := rfl
theorem jt_42_44 : jt 42 44 = some 86 := rfl
theorem jt_43_m39 : jt 43 (-39) = some 4 := rfl
theorem jt_43_5 : jt 43 5 = some 48 := rfl
theorem jt_43_7 : jt 43 7 = some 50 := rfl
theorem jt_43_31 : jt 43 31 = some 74 := rfl
theorem jt_43_33 : jt 43 33 = some 76 := rfl
theorem jt_43_44 : jt 43 44 = some 87 := rfl
theorem jt_43_68 : jt 43 68 = some 111 := rfl
theorem jt_43_139 : jt 43 139 = some 182 := rfl
theorem jt_44_m37 : jt 44 (-37) = some 7 := rfl
theorem jt_44_5 : jt 44 5 = some 49 := rfl
theorem jt_44_7 : jt 44 7 = some 51 := rfl
theorem jt_44_17 : jt 44 17 = some 61 := rfl
theorem jt_44_33 : jt 44 33 = some 77 := rfl
theorem jt_45_m23 : jt 45 (-23) = some 22 := rfl
theorem jt_45_7 : jt 45 7 = some 52 := rfl
theorem jt_45_20 : jt 45 20 = some 65 := rfl
theorem jt_45_25 : jt 45 25 = some 70 := rfl
theorem jt_45_49 : jt 45 49 = some 94 := rfl
theorem jt_45_81 : jt 45 81 = some 126 := rfl
theorem jt_46_7 : jt 46 7 = some 53 := rfl
theorem jt_46_48 : jt 46 48 = some 94 := rfl
theorem jt_47_m44 : jt 47 (-44) = some 3 := rfl
theorem jt_47_4 : jt 47 4 = some 51 := rfl
theorem jt_47_16 : jt 47 16 = some 63 := rfl
theorem jt_47_20 : jt 47 20 = some 67 := rfl
theorem jt_48_m45 : jt 48 (-45) = some 3 := rfl
theorem jt_48_5 : jt 48 5 = some 53 := rfl
theorem jt_48_12 : jt 48 12 = some 60 := rfl
theorem jt_48_14 : jt 48 14 = some 62 := rfl
theorem jt_48_16 : jt 48 16 = some 64 := rfl
theorem jt_48_24 : jt 48 24 = some 72 := rfl
theorem jt_49_m42 : jt 49 (-42) = some 7 := rfl
theorem jt_49_m38 : jt 49 (-38) = some 11 := rfl
theorem jt_49_m13 : jt 49 (-13) = some 36 := rfl
theorem jt_49_6 : jt 49 6 = some 55 := rfl
theorem jt_49_11 : jt 49 11 = some 60 := rfl
theorem jt_49_12 : jt 49 12 = some 61 := rfl
theorem jt_49_13 : jt 49 13 = some 62 := rfl
theorem jt_49_15 : jt 49 15 = some 64 := rfl
theorem jt_49_22 : jt 49 22 = some 71 := rfl
theorem jt_50_4 : jt 50 4 = some 54 := rfl
theorem jt_50_14 : jt 50 14 = some 64 := rfl
theorem jt_51_m39 : jt 51 (-39) = some 12 := rfl
theorem jt_51_5 : jt 51 5 = some 56 := rfl
theorem jt_51_14 : jt 51 14 = some 65 := rfl
theorem jt_51_16 : jt 51 16 = some 67 := rfl
theorem jt_52_m48 : jt 52 (-48) = some 4 := rfl
theorem jt_52_5 : jt 52 5 = some 57 := rfl
theorem jt_52_7 : jt 52 7 = some 59 := rfl
theorem jt_52_33 : jt 52 33 = some 85 := rfl
theorem jt_52_34 : jt 52 34 = some 86 := rfl
theorem jt_52_39 : jt 52 39 = some 91 := rfl
theorem jt_53_m39 : jt 53 (-39) = some 14 := rfl
theorem jt_53_7 : jt 53 7 = some 60 := rfl
theorem jt_53_9 : jt 53 9 = some 62 := rfl
theorem jt_53_15 : jt 53 15 = some 68 := rfl
theorem jt_54_5 : jt 54 5 = some 59 := rfl
theorem jt_54_7 : jt 54 7 = some 61 := rfl
theorem jt_54_15 : jt 54 15 = some 69 := rfl
theorem jt_54_20 : jt 54 20 = some 74 := rfl
theorem jt_54_26 : jt 54 26 = some 80 := rfl
theorem jt_54_29 : jt 54 29 = some 83 := rfl
theorem jt_55_m51 : jt 55 (-51) = some 4 := rfl
theorem jt_55_m22 : jt 55 (-22) = some 33 := rfl
theorem jt_55_7 : jt 55 7 = some 62 := rfl
theorem jt_55_14 : jt 55 14 = some 69 := rfl
theorem jt_55_65 : jt 55 65 = some 120 := rfl
theorem jt_55_124 : jt 55 124 = some 179 := rfl
theorem jt_56_m51 : jt 56 (-51) = some 5 := rfl
theorem jt_56_4 : jt 56 4 = some 60 := rfl
theorem jt_56_12 : jt 56 12 = some 68 := rfl
theorem jt_56_15 : jt 56 15 = some 71 := rfl
theorem jt_57_m43 : jt 57 (-43) = some 14 := rfl
theorem jt_57_4 : jt 57 4 = some 61 := rfl
theorem jt_57_10 : jt 57 10 = some 67 := rfl
theorem jt_57_41 : jt 57 41 = some 98 := rfl
theorem jt_58_m55 : jt 58 (-55) = some 3 := rfl
theorem jt_58_4 : jt 58 4 = some 62 := rfl
theorem jt_58_16 : jt 58 16 = some 74 := rfl
theorem jt_59_m34 : jt 59 (-34) = some 25 := rfl
theorem jt_59_5 : jt 59 5 = some 64 := rfl
theorem jt_59_6 : jt 59 6 = some 65 := rfl
theorem jt_59_12 : jt 59 12 = some 71 := rfl
theorem jt_59_14 : jt 59 14 = some 73 := rfl
theorem jt_59_18 : jt 59 18 = some 77 := rfl
theorem jt_60_m39 : jt 60 (-39) = some 21 := rfl
theorem jt_60_5 : jt 60 5 = some 65 := rfl
theorem jt_60_7 : jt 60 7 = some 67 := rfl
theorem jt_60_29 : jt 60 29 = some 89 := rfl
theorem jt_61_6 : jt 61 6 = some 67 := rfl
theorem jt_61_12 : jt 61 12 = some 73 := rfl
theorem jt_62_m18 : jt 62 (-18) = some 44 := rfl
theorem jt_63_m48 : jt 63 (-48) = some 15 := rfl
theorem jt_63_5 : jt 63 5 = some 68 := rfl
theorem jt_63_6 : jt 63 6 = some 69 := rfl
theorem jt_63_7 : jt 63 7 = some 70 := rfl
theorem jt_63_61 : jt 63 61 = some 124 := rfl
theorem jt_63_71 : jt 63 71 = some 134 := rfl
theorem jt_63_81 : jt 63 81 = some 144 := rfl
theorem jt_63_91 : jt 63 91 = some 154 := rfl
theorem jt_63_101 : jt 63 101 = some 164 := rfl
theorem jt_63_111 : jt 63 111 = some 174 := rfl
theorem jt_63_120 : jt 63 120 = some 183 := rfl
theorem jt_63_129 : jt 63 129 = some 192 := rfl
theorem jt_64_5 : jt 64 5 = some 69 := rfl
theorem jt_64_7 : jt 64 7 = some 71 := rfl
theorem jt_64_10 : jt 64 10 = some 74 := rfl
theorem jt_64_42 : jt 64 42 = some 106 := rfl
theorem jt_65_m31 : jt 65 (-31) = some 34 := rfl
theorem jt_65_5 : jt 65 5 = some 70 := rfl
theorem jt_65_49 : jt 65 49 = some 114 := rfl
theorem jt_66_5 : jt 66 5 = some 71 := rfl
theorem jt_66_14 : jt 66 14 = some 80 := rfl
theorem jt_66_17 : jt 66 17 = some 83 := rfl
theorem jt_66_20 : jt 66 20 = some 86 := rfl
theorem jt_67_m33 : jt 67 (-33) = some 34 := rfl
theorem jt_67_4 : jt 67 4 = some 71 := rfl
theorem jt_68_m63 : jt 68 (-63) = some 5 := rfl
theorem jt_68_4 : jt 68 4 = some 72 := rfl
theorem jt_68_8 : jt 68 8 = some 76 := rfl
theorem jt_68_18 : jt 68 18 = some 86 := rfl
theorem jt_69_7 : jt 69 7 = some 76 := rfl
theorem jt_70_m67 : jt 70 (-67) = some 3 := rfl
theorem jt_70_m66 : jt 70 (-66) = some 4 := rfl
theorem jt_70_36 : jt 70 36 = some 106 := rfl
theorem jt_71_m51 : jt 71 (-51) = some 20 := rfl
theorem jt_71_m41 : jt 71 (-41) = some 30 := rfl
theorem jt_71_m31 : jt 71 (-31) = some 40 := rfl
theorem jt_71_11 : jt 71 11 = some 82 := rfl
theorem jt_72_m40 : jt 72 (-40) = some 32 := rfl
theorem jt_72_17 : jt 72 17 = some 89 := rfl
theorem jt_73_m69 : jt 73 (-69) = some 4 := rfl
theorem jt_73_m38 : jt 73 (-38) = some 35 := rfl
theorem jt_73_4 : jt 73 4 = some 77 := rfl
theorem jt_73_7 : jt 73 7 = some 80 := rfl
theorem jt_73_10 : jt 73 10 = some 83 := rfl
theorem jt_73_20 : jt 73 20 = some 93 := rfl
theorem jt_74_m62 : jt 74 (-62) = some 12 := rfl
theorem jt_74_7 : jt 74 7 = some 81 := rfl
theorem jt_74_9 : jt 74 9 = some 83 := rfl
theorem jt_74_24 : jt 74 24 = some 98 := rfl
theorem jt_75_28 : jt 75 28 = some 103 := rfl
theorem jt_76_7 : jt 76 7 = some 83 := rfl
theorem jt_76_8 : jt 76 8 = some 84 := rfl
theorem jt_77_m59 : jt 77 (-59) = some 18 := rfl
theorem jt_77_m28 : jt 77 (-28) = some 49 := rfl
theorem jt_77_4 : jt 77 4 = some 81 := rfl
theorem jt_77_7 : jt 77 7 = some 84 := rfl
theorem jt_78_m58 : jt 78 (-58) = some 20 := rfl
theorem jt_78_4 : jt 78 4 = some 82 := rfl
theorem jt_78_66 : jt 78 66 = some 144 := rfl
theorem jt_79_m58 : jt 79 (-58) = some 21 := rfl
theorem jt_79_10 : jt 79 10 = some 89 := rfl
theorem jt_79_29 : jt 79 29 = some 108 := rfl
theorem jt_80_m67 : jt 80 (-67) = some 13 := rfl
theorem jt_80_5 : jt 80 5 = some 85 := rfl
theorem jt_80_7 : jt 80 7 = some 87 := rfl
theorem jt_81_4 : jt 81 4 = some 85 := rfl
theorem jt_81_5 : jt 81 5 = some 86 := rfl
theorem jt_82_m38 : jt 82 (-38) = some 44 := rfl
theorem jt_82_5 : jt 82 5 = some 87 := rfl
theorem jt_82_70 : jt 82 70 = some 152 := rfl
theorem jt_83_57 : jt 83 57 = some 140 := rfl
theorem jt_84_4 : jt 84 4 = some 88 := rfl
theorem jt_85_28 : jt 85 28 = some 113 := rfl
theorem jt_85_35 : jt 85 35 = some 120 := rfl
theorem jt_86_m27 : jt 86 (-27) = some 59 := rfl
theorem jt_86_5 : jt 86 5 = some 91 := rfl
theorem jt_86_20 : jt 86 20 = some 106 := rfl
theorem jt_88_m51 : jt 88 (-51) = some 37 := rfl
theorem jt_88_12 : jt 88 12 = some 100 := rfl
theorem jt_89_m76 : jt 89 (-76) = some 13 := rfl
theorem jt_90_72 : jt 90 72 = some 162 := rfl
theorem jt_90_80 : jt 90 80 = some 170 := rfl
theorem jt_91_m67 : jt 91 (-67) = some 24 := rfl
theorem jt_91_7 : jt 91 7 = some 98 := rfl
theorem jt_92_20 : jt 92 20 = some 112 := rfl
theorem jt_92_35 : jt 92 35 = some 127 := rfl
theorem jt_93_m61 : jt 93 (-61) = some 32 := rfl
theorem jt_93_15 : jt 93 15 = some 108 := rfl
theorem jt_93_26 : jt 93 26 = some 119 := rfl
theorem jt_94_20 : jt 94 20 = some 114 := rfl
theorem jt_95_m91 : jt 95 (-91) = some 4 := rfl
theorem jt_95_4 : jt 95 4 = some 99 := rfl
theorem jt_96_m92 : jt 96 (-92) = some 4 := rfl
theorem jt_97_7 : jt 97 7 = some 104 := rfl
theorem jt_97_8 : jt 97 8 = some 105 := rfl
theorem jt_98_5 : jt 98 5 = some 103 := rfl
theorem jt_100_7 : jt 100 7 = some 107 := rfl
theorem jt_101_4 : jt 101 4 = some 105 := rfl
theorem jt_101_7 : jt 101 7 = some 108 := rfl
theorem jt_101_55 : jt 101 55 = some 156 := rfl
theorem jt_101_63 : jt 101 63 = some 164 := rfl
theorem jt_102_7 : jt 102 7 = some 109 := rfl
theorem jt_103_m41 : jt 103 (-41) = some 62 := rfl
theorem jt_103_7 : jt 103 7 = some 110 := rfl
theorem jt_104_m69 : jt 104 (-69) = some 35 := rfl
theorem jt_104_4 : jt 104 4 = some 108 := rfl
theorem jt_104_9 : jt 104 9 = some 113 := rfl
theorem jt_104_10 : jt 104 10 = some 114 := rfl
theorem jt_105_17 : jt 105 17 = some 122 := rfl
theorem jt_106_m103 : jt 106 (-103) = some 3 := rfl
theorem jt_106_m80 : jt 106 (-80) = some 26 := rfl
theorem jt_106_7 : jt 106 7 = some 113 := rfl
theorem jt_107_4 : jt 107 4 = some 111 := rfl
theorem jt_107_39 : jt 107 39 = some 146 := rfl
theorem jt_108_m67 : jt 108 (-67) = some 41 := rfl
theorem jt_108_19 : jt 108 19 = some 127 := rfl
theorem jt_109_7 : jt 109 7 = some 116 := rfl
theorem jt_109_13 : jt 109 13 = some 122 := rfl
theorem jt_110_m31 : jt 110 (-31) = some 79 := rfl
theorem jt_110_7 : jt 110 7 = some 117 := rfl
theorem jt_110_13 : jt 110 13 = some 123 := rfl
theorem jt_110_34 : jt 110 34 = some 144 := rfl
theorem jt_111_m51 : jt 111 (-51) = some 60 := rfl
theorem jt_112_6 : jt 112 6 = some 118 := rfl
theorem jt_112_7 : jt 112 7 = some 119 := rfl
theorem jt_113_6 : jt 113 6 = some 119 := rfl
theorem jt_113_7 : jt 113 7 = some 120 := rfl
theorem jt_114_7 : jt 114 7 = some 121 := rfl
theorem jt_114_21 : jt 114 21 = some 135 := rfl
theorem jt_115_49 : jt 115 49 = some 164 := rfl
theorem jt_116_m26 : jt 116 (-26) = some 90 := rfl
theorem jt_116_4 : jt 116 4 = some 120 := rfl
theorem jt_116_24 : jt 116 24 = some 140 := rfl
theorem jt_117_m67 : jt 117 (-67) = some 50 := rfl
theorem jt_117_m35 : jt 117 (-35) = some 82 := rfl
theorem jt_117_12 : jt 117 12 = some 129 := rfl
theorem jt_118_4 : jt 118 4 = some 122 := rfl
theorem jt_118_28 : jt 118 28 = some 146 := rfl
theorem jt_119_20 : jt 119 20 = some 139 := rfl
theorem jt_122_5 : jt 122 5 = some 127 := rfl
theorem jt_123_m83 : jt 123 (-83) = some 40 := rfl
theorem jt_124_4 : jt 124 4 = some 128 := rfl
theorem jt_124_17 : jt 124 17 = some 141 := rfl
theorem jt_125_7 : jt 125 7 = some 132 := rfl
theorem jt_126_8 : jt 126 8 = some 134 := rfl
theorem jt_129_7 : jt 129 7 = some 136 := rfl
theorem jt_130_m108 : jt 130 (-108) = some 22 := rfl
theorem jt_131_7 : jt 131 7 = some 138 := rfl
theorem jt_132_7 : jt 132 7 = some 139 := rfl
theorem jt_136_14 : jt 136 14 = some 150 := rfl
theorem jt_137_7 : jt 137 7 = some 144 := rfl
theorem jt_138_m19 : jt 138 (-19) = some 119 := rfl
theorem jt_138_27 : jt 138 27 = some 165 := rfl
theorem jt_141_4 : jt 141 4 = some 145 := rfl
theorem jt_141_7 : jt 141 7 = some 148 := rfl
theorem jt_145_7 : jt 145 7 = some 152 := rfl
theorem jt_146_12 : jt 146 12 = some 158 := rfl
theorem jt_149_m71 : jt 149 (-71) = some 78 := rfl
theorem jt_149_6 : jt 149 6 = some 155 := rfl
theorem jt_149_7 : jt 149 7 = some 156 := rfl
theorem jt_151_20 : jt 151 20 = some 171 := rfl
theorem jt_152_18 : jt 152 18 = some 170 := rfl
theorem jt_153_4 : jt 153 4 = some 157 := rfl
theorem jt_155_8 : jt 155 8 = some 163 := rfl
theorem jt_157_7 : jt 157 7 = some 164 := rfl
theorem jt_158_6 : jt 158 6 = some 164 := rfl
theorem jt_159_m72 : jt 159 (-72) = some 87 := rfl
theorem jt_160_7 : jt 160 7 = some 167 := rfl
theorem jt_161_7 : jt 161 7 = some 168 := rfl
theorem jt_162_m29 : jt 162 (-29) = some 133 := rfl
theorem jt_167_m83 : jt 167 (-83) = some 84 := rfl
theorem jt_167_31 : jt 167 31 = some 198 := rfl
theorem jt_168_5 : jt 168 5 = some 173 := rfl
theorem jt_173_m144 : jt 173 (-144) = some 29 := rfl
theorem jt_173_7 : jt 173 7 = some 180 := rfl
theorem jt_174_25 : jt 174 25 = some 199 := rfl
theorem jt_176_m126 : jt 176 (-126) = some 50 := rfl
theorem jt_177_8 : jt 177 8 = some 185 := rfl
theorem jt_178_8 : jt 178 8 = some 186 := rfl
theorem jt_178_14 : jt 178 14 = some 192 := rfl
theorem jt_179_m137 : jt 179 (-137) = some 42 := rfl
theorem jt_179_18 : jt 179 18 = some 197 := rfl
theorem jt_183_m176 : jt 183 (-176) = some 7 := rfl
theorem jt_183_4 : jt 183 4 = some 187 := rfl
theorem jt_183_7 : jt 183 7 = some 190 := rfl
theorem jt_187_4 : jt 187 4 = some 191 := rfl
theorem jt_194_4 : jt 194 4 = some 198 := rfl
theorem jt_195_m31 : jt 195 (-31) = some 164 := rfl
theorem jt_196_m27 : jt 196 (-27) = some 169 := rfl
theorem jt_225_25 : jt 225 25 = some 250 := rfl
theorem jt_236_14 : jt 236 14 = some 250 := rfl
theorem jt_247_4 : jt 247 4 = some 251 := rfl
theorem g_0_0 {k : aK} {pc : Nat} {ls : aL} {r : List aV} {S : aS} : wGet (some (11, 0)) k pc ls (.inr (.inr 0) :: r) S = k pc ls (.inr (.inr 1) :: r) S := e_getR (by decide) rfl rfl
theorem g_0_1 {k : aK} {pc : Nat} {ls : aL} {r : List aV} {S : aS} : wGet (some (11, 1)) k pc ls (.inr (.inr 0) :: r) S = k pc ls (.inr (.inr 3) :: r) S := e_getR (by decide) rfl rfl
theorem g_0_2 {k : aK} {pc : Nat} {ls : aL} {r : List aV} {S : aS} : wGet (some (11, 2)) k pc ls (.inr (.inr 0) :: r) S = k pc ls (.inr (.inr 11) :: r) S := e_getR (by decide) rfl rfl
theorem g_0_3 {k : aK} {pc : Nat} {ls : aL} {r : List aV} {S : aS} : wGet (some (11, 3)) k pc ls (.inr (.inr 0) :: r) S = k pc ls (.inr (.inr 14) :: r) S := e_getR (by decide) rfl rfl
theorem g_0_4 {k : aK} {pc : Nat} {ls : aL} {r : List aV} {S : aS} : wGet (some (11, 4)) k pc ls (.inr (.inr 0) :: r) S = k pc ls (.inr (.inr 81) :: r) S := e_getR (by decide) rfl rfl
theorem g_0_5 {k : aK} {pc : Nat} {ls : aL} {r : List aV} {S : aS} : wGet (some (11, 5)) k pc ls (.inr (.inr 0) :: r) S = k pc ls (.inr (.inr 208) :: r) S := e_getR (by decide) rfl rfl
theorem g_0_6 {k : aK} {pc : Nat} {ls : aL} {r : List aV} {S : aS} : wGet (some (11, 6)) k pc ls (.inr (.inr 0) :: r) S = k pc ls (.inr (.inr 211) :: r) S := e_getR (by decide) rfl rfl
theorem g_0_7 {k : aK} {pc : Nat} {ls : aL} {r : List aV} {S : aS} : wGet (some (11, 7)) k pc ls (.inr (.inr 0) :: r) S = k pc ls (.inr (.inr 219) :: r) S := e_getR (by decide) rfl rfl
theorem g_0_8 {k : aK} {pc : Nat} {ls : aL} {r : List aV} {S : aS} : wGet (some (11, 8)) k pc ls (.inr (.inr 0) :: r) S = k pc ls (.inr (.inr 222) :: r) S := e_getR (by decide) rfl rfl
theorem g_0_9 {k : aK} {pc : Nat} {ls : aL} {r : List aV} {S : aS} : wGet (some (11, 9)) k pc ls (.inr (.inr 0) :: r) S = k pc ls (.inr (.inr 242) :: r) S := e_getR (by decide) rfl rfl
theorem cv_0 {k : aK} {pc : Nat} {ls : aL} {r : List aV} {S : aS} {sp : aSp} {as : List aV} (h : few r = true) : wCallo (some 11) sp true (some (.inr (.inr 0) :: as, r)) k pc ls S = sp (.inr (.inr 0) :: as) S (fun v S' => k pc ls (v.toList ++ r) S') := e_callV (by decide) rfl h
theorem g_1_0 {k : aK} {pc : Nat} {ls : aL} {r : List aV} {S : aS} : wGet (some (8, 0)) k pc ls (.inr (.inr 1) :: r) S = k pc ls (.inr (.inr 2) :: r) S := e_getR (by decide) rfl rfl
theorem g_1_1 {k : aK} {pc : Nat} {ls : aL} {r : List aV} {S : aS} : wGet (some (8, 1)) k pc ls (.inr (.inr 1) :: r) S = k pc ls (.inl (S.1 1 1) :: r) S := e_getI (by decide) rfl rfl
theorem p_1_1 {k : aK} {pc : Nat} {ls : aL} {r : List aV} {S : aS} {v : Int} : wPut (some (8, 1)) k pc ls (.inl v :: .inr (.inr 1) :: r) S = k pc ls r (upI S 1 1 v) := e_putI (by decide) rfl rfl
theorem cv_1 {k : aK} {pc : Nat} {ls : aL} {r : List aV} {S : aS} {sp : aSp} {as : List aV} (h : few r = true) : wCallo (some 8) sp true (some (.inr (.inr 1) :: as, r)) k pc ls S = sp (.inr (.inr 1) :: as) S (fun v S' => k pc ls (v.toList ++ r) S') := e_callV (by decide) rfl h
theorem l_2 {k : aK} {pc : Nat} {ls : aL} {r : List aV} {S : aS} {a v : Int} : wAld (fun t => t == 0) k pc ls (.inl a :: .inr (.inr 2) :: r) S = (0 ≤ a ∧ a < 40 ∧ k pc ls (.inl (S.1 2 a.toNat) :: r) S) := e_ald (by decide) rfl rfl
theorem s_2 {k : aK} {pc : Nat} {ls : aL} {r : List aV} {S : aS} {a v : Int} : wAst k pc ls (.inl v :: .inl a :: .inr (.inr 2) :: r) S = (0 ≤ a ∧ a < 40 ∧ k pc ls r (upI S 2 a.toNat v)) := e_ast (by decide) rfl rfl
theorem n_2 {k : aK} {pc : Nat} {ls : aL} {r : List aV} {S : aS} {a v : Int} : wAln k pc ls (.inr (.inr 2) :: r) S = k pc ls (.inl 40 :: r) S := e_aln (by decide) (by decide) (by decide) rfl
theorem g_3_0 {k : aK} {pc : Nat} {ls : aL} {r : List aV} {S : aS} : wGet (some (0, 0)) k pc ls (.inr (.inr 3) :: r) S = k pc ls (.inr (.inr 4) :: r) S := e_getR (by decide) rfl rfl
theorem g_3_1 {k : aK} {pc : Nat} {ls : aL} {r : List aV} {S : aS} : wGet (some (0, 1)) k pc ls (.inr (.inr 3) :: r) S = k pc ls (.inr (.inr 5) :: r) S := e_getR (by decide) rfl rfl
theorem g_3_2 {k : aK} {pc : Nat} {ls : aL} {r : List aV} {S : aS} : wGet (some (0, 2)) k pc ls (.inr (.inr 3) :: r) S = k pc ls (.inr (.inr 6) :: r) S := e_getR (by decide) rfl rfl
theorem g_3_3 {k : aK} {pc : Nat} {ls : aL} {r : List aV} {S : aS} : wGet (some (0, 3)) k pc ls (.inr (.inr 3) :: r) S = k pc ls (.inr (.inr 7) :: r) S := e_getR (by decide) rfl rfl
theorem g_3_4 {k : aK} {pc : Nat} {ls : aL} {r : List aV} {S : aS} : wGet (some (0, 4)) k pc ls (.inr (.inr 3) :: r) S = k pc ls (.inr (.inr 8) :: r) S := e_getR (by decide) rfl rfl
theorem g_3_5 {k : aK} {pc : Nat} {ls : aL} {r : List aV} {S : aS} : wGet (some (0, 5)) k pc ls (.inr (.inr 3) :: r) S = k pc ls (.inr (.inr 9) :: r) S := e_getR (by decide) rfl rfl
theorem g_3_6 {k : aK} {pc : Nat} {ls : aL} {r : List aV} {S : aS} : wGet (some (0, 6)) k pc ls (.inr (.inr 3) :: r) S = k pc ls (.inr (.inr 10) :: r) S := e_getR (by decide) rfl rfl
theorem g_3_7 {k : aK} {pc : Nat} {ls : aL} {r : List aV} {S : aS} : wGet (some (0, 7)) k pc ls (.inr (.inr 3) :: r) S = k pc ls (.inl (S.1 3 7) :: r) S := e_getI (by decide) rfl rfl
theorem p_3_7 {k : aK} {pc : Nat} {ls : aL} {r : List aV} {S : aS} {v : Int} : wPut (some (0, 7)) k pc ls (.inl v :: .inr (.inr 3) :: r) S = k pc ls r (upI S 3 7 v) := e_putI (by decide) rfl rfl
theorem g_3_8 {k : aK} {pc : Nat} {ls : aL} {r : List aV} {S : aS} : wGet (some (0, 8)) k pc ls (.inr (.inr 3) :: r) S = k pc ls (.inl (S.1 3 8) :: r) S := e_getI (by decide) rfl rfl
theorem p_3_8 {k : aK} {pc : Nat} {ls : aL} {r : List aV} {S : aS} {v : Int} : wPut (some (0, 8)) k pc ls (.inl v :: .inr (.inr 3) :: r) S = k pc ls r (upI S 3 8 v) := e_putI (by decide) rfl rfl
theorem cv_3 {k : aK} {pc : Nat} {ls : aL} {r : List aV} {S : aS} {sp : aSp} {as : List aV} (h : few r = true) : wCallo (some 0) sp true (some (.inr (.inr 3) :: as, r)) k pc ls S = sp (.inr (.inr 3) :: as) S (fun v S' => k pc ls (v.toList ++ r) S') := e_callV (by decide) rfl h
theorem l_4 {k : aK} {pc : Nat} {ls : aL} {r : List aV} {S : aS} {a v : Int} : wAld (fun t => t == 0) k pc ls (.inl a :: .inr (.inr 4) :: r) S = (0 ≤ a ∧ a < 30 ∧ k pc ls (.inl (S.1 4 a.toNat) :: r) S) := e_ald (by decide) rfl rfl
theorem s_4 {k : aK} {pc : Nat} {ls : aL} {r : List aV} {S : aS} {a v : Int} : wAst k pc ls (.inl v :: .inl a :: .inr (.inr 4) :: r) S = (0 ≤ a ∧ a < 30 ∧ k pc ls r (upI S 4 a.toNat v)) := e_ast (by decide) rfl rfl
theorem n_4 {k : aK} {pc : Nat} {ls : aL} {r : List aV} {S : aS} {a v : Int} : wAln k pc ls (.inr (.inr 4) :: r) S = k pc ls (.inl 30 :: r) S := e_aln (by decide) (by decide) (by decide) rfl
theorem l_5 {k : aK} {pc : Nat} {ls : aL} {r : List aV} {S : aS} {a v : Int} : wAld (fun t => t == 0) k pc ls (.inl a :: .inr (.inr 5) :: r) S = (0 ≤ a ∧ a < 30 ∧ k pc ls (.inl (S.1 5 a.toNat) :: r) S) := e_ald (by decide) rfl rfl
theorem s_5 {k : aK} {pc : Nat} {ls : aL} {r : List aV} {S : aS} {a v : Int} : wAst k pc ls (.inl v :: .inl a :: .inr (.inr 5) :: r) S = (0 ≤ a ∧ a < 30 ∧ k pc ls r (upI S 5 a.toNat v)) := e_ast (by decide) rfl rfl
theorem n_5 {k : aK} {pc : Nat} {ls : aL} {r : List aV} {S : aS} {a v : Int} : wAln k pc ls (.inr (.inr 5) :: r) S = k pc ls (.inl 30 :: r) S := e_aln (by decide) (by decide) (by decide) rfl
theorem l_6 {k : aK} {pc : Nat} {ls : aL} {r : List aV} {S : aS} {a v : Int} : wAld (fun t => t == 0) k pc ls (.inl a :: .inr (.inr 6) :: r) S = (0 ≤ a ∧ a < 30 ∧ k pc ls (.inl (S.1 6 a.toNat) :: r) S) := e_ald (by decide) rfl rfl
theorem s_6 {k : aK} {pc : Nat} {ls : aL} {r : List aV} {S : aS} {a v : Int} : wAst k pc ls (.inl v :: .inl a :: .inr (.inr 6) :: r) S = (0 ≤ a ∧ a < 30 ∧ k pc ls r (upI S 6 a.toNat v)) := e_ast (by decide) rfl rfl
theorem n_6 {k : aK} {pc : Nat} {ls : aL} {r : List aV} {S : aS} {a v : Int} : wAln k pc ls (.inr (.inr 6) :: r) S = k pc ls (.inl 30 :: r) S := e_aln (by decide) (by decide) (by decide) rfl
theorem l_7 {k : aK} {pc : Nat} {ls : aL} {r : List aV} {S : aS} {a v : Int} : wAld (fun t => t == 0) k pc ls (.inl a :: .inr (.inr 7) :: r) S = (0 ≤ a ∧ a < 30 ∧ k pc ls (.inl (S.1 7 a.toNat) :: r) S) := e_ald (by decide) rfl rfl
theorem s_7 {k : aK} {pc : Nat} {ls : aL} {r : List aV} {S : aS} {a v : Int} : wAst k pc ls (.inl v :: .inl a :: .inr (.inr 7) :: r) S = (0 ≤ a ∧ a < 30 ∧ k pc ls r (upI S 7 a.toNat v)) := e_ast (by decide) rfl rfl
theorem n_7 {k : aK} {pc : Nat} {ls : aL} {r : List aV} {S : aS} {a v : Int} : wAln k pc ls (.inr (.inr 7) :: r) S = k pc ls (.inl 30 :: r) S := e_aln (by decide) (by decide) (by decide) rfl
theorem l_8 {k : aK} {pc : Nat} {ls : aL} {r : List aV} {S : aS} {a v : Int} : wAld (fun t => t == 0) k pc ls (.inl a :: .inr (.inr 8) :: r) S = (0 ≤ a ∧ a < 30 ∧ k pc ls (.inl (S.1 8 a.toNat) :: r) S) := e_ald (by decide) rfl rfl
theorem s_8 {k : aK} {pc : Nat} {ls : aL} {r : List aV} {S : aS} {a v : Int} : wAst k pc ls (.inl v :: .inl a :: .inr (.inr 8) :: r) S = (0 ≤ a ∧ a < 30 ∧ k pc ls r (upI S 8 a.toNat v)) := e_ast (by decide) rfl rfl
theorem n_8 {k : aK} {pc : Nat} {ls : aL} {r : List aV} {S : aS} {a v : Int} : wAln k pc ls (.inr (.inr 8) :: r) S = k pc ls (.inl 30 :: r) S := e_aln (by decide) (by decide) (by decide) rfl
theorem l_9 {k : aK} {pc : Nat} {ls : aL} {r : List aV} {S : aS} {a v : Int} : wAld (fun t => t == 0) k pc ls (.inl a :: .inr (.inr 9) :: r) S = (0 ≤ a ∧ a < 60 ∧ k pc ls (.inl (S.1 9 a.toNat) :: r) S) := e_ald (by decide) rfl rfl
theorem s_9 {k : aK} {pc : Nat} {ls : aL} {r : List aV} {S : aS} {a v : Int} : wAst k pc ls (.inl v :: .inl a :: .inr (.inr 9) :: r) S = (0 ≤ a ∧ a < 60 ∧ k pc ls r (upI S 9 a.toNat v)) := e_ast (by decide) rfl rfl
theorem n_9 {k : aK} {pc : Nat} {ls : aL} {r : List aV} {S : aS} {a v : Int} : wAln k pc ls (.inr (.inr 9) :: r) S = k pc ls (.inl 60 :: r) S := e_aln (by decide) (by decide) (by decide) rfl
theorem l_10 {k : aK} {pc : Nat} {ls : aL} {r : List aV} {S : aS} {a v : Int} : wAld (fun t => t == 0) k pc ls (.inl a :: .inr (.inr 10) :: r) S = (0 ≤ a ∧ a < 60 ∧ k pc ls (.inl (S.1 10 a.toNat) :: r) S) := e_ald (by decide) rfl rfl
theorem s_10 {k : aK} {pc : Nat} {ls : aL} {r : List aV} {S : aS} {a v : Int} : wAst k pc ls (.inl v :: .inl a :: .inr (.inr 10) :: r) S = (0 ≤ a ∧ a < 60 ∧ k pc ls r (upI S 10 a.toNat v)) := e_ast (by decide) rfl rfl
theorem n_10 {k : aK} {pc : Nat} {ls : aL} {r : List aV} {S : aS} {a v : Int} : wAln k pc ls (.inr (.inr 10) :: r) S = k pc ls (.inl 60 :: r) S := e_aln (by decide) (by decide) (by decide) rfl
theorem g_11_0 {k : aK} {pc : Nat} {ls : aL} {r : List aV} {S : aS} : wGet (some (5, 0)) k pc ls (.inr (.inr 11) :: r) S = k pc ls (.inr (.inr 12) :: r) S := e_getR (by decide) rfl rfl
theorem g_11_1 {k : aK} {pc : Nat} {ls : aL} {r : List aV} {S : aS} : wGet (some (5, 1)) k pc ls (.inr (.inr 11) :: r) S = k pc ls (.inr (.inr 13) :: r) S := e_getR (by decide) rfl rfl
theorem g_11_2 {k : aK} {pc : Nat} {ls : aL} {r : List aV} {S : aS} : wGet (some (5, 2)) k pc ls (.inr (.inr 11) :: r) S = k pc ls (.inl (S.1 11 2) :: r) S := e_getI (by decide) rfl rfl
theorem p_11_2 {k : aK} {pc : Nat} {ls : aL} {r : List aV} {S : aS} {v : Int} : wPut (some (5, 2)) k pc ls (.inl v :: .inr (.inr 11) :: r) S = k pc ls r (upI S 11 2 v) := e_putI (by decide) rfl rfl
theorem cv_11 {k : aK} {pc : Nat} {ls : aL} {r : List aV} {S : aS} {sp : aSp} {as : List aV} (h : few r = true) : wCallo (some 5) sp true (some (.inr (.inr 11) :: as, r)) k pc ls S = sp (.inr (.inr 11) :: as) S (fun v S' => k pc ls (v.toList ++ r) S') := e_callV (by decide) rfl h
theorem l_12 {k : aK} {pc : Nat} {ls : aL} {r : List aV} {S : aS} {a v : Int} : wAll k pc ls (.inl a :: .inr (.inr 12) :: r) S = (0 ≤ a ∧ a < 10 ∧ k pc ls (.inr (.inl (S.2 12 a.toNat)) :: r) S) := e_all (by decide) rfl rfl
theorem s_12 {k : aK} {pc : Nat} {ls : aL} {r : List aV} {S : aS} {a v : Int} : wLst k pc ls (.inr (.inl v) :: .inl a :: .inr (.inr 12) :: r) S = (0 ≤ a ∧ a < 10 ∧ k pc ls r (upL S 12 a.toNat v)) := e_lst (by decide) rfl rfl
theorem n_12 {k : aK} {pc : Nat} {ls : aL} {r : List aV} {S : aS} {a v : Int} : wAln k pc ls (.inr (.inr 12) :: r) S = k pc ls (.inl 10 :: r) S := e_aln (by decide) (by decide) (by decide) rfl
theorem l_13 {k : aK} {pc : Nat} {ls : aL} {r : List aV} {S : aS} {a v : Int} : wAll k pc ls (.inl a :: .inr (.inr 13) :: r) S = (0 ≤ a ∧ a < 10 ∧ k pc ls (.inr (.inl (S.2 13 a.toNat)) :: r) S) := e_all (by decide) rfl rfl
theorem s_13 {k : aK} {pc : Nat} {ls : aL} {r : List aV} {S : aS} {a v : Int} : wLst k pc ls (.inr (.inl v) :: .inl a :: .inr (.inr 13) :: r) S = (0 ≤ a ∧ a < 10 ∧ k pc ls r (upL S 13 a.toNat v)) := e_lst (by decide) rfl rfl
theorem n_13 {k : aK} {pc : Nat} {ls : aL} {r : List aV} {S : aS} {a v : Int} : wAln k pc ls (.inr (.inr 13) :: r) S = k pc ls (.inl 10 :: r) S := e_aln (by decide) (by decide) (by decide) rfl
theorem g_14_0 {k : aK} {pc : Nat} {ls : aL} {r : List aV} {S : aS} : wGet (some (2, 0)) k pc ls (.inr (.inr 14) :: r) S = k pc ls (.inr (.inr 15) :: r) S := e_getR (by decide) rfl rfl
theorem g_14_1 {k : aK} {pc : Nat} {ls : aL} {r : List aV} {S : aS} : wGet (some (2, 1)) k pc ls (.inr (.inr 14) :: r) S = k pc ls (.inr (.inr 16) :: r) S := e_getR (by decide) rfl rfl
theorem g_14_2 {k : aK} {pc : Nat} {ls : aL} {r : List aV} {S : aS} : wGet (some (2, 2)) k pc ls (.inr (.inr 14) :: r) S = k pc ls (.inr (.inr 17) :: r) S := e_getR (by decide) rfl rfl
theorem g_14_3 {k : aK} {pc : Nat} {ls : aL} {r : List aV} {S : aS} : wGet (some (2, 3)) k pc ls (.inr (.inr 14) :: r) S = k pc ls (.inr (.inr 18) :: r) S := e_getR (by decide) rfl rfl
theorem g_14_4 {k : aK} {pc : Nat} {ls : aL} {r : List aV} {S : aS} : wGet (some (2, 4)) k pc ls (.inr (.inr 14) :: r) S = k pc ls (.inl (S.1 14 4) :: r) S := e_getI (by decide) rfl rfl
theorem p_14_4 {k : aK} {pc : Nat} {ls : aL} {r : List aV} {S : aS} {v : Int} : wPut (some (2, 4)) k pc ls (.inl v :: .inr (.inr 14) :: r) S = k pc ls r (upI S 14 4 v) := e_putI (by decide) rfl rfl
theorem cv_14 {k : aK} {pc : Nat} {ls : aL} {r : List aV} {S : aS} {sp : aSp} {as : List aV} (h : few r = true) : wCallo (some 2) sp true (some (.inr (.inr 14) :: as, r)) k pc ls S = sp (.inr (.inr 14) :: as) S (fun v S' => k pc ls (v.toList ++ r) S') := e_callV (by decide) rfl h
theorem l_15 {k : aK} {pc : Nat} {ls : aL} {r : List aV} {S : aS} {a v : Int} : wAld (fun t => t == 0) k pc ls (.inl a :: .inr (.inr 15) :: r) S = (0 ≤ a ∧ a < 12 ∧ k pc ls (.inl (S.1 15 a.toNat) :: r) S) := e_ald (by decide) rfl rfl
theorem s_15 {k : aK} {pc : Nat} {ls : aL} {r : List aV} {S : aS} {a v : Int} : wAst k pc ls (.inl v :: .inl a :: .inr (.inr 15) :: r) S = (0 ≤ a ∧ a < 12 ∧ k pc ls r (upI S 15 a.toNat v)) := e_ast (by decide) rfl rfl
theorem n_15 {k : aK} {pc : Nat} {ls : aL} {r : List aV} {S : aS} {a v : Int} : wAln k pc ls (.inr (.inr 15) :: r) S = k pc ls (.inl 12 :: r) S := e_aln (by decide) (by decide) (by decide) rfl
theorem l_16 {k : aK} {pc : Nat} {ls : aL} {r : List aV} {S : aS} {a v : Int} : wAld (fun t => t == 0) k pc ls (.inl a :: .inr (.inr 16) :: r) S = (0 ≤ a ∧ a < 60 ∧ k pc ls (.inl (S.1 16 a.toNat) :: r) S) := e_ald (by decide) rfl rfl
theorem s_16 {k : aK} {pc : Nat} {ls : aL} {r : List aV} {S : aS} {a v : Int} : wAst k pc ls (.inl v :: .inl a :: .inr (.inr 16) :: r) S = (0 ≤ a ∧ a < 60 ∧ k pc ls r (upI S 16 a.toNat v)) := e_ast (by decide) rfl rfl
theorem n_16 {k : aK} {pc : Nat} {ls : aL} {r : List aV} {S : aS} {a v : Int} : wAln k pc ls (.inr (.inr 16) :: r) S = k pc ls (.inl 60 :: r) S := e_aln (by decide) (by decide) (by decide) rfl
theorem l_17 {k : aK} {pc : Nat} {ls : aL} {r : List aV} {S : aS} {a v : Int} : wAld (fun t => t == 0) k pc ls (.inl a :: .inr (.inr 17) :: r) S = (0 ≤ a ∧ a < 60 ∧ k pc ls (.inl (S.1 17 a.toNat) :: r) S) := e_ald (by decide) rfl rfl
theorem s_17 {k : aK} {pc : Nat} {ls : aL} {r : List aV} {S : aS} {a v : Int} : wAst k pc ls (.inl v :: .inl a :: .inr (.inr 17) :: r) S = (0 ≤ a ∧ a < 60 ∧ k pc ls r (upI S 17 a.toNat v)) := e_ast (by decide) rfl rfl
theorem n_17 {k : aK} {pc : Nat} {ls : aL} {r : List aV} {S : aS} {a v : Int} : wAln k pc ls (.inr (.inr 17) :: r) S = k pc ls (.inl 60 :: r) S := e_aln (by decide) (by decide) (by decide) rfl
theorem g_18_0 {k : aK} {pc : Nat} {ls : aL} {r : List aV} {S : aS} : wGet (some (10, 0)) k pc ls (.inr (.inr 18) :: r) S = k pc ls (.inr (.inr 11) :: r) S := e_getR (by decide) rfl rfl
theorem g_18_1 {k : aK} {pc : Nat} {ls : aL} {r : List aV} {S : aS} : wGet (some (10, 1)) k pc ls (.inr (.inr 18) :: r) S = k pc ls (.inl (S.1 18 1) :: r) S := e_getI (by decide) rfl rfl
theorem p_18_1 {k : aK} {pc : Nat} {ls : aL} {r : List aV} {S : aS} {v : Int} : wPut (some (10, 1)) k pc ls (.inl v :: .inr (.inr 18) :: r) S = k pc ls r (upI S 18 1 v) := e_putI (by decide) rfl rfl
theorem g_18_2 {k : aK} {pc : Nat} {ls : aL} {r : List aV} {S : aS} : wGet (some (10, 2)) k pc ls (.inr (.inr 18) :: r) S = k pc ls (.inr (.inr 19) :: r) S := e_getR (by decide) rfl rfl
theorem g_18_3 {k : aK} {pc : Nat} {ls : aL} {r : List aV} {S : aS} : wGet (some (10, 3)) k pc ls (.inr (.inr 18) :: r) S = k pc ls (.inr (.inr 80) :: r) S := e_getR (by decide) rfl rfl
theorem cv_18 {k : aK} {pc : Nat} {ls : aL} {r : List aV} {S : aS} {sp : aSp} {as : List aV} (h : few r = true) : wCallo (some 10) sp true (some (.inr (.inr 18) :: as, r)) k pc ls S = sp (.inr (.inr 18) :: as) S (fun v S' => k pc ls (v.toList ++ r) S') := e_callV (by decide) rfl h
theorem l_19 {k : aK} {pc : Nat} {ls : aL} {r : List aV} {S : aS} {a v : Int} : wAlr k pc ls (.inl a :: .inr (.inr 19) :: r) S = (0 ≤ a ∧ a < 60 ∧ k pc ls (.inr (.inr (20 + a.toNat)) :: r) S) := e_alr (by decide) (by decide) rfl rfl
theorem n_19 {k : aK} {pc : Nat} {ls : aL} {r : List aV} {S : aS} {a v : Int} : wAln k pc ls (.inr (.inr 19) :: r) S = k pc ls (.inl 60 :: r) S := e_aln (by decide) (by decide) (by decide) rfl
theorem l_80 {k : aK} {pc : Nat} {ls : aL} {r : List aV} {S : aS} {a v : Int} : wAld (fun t => t == 0) k pc ls (.inl a :: .inr (.inr 80) :: r) S = (0 ≤ a ∧ a < 60 ∧ k pc ls (.inl (S.1 80 a.toNat) :: r) S) := e_ald (by decide) rfl rfl
theorem s_80 {k : aK} {pc : Nat} {ls : aL} {r : List aV} {S : aS} {a v : Int} : wAst k pc ls (.inl v :: .inl a :: .inr (.inr 80) :: r) S = (0 ≤ a ∧ a < 60 ∧ k pc ls r (upI S 80 a.toNat v)) := e_ast (by decide) rfl rfl
theorem n_80 {k : aK} {pc : Nat} {ls : aL} {r : List aV} {S : aS} {a v : Int} : wAln k pc ls (.inr (.inr 80) :: r) S = k pc ls (.inl 60 :: r) S := e_aln (by decide) (by decide) (by decide) rfl
theorem g_81_0 {k : aK} {pc : Nat} {ls : aL} {r : List aV} {S : aS} : wGet (some (7, 0)) k pc ls (.inr (.inr 81) :: r) S = k pc ls (.inr (.inr 82) :: r) S := e_getR (by decide) rfl rfl
theorem g_81_1 {k : aK} {pc : Nat} {ls : aL} {r : List aV} {S : aS} : wGet (some (7, 1)) k pc ls (.inr (.inr 81) :: r) S = k pc ls (.inr (.inr 83) :: r) S := e_getR (by decide) rfl rfl
theorem g_81_2 {k : aK} {pc : Nat} {ls : aL} {r : List aV} {S : aS} : wGet (some (7, 2)) k pc ls (.inr (.inr 81) :: r) S = k pc ls (.inr (.inr 84) :: r) S := e_getR (by decide) rfl rfl
theorem g_81_3 {k : aK} {pc : Nat} {ls : aL} {r : List aV} {S : aS} : wGet (some (7, 3)) k pc ls (.inr (.inr 81) :: r) S = k pc ls (.inr (.inr 85) :: r) S := e_getR (by decide) rfl rfl
theorem g_81_4 {k : aK} {pc : Nat} {ls : aL} {r : List aV} {S : aS} : wGet (some (7, 4)) k pc ls (.inr (.inr 81) :: r) S = k pc ls (.inl (S.1 81 4) :: r) S := e_getI (by decide) rfl rfl
theorem p_81_4 {k : aK} {pc : Nat} {ls : aL} {r : List aV} {S : aS} {v : Int} : wPut (some (7, 4)) k pc ls (.inl v :: .inr (.inr 81) :: r) S = k pc ls r (upI S 81 4 v) := e_putI (by decide) rfl rfl
theorem cv_81 {k : aK} {pc : Nat} {ls : aL} {r : List aV} {S : aS} {sp : aSp} {as : List aV} (h : few r = true) : wCallo (some 7) sp true (some (.inr (.inr 81) :: as, r)) k pc ls S = sp (.inr (.inr 81) :: as) S (fun v S' => k pc ls (v.toList ++ r) S') := e_callV (by decide) rfl h
theorem l_82 {k : aK} {pc : Nat} {ls : aL} {r : List aV} {S : aS} {a v : Int} : wAld (fun t => t == 0) k pc ls (.inl a :: .inr (.inr 82) :: r) S = (0 ≤ a ∧ a < 120 ∧ k pc ls (.inl (S.1 82 a.toNat) :: r) S) := e_ald (by decide) rfl rfl
theorem s_82 {k : aK} {pc : Nat} {ls : aL} {r : List aV} {S : aS} {a v : Int} : wAst k pc ls (.inl v :: .inl a :: .inr (.inr 82) :: r) S = (0 ≤ a ∧ a < 120 ∧ k pc ls r (upI S 82 a.toNat v)) := e_ast (by decide) rfl rfl
theorem n_82 {k : aK} {pc : Nat} {ls : aL} {r : List aV} {S : aS} {a v : Int} : wAln k pc ls (.inr (.inr 82) :: r) S = k pc ls (.inl 120 :: r) S := e_aln (by decide) (by decide) (by decide) rfl
theorem l_83 {k : aK} {pc : Nat} {ls : aL} {r : List aV} {S : aS} {a v : Int} : wAld (fun t => t == 0) k pc ls (.inl a :: .inr (.inr 83) :: r) S = (0 ≤ a ∧ a < 120 ∧ k pc ls (.inl (S.1 83 a.toNat) :: r) S) := e_ald (by decide) rfl rfl
theorem s_83 {k : aK} {pc : Nat} {ls : aL} {r : List aV} {S : aS} {a v : Int} : wAst k pc ls (.inl v :: .inl a :: .inr (.inr 83) :: r) S = (0 ≤ a ∧ a < 120 ∧ k pc ls r (upI S 83 a.toNat v)) := e_ast (by decide) rfl rfl
theorem n_83 {k : aK} {pc : Nat} {ls : aL} {r : List aV} {S : aS} {a v : Int} : wAln k pc ls (.inr (.inr 83) :: r) S = k pc ls (.inl 120 :: r) S := e_aln (by decide) (by decide) (by decide) rfl
theorem l_84 {k : aK} {pc : Nat} {ls : aL} {r : List aV} {S : aS} {a v : Int} : wAld (fun t => t == 0) k pc ls (.inl a :: .inr (.inr 84) :: r) S = (0 ≤ a ∧ a < 120 ∧ k pc ls (.inl (S.1 84 a.toNat) :: r) S) := e_ald (by decide) rfl rfl
theorem s_84 {k : aK} {pc : Nat} {ls : aL} {r : List aV} {S : aS} {a v : Int} : wAst k pc ls (.inl v :: .inl a :: .inr (.inr 84) :: r) S = (0 ≤ a ∧ a < 120 ∧ k pc ls r (upI S 84 a.toNat v)) := e_ast (by decide) rfl rfl
theorem n_84 {k : aK} {pc : Nat} {ls : aL} {r : List aV} {S : aS} {a v : Int} : wAln k pc ls (.inr (.inr 84) :: r) S = k pc ls (.inl 120 :: r) S := e_aln (by decide) (by decide) (by decide) rfl
theorem g_85_0 {k : aK} {pc : Nat} {ls : aL} {r : List aV} {S : aS} : wGet (some (10, 0)) k pc ls (.inr (.inr 85) :: r) S = k pc ls (.inr (.inr 11) :: r) S := e_getR (by decide) rfl rfl
theorem g_85_1 {k : aK} {pc : Nat} {ls : aL} {r : List aV} {S : aS} : wGet (some (10, 1)) k pc ls (.inr (.inr 85) :: r) S = k pc ls (.inl (S.1 85 1) :: r) S := e_getI (by decide) rfl rfl
theorem p_85_1 {k : aK} {pc : Nat} {ls : aL} {r : List aV} {S : aS} {v : Int} : wPut (some (10, 1)) k pc ls (.inl v :: .inr (.inr 85) :: r) S = k pc ls r (upI S 85 1 v) := e_putI (by decide) rfl rfl
theorem g_85_2 {k : aK} {pc : Nat} {ls : aL} {r : List aV} {S : aS} : wGet (some (10, 2)) k pc ls (.inr (.inr 85) :: r) S = k pc ls (.inr (.inr 86) :: r) S := e_getR (by decide) rfl rfl
theorem g_85_3 {k : aK} {pc : Nat} {ls : aL} {r : List aV} {S : aS} : wGet (some (10, 3)) k pc ls (.inr (.inr 85) :: r) S = k pc ls (.inr (.inr 207) :: r) S := e_getR (by decide) rfl rfl
theorem cv_85 {k : aK} {pc : Nat} {ls : aL} {r : List aV} {S : aS} {sp : aSp} {as : List aV} (h : few r = true) : wCallo (some 10) sp true (some (.inr (.inr 85) :: as, r)) k pc ls S = sp (.inr (.inr 85) :: as) S (fun v S' => k pc ls (v.toList ++ r) S') := e_callV (by decide) rfl h
theorem l_86 {k : aK} {pc : Nat} {ls : aL} {r : List aV} {S : aS} {a v : Int} : wAlr k pc ls (.inl a :: .inr (.inr 86) :: r) S = (0 ≤ a ∧ a < 120 ∧ k pc ls (.inr (.inr (87 + a.toNat)) :: r) S) := e_alr (by decide) (by decide) rfl rfl
theorem n_86 {k : aK} {pc : Nat} {ls : aL} {r : List aV} {S : aS} {a v : Int} : wAln k pc ls (.inr (.inr 86) :: r) S = k pc ls (.inl 120 :: r) S := e_aln (by decide) (by decide) (by decide) rfl
theorem l_207 {k : aK} {pc : Nat} {ls : aL} {r : List aV} {S : aS} {a v : Int} : wAld (fun t => t == 0) k pc ls (.inl a :: .inr (.inr 207) :: r) S = (0 ≤ a ∧ a < 120 ∧ k pc ls (.inl (S.1 207 a.toNat) :: r) S) := e_ald (by decide) rfl rfl
theorem s_207 {k : aK} {pc : Nat} {ls : aL} {r : List aV} {S : aS} {a v : Int} : wAst k pc ls (.inl v :: .inl a :: .inr (.inr 207) :: r) S = (0 ≤ a ∧ a < 120 ∧ k pc ls r (upI S 207 a.toNat v)) := e_ast (by decide) rfl rfl
theorem n_207 {k : aK} {pc : Nat} {ls : aL} {r : List aV} {S : aS} {a v : Int} : wAln k pc ls (.inr (.inr 207) :: r) S = k pc ls (.inl 120 :: r) S := e_aln (by decide) (by decide) (by decide) rfl
theorem g_208_0 {k : aK} {pc : Nat} {ls : aL} {r : List aV} {S : aS} : wGet (some (6, 0)) k pc ls (.inr (.inr 208) :: r) S = k pc ls (.inr (.inr 209) :: r) S := e_getR (by decide) rfl rfl
theorem g_208_1 {k : aK} {pc : Nat} {ls : aL} {r : List aV} {S : aS} : wGet (some (6, 1)) k pc ls (.inr (.inr 208) :: r) S = k pc ls (.inr (.inr 210) :: r) S := e_getR (by decide) rfl rfl
theorem cv_208 {k : aK} {pc : Nat} {ls : aL} {r : List aV} {S : aS} {sp : aSp} {as : List aV} (h : few r = true) : wCallo (some 6) sp true (some (.inr (.inr 208) :: as, r)) k pc ls S = sp (.inr (.inr 208) :: as) S (fun v S' => k pc ls (v.toList ++ r) S') := e_callV (by decide) rfl h
theorem l_209 {k : aK} {pc : Nat} {ls : aL} {r : List aV} {S : aS} {a v : Int} : wAld (fun t => t == 0) k pc ls (.inl a :: .inr (.inr 209) :: r) S = (0 ≤ a ∧ a < 40 ∧ k pc ls (.inl (S.1 209 a.toNat) :: r) S) := e_ald (by decide) rfl rfl
theorem s_209 {k : aK} {pc : Nat} {ls : aL} {r : List aV} {S : aS} {a v : Int} : wAst k pc ls (.inl v :: .inl a :: .inr (.inr 209) :: r) S = (0 ≤ a ∧ a < 40 ∧ k pc ls r (upI S 209 a.toNat v)) := e_ast (by decide) rfl rfl
theorem n_209 {k : aK} {pc : Nat} {ls : aL} {r : List aV} {S : aS} {a v : Int} : wAln k pc ls (.inr (.inr 209) :: r) S = k pc ls (.inl 40 :: r) S := e_aln (by decide) (by decide) (by decide) rfl
theorem l_210 {k : aK} {pc : Nat} {ls : aL} {r : List aV} {S : aS} {a v : Int} : wAld (fun t => t == 0) k pc ls (.inl a :: .inr (.inr 210) :: r) S = (0 ≤ a ∧ a < 40 ∧ k pc ls (.inl (S.1 210 a.toNat) :: r) S) := e_ald (by decide) rfl rfl
theorem s_210 {k : aK} {pc : Nat} {ls : aL} {r : List aV} {S : aS} {a v : Int} : wAst k pc ls (.inl v :: .inl a :: .inr (.inr 210) :: r) S = (0 ≤ a ∧ a < 40 ∧ k pc ls r (upI S 210 a.toNat v)) := e_ast (by decide) rfl rfl
theorem n_210 {k : aK} {pc : Nat} {ls : aL} {r : List aV} {S : aS} {a v : Int} : wAln k pc ls (.inr (.inr 210) :: r) S = k pc ls (.inl 40 :: r) S := e_aln (by decide) (by decide) (by decide) rfl
theorem g_211_0 {k : aK} {pc : Nat} {ls : aL} {r : List aV} {S : aS} : wGet (some (9, 0)) k pc ls (.inr (.inr 211) :: r) S = k pc ls (.inr (.inr 3) :: r) S := e_getR (by decide) rfl rfl
theorem g_211_1 {k : aK} {pc : Nat} {ls : aL} {r : List aV} {S : aS} : wGet (some (9, 1)) k pc ls (.inr (.inr 211) :: r) S = k pc ls (.inr (.inr 81) :: r) S := e_getR (by decide) rfl rfl
theorem g_211_2 {k : aK} {pc : Nat} {ls : aL} {r : List aV} {S : aS} : wGet (some (9, 2)) k pc ls (.inr (.inr 211) :: r) S = k pc ls (.inr (.inr 208) :: r) S := e_getR (by decide) rfl rfl
theorem g_211_3 {k : aK} {pc : Nat} {ls : aL} {r : List aV} {S : aS} : wGet (some (9, 3)) k pc ls (.inr (.inr 211) :: r) S = k pc ls (.inr (.inr 212) :: r) S := e_getR (by decide) rfl rfl
theorem g_211_4 {k : aK} {pc : Nat} {ls : aL} {r : List aV} {S : aS} : wGet (some (9, 4)) k pc ls (.inr (.inr 211) :: r) S = k pc ls (.inr (.inr 213) :: r) S := e_getR (by decide) rfl rfl
theorem g_211_5 {k : aK} {pc : Nat} {ls : aL} {r : List aV} {S : aS} : wGet (some (9, 5)) k pc ls (.inr (.inr 211) :: r) S = k pc ls (.inr (.inr 214) :: r) S := e_getR (by decide) rfl rfl
theorem g_211_6 {k : aK} {pc : Nat} {ls : aL} {r : List aV} {S : aS} : wGet (some (9, 6)) k pc ls (.inr (.inr 211) :: r) S = k pc ls (.inr (.inr 215) :: r) S := e_getR (by decide) rfl rfl
theorem g_211_7 {k : aK} {pc : Nat} {ls : aL} {r : List aV} {S : aS} : wGet (some (9, 7)) k pc ls (.inr (.inr 211) :: r) S = k pc ls (.inr (.inr 216) :: r) S := e_getR (by decide) rfl rfl
theorem g_211_8 {k : aK} {pc : Nat} {ls : aL} {r : List aV} {S : aS} : wGet (some (9, 8)) k pc ls (.inr (.inr 211) :: r) S = k pc ls (.inr (.inr 217) :: r) S := e_getR (by decide) rfl rfl
theorem g_211_9 {k : aK} {pc : Nat} {ls : aL} {r : List aV} {S : aS} : wGet (some (9, 9)) k pc ls (.inr (.inr 211) :: r) S = k pc ls (.inr (.inr 218) :: r) S := e_getR (by decide) rfl rfl
theorem cv_211 {k : aK} {pc : Nat} {ls : aL} {r : List aV} {S : aS} {sp : aSp} {as : List aV} (h : few r = true) : wCallo (some 9) sp true (some (.inr (.inr 211) :: as, r)) k pc ls S = sp (.inr (.inr 211) :: as) S (fun v S' => k pc ls (v.toList ++ r) S') := e_callV (by decide) rfl h
theorem l_212 {k : aK} {pc : Nat} {ls : aL} {r : List aV} {S : aS} {a v : Int} : wAld (fun t => t == 0) k pc ls (.inl a :: .inr (.inr 212) :: r) S = (0 ≤ a ∧ a < 40 ∧ k pc ls (.inl (S.1 212 a.toNat) :: r) S) := e_ald (by decide) rfl rfl
theorem s_212 {k : aK} {pc : Nat} {ls : aL} {r : List aV} {S : aS} {a v : Int} : wAst k pc ls (.inl v :: .inl a :: .inr (.inr 212) :: r) S = (0 ≤ a ∧ a < 40 ∧ k pc ls r (upI S 212 a.toNat v)) := e_ast (by decide) rfl rfl
theorem n_212 {k : aK} {pc : Nat} {ls : aL} {r : List aV} {S : aS} {a v : Int} : wAln k pc ls (.inr (.inr 212) :: r) S = k pc ls (.inl 40 :: r) S := e_aln (by decide) (by decide) (by decide) rfl
theorem l_213 {k : aK} {pc : Nat} {ls : aL} {r : List aV} {S : aS} {a v : Int} : wAld (fun t => t == 0) k pc ls (.inl a :: .inr (.inr 213) :: r) S = (0 ≤ a ∧ a < 40 ∧ k pc ls (.inl (S.1 213 a.toNat) :: r) S) := e_ald (by decide) rfl rfl
theorem s_213 {k : aK} {pc : Nat} {ls : aL} {r : List aV} {S : aS} {a v : Int} : wAst k pc ls (.inl v :: .inl a :: .inr (.inr 213) :: r) S = (0 ≤ a ∧ a < 40 ∧ k pc ls r (upI S 213 a.toNat v)) := e_ast (by decide) rfl rfl
theorem n_213 {k : aK} {pc : Nat} {ls : aL} {r : List aV} {S : aS} {a v : Int} : wAln k pc ls (.inr (.inr 213) :: r) S = k pc ls (.inl 40 :: r) S := e_aln (by decide) (by decide) (by decide) rfl
theorem l_214 {k : aK} {pc : Nat} {ls : aL} {r : List aV} {S : aS} {a v : Int} : wAld (fun t => t == 0) k pc ls (.inl a :: .inr (.inr 214) :: r) S = (0 ≤ a ∧ a < 40 ∧ k pc ls (.inl (S.1 214 a.toNat) :: r) S) := e_ald (by decide) rfl rfl
theorem s_214 {k : aK} {pc : Nat} {ls : aL} {r : List aV} {S : aS} {a v : Int} : wAst k pc ls (.inl v :: .inl a :: .inr (.inr 214) :: r) S = (0 ≤ a ∧ a < 40 ∧ k pc ls r (upI S 214 a.toNat v)) := e_ast (by decide) rfl rfl
theorem n_214 {k : aK} {pc : Nat} {ls : aL} {r : List aV} {S : aS} {a v : Int} : wAln k pc ls (.inr (.inr 214) :: r) S = k pc ls (.inl 40 :: r) S := e_aln (by decide) (by decide) (by decide) rfl
theorem l_215 {k : aK} {pc : Nat} {ls : aL} {r : List aV} {S : aS} {a v : Int} : wAld (fun t => t == 0) k pc ls (.inl a :: .inr (.inr 215) :: r) S = (0 ≤ a ∧ a < 40 ∧ k pc ls (.inl (S.1 215 a.toNat) :: r) S) := e_ald (by decide) rfl rfl
theorem s_215 {k : aK} {pc : Nat} {ls : aL} {r : List aV} {S : aS} {a v : Int} : wAst k pc ls (.inl v :: .inl a :: .inr (.inr 215) :: r) S = (0 ≤ a ∧ a < 40 ∧ k pc ls r (upI S 215 a.toNat v)) := e_ast (by decide) rfl rfl
theorem n_215 {k : aK} {pc : Nat} {ls : aL} {r : List aV} {S : aS} {a v : Int} : wAln k pc ls (.inr (.inr 215) :: r) S = k pc ls (.inl 40 :: r) S := e_aln (by decide) (by decide) (by decide) rfl
theorem l_216 {k : aK} {pc : Nat} {ls : aL} {r : List aV} {S : aS} {a v : Int} : wAld (fun t => t == 0) k pc ls (.inl a :: .inr (.inr 216) :: r) S = (0 ≤ a ∧ a < 40 ∧ k pc ls (.inl (S.1 216 a.toNat) :: r) S) := e_ald (by decide) rfl rfl
theorem s_216 {k : aK} {pc : Nat} {ls : aL} {r : List aV} {S : aS} {a v : Int} : wAst k pc ls (.inl v :: .inl a :: .inr (.inr 216) :: r) S = (0 ≤ a ∧ a < 40 ∧ k pc ls r (upI S 216 a.toNat v)) := e_ast (by decide) rfl rfl
theorem n_216 {k : aK} {pc : Nat} {ls : aL} {r : List aV} {S : aS} {a v : Int} : wAln k pc ls (.inr (.inr 216) :: r) S = k pc ls (.inl 40 :: r) S := e_aln (by decide) (by decide) (by decide) rfl
theorem l_217 {k : aK} {pc : Nat} {ls : aL} {r : List aV} {S : aS} {a v : Int} : wAld (fun t => t == 0) k pc ls (.inl a :: .inr (.inr 217) :: r) S = (0 ≤ a ∧ a < 40 ∧ k pc ls (.inl (S.1 217 a.toNat) :: r) S) := e_ald (by decide) rfl rfl
theorem s_217 {k : aK} {pc : Nat} {ls : aL} {r : List aV} {S : aS} {a v : Int} : wAst k pc ls (.inl v :: .inl a :: .inr (.inr 217) :: r) S = (0 ≤ a ∧ a < 40 ∧ k pc ls r (upI S 217 a.toNat v)) := e_ast (by decide) rfl rfl
theorem n_217 {k : aK} {pc : Nat} {ls : aL} {r : List aV} {S : aS} {a v : Int} : wAln k pc ls (.inr (.inr 217) :: r) S = k pc ls (.inl 40 :: r) S := e_aln (by decide) (by decide) (by decide) rfl
theorem l_218 {k : aK} {pc : Nat} {ls : aL} {r : List aV} {S : aS} {a v : Int} : wAld (fun t => t == 0) k pc ls (.inl a :: .inr (.inr 218) :: r) S = (0 ≤ a ∧ a < 40 ∧ k pc ls (.inl (S.1 218 a.toNat) :: r) S) := e_ald (by decide) rfl rfl
theorem s_218 {k : aK} {pc : Nat} {ls : aL} {r : List aV} {S : aS} {a v : Int} : wAst k pc ls (.inl v :: .inl a :: .inr (.inr 218) :: r) S = (0 ≤ a ∧ a < 40 ∧ k pc ls r (upI S 218 a.toNat v)) := e_ast (by decide) rfl rfl
theorem n_218 {k : aK} {pc : Nat} {ls : aL} {r : List aV} {S : aS} {a v : Int} : wAln k pc ls (.inr (.inr 218) :: r) S = k pc ls (.inl 40 :: r) S := e_aln (by decide) (by decide) (by decide) rfl
theorem g_219_0 {k : aK} {pc : Nat} {ls : aL} {r : List aV} {S : aS} : wGet (some (3, 0)) k pc ls (.inr (.inr 219) :: r) S = k pc ls (.inr (.inr 220) :: r) S := e_getR (by decide) rfl rfl
theorem g_219_1 {k : aK} {pc : Nat} {ls : aL} {r : List aV} {S : aS} : wGet (some (3, 1)) k pc ls (.inr (.inr 219) :: r) S = k pc ls (.inr (.inr 221) :: r) S := e_getR (by decide) rfl rfl
theorem g_219_2 {k : aK} {pc : Nat} {ls : aL} {r : List aV} {S : aS} : wGet (some (3, 2)) k pc ls (.inr (.inr 219) :: r) S = k pc ls (.inl (S.1 219 2) :: r) S := e_getI (by decide) rfl rfl
theorem p_219_2 {k : aK} {pc : Nat} {ls : aL} {r : List aV} {S : aS} {v : Int} : wPut (some (3, 2)) k pc ls (.inl v :: .inr (.inr 219) :: r) S = k pc ls r (upI S 219 2 v) := e_putI (by decide) rfl rfl
theorem cv_219 {k : aK} {pc : Nat} {ls : aL} {r : List aV} {S : aS} {sp : aSp} {as : List aV} (h : few r = true) : wCallo (some 3) sp true (some (.inr (.inr 219) :: as, r)) k pc ls S = sp (.inr (.inr 219) :: as) S (fun v S' => k pc ls (v.toList ++ r) S') := e_callV (by decide) rfl h
theorem l_220 {k : aK} {pc : Nat} {ls : aL} {r : List aV} {S : aS} {a v : Int} : wAld (fun t => t == 0) k pc ls (.inl a :: .inr (.inr 220) :: r) S = (0 ≤ a ∧ a < 20 ∧ k pc ls (.inl (S.1 220 a.toNat) :: r) S) := e_ald (by decide) rfl rfl
theorem s_220 {k : aK} {pc : Nat} {ls : aL} {r : List aV} {S : aS} {a v : Int} : wAst k pc ls (.inl v :: .inl a :: .inr (.inr 220) :: r) S = (0 ≤ a ∧ a < 20 ∧ k pc ls r (upI S 220 a.toNat v)) := e_ast (by decide) rfl rfl
theorem n_220 {k : aK} {pc : Nat} {ls : aL} {r : List aV} {S : aS} {a v : Int} : wAln k pc ls (.inr (.inr 220) :: r) S = k pc ls (.inl 20 :: r) S := e_aln (by decide) (by decide) (by decide) rfl
theorem l_221 {k : aK} {pc : Nat} {ls : aL} {r : List aV} {S : aS} {a v : Int} : wAld (fun t => t == 0) k pc ls (.inl a :: .inr (.inr 221) :: r) S = (0 ≤ a ∧ a < 20 ∧ k pc ls (.inl (S.1 221 a.toNat) :: r) S) := e_ald (by decide) rfl rfl
theorem s_221 {k : aK} {pc : Nat} {ls : aL} {r : List aV} {S : aS} {a v : Int} : wAst k pc ls (.inl v :: .inl a :: .inr (.inr 221) :: r) S = (0 ≤ a ∧ a < 20 ∧ k pc ls r (upI S 221 a.toNat v)) := e_ast (by decide) rfl rfl
theorem n_221 {k : aK} {pc : Nat} {ls : aL} {r : List aV} {S : aS} {a v : Int} : wAln k pc ls (.inr (.inr 221) :: r) S = k pc ls (.inl 20 :: r) S := e_aln (by decide) (by decide) (by decide) rfl
theorem g_222_0 {k : aK} {pc : Nat} {ls : aL} {r : List aV} {S : aS} : wGet (some (1, 0)) k pc ls (.inr (.inr 222) :: r) S = k pc ls (.inr (.inr 81) :: r) S := e_getR (by decide) rfl rfl
theorem g_222_1 {k : aK} {pc : Nat} {ls : aL} {r : List aV} {S : aS} : wGet (some (1, 1)) k pc ls (.inr (.inr 222) :: r) S = k pc ls (.inr (.inr 223) :: r) S := e_getR (by decide) rfl rfl
theorem g_222_2 {k : aK} {pc : Nat} {ls : aL} {r : List aV} {S : aS} : wGet (some (1, 2)) k pc ls (.inr (.inr 222) :: r) S = k pc ls (.inr (.inr 224) :: r) S := e_getR (by decide) rfl rfl
theorem g_222_3 {k : aK} {pc : Nat} {ls : aL} {r : List aV} {S : aS} : wGet (some (1, 3)) k pc ls (.inr (.inr 222) :: r) S = k pc ls (.inr (.inr 233) :: r) S := e_getR (by decide) rfl rfl
theorem g_222_4 {k : aK} {pc : Nat} {ls : aL} {r : List aV} {S : aS} : wGet (some (1, 4)) k pc ls (.inr (.inr 222) :: r) S = k pc ls (.inl (S.1 222 4) :: r) S := e_getI (by decide) rfl rfl
theorem p_222_4 {k : aK} {pc : Nat} {ls : aL} {r : List aV} {S : aS} {v : Int} : wPut (some (1, 4)) k pc ls (.inl v :: .inr (.inr 222) :: r) S = k pc ls r (upI S 222 4 v) := e_putI (by decide) rfl rfl
theorem cv_222 {k : aK} {pc : Nat} {ls : aL} {r : List aV} {S : aS} {sp : aSp} {as : List aV} (h : few r = true) : wCallo (some 1) sp true (some (.inr (.inr 222) :: as, r)) k pc ls S = sp (.inr (.inr 222) :: as) S (fun v S' => k pc ls (v.toList ++ r) S') := e_callV (by decide) rfl h
theorem l_223 {k : aK} {pc : Nat} {ls : aL} {r : List aV} {S : aS} {a v : Int} : wAld (fun t => t == 0) k pc ls (.inl a :: .inr (.inr 223) :: r) S = (0 ≤ a ∧ a < 8 ∧ k pc ls (.inl (S.1 223 a.toNat) :: r) S) := e_ald (by decide) rfl rfl
theorem s_223 {k : aK} {pc : Nat} {ls : aL} {r : List aV} {S : aS} {a v : Int} : wAst k pc ls (.inl v :: .inl a :: .inr (.inr 223) :: r) S = (0 ≤ a ∧ a < 8 ∧ k pc ls r (upI S 223 a.toNat v)) := e_ast (by decide) rfl rfl
theorem n_223 {k : aK} {pc : Nat} {ls : aL} {r : List aV} {S : aS} {a v : Int} : wAln k pc ls (.inr (.inr 223) :: r) S = k pc ls (.inl 8 :: r) S := e_aln (by decide) (by decide) (by decide) rfl
theorem l_224 {k : aK} {pc : Nat} {ls : aL} {r : List aV} {S : aS} {a v : Int} : wAlr k pc ls (.inl a :: .inr (.inr 224) :: r) S = (0 ≤ a ∧ a < 8 ∧ k pc ls (.inr (.inr (225 + a.toNat)) :: r) S) := e_alr (by decide) (by decide) rfl rfl
theorem n_224 {k : aK} {pc : Nat} {ls : aL} {r : List aV} {S : aS} {a v : Int} : wAln k pc ls (.inr (.inr 224) :: r) S = k pc ls (.inl 8 :: r) S := e_aln (by decide) (by decide) (by decide) rfl
theorem l_233 {k : aK} {pc : Nat} {ls : aL} {r : List aV} {S : aS} {a v : Int} : wAlr k pc ls (.inl a :: .inr (.inr 233) :: r) S = (0 ≤ a ∧ a < 8 ∧ k pc ls (.inr (.inr (234 + a.toNat)) :: r) S) := e_alr (by decide) (by decide) rfl rfl
theorem n_233 {k : aK} {pc : Nat} {ls : aL} {r : List aV} {S : aS} {a v : Int} : wAln k pc ls (.inr (.inr 233) :: r) S = k pc ls (.inl 8 :: r) S := e_aln (by decide) (by decide) (by decide) rfl
theorem g_242_0 {k : aK} {pc : Nat} {ls : aL} {r : List aV} {S : aS} : wGet (some (4, 0)) k pc ls (.inr (.inr 242) :: r) S = k pc ls (.inr (.inr 14) :: r) S := e_getR (by decide) rfl rfl
theorem g_242_1 {k : aK} {pc : Nat} {ls : aL} {r : List aV} {S : aS} : wGet (some (4, 1)) k pc ls (.inr (.inr 242) :: r) S = k pc ls (.inr (.inr 81) :: r) S := e_getR (by decide) rfl rfl
theorem g_242_2 {k : aK} {pc : Nat} {ls : aL} {r : List aV} {S : aS} : wGet (some (4, 2)) k pc ls (.inr (.inr 242) :: r) S = k pc ls (.inr (.inr 208) :: r) S := e_getR (by decide) rfl rfl
theorem g_242_3 {k : aK} {pc : Nat} {ls : aL} {r : List aV} {S : aS} : wGet (some (4, 3)) k pc ls (.inr (.inr 242) :: r) S = k pc ls (.inr (.inr 211) :: r) S := e_getR (by decide) rfl rfl
theorem g_242_4 {k : aK} {pc : Nat} {ls : aL} {r : List aV} {S : aS} : wGet (some (4, 4)) k pc ls (.inr (.inr 242) :: r) S = k pc ls (.inr (.inr 219) :: r) S := e_getR (by decide) rfl rfl
theorem g_242_5 {k : aK} {pc : Nat} {ls : aL} {r : List aV} {S : aS} : wGet (some (4, 5)) k pc ls (.inr (.inr 242) :: r) S = k pc ls (.inr (.inr 243) :: r) S := e_getR (by decide) rfl rfl
theorem g_242_6 {k : aK} {pc : Nat} {ls : aL} {r : List aV} {S : aS} : wGet (some (4, 6)) k pc ls (.inr (.inr 242) :: r) S = k pc ls (.inr (.inr 244) :: r) S := e_getR (by decide) rfl rfl
theorem g_242_7 {k : aK} {pc : Nat} {ls : aL} {r : List aV} {S : aS} : wGet (some (4, 7)) k pc ls (.inr (.inr 242) :: r) S = k pc ls (.inl (S.1 242 7) :: r) S := e_getI (by decide) rfl rfl
theorem p_242_7 {k : aK} {pc : Nat} {ls : aL} {r : List aV} {S : aS} {v : Int} : wPut (some (4, 7)) k pc ls (.inl v :: .inr (.inr 242) :: r) S = k pc ls r (upI S 242 7 v) := e_putI (by decide) rfl rfl
theorem cv_242 {k : aK} {pc : Nat} {ls : aL} {r : List aV} {S : aS} {sp : aSp} {as : List aV} (h : few r = true) : wCallo (some 4) sp true (some (.inr (.inr 242) :: as, r)) k pc ls S = sp (.inr (.inr 242) :: as) S (fun v S' => k pc ls (v.toList ++ r) S') := e_callV (by decide) rfl h
theorem l_243 {k : aK} {pc : Nat} {ls : aL} {r : List aV} {S : aS} {a v : Int} : wAld (fun t => t == 1 || t == 2) k pc ls (.inl a :: .inr (.inr 243) :: r) S = (0 ≤ a ∧ a < 8000 ∧ k pc ls (.inl (S.1 243 a.toNat) :: r) S) := e_ald (by decide) rfl rfl
theorem s_243 {k : aK} {pc : Nat} {ls : aL} {r : List aV} {S : aS} {a v : Int} : wBst k pc ls (.inl v :: .inl a :: .inr (.inr 243) :: r) S = (0 ≤ a ∧ a < 8000 ∧ k pc ls r (upI S 243 a.toNat (narB v))) := e_bst (by decide) rfl rfl
theorem n_243 {k : aK} {pc : Nat} {ls : aL} {r : List aV} {S : aS} {a v : Int} : wAln k pc ls (.inr (.inr 243) :: r) S = k pc ls (.inl 8000 :: r) S := e_aln (by decide) (by decide) (by decide) rfl
theorem l_244 {k : aK} {pc : Nat} {ls : aL} {r : List aV} {S : aS} {a v : Int} : wAld (fun t => t == 0) k pc ls (.inl a :: .inr (.inr 244) :: r) S = (0 ≤ a ∧ a < 40 ∧ k pc ls (.inl (S.1 244 a.toNat) :: r) S) := e_ald (by decide) rfl rfl
theorem s_244 {k : aK} {pc : Nat} {ls : aL} {r : List aV} {S : aS} {a v : Int} : wAst k pc ls (.inl v :: .inl a :: .inr (.inr 244) :: r) S = (0 ≤ a ∧ a < 40 ∧ k pc ls r (upI S 244 a.toNat v)) := e_ast (by decide) rfl rfl
theorem n_244 {k : aK} {pc : Nat} {ls : aL} {r : List aV} {S : aS} {a v : Int} : wAln k pc ls (.inr (.inr 244) :: r) S = k pc ls (.inl 40 :: r) S := e_aln (by decide) (by decide) (by decide) rfl
theorem g_245_0 {k : aK} {pc : Nat} {ls : aL} {r : List aV} {S : aS} : wGet (some (12, 0)) k pc ls (.inr (.inr 245) :: r) S = k pc ls (.inr (.inr 246) :: r) S := e_getR (by decide) rfl rfl
theorem g_245_1 {k : aK} {pc : Nat} {ls : aL} {r : List aV} {S : aS} : wGet (some (12, 1)) k pc ls (.inr (.inr 245) :: r) S = k pc ls (.inr (.inr 247) :: r) S := e_getR (by decide) rfl rfl
theorem g_245_2 {k : aK} {pc : Nat} {ls : aL} {r : List aV} {S : aS} : wGet (some (12, 2)) k pc ls (.inr (.inr 245) :: r) S = k pc ls (.inl (S.1 245 2) :: r) S := e_getI (by decide) rfl rfl
theorem p_245_2 {k : aK} {pc : Nat} {ls : aL} {r : List aV} {S : aS} {v : Int} : wPut (some (12, 2)) k pc ls (.inl v :: .inr (.inr 245) :: r) S = k pc ls r (upI S 245 2 v) := e_putI (by decide) rfl rfl
theorem g_245_3 {k : aK} {pc : Nat} {ls : aL} {r : List aV} {S : aS} : wGet (some (12, 3)) k pc ls (.inr (.inr 245) :: r) S = k pc ls (.inl (S.1 245 3) :: r) S := e_getI (by decide) rfl rfl
theorem p_245_3 {k : aK} {pc : Nat} {ls : aL} {r : List aV} {S : aS} {v : Int} : wPut (some (12, 3)) k pc ls (.inl v :: .inr (.inr 245) :: r) S = k pc ls r (upI S 245 3 v) := e_putI (by decide) rfl rfl
theorem g_245_4 {k : aK} {pc : Nat} {ls : aL} {r : List aV} {S : aS} : wGet (some (12, 4)) k pc ls (.inr (.inr 245) :: r) S = k pc ls (.inl (S.1 245 4) :: r) S := e_getI (by decide) rfl rfl
theorem p_245_4 {k : aK} {pc : Nat} {ls : aL} {r : List aV} {S : aS} {v : Int} : wPut (some (12, 4)) k pc ls (.inl v :: .inr (.inr 245) :: r) S = k pc ls r (upI S 245 4 v) := e_putI (by decide) rfl rfl
theorem g_245_5 {k : aK} {pc : Nat} {ls : aL} {r : List aV} {S : aS} : wGet (some (12, 5)) k pc ls (.inr (.inr 245) :: r) S = k pc ls (.inr (.inr 248) :: r) S := e_getR (by decide) rfl rfl
theorem g_245_6 {k : aK} {pc : Nat} {ls : aL} {r : List aV} {S : aS} : wGet (some (12, 6)) k pc ls (.inr (.inr 245) :: r) S = k pc ls (.inr (.inr 249) :: r) S := e_getR (by decide) rfl rfl
theorem g_245_7 {k : aK} {pc : Nat} {ls : aL} {r : List aV} {S : aS} : wGet (some (12, 7)) k pc ls (.inr (.inr 245) :: r) S = k pc ls (.inr (.inr 250) :: r) S := e_getR (by decide) rfl rfl
theorem g_245_8 {k : aK} {pc : Nat} {ls : aL} {r : List aV} {S : aS} : wGet (some (12, 8)) k pc ls (.inr (.inr 245) :: r) S = k pc ls (.inr (.inr 251) :: r) S := e_getR (by decide) rfl rfl
theorem g_245_9 {k : aK} {pc : Nat} {ls : aL} {r : List aV} {S : aS} : wGet (some (12, 9)) k pc ls (.inr (.inr 245) :: r) S = k pc ls (.inr (.inr 252) :: r) S := e_getR (by decide) rfl rfl
theorem g_245_10 {k : aK} {pc : Nat} {ls : aL} {r : List aV} {S : aS} : wGet (some (12, 10)) k pc ls (.inr (.inr 245) :: r) S = k pc ls (.inr (.inr 253) :: r) S := e_getR (by decide) rfl rfl
theorem g_245_11 {k : aK} {pc : Nat} {ls : aL} {r : List aV} {S : aS} : wGet (some (12, 11)) k pc ls (.inr (.inr 245) :: r) S = k pc ls (.inr (.inr 254) :: r) S := e_getR (by decide) rfl rfl
theorem g_245_12 {k : aK} {pc : Nat} {ls : aL} {r : List aV} {S : aS} : wGet (some (12, 12)) k pc ls (.inr (.inr 245) :: r) S = k pc ls (.inl (S.1 245 12) :: r) S := e_getI (by decide) rfl rfl
theorem p_245_12 {k : aK} {pc : Nat} {ls : aL} {r : List aV} {S : aS} {v : Int} : wPut (some (12, 12)) k pc ls (.inl v :: .inr (.inr 245) :: r) S = k pc ls r (upI S 245 12 v) := e_putI (by decide) rfl rfl
theorem g_245_13 {k : aK} {pc : Nat} {ls : aL} {r : List aV} {S : aS} : wGet (some (12, 13)) k pc ls (.inr (.inr 245) :: r) S = k pc ls (.inl (S.1 245 13) :: r) S := e_getI (by decide) rfl rfl
theorem p_245_13 {k : aK} {pc : Nat} {ls : aL} {r : List aV} {S : aS} {v : Int} : wPut (some (12, 13)) k pc ls (.inl v :: .inr (.inr 245) :: r) S = k pc ls r (upI S 245 13 v) := e_putI (by decide) rfl rfl
theorem g_245_14 {k : aK} {pc : Nat} {ls : aL} {r : List aV} {S : aS} : wGet (some (12, 14)) k pc ls (.inr (.inr 245) :: r) S = k pc ls (.inl (S.1 245 14) :: r) S := e_getI (by decide) rfl rfl
theorem p_245_14 {k : aK} {pc : Nat} {ls : aL} {r : List aV} {S : aS} {v : Int} : wPut (some (12, 14)) k pc ls (.inl v :: .inr (.inr 245) :: r) S = k pc ls r (upI S 245 14 v) := e_putI (by decide) rfl rfl
theorem g_245_15 {k : aK} {pc : Nat} {ls : aL} {r : List aV} {S : aS} : wGet (some (12, 15)) k pc ls (.inr (.inr 245) :: r) S = k pc ls (.inr (.inr 255) :: r) S := e_getR (by decide) rfl rfl
theorem g_245_16 {k : aK} {pc : Nat} {ls : aL} {r : List aV} {S : aS} : wGet (some (12, 16)) k pc ls (.inr (.inr 245) :: r) S = k pc ls (.inr (.inr 256) :: r) S := e_getR (by decide) rfl rfl
theorem g_245_17 {k : aK} {pc : Nat} {ls : aL} {r : List aV} {S : aS} : wGet (some (12, 17)) k pc ls (.inr (.inr 245) :: r) S = k pc ls (.inr (.inr 257) :: r) S := e_getR (by decide) rfl rfl
theorem g_245_18 {k : aK} {pc : Nat} {ls : aL} {r : List aV} {S : aS} : wGet (some (12, 18)) k pc ls (.inr (.inr 245) :: r) S = k pc ls (.inr (.inr 258) :: r) S := e_getR (by decide) rfl rfl
theorem g_245_19 {k : aK} {pc : Nat} {ls : aL} {r : List aV} {S : aS} : wGet (some (12, 19)) k pc ls (.inr (.inr 245) :: r) S = k pc ls (.inr (.inr 259) :: r) S := e_getR (by decide) rfl rfl
theorem g_245_20 {k : aK} {pc : Nat} {ls : aL} {r : List aV} {S : aS} : wGet (some (12, 20)) k pc ls (.inr (.inr 245) :: r) S = k pc ls (.inr (.inr 260) :: r) S := e_getR (by decide) rfl rfl
theorem g_245_21 {k : aK} {pc : Nat} {ls : aL} {r : List aV} {S : aS} : wGet (some (12, 21)) k pc ls (.inr (.inr 245) :: r) S = k pc ls (.inr (.inr 261) :: r) S := e_getR (by decide) rfl rfl
theorem g_245_22 {k : aK} {pc : Nat} {ls : aL} {r : List aV} {S : aS} : wGet (some (12, 22)) k pc ls (.inr (.inr 245) :: r) S = k pc ls (.inr (.inr 262) :: r) S := e_getR (by decide) rfl rfl
theorem g_245_23 {k : aK} {pc : Nat} {ls : aL} {r : List aV} {S : aS} : wGet (some (12, 23)) k pc ls (.inr (.inr 245) :: r) S = k pc ls (.inr (.inr 263) :: r) S := e_getR (by decide) rfl rfl
theorem g_245_24 {k : aK} {pc : Nat} {ls : aL} {r : List aV} {S : aS} : wGet (some (12, 24)) k pc ls (.inr (.inr 245) :: r) S = k pc ls (.inr (.inr 264) :: r) S := e_getR (by decide) rfl rfl
theorem g_245_25 {k : aK} {pc : Nat} {ls : aL} {r : List aV} {S : aS} : wGet (some (12, 25)) k pc ls (.inr (.inr 245) :: r) S = k pc ls (.inr (.inr 265) :: r) S := e_getR (by decide) rfl rfl
theorem g_245_26 {k : aK} {pc : Nat} {ls : aL} {r : List aV} {S : aS} : wGet (some (12, 26)) k pc ls (.inr (.inr 245) :: r) S = k pc ls (.inr (.inr 266) :: r) S := e_getR (by decide) rfl rfl
theorem g_245_27 {k : aK} {pc : Nat} {ls : aL} {r : List aV} {S : aS} : wGet (some (12, 27)) k pc ls (.inr (.inr 245) :: r) S = k pc ls (.inr (.inr 267) :: r) S := e_getR (by decide) rfl rfl
theorem g_245_28 {k : aK} {pc : Nat} {ls : aL} {r : List aV} {S : aS} : wGet (some (12, 28)) k pc ls (.inr (.inr 245) :: r) S = k pc ls (.inr (.inr 268) :: r) S := e_getR (by decide) rfl rfl
theorem g_245_29 {k : aK} {pc : Nat} {ls : aL} {r : List aV} {S : aS} : wGet (some (12, 29)) k pc ls (.inr (.inr 245) :: r) S = k pc ls (.inl (S.1 245 29) :: r) S := e_getI (by decide) rfl rfl
theorem p_245_29 {k : aK} {pc : Nat} {ls : aL} {r : List aV} {S : aS} {v : Int} : wPut (some (12, 29)) k pc ls (.inl v :: .inr (.inr 245) :: r) S = k pc ls r (upI S 245 29 v) := e_putI (by decide) rfl rfl
theorem g_245_30 {k : aK} {pc : Nat} {ls : aL} {r : List aV} {S : aS} : wGet (some (12, 30)) k pc ls (.inr (.inr 245) :: r) S = k pc ls (.inr (.inr 269) :: r) S := e_getR (by decide) rfl rfl
theorem g_245_31 {k : aK} {pc : Nat} {ls : aL} {r : List aV} {S : aS} : wGet (some (12, 31)) k pc ls (.inr (.inr 245) :: r) S = k pc ls (.inr (.inr 270) :: r) S := e_getR (by decide) rfl rfl
theorem g_245_32 {k : aK} {pc : Nat} {ls : aL} {r : List aV} {S : aS} : wGet (some (12, 32)) k pc ls (.inr (.inr 245) :: r) S = k pc ls (.inl (S.1 245 32) :: r) S := e_getI (by decide) rfl rfl
theorem p_245_32 {k : aK} {pc : Nat} {ls : aL} {r : List aV} {S : aS} {v : Int} : wPut (some (12, 32)) k pc ls (.inl v :: .inr (.inr 245) :: r) S = k pc ls r (upI S 245 32 v) := e_putI (by decide) rfl rfl
theorem g_245_33 {k : aK} {pc : Nat} {ls : aL} {r : List aV} {S : aS} : wGet (some (12, 33)) k pc ls (.inr (.inr 245) :: r) S = k pc ls (.inl (S.1 245 33) :: r) S := e_getI (by decide) rfl rfl
theorem p_245_33 {k : aK} {pc : Nat} {ls : aL} {r : List aV} {S : aS} {v : Int} : wPut (some (12, 33)) k pc ls (.inl v :: .inr (.inr 245) :: r) S = k pc ls r (upI S 245 33 v) := e_putI (by decide) rfl rfl
theorem g_245_34 {k : aK} {pc : Nat} {ls : aL} {r : List aV} {S : aS} : wGet (some (12, 34)) k pc ls (.inr (.inr 245) :: r) S = k pc ls (.inl (S.1 245 34) :: r) S := e_getI (by decide) rfl rfl
theorem p_245_34 {k : aK} {pc : Nat} {ls : aL} {r : List aV} {S : aS} {v : Int} : wPut (some (12, 34)) k pc ls (.inl v :: .inr (.inr 245) :: r) S = k pc ls r (upI S 245 34 v) := e_putI (by decide) rfl rfl
theorem g_245_35 {k : aK} {pc : Nat} {ls : aL} {r : List aV} {S : aS} : wGet (some (12, 35)) k pc ls (.inr (.inr 245) :: r) S = k pc ls (.inl (S.1 245 35) :: r) S := e_getI (by decide) rfl rfl
theorem p_245_35 {k : aK} {pc : Nat} {ls : aL} {r : List aV} {S : aS} {v : Int} : wPut (some (12, 35)) k pc ls (.inl v :: .inr (.inr 245) :: r) S = k pc ls r (upI S 245 35 v) := e_putI (by decide) rfl rfl
theorem g_245_36 {k : aK} {pc : Nat} {ls : aL} {r : List aV} {S : aS} : wGet (some (12, 36)) k pc ls (.inr (.inr 245) :: r) S = k pc ls (.inl (S.1 245 36) :: r) S := e_getI (by decide) rfl rfl
theorem p_245_36 {k : aK} {pc : Nat} {ls : aL} {r : List aV} {S : aS} {v : Int} : wPut (some (12, 36)) k pc ls (.inl v :: .inr (.inr 245) :: r) S = k pc ls r (upI S 245 36 v) := e_putI (by decide) rfl rfl
theorem g_245_37 {k : aK} {pc : Nat} {ls : aL} {r : List aV} {S : aS} : wGet (some (12, 37)) k pc ls (.inr (.inr 245) :: r) S = k pc ls (.inl (S.1 245 37) :: r) S := e_getI (by decide) rfl rfl
theorem p_245_37 {k : aK} {pc : Nat} {ls : aL} {r : List aV} {S : aS} {v : Int} : wPut (some (12, 37)) k pc ls (.inl v :: .inr (.inr 245) :: r) S = k pc ls r (upI S 245 37 v) := e_putI (by decide) rfl rfl
theorem g_245_38 {k : aK} {pc : Nat} {ls : aL} {r : List aV} {S : aS} : wGet (some (12, 38)) k pc ls (.inr (.inr 245) :: r) S = k pc ls (.inr (.inr 271) :: r) S := e_getR (by decide) rfl rfl
theorem g_245_39 {k : aK} {pc : Nat} {ls : aL} {r : List aV} {S : aS} : wGet (some (12, 39)) k pc ls (.inr (.inr 245) :: r) S = k pc ls (.inr (.inr 272) :: r) S := e_getR (by decide) rfl rfl
theorem g_245_40 {k : aK} {pc : Nat} {ls : aL} {r : List aV} {S : aS} : wGet (some (12, 40)) k pc ls (.inr (.inr 245) :: r) S = k pc ls (.inr (.inr 273) :: r) S := e_getR (by decide) rfl rfl
theorem g_245_41 {k : aK} {pc : Nat} {ls : aL} {r : List aV} {S : aS} : wGet (some (12, 41)) k pc ls (.inr (.inr 245) :: r) S = k pc ls (.inr (.inr 274) :: r) S := e_getR (by decide) rfl rfl
theorem g_245_42 {k : aK} {pc : Nat} {ls : aL} {r : List aV} {S : aS} : wGet (some (12, 42)) k pc ls (.inr (.inr 245) :: r) S = k pc ls (.inl (S.1 245 42) :: r) S := e_getI (by decide) rfl rfl
theorem p_245_42 {k : aK} {pc : Nat} {ls : aL} {r : List aV} {S : aS} {v : Int} : wPut (some (12, 42)) k pc ls (.inl v :: .inr (.inr 245) :: r) S = k pc ls r (upI S 245 42 v) := e_putI (by decide) rfl rfl
theorem g_245_43 {k : aK} {pc : Nat} {ls : aL} {r : List aV} {S : aS} : wGet (some (12, 43)) k pc ls (.inr (.inr 245) :: r) S = k pc ls (.inr (.inr 275) :: r) S := e_getR (by decide) rfl rfl
theorem cv_245 {k : aK} {pc : Nat} {ls : aL} {r : List aV} {S : aS} {sp : aSp} {as : List aV} (h : few r = true) : wCallo (some 12) sp true (some (.inr (.inr 245) :: as, r)) k pc ls S = sp (.inr (.inr 245) :: as) S (fun v S' => k pc ls (v.toList ++ r) S') := e_callV (by decide) rfl h
theorem l_246 {k : aK} {pc : Nat} {ls : aL} {r : List aV} {S : aS} {a v : Int} : wAld (fun t => t == 1 || t == 2) k pc ls (.inl a :: .inr (.inr 246) :: r) S = (0 ≤ a ∧ a < 40 ∧ k pc ls (.inl (S.1 246 a.toNat) :: r) S) := e_ald (by decide) rfl rfl
theorem s_246 {k : aK} {pc : Nat} {ls : aL} {r : List aV} {S : aS} {a v : Int} : wBst k pc ls (.inl v :: .inl a :: .inr (.inr 246) :: r) S = (0 ≤ a ∧ a < 40 ∧ k pc ls r (upI S 246 a.toNat (narB v))) := e_bst (by decide) rfl rfl
theorem n_246 {k : aK} {pc : Nat} {ls : aL} {r : List aV} {S : aS} {a v : Int} : wAln k pc ls (.inr (.inr 246) :: r) S = k pc ls (.inl 40 :: r) S := e_aln (by decide) (by decide) (by decide) rfl
theorem l_247 {k : aK} {pc : Nat} {ls : aL} {r : List aV} {S : aS} {a v : Int} : wAld (fun t => t == 1 || t == 2) k pc ls (.inl a :: .inr (.inr 247) :: r) S = (0 ≤ a ∧ a < 40 ∧ k pc ls (.inl (S.1 247 a.toNat) :: r) S) := e_ald (by decide) rfl rfl
theorem s_247 {k : aK} {pc : Nat} {ls : aL} {r : List aV} {S : aS} {a v : Int} : wBst k pc ls (.inl v :: .inl a :: .inr (.inr 247) :: r) S = (0 ≤ a ∧ a < 40 ∧ k pc ls r (upI S 247 a.toNat (narB v))) := e_bst (by decide) rfl rfl
theorem n_247 {k : aK} {pc : Nat} {ls : aL} {r : List aV} {S : aS} {a v : Int} : wAln k pc ls (.inr (.inr 247) :: r) S = k pc ls (.inl 40 :: r) S := e_aln (by decide) (by decide) (by decide) rfl
theorem l_248 {k : aK} {pc : Nat} {ls : aL} {r : List aV} {S : aS} {a v : Int} : wAld (fun t => t == 0) k pc ls (.inl a :: .inr (.inr 248) :: r) S = (0 ≤ a ∧ a < 30 ∧ k pc ls (.inl (S.1 248 a.toNat) :: r) S) := e_ald (by decide) rfl rfl
theorem s_248 {k : aK} {pc : Nat} {ls : aL} {r : List aV} {S : aS} {a v : Int} : wAst k pc ls (.inl v :: .inl a :: .inr (.inr 248) :: r) S = (0 ≤ a ∧ a < 30 ∧ k pc ls r (upI S 248 a.toNat v)) := e_ast (by decide) rfl rfl
theorem n_248 {k : aK} {pc : Nat} {ls : aL} {r : List aV} {S : aS} {a v : Int} : wAln k pc ls (.inr (.inr 248) :: r) S = k pc ls (.inl 30 :: r) S := e_aln (by decide) (by decide) (by decide) rfl
theorem l_249 {k : aK} {pc : Nat} {ls : aL} {r : List aV} {S : aS} {a v : Int} : wAld (fun t => t == 0) k pc ls (.inl a :: .inr (.inr 249) :: r) S = (0 ≤ a ∧ a < 30 ∧ k pc ls (.inl (S.1 249 a.toNat) :: r) S) := e_ald (by decide) rfl rfl
theorem s_249 {k : aK} {pc : Nat} {ls : aL} {r : List aV} {S : aS} {a v : Int} : wAst k pc ls (.inl v :: .inl a :: .inr (.inr 249) :: r) S = (0 ≤ a ∧ a < 30 ∧ k pc ls r (upI S 249 a.toNat v)) := e_ast (by decide) rfl rfl
theorem n_249 {k : aK} {pc : Nat} {ls : aL} {r : List aV} {S : aS} {a v : Int} : wAln k pc ls (.inr (.inr 249) :: r) S = k pc ls (.inl 30 :: r) S := e_aln (by decide) (by decide) (by decide) rfl
theorem l_250 {k : aK} {pc : Nat} {ls : aL} {r : List aV} {S : aS} {a v : Int} : wAld (fun t => t == 0) k pc ls (.inl a :: .inr (.inr 250) :: r) S = (0 ≤ a ∧ a < 30 ∧ k pc ls (.inl (S.1 250 a.toNat) :: r) S) := e_ald (by decide) rfl rfl
theorem s_250 {k : aK} {pc : Nat} {ls : aL} {r : List aV} {S : aS} {a v : Int} : wAst k pc ls (.inl v :: .inl a :: .inr (.inr 250) :: r) S = (0 ≤ a ∧ a < 30 ∧ k pc ls r (upI S 250 a.toNat v)) := e_ast (by decide) rfl rfl
theorem n_250 {k : aK} {pc : Nat} {ls : aL} {r : List aV} {S : aS} {a v : Int} : wAln k pc ls (.inr (.inr 250) :: r) S = k pc ls (.inl 30 :: r) S := e_aln (by decide) (by decide) (by decide) rfl
theorem l_251 {k : aK} {pc : Nat} {ls : aL} {r : List aV} {S : aS} {a v : Int} : wAld (fun t => t == 0) k pc ls (.inl a :: .inr (.inr 251) :: r) S = (0 ≤ a ∧ a < 30 ∧ k pc ls (.inl (S.1 251 a.toNat) :: r) S) := e_ald (by decide) rfl rfl
theorem s_251 {k : aK} {pc : Nat} {ls : aL} {r : List aV} {S : aS} {a v : Int} : wAst k pc ls (.inl v :: .inl a :: .inr (.inr 251) :: r) S = (0 ≤ a ∧ a < 30 ∧ k pc ls r (upI S 251 a.toNat v)) := e_ast (by decide) rfl rfl
theorem n_251 {k : aK} {pc : Nat} {ls : aL} {r : List aV} {S : aS} {a v : Int} : wAln k pc ls (.inr (.inr 251) :: r) S = k pc ls (.inl 30 :: r) S := e_aln (by decide) (by decide) (by decide) rfl
theorem l_252 {k : aK} {pc : Nat} {ls : aL} {r : List aV} {S : aS} {a v : Int} : wAld (fun t => t == 0) k pc ls (.inl a :: .inr (.inr 252) :: r) S = (0 ≤ a ∧ a < 60 ∧ k pc ls (.inl (S.1 252 a.toNat) :: r) S) := e_ald (by decide) rfl rfl
theorem s_252 {k : aK} {pc : Nat} {ls : aL} {r : List aV} {S : aS} {a v : Int} : wAst k pc ls (.inl v :: .inl a :: .inr (.inr 252) :: r) S = (0 ≤ a ∧ a < 60 ∧ k pc ls r (upI S 252 a.toNat v)) := e_ast (by decide) rfl rfl
theorem n_252 {k : aK} {pc : Nat} {ls : aL} {r : List aV} {S : aS} {a v : Int} : wAln k pc ls (.inr (.inr 252) :: r) S = k pc ls (.inl 60 :: r) S := e_aln (by decide) (by decide) (by decide) rfl
theorem l_253 {k : aK} {pc : Nat} {ls : aL} {r : List aV} {S : aS} {a v : Int} : wAld (fun t => t == 0) k pc ls (.inl a :: .inr (.inr 253) :: r) S = (0 ≤ a ∧ a < 60 ∧ k pc ls (.inl (S.1 253 a.toNat) :: r) S) := e_ald (by decide) rfl rfl
theorem s_253 {k : aK} {pc : Nat} {ls : aL} {r : List aV} {S : aS} {a v : Int} : wAst k pc ls (.inl v :: .inl a :: .inr (.inr 253) :: r) S = (0 ≤ a ∧ a < 60 ∧ k pc ls r (upI S 253 a.toNat v)) := e_ast (by decide) rfl rfl
theorem n_253 {k : aK} {pc : Nat} {ls : aL} {r : List aV} {S : aS} {a v : Int} : wAln k pc ls (.inr (.inr 253) :: r) S = k pc ls (.inl 60 :: r) S := e_aln (by decide) (by decide) (by decide) rfl
theorem l_254 {k : aK} {pc : Nat} {ls : aL} {r : List aV} {S : aS} {a v : Int} : wAld (fun t => t == 1 || t == 2) k pc ls (.inl a :: .inr (.inr 254) :: r) S = (0 ≤ a ∧ a < 900 ∧ k pc ls (.inl (S.1 254 a.toNat) :: r) S) := e_ald (by decide) rfl rfl
theorem s_254 {k : aK} {pc : Nat} {ls : aL} {r : List aV} {S : aS} {a v : Int} : wBst k pc ls (.inl v :: .inl a :: .inr (.inr 254) :: r) S = (0 ≤ a ∧ a < 900 ∧ k pc ls r (upI S 254 a.toNat (narZ v))) := e_zst (by decide) rfl rfl
theorem n_254 {k : aK} {pc : Nat} {ls : aL} {r : List aV} {S : aS} {a v : Int} : wAln k pc ls (.inr (.inr 254) :: r) S = k pc ls (.inl 900 :: r) S := e_aln (by decide) (by decide) (by decide) rfl
theorem l_255 {k : aK} {pc : Nat} {ls : aL} {r : List aV} {S : aS} {a v : Int} : wAld (fun t => t == 0) k pc ls (.inl a :: .inr (.inr 255) :: r) S = (0 ≤ a ∧ a < 120 ∧ k pc ls (.inl (S.1 255 a.toNat) :: r) S) := e_ald (by decide) rfl rfl
theorem s_255 {k : aK} {pc : Nat} {ls : aL} {r : List aV} {S : aS} {a v : Int} : wAst k pc ls (.inl v :: .inl a :: .inr (.inr 255) :: r) S = (0 ≤ a ∧ a < 120 ∧ k pc ls r (upI S 255 a.toNat v)) := e_ast (by decide) rfl rfl
theorem n_255 {k : aK} {pc : Nat} {ls : aL} {r : List aV} {S : aS} {a v : Int} : wAln k pc ls (.inr (.inr 255) :: r) S = k pc ls (.inl 120 :: r) S := e_aln (by decide) (by decide) (by decide) rfl
theorem l_256 {k : aK} {pc : Nat} {ls : aL} {r : List aV} {S : aS} {a v : Int} : wAld (fun t => t == 0) k pc ls (.inl a :: .inr (.inr 256) :: r) S = (0 ≤ a ∧ a < 120 ∧ k pc ls (.inl (S.1 256 a.toNat) :: r) S) := e_ald (by decide) rfl rfl
theorem s_256 {k : aK} {pc : Nat} {ls : aL} {r : List aV} {S : aS} {a v : Int} : wAst k pc ls (.inl v :: .inl a :: .inr (.inr 256) :: r) S = (0 ≤ a ∧ a < 120 ∧ k pc ls r (upI S 256 a.toNat v)) := e_ast (by decide) rfl rfl
theorem n_256 {k : aK} {pc : Nat} {ls : aL} {r : List aV} {S : aS} {a v : Int} : wAln k pc ls (.inr (.inr 256) :: r) S = k pc ls (.inl 120 :: r) S := e_aln (by decide) (by decide) (by decide) rfl
theorem l_257 {k : aK} {pc : Nat} {ls : aL} {r : List aV} {S : aS} {a v : Int} : wAld (fun t => t == 0) k pc ls (.inl a :: .inr (.inr 257) :: r) S = (0 ≤ a ∧ a < 120 ∧ k pc ls (.inl (S.1 257 a.toNat) :: r) S) := e_ald (by decide) rfl rfl
theorem s_257 {k : aK} {pc : Nat} {ls : aL} {r : List aV} {S : aS} {a v : Int} : wAst k pc ls (.inl v :: .inl a :: .inr (.inr 257) :: r) S = (0 ≤ a ∧ a < 120 ∧ k pc ls r (upI S 257 a.toNat v)) := e_ast (by decide) rfl rfl
theorem n_257 {k : aK} {pc : Nat} {ls : aL} {r : List aV} {S : aS} {a v : Int} : wAln k pc ls (.inr (.inr 257) :: r) S = k pc ls (.inl 120 :: r) S := e_aln (by decide) (by decide) (by decide) rfl
theorem l_258 {k : aK} {pc : Nat} {ls : aL} {r : List aV} {S : aS} {a v : Int} : wAll k pc ls (.inl a :: .inr (.inr 258) :: r) S = (0 ≤ a ∧ a < 120 ∧ k pc ls (.inr (.inl (S.2 258 a.toNat)) :: r) S) := e_all (by decide) rfl rfl
theorem s_258 {k : aK} {pc : Nat} {ls : aL} {r : List aV} {S : aS} {a v : Int} : wLst k pc ls (.inr (.inl v) :: .inl a :: .inr (.inr 258) :: r) S = (0 ≤ a ∧ a < 120 ∧ k pc ls r (upL S 258 a.toNat v)) := e_lst (by decide) rfl rfl
theorem n_258 {k : aK} {pc : Nat} {ls : aL} {r : List aV} {S : aS} {a v : Int} : wAln k pc ls (.inr (.inr 258) :: r) S = k pc ls (.inl 120 :: r) S := e_aln (by decide) (by decide) (by decide) rfl
theorem l_259 {k : aK} {pc : Nat} {ls : aL} {r : List aV} {S : aS} {a v : Int} : wAld (fun t => t == 1 || t == 2) k pc ls (.inl a :: .inr (.inr 259) :: r) S = (0 ≤ a ∧ a < 7200 ∧ k pc ls (.inl (S.1 259 a.toNat) :: r) S) := e_ald (by decide) rfl rfl
theorem s_259 {k : aK} {pc : Nat} {ls : aL} {r : List aV} {S : aS} {a v : Int} : wBst k pc ls (.inl v :: .inl a :: .inr (.inr 259) :: r) S = (0 ≤ a ∧ a < 7200 ∧ k pc ls r (upI S 259 a.toNat (narB v))) := e_bst (by decide) rfl rfl
theorem n_259 {k : aK} {pc : Nat} {ls : aL} {r : List aV} {S : aS} {a v : Int} : wAln k pc ls (.inr (.inr 259) :: r) S = k pc ls (.inl 7200 :: r) S := e_aln (by decide) (by decide) (by decide) rfl
theorem l_260 {k : aK} {pc : Nat} {ls : aL} {r : List aV} {S : aS} {a v : Int} : wAld (fun t => t == 0) k pc ls (.inl a :: .inr (.inr 260) :: r) S = (0 ≤ a ∧ a < 12 ∧ k pc ls (.inl (S.1 260 a.toNat) :: r) S) := e_ald (by decide) rfl rfl
theorem s_260 {k : aK} {pc : Nat} {ls : aL} {r : List aV} {S : aS} {a v : Int} : wAst k pc ls (.inl v :: .inl a :: .inr (.inr 260) :: r) S = (0 ≤ a ∧ a < 12 ∧ k pc ls r (upI S 260 a.toNat v)) := e_ast (by decide) rfl rfl
theorem n_260 {k : aK} {pc : Nat} {ls : aL} {r : List aV} {S : aS} {a v : Int} : wAln k pc ls (.inr (.inr 260) :: r) S = k pc ls (.inl 12 :: r) S := e_aln (by decide) (by decide) (by decide) rfl
theorem l_261 {k : aK} {pc : Nat} {ls : aL} {r : List aV} {S : aS} {a v : Int} : wAld (fun t => t == 0) k pc ls (.inl a :: .inr (.inr 261) :: r) S = (0 ≤ a ∧ a < 60 ∧ k pc ls (.inl (S.1 261 a.toNat) :: r) S) := e_ald (by decide) rfl rfl
theorem s_261 {k : aK} {pc : Nat} {ls : aL} {r : List aV} {S : aS} {a v : Int} : wAst k pc ls (.inl v :: .inl a :: .inr (.inr 261) :: r) S = (0 ≤ a ∧ a < 60 ∧ k pc ls r (upI S 261 a.toNat v)) := e_ast (by decide) rfl rfl
theorem n_261 {k : aK} {pc : Nat} {ls : aL} {r : List aV} {S : aS} {a v : Int} : wAln k pc ls (.inr (.inr 261) :: r) S = k pc ls (.inl 60 :: r) S := e_aln (by decide) (by decide) (by decide) rfl
theorem l_262 {k : aK} {pc : Nat} {ls : aL} {r : List aV} {S : aS} {a v : Int} : wAld (fun t => t == 0) k pc ls (.inl a :: .inr (.inr 262) :: r) S = (0 ≤ a ∧ a < 60 ∧ k pc ls (.inl (S.1 262 a.toNat) :: r) S) := e_ald (by decide) rfl rfl
theorem s_262 {k : aK} {pc : Nat} {ls : aL} {r : List aV} {S : aS} {a v : Int} : wAst k pc ls (.inl v :: .inl a :: .inr (.inr 262) :: r) S = (0 ≤ a ∧ a < 60 ∧ k pc ls r (upI S 262 a.toNat v)) := e_ast (by decide) rfl rfl
theorem n_262 {k : aK} {pc : Nat} {ls : aL} {r : List aV} {S : aS} {a v : Int} : wAln k pc ls (.inr (.inr 262) :: r) S = k pc ls (.inl 60 :: r) S := e_aln (by decide) (by decide) (by decide) rfl
theorem l_263 {k : aK} {pc : Nat} {ls : aL} {r : List aV} {S : aS} {a v : Int} : wAll k pc ls (.inl a :: .inr (.inr 263) :: r) S = (0 ≤ a ∧ a < 60 ∧ k pc ls (.inr (.inl (S.2 263 a.toNat)) :: r) S) := e_all (by decide) rfl rfl
theorem s_263 {k : aK} {pc : Nat} {ls : aL} {r : List aV} {S : aS} {a v : Int} : wLst k pc ls (.inr (.inl v) :: .inl a :: .inr (.inr 263) :: r) S = (0 ≤ a ∧ a < 60 ∧ k pc ls r (upL S 263 a.toNat v)) := e_lst (by decide) rfl rfl
theorem n_263 {k : aK} {pc : Nat} {ls : aL} {r : List aV} {S : aS} {a v : Int} : wAln k pc ls (.inr (.inr 263) :: r) S = k pc ls (.inl 60 :: r) S := e_aln (by decide) (by decide) (by decide) rfl
theorem l_264 {k : aK} {pc : Nat} {ls : aL} {r : List aV} {S : aS} {a v : Int} : wAll k pc ls (.inl a :: .inr (.inr 264) :: r) S = (0 ≤ a ∧ a < 10 ∧ k pc ls (.inr (.inl (S.2 264 a.toNat)) :: r) S) := e_all (by decide) rfl rfl
theorem s_264 {k : aK} {pc : Nat} {ls : aL} {r : List aV} {S : aS} {a v : Int} : wLst k pc ls (.inr (.inl v) :: .inl a :: .inr (.inr 264) :: r) S = (0 ≤ a ∧ a < 10 ∧ k pc ls r (upL S 264 a.toNat v)) := e_lst (by decide) rfl rfl
theorem n_264 {k : aK} {pc : Nat} {ls : aL} {r : List aV} {S : aS} {a v : Int} : wAln k pc ls (.inr (.inr 264) :: r) S = k pc ls (.inl 10 :: r) S := e_aln (by decide) (by decide) (by decide) rfl
theorem l_265 {k : aK} {pc : Nat} {ls : aL} {r : List aV} {S : aS} {a v : Int} : wAll k pc ls (.inl a :: .inr (.inr 265) :: r) S = (0 ≤ a ∧ a < 10 ∧ k pc ls (.inr (.inl (S.2 265 a.toNat)) :: r) S) := e_all (by decide) rfl rfl
theorem s_265 {k : aK} {pc : Nat} {ls : aL} {r : List aV} {S : aS} {a v : Int} : wLst k pc ls (.inr (.inl v) :: .inl a :: .inr (.inr 265) :: r) S = (0 ≤ a ∧ a < 10 ∧ k pc ls r (upL S 265 a.toNat v)) := e_lst (by decide) rfl rfl
theorem n_265 {k : aK} {pc : Nat} {ls : aL} {r : List aV} {S : aS} {a v : Int} : wAln k pc ls (.inr (.inr 265) :: r) S = k pc ls (.inl 10 :: r) S := e_aln (by decide) (by decide) (by decide) rfl
theorem l_266 {k : aK} {pc : Nat} {ls : aL} {r : List aV} {S : aS} {a v : Int} : wAld (fun t => t == 1 || t == 2) k pc ls (.inl a :: .inr (.inr 266) :: r) S = (0 ≤ a ∧ a < 40 ∧ k pc ls (.inl (S.1 266 a.toNat) :: r) S) := e_ald (by decide) rfl rfl
theorem s_266 {k : aK} {pc : Nat} {ls : aL} {r : List aV} {S : aS} {a v : Int} : wBst k pc ls (.inl v :: .inl a :: .inr (.inr 266) :: r) S = (0 ≤ a ∧ a < 40 ∧ k pc ls r (upI S 266 a.toNat (narZ v))) := e_zst (by decide) rfl rfl
theorem n_266 {k : aK} {pc : Nat} {ls : aL} {r : List aV} {S : aS} {a v : Int} : wAln k pc ls (.inr (.inr 266) :: r) S = k pc ls (.inl 40 :: r) S := e_aln (by decide) (by decide) (by decide) rfl
theorem l_267 {k : aK} {pc : Nat} {ls : aL} {r : List aV} {S : aS} {a v : Int} : wAld (fun t => t == 0) k pc ls (.inl a :: .inr (.inr 267) :: r) S = (0 ≤ a ∧ a < 40 ∧ k pc ls (.inl (S.1 267 a.toNat) :: r) S) := e_ald (by decide) rfl rfl
theorem s_267 {k : aK} {pc : Nat} {ls : aL} {r : List aV} {S : aS} {a v : Int} : wAst k pc ls (.inl v :: .inl a :: .inr (.inr 267) :: r) S = (0 ≤ a ∧ a < 40 ∧ k pc ls r (upI S 267 a.toNat v)) := e_ast (by decide) rfl rfl
theorem n_267 {k : aK} {pc : Nat} {ls : aL} {r : List aV} {S : aS} {a v : Int} : wAln k pc ls (.inr (.inr 267) :: r) S = k pc ls (.inl 40 :: r) S := e_aln (by decide) (by decide) (by decide) rfl
theorem l_268 {k : aK} {pc : Nat} {ls : aL} {r : List aV} {S : aS} {a v : Int} : wAld (fun t => t == 0) k pc ls (.inl a :: .inr (.inr 268) :: r) S = (0 ≤ a ∧ a < 40 ∧ k pc ls (.inl (S.1 268 a.toNat) :: r) S) := e_ald (by decide) rfl rfl
theorem s_268 {k : aK} {pc : Nat} {ls : aL} {r : List aV} {S : aS} {a v : Int} : wAst k pc ls (.inl v :: .inl a :: .inr (.inr 268) :: r) S = (0 ≤ a ∧ a < 40 ∧ k pc ls r (upI S 268 a.toNat v)) := e_ast (by decide) rfl rfl
theorem n_268 {k : aK} {pc : Nat} {ls : aL} {r : List aV} {S : aS} {a v : Int} : wAln k pc ls (.inr (.inr 268) :: r) S = k pc ls (.inl 40 :: r) S := e_aln (by decide) (by decide) (by decide) rfl
theorem l_269 {k : aK} {pc : Nat} {ls : aL} {r : List aV} {S : aS} {a v : Int} : wAld (fun t => t == 0) k pc ls (.inl a :: .inr (.inr 269) :: r) S = (0 ≤ a ∧ a < 20 ∧ k pc ls (.inl (S.1 269 a.toNat) :: r) S) := e_ald (by decide) rfl rfl
theorem s_269 {k : aK} {pc : Nat} {ls : aL} {r : List aV} {S : aS} {a v : Int} : wAst k pc ls (.inl v :: .inl a :: .inr (.inr 269) :: r) S = (0 ≤ a ∧ a < 20 ∧ k pc ls r (upI S 269 a.toNat v)) := e_ast (by decide) rfl rfl
theorem n_269 {k : aK} {pc : Nat} {ls : aL} {r : List aV} {S : aS} {a v : Int} : wAln k pc ls (.inr (.inr 269) :: r) S = k pc ls (.inl 20 :: r) S := e_aln (by decide) (by decide) (by decide) rfl
theorem l_270 {k : aK} {pc : Nat} {ls : aL} {r : List aV} {S : aS} {a v : Int} : wAld (fun t => t == 0) k pc ls (.inl a :: .inr (.inr 270) :: r) S = (0 ≤ a ∧ a < 20 ∧ k pc ls (.inl (S.1 270 a.toNat) :: r) S) := e_ald (by decide) rfl rfl
theorem s_270 {k : aK} {pc : Nat} {ls : aL} {r : List aV} {S : aS} {a v : Int} : wAst k pc ls (.inl v :: .inl a :: .inr (.inr 270) :: r) S = (0 ≤ a ∧ a < 20 ∧ k pc ls r (upI S 270 a.toNat v)) := e_ast (by decide) rfl rfl
theorem n_270 {k : aK} {pc : Nat} {ls : aL} {r : List aV} {S : aS} {a v : Int} : wAln k pc ls (.inr (.inr 270) :: r) S = k pc ls (.inl 20 :: r) S := e_aln (by decide) (by decide) (by decide) rfl
theorem l_271 {k : aK} {pc : Nat} {ls : aL} {r : List aV} {S : aS} {a v : Int} : wAld (fun t => t == 0) k pc ls (.inl a :: .inr (.inr 271) :: r) S = (0 ≤ a ∧ a < 8 ∧ k pc ls (.inl (S.1 271 a.toNat) :: r) S) := e_ald (by decide) rfl rfl
theorem s_271 {k : aK} {pc : Nat} {ls : aL} {r : List aV} {S : aS} {a v : Int} : wAst k pc ls (.inl v :: .inl a :: .inr (.inr 271) :: r) S = (0 ≤ a ∧ a < 8 ∧ k pc ls r (upI S 271 a.toNat v)) := e_ast (by decide) rfl rfl
theorem n_271 {k : aK} {pc : Nat} {ls : aL} {r : List aV} {S : aS} {a v : Int} : wAln k pc ls (.inr (.inr 271) :: r) S = k pc ls (.inl 8 :: r) S := e_aln (by decide) (by decide) (by decide) rfl
theorem l_272 {k : aK} {pc : Nat} {ls : aL} {r : List aV} {S : aS} {a v : Int} : wAld (fun t => t == 0) k pc ls (.inl a :: .inr (.inr 272) :: r) S = (0 ≤ a ∧ a < 960 ∧ k pc ls (.inl (S.1 272 a.toNat) :: r) S) := e_ald (by decide) rfl rfl
theorem s_272 {k : aK} {pc : Nat} {ls : aL} {r : List aV} {S : aS} {a v : Int} : wAst k pc ls (.inl v :: .inl a :: .inr (.inr 272) :: r) S = (0 ≤ a ∧ a < 960 ∧ k pc ls r (upI S 272 a.toNat v)) := e_ast (by decide) rfl rfl
theorem n_272 {k : aK} {pc : Nat} {ls : aL} {r : List aV} {S : aS} {a v : Int} : wAln k pc ls (.inr (.inr 272) :: r) S = k pc ls (.inl 960 :: r) S := e_aln (by decide) (by decide) (by decide) rfl
theorem l_273 {k : aK} {pc : Nat} {ls : aL} {r : List aV} {S : aS} {a v : Int} : wAld (fun t => t == 0) k pc ls (.inl a :: .inr (.inr 273) :: r) S = (0 ≤ a ∧ a < 960 ∧ k pc ls (.inl (S.1 273 a.toNat) :: r) S) := e_ald (by decide) rfl rfl
theorem s_273 {k : aK} {pc : Nat} {ls : aL} {r : List aV} {S : aS} {a v : Int} : wAst k pc ls (.inl v :: .inl a :: .inr (.inr 273) :: r) S = (0 ≤ a ∧ a < 960 ∧ k pc ls r (upI S 273 a.toNat v)) := e_ast (by decide) rfl rfl
theorem n_273 {k : aK} {pc : Nat} {ls : aL} {r : List aV} {S : aS} {a v : Int} : wAln k pc ls (.inr (.inr 273) :: r) S = k pc ls (.inl 960 :: r) S := e_aln (by decide) (by decide) (by decide) rfl
theorem l_274 {k : aK} {pc : Nat} {ls : aL} {r : List aV} {S : aS} {a v : Int} : wAld (fun t => t == 1 || t == 2) k pc ls (.inl a :: .inr (.inr 274) :: r) S = (0 ≤ a ∧ a < 20000 ∧ k pc ls (.inl (S.1 274 a.toNat) :: r) S) := e_ald (by decide) rfl rfl
theorem s_274 {k : aK} {pc : Nat} {ls : aL} {r : List aV} {S : aS} {a v : Int} : wBst k pc ls (.inl v :: .inl a :: .inr (.inr 274) :: r) S = (0 ≤ a ∧ a < 20000 ∧ k pc ls r (upI S 274 a.toNat (narB v))) := e_bst (by decide) rfl rfl
theorem n_274 {k : aK} {pc : Nat} {ls : aL} {r : List aV} {S : aS} {a v : Int} : wAln k pc ls (.inr (.inr 274) :: r) S = k pc ls (.inl 20000 :: r) S := e_aln (by decide) (by decide) (by decide) rfl
theorem l_275 {k : aK} {pc : Nat} {ls : aL} {r : List aV} {S : aS} {a v : Int} : wAld (fun t => t == 0) k pc ls (.inl a :: .inr (.inr 275) :: r) S = (0 ≤ a ∧ a < 40 ∧ k pc ls (.inl (S.1 275 a.toNat) :: r) S) := e_ald (by decide) rfl rfl
theorem s_275 {k : aK} {pc : Nat} {ls : aL} {r : List aV} {S : aS} {a v : Int} : wAst k pc ls (.inl v :: .inl a :: .inr (.inr 275) :: r) S = (0 ≤ a ∧ a < 40 ∧ k pc ls r (upI S 275 a.toNat v)) := e_ast (by decide) rfl rfl
theorem n_275 {k : aK} {pc : Nat} {ls : aL} {r : List aV} {S : aS} {a v : Int} : wAln k pc ls (.inr (.inr 275) :: r) S = k pc ls (.inl 40 :: r) S := e_aln (by decide) (by decide) (by decide) rfl
end
section
theorem zz_probe : (1 : Nat) = 1 := rfl
end
