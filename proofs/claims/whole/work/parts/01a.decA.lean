theorem dX0_has_0 : decode cX0_has 0 = .ok (.iload_n 1, 1) := by decide +kernel
theorem dX0_has_1 : decode cX0_has 1 = .ok (.ifCond .lt 15, 3) := by decide +kernel
theorem dX0_has_4 : decode cX0_has 4 = .ok (.iload_n 1, 1) := by decide +kernel
theorem dX0_has_5 : decode cX0_has 5 = .ok (.aload_n 0, 1) := by decide +kernel
theorem dX0_has_6 : decode cX0_has 6 = .ok (.getfield 33, 3) := by decide +kernel
theorem dX0_has_9 : decode cX0_has 9 = .ok (.if_icmp .ge 7, 3) := by decide +kernel
theorem dX0_has_12 : decode cX0_has 12 = .ok (.iconst 1, 1) := by decide +kernel
theorem dX0_has_13 : decode cX0_has 13 = .ok (.goto 4, 3) := by decide +kernel
theorem dX0_has_16 : decode cX0_has 16 = .ok (.iconst 0, 1) := by decide +kernel
theorem dX0_has_17 : decode cX0_has 17 = .ok (.ireturn, 1) := by decide +kernel
theorem dX0_add_0 : decode cX0_add 0 = .ok (.aload_n 0, 1) := by decide +kernel
theorem dX0_add_1 : decode cX0_add 1 = .ok (.getfield 33, 3) := by decide +kernel
theorem dX0_add_4 : decode cX0_add 4 = .ok (.istore_n 3, 1) := by decide +kernel
theorem dX0_add_5 : decode cX0_add 5 = .ok (.iload_n 3, 1) := by decide +kernel
theorem dX0_add_6 : decode cX0_add 6 = .ok (.bipush 30, 2) := by decide +kernel
theorem dX0_add_8 : decode cX0_add 8 = .ok (.if_icmp .lt 5, 3) := by decide +kernel
theorem dX0_add_11 : decode cX0_add 11 = .ok (.iconst (-1), 1) := by decide +kernel
theorem dX0_add_12 : decode cX0_add 12 = .ok (.ireturn, 1) := by decide +kernel
theorem dX0_add_13 : decode cX0_add 13 = .ok (.aload_n 0, 1) := by decide +kernel
theorem dX0_add_14 : decode cX0_add 14 = .ok (.getfield 9, 3) := by decide +kernel
theorem dX0_add_17 : decode cX0_add 17 = .ok (.iload_n 3, 1) := by decide +kernel
theorem dX0_add_18 : decode cX0_add 18 = .ok (.iload_n 1, 1) := by decide +kernel
theorem dX0_add_19 : decode cX0_add 19 = .ok (.iastore, 1) := by decide +kernel
theorem dX0_add_20 : decode cX0_add 20 = .ok (.aload_n 0, 1) := by decide +kernel
theorem dX0_add_21 : decode cX0_add 21 = .ok (.getfield 15, 3) := by decide +kernel
theorem dX0_add_24 : decode cX0_add 24 = .ok (.iload_n 3, 1) := by decide +kernel
theorem dX0_add_25 : decode cX0_add 25 = .ok (.iload_n 2, 1) := by decide +kernel
theorem dX0_add_26 : decode cX0_add 26 = .ok (.iastore, 1) := by decide +kernel
theorem dX0_add_27 : decode cX0_add 27 = .ok (.aload_n 0, 1) := by decide +kernel
theorem dX0_add_28 : decode cX0_add 28 = .ok (.getfield 18, 3) := by decide +kernel
theorem dX0_add_31 : decode cX0_add 31 = .ok (.iload_n 3, 1) := by decide +kernel
theorem dX0_add_32 : decode cX0_add 32 = .ok (.iload_n 1, 1) := by decide +kernel
theorem dX0_add_33 : decode cX0_add 33 = .ok (.iastore, 1) := by decide +kernel
theorem dX0_add_34 : decode cX0_add 34 = .ok (.aload_n 0, 1) := by decide +kernel
theorem dX0_add_35 : decode cX0_add 35 = .ok (.getfield 21, 3) := by decide +kernel
theorem dX0_add_38 : decode cX0_add 38 = .ok (.iload_n 3, 1) := by decide +kernel
theorem dX0_add_39 : decode cX0_add 39 = .ok (.iload_n 2, 1) := by decide +kernel
theorem dX0_add_40 : decode cX0_add 40 = .ok (.iastore, 1) := by decide +kernel
theorem dX0_add_41 : decode cX0_add 41 = .ok (.aload_n 0, 1) := by decide +kernel
theorem dX0_add_42 : decode cX0_add 42 = .ok (.dup, 1) := by decide +kernel
theorem dX0_add_43 : decode cX0_add 43 = .ok (.getfield 33, 3) := by decide +kernel
theorem dX0_add_46 : decode cX0_add 46 = .ok (.iconst 1, 1) := by decide +kernel
theorem dX0_add_47 : decode cX0_add 47 = .ok (.iadd, 1) := by decide +kernel
theorem dX0_add_48 : decode cX0_add 48 = .ok (.putfield 33, 3) := by decide +kernel
theorem dX0_add_51 : decode cX0_add 51 = .ok (.iload_n 3, 1) := by decide +kernel
theorem dX0_add_52 : decode cX0_add 52 = .ok (.ireturn, 1) := by decide +kernel
theorem dX0_addBefore_0 : decode cX0_addBefore 0 = .ok (.aload_n 0, 1) := by decide +kernel
theorem dX0_addBefore_1 : decode cX0_addBefore 1 = .ok (.getfield 37, 3) := by decide +kernel
theorem dX0_addBefore_4 : decode cX0_addBefore 4 = .ok (.bipush 60, 2) := by decide +kernel
theorem dX0_addBefore_6 : decode cX0_addBefore 6 = .ok (.if_icmp .ge 12, 3) := by decide +kernel
theorem dX0_addBefore_9 : decode cX0_addBefore 9 = .ok (.aload_n 0, 1) := by decide +kernel
theorem dX0_addBefore_10 : decode cX0_addBefore 10 = .ok (.iload_n 1, 1) := by decide +kernel
theorem dX0_addBefore_11 : decode cX0_addBefore 11 = .ok (.iload_n 2, 1) := by decide +kernel
theorem dX0_addBefore_12 : decode cX0_addBefore 12 = .ok (.invokevirtual 40, 3) := by decide +kernel
theorem dX0_addBefore_15 : decode cX0_addBefore 15 = .ok (.ifCond .eq 5, 3) := by decide +kernel
theorem dX0_addBefore_18 : decode cX0_addBefore 18 = .ok (.iconst 0, 1) := by decide +kernel
theorem dX0_addBefore_19 : decode cX0_addBefore 19 = .ok (.ireturn, 1) := by decide +kernel
theorem dX0_addBefore_20 : decode cX0_addBefore 20 = .ok (.aload_n 0, 1) := by decide +kernel
theorem dX0_addBefore_21 : decode cX0_addBefore 21 = .ok (.getfield 27, 3) := by decide +kernel
theorem dX0_addBefore_24 : decode cX0_addBefore 24 = .ok (.aload_n 0, 1) := by decide +kernel
theorem dX0_addBefore_25 : decode cX0_addBefore 25 = .ok (.getfield 37, 3) := by decide +kernel
theorem dX0_addBefore_28 : decode cX0_addBefore 28 = .ok (.iload_n 1, 1) := by decide +kernel
theorem dX0_addBefore_29 : decode cX0_addBefore 29 = .ok (.iastore, 1) := by decide +kernel
theorem dX0_addBefore_30 : decode cX0_addBefore 30 = .ok (.aload_n 0, 1) := by decide +kernel
theorem dX0_addBefore_31 : decode cX0_addBefore 31 = .ok (.getfield 30, 3) := by decide +kernel
theorem dX0_addBefore_34 : decode cX0_addBefore 34 = .ok (.aload_n 0, 1) := by decide +kernel
theorem dX0_addBefore_35 : decode cX0_addBefore 35 = .ok (.getfield 37, 3) := by decide +kernel
theorem dX0_addBefore_38 : decode cX0_addBefore 38 = .ok (.iload_n 2, 1) := by decide +kernel
theorem dX0_addBefore_39 : decode cX0_addBefore 39 = .ok (.iastore, 1) := by decide +kernel
theorem dX0_addBefore_40 : decode cX0_addBefore 40 = .ok (.aload_n 0, 1) := by decide +kernel
theorem dX0_addBefore_41 : decode cX0_addBefore 41 = .ok (.dup, 1) := by decide +kernel
theorem dX0_addBefore_42 : decode cX0_addBefore 42 = .ok (.getfield 37, 3) := by decide +kernel
theorem dX0_addBefore_45 : decode cX0_addBefore 45 = .ok (.iconst 1, 1) := by decide +kernel
theorem dX0_addBefore_46 : decode cX0_addBefore 46 = .ok (.iadd, 1) := by decide +kernel
theorem dX0_addBefore_47 : decode cX0_addBefore 47 = .ok (.putfield 37, 3) := by decide +kernel
theorem dX0_addBefore_50 : decode cX0_addBefore 50 = .ok (.aload_n 0, 1) := by decide +kernel
theorem dX0_addBefore_51 : decode cX0_addBefore 51 = .ok (.invokevirtual 44, 3) := by decide +kernel
theorem dX0_addBefore_54 : decode cX0_addBefore 54 = .ok (.ifCond .ne 20, 3) := by decide +kernel
theorem dX0_addBefore_57 : decode cX0_addBefore 57 = .ok (.aload_n 0, 1) := by decide +kernel
theorem dX0_addBefore_58 : decode cX0_addBefore 58 = .ok (.dup, 1) := by decide +kernel
theorem dX0_addBefore_59 : decode cX0_addBefore 59 = .ok (.getfield 37, 3) := by decide +kernel
theorem dX0_addBefore_62 : decode cX0_addBefore 62 = .ok (.iconst 1, 1) := by decide +kernel
theorem dX0_addBefore_63 : decode cX0_addBefore 63 = .ok (.isub, 1) := by decide +kernel
theorem dX0_addBefore_64 : decode cX0_addBefore 64 = .ok (.putfield 37, 3) := by decide +kernel
theorem dX0_addBefore_67 : decode cX0_addBefore 67 = .ok (.aload_n 0, 1) := by decide +kernel
theorem dX0_addBefore_68 : decode cX0_addBefore 68 = .ok (.invokevirtual 44, 3) := by decide +kernel
theorem dX0_addBefore_71 : decode cX0_addBefore 71 = .ok (.pop, 1) := by decide +kernel
theorem dX0_addBefore_72 : decode cX0_addBefore 72 = .ok (.iconst 0, 1) := by decide +kernel
theorem dX0_addBefore_73 : decode cX0_addBefore 73 = .ok (.ireturn, 1) := by decide +kernel
theorem dX0_addBefore_74 : decode cX0_addBefore 74 = .ok (.aload_n 0, 1) := by decide +kernel
theorem dX0_addBefore_75 : decode cX0_addBefore 75 = .ok (.iload_n 1, 1) := by decide +kernel
theorem dX0_addBefore_76 : decode cX0_addBefore 76 = .ok (.iload_n 2, 1) := by decide +kernel
theorem dX0_addBefore_77 : decode cX0_addBefore 77 = .ok (.invokevirtual 48, 3) := by decide +kernel
theorem dX0_addBefore_80 : decode cX0_addBefore 80 = .ok (.iconst 1, 1) := by decide +kernel
theorem dX0_addBefore_81 : decode cX0_addBefore 81 = .ok (.ireturn, 1) := by decide +kernel
theorem dX0_wasTold_0 : decode cX0_wasTold 0 = .ok (.iconst 0, 1) := by decide +kernel
theorem dX0_wasTold_1 : decode cX0_wasTold 1 = .ok (.istore_n 3, 1) := by decide +kernel
theorem dX0_wasTold_2 : decode cX0_wasTold 2 = .ok (.iload_n 3, 1) := by decide +kernel
theorem dX0_wasTold_3 : decode cX0_wasTold 3 = .ok (.aload_n 0, 1) := by decide +kernel
theorem dX0_wasTold_4 : decode cX0_wasTold 4 = .ok (.getfield 37, 3) := by decide +kernel
theorem dX0_wasTold_7 : decode cX0_wasTold 7 = .ok (.if_icmp .ge 31, 3) := by decide +kernel
theorem dX0_wasTold_10 : decode cX0_wasTold 10 = .ok (.aload_n 0, 1) := by decide +kernel
theorem dX0_wasTold_11 : decode cX0_wasTold 11 = .ok (.getfield 27, 3) := by decide +kernel
theorem dX0_wasTold_14 : decode cX0_wasTold 14 = .ok (.iload_n 3, 1) := by decide +kernel
theorem dX0_wasTold_15 : decode cX0_wasTold 15 = .ok (.iaload, 1) := by decide +kernel
theorem dX0_wasTold_16 : decode cX0_wasTold 16 = .ok (.iload_n 1, 1) := by decide +kernel
theorem dX0_wasTold_17 : decode cX0_wasTold 17 = .ok (.if_icmp .ne 15, 3) := by decide +kernel
theorem dX0_wasTold_20 : decode cX0_wasTold 20 = .ok (.aload_n 0, 1) := by decide +kernel
theorem dX0_wasTold_21 : decode cX0_wasTold 21 = .ok (.getfield 30, 3) := by decide +kernel
theorem dX0_wasTold_24 : decode cX0_wasTold 24 = .ok (.iload_n 3, 1) := by decide +kernel
theorem dX0_wasTold_25 : decode cX0_wasTold 25 = .ok (.iaload, 1) := by decide +kernel
theorem dX0_wasTold_26 : decode cX0_wasTold 26 = .ok (.iload_n 2, 1) := by decide +kernel
theorem dX0_wasTold_27 : decode cX0_wasTold 27 = .ok (.if_icmp .ne 5, 3) := by decide +kernel
theorem dX0_wasTold_30 : decode cX0_wasTold 30 = .ok (.iconst 1, 1) := by decide +kernel
theorem dX0_wasTold_31 : decode cX0_wasTold 31 = .ok (.ireturn, 1) := by decide +kernel
theorem dX0_wasTold_32 : decode cX0_wasTold 32 = .ok (.iinc 3 1, 3) := by decide +kernel
theorem dX0_wasTold_35 : decode cX0_wasTold 35 = .ok (.goto (-33), 3) := by decide +kernel
theorem dX0_wasTold_38 : decode cX0_wasTold 38 = .ok (.iconst 0, 1) := by decide +kernel
theorem dX0_wasTold_39 : decode cX0_wasTold 39 = .ok (.ireturn, 1) := by decide +kernel
theorem dX0_tighten_0 : decode cX0_tighten 0 = .ok (.iconst 0, 1) := by decide +kernel
theorem dX0_tighten_1 : decode cX0_tighten 1 = .ok (.istore_n 1, 1) := by decide +kernel
theorem dX0_tighten_2 : decode cX0_tighten 2 = .ok (.iload_n 1, 1) := by decide +kernel
theorem dX0_tighten_3 : decode cX0_tighten 3 = .ok (.aload_n 0, 1) := by decide +kernel
theorem dX0_tighten_4 : decode cX0_tighten 4 = .ok (.getfield 33, 3) := by decide +kernel
theorem dX0_tighten_7 : decode cX0_tighten 7 = .ok (.if_icmp .ge 33, 3) := by decide +kernel
theorem dX0_tighten_10 : decode cX0_tighten 10 = .ok (.aload_n 0, 1) := by decide +kernel
theorem dX0_tighten_11 : decode cX0_tighten 11 = .ok (.getfield 18, 3) := by decide +kernel
theorem dX0_tighten_14 : decode cX0_tighten 14 = .ok (.iload_n 1, 1) := by decide +kernel
theorem dX0_tighten_15 : decode cX0_tighten 15 = .ok (.aload_n 0, 1) := by decide +kernel
theorem dX0_tighten_16 : decode cX0_tighten 16 = .ok (.getfield 9, 3) := by decide +kernel
theorem dX0_tighten_19 : decode cX0_tighten 19 = .ok (.iload_n 1, 1) := by decide +kernel
theorem dX0_tighten_20 : decode cX0_tighten 20 = .ok (.iaload, 1) := by decide +kernel
theorem dX0_tighten_21 : decode cX0_tighten 21 = .ok (.iastore, 1) := by decide +kernel
theorem dX0_tighten_22 : decode cX0_tighten 22 = .ok (.aload_n 0, 1) := by decide +kernel
theorem dX0_tighten_23 : decode cX0_tighten 23 = .ok (.getfield 21, 3) := by decide +kernel
theorem dX0_tighten_26 : decode cX0_tighten 26 = .ok (.iload_n 1, 1) := by decide +kernel
theorem dX0_tighten_27 : decode cX0_tighten 27 = .ok (.aload_n 0, 1) := by decide +kernel
theorem dX0_tighten_28 : decode cX0_tighten 28 = .ok (.getfield 15, 3) := by decide +kernel
theorem dX0_tighten_31 : decode cX0_tighten 31 = .ok (.iload_n 1, 1) := by decide +kernel
theorem dX0_tighten_32 : decode cX0_tighten 32 = .ok (.iaload, 1) := by decide +kernel
theorem dX0_tighten_33 : decode cX0_tighten 33 = .ok (.iastore, 1) := by decide +kernel
theorem dX0_tighten_34 : decode cX0_tighten 34 = .ok (.iinc 1 1, 3) := by decide +kernel
theorem dX0_tighten_37 : decode cX0_tighten 37 = .ok (.goto (-35), 3) := by decide +kernel
theorem dX0_tighten_40 : decode cX0_tighten 40 = .ok (.iconst 1, 1) := by decide +kernel
theorem dX0_tighten_41 : decode cX0_tighten 41 = .ok (.istore_n 1, 1) := by decide +kernel
theorem dX0_tighten_42 : decode cX0_tighten 42 = .ok (.iconst 0, 1) := by decide +kernel
theorem dX0_tighten_43 : decode cX0_tighten 43 = .ok (.istore_n 2, 1) := by decide +kernel
theorem dX0_tighten_44 : decode cX0_tighten 44 = .ok (.iload_n 1, 1) := by decide +kernel
theorem dX0_tighten_45 : decode cX0_tighten 45 = .ok (.ifCond .eq 20, 3) := by decide +kernel
theorem dX0_tighten_48 : decode cX0_tighten 48 = .ok (.iload_n 2, 1) := by decide +kernel
theorem dX0_tighten_49 : decode cX0_tighten 49 = .ok (.bipush 30, 2) := by decide +kernel
theorem dX0_tighten_51 : decode cX0_tighten 51 = .ok (.if_icmp .ge 14, 3) := by decide +kernel
theorem dX0_tighten_54 : decode cX0_tighten 54 = .ok (.aload_n 0, 1) := by decide +kernel
theorem dX0_tighten_55 : decode cX0_tighten 55 = .ok (.invokevirtual 52, 3) := by decide +kernel
theorem dX0_tighten_58 : decode cX0_tighten 58 = .ok (.istore_n 1, 1) := by decide +kernel
theorem dX0_tighten_59 : decode cX0_tighten 59 = .ok (.iinc 2 1, 3) := by decide +kernel
theorem dX0_tighten_62 : decode cX0_tighten 62 = .ok (.goto (-18), 3) := by decide +kernel
theorem dX0_tighten_65 : decode cX0_tighten 65 = .ok (.iload_n 1, 1) := by decide +kernel
theorem dX0_tighten_66 : decode cX0_tighten 66 = .ok (.ifCond .ne 14, 3) := by decide +kernel
theorem dX0_tighten_69 : decode cX0_tighten 69 = .ok (.aload_n 0, 1) := by decide +kernel
theorem dX0_tighten_70 : decode cX0_tighten 70 = .ok (.invokevirtual 55, 3) := by decide +kernel
theorem dX0_tighten_73 : decode cX0_tighten 73 = .ok (.ifCond .eq 7, 3) := by decide +kernel
theorem dX0_tighten_76 : decode cX0_tighten 76 = .ok (.iconst 1, 1) := by decide +kernel
theorem dX0_tighten_77 : decode cX0_tighten 77 = .ok (.goto 4, 3) := by decide +kernel
theorem dX0_tighten_80 : decode cX0_tighten 80 = .ok (.iconst 0, 1) := by decide +kernel
theorem dX0_tighten_81 : decode cX0_tighten 81 = .ok (.ireturn, 1) := by decide +kernel
theorem dX0_tightenOnce_0 : decode cX0_tightenOnce 0 = .ok (.iconst 0, 1) := by decide +kernel
theorem dX0_tightenOnce_1 : decode cX0_tightenOnce 1 = .ok (.istore_n 1, 1) := by decide +kernel
theorem dX0_tightenOnce_2 : decode cX0_tightenOnce 2 = .ok (.iconst 0, 1) := by decide +kernel
theorem dX0_tightenOnce_3 : decode cX0_tightenOnce 3 = .ok (.istore_n 2, 1) := by decide +kernel
theorem dX0_tightenOnce_4 : decode cX0_tightenOnce 4 = .ok (.iload_n 2, 1) := by decide +kernel
theorem dX0_tightenOnce_5 : decode cX0_tightenOnce 5 = .ok (.aload_n 0, 1) := by decide +kernel
theorem dX0_tightenOnce_6 : decode cX0_tightenOnce 6 = .ok (.getfield 37, 3) := by decide +kernel
theorem dX0_tightenOnce_9 : decode cX0_tightenOnce 9 = .ok (.if_icmp .ge 90, 3) := by decide +kernel
theorem dX0_tightenOnce_12 : decode cX0_tightenOnce 12 = .ok (.aload_n 0, 1) := by decide +kernel
theorem dX0_tightenOnce_13 : decode cX0_tightenOnce 13 = .ok (.getfield 27, 3) := by decide +kernel
theorem dX0_tightenOnce_16 : decode cX0_tightenOnce 16 = .ok (.iload_n 2, 1) := by decide +kernel
theorem dX0_tightenOnce_17 : decode cX0_tightenOnce 17 = .ok (.iaload, 1) := by decide +kernel
theorem dX0_tightenOnce_18 : decode cX0_tightenOnce 18 = .ok (.istore_n 3, 1) := by decide +kernel
theorem dX0_tightenOnce_19 : decode cX0_tightenOnce 19 = .ok (.aload_n 0, 1) := by decide +kernel
theorem dX0_tightenOnce_20 : decode cX0_tightenOnce 20 = .ok (.getfield 30, 3) := by decide +kernel
theorem dX0_tightenOnce_23 : decode cX0_tightenOnce 23 = .ok (.iload_n 2, 1) := by decide +kernel
theorem dX0_tightenOnce_24 : decode cX0_tightenOnce 24 = .ok (.iaload, 1) := by decide +kernel
theorem dX0_tightenOnce_25 : decode cX0_tightenOnce 25 = .ok (.istore 4, 2) := by decide +kernel
theorem dX0_tightenOnce_27 : decode cX0_tightenOnce 27 = .ok (.aload_n 0, 1) := by decide +kernel
theorem dX0_tightenOnce_28 : decode cX0_tightenOnce 28 = .ok (.getfield 18, 3) := by decide +kernel
theorem dX0_tightenOnce_31 : decode cX0_tightenOnce 31 = .ok (.iload 4, 2) := by decide +kernel
theorem dX0_tightenOnce_33 : decode cX0_tightenOnce 33 = .ok (.iaload, 1) := by decide +kernel
theorem dX0_tightenOnce_34 : decode cX0_tightenOnce 34 = .ok (.aload_n 0, 1) := by decide +kernel
theorem dX0_tightenOnce_35 : decode cX0_tightenOnce 35 = .ok (.getfield 18, 3) := by decide +kernel
theorem dX0_tightenOnce_38 : decode cX0_tightenOnce 38 = .ok (.iload_n 3, 1) := by decide +kernel
theorem dX0_tightenOnce_39 : decode cX0_tightenOnce 39 = .ok (.iaload, 1) := by decide +kernel
theorem dX0_tightenOnce_40 : decode cX0_tightenOnce 40 = .ok (.if_icmp .gt 20, 3) := by decide +kernel
theorem dX0_tightenOnce_43 : decode cX0_tightenOnce 43 = .ok (.aload_n 0, 1) := by decide +kernel
theorem dX0_tightenOnce_44 : decode cX0_tightenOnce 44 = .ok (.getfield 18, 3) := by decide +kernel
theorem dX0_tightenOnce_47 : decode cX0_tightenOnce 47 = .ok (.iload 4, 2) := by decide +kernel
theorem dX0_tightenOnce_49 : decode cX0_tightenOnce 49 = .ok (.aload_n 0, 1) := by decide +kernel
theorem dX0_tightenOnce_50 : decode cX0_tightenOnce 50 = .ok (.getfield 18, 3) := by decide +kernel
theorem dX0_tightenOnce_53 : decode cX0_tightenOnce 53 = .ok (.iload_n 3, 1) := by decide +kernel
theorem dX0_tightenOnce_54 : decode cX0_tightenOnce 54 = .ok (.iaload, 1) := by decide +kernel
theorem dX0_tightenOnce_55 : decode cX0_tightenOnce 55 = .ok (.iconst 1, 1) := by decide +kernel
theorem dX0_tightenOnce_56 : decode cX0_tightenOnce 56 = .ok (.iadd, 1) := by decide +kernel
theorem dX0_tightenOnce_57 : decode cX0_tightenOnce 57 = .ok (.iastore, 1) := by decide +kernel
theorem dX0_tightenOnce_58 : decode cX0_tightenOnce 58 = .ok (.iconst 1, 1) := by decide +kernel
theorem dX0_tightenOnce_59 : decode cX0_tightenOnce 59 = .ok (.istore_n 1, 1) := by decide +kernel
theorem dX0_tightenOnce_60 : decode cX0_tightenOnce 60 = .ok (.aload_n 0, 1) := by decide +kernel
theorem dX0_tightenOnce_61 : decode cX0_tightenOnce 61 = .ok (.getfield 21, 3) := by decide +kernel
theorem dX0_tightenOnce_64 : decode cX0_tightenOnce 64 = .ok (.iload_n 3, 1) := by decide +kernel
theorem dX0_tightenOnce_65 : decode cX0_tightenOnce 65 = .ok (.iaload, 1) := by decide +kernel
theorem dX0_tightenOnce_66 : decode cX0_tightenOnce 66 = .ok (.aload_n 0, 1) := by decide +kernel
theorem dX0_tightenOnce_67 : decode cX0_tightenOnce 67 = .ok (.getfield 21, 3) := by decide +kernel
theorem dX0_tightenOnce_70 : decode cX0_tightenOnce 70 = .ok (.iload 4, 2) := by decide +kernel
theorem dX0_tightenOnce_72 : decode cX0_tightenOnce 72 = .ok (.iaload, 1) := by decide +kernel
theorem dX0_tightenOnce_73 : decode cX0_tightenOnce 73 = .ok (.if_icmp .lt 20, 3) := by decide +kernel
theorem dX0_tightenOnce_76 : decode cX0_tightenOnce 76 = .ok (.aload_n 0, 1) := by decide +kernel
theorem dX0_tightenOnce_77 : decode cX0_tightenOnce 77 = .ok (.getfield 21, 3) := by decide +kernel
theorem dX0_tightenOnce_80 : decode cX0_tightenOnce 80 = .ok (.iload_n 3, 1) := by decide +kernel
theorem dX0_tightenOnce_81 : decode cX0_tightenOnce 81 = .ok (.aload_n 0, 1) := by decide +kernel
theorem dX0_tightenOnce_82 : decode cX0_tightenOnce 82 = .ok (.getfield 21, 3) := by decide +kernel
theorem dX0_tightenOnce_85 : decode cX0_tightenOnce 85 = .ok (.iload 4, 2) := by decide +kernel
theorem dX0_tightenOnce_87 : decode cX0_tightenOnce 87 = .ok (.iaload, 1) := by decide +kernel
theorem dX0_tightenOnce_88 : decode cX0_tightenOnce 88 = .ok (.iconst 1, 1) := by decide +kernel
theorem dX0_tightenOnce_89 : decode cX0_tightenOnce 89 = .ok (.isub, 1) := by decide +kernel
theorem dX0_tightenOnce_90 : decode cX0_tightenOnce 90 = .ok (.iastore, 1) := by decide +kernel
theorem dX0_tightenOnce_91 : decode cX0_tightenOnce 91 = .ok (.iconst 1, 1) := by decide +kernel
theorem dX0_tightenOnce_92 : decode cX0_tightenOnce 92 = .ok (.istore_n 1, 1) := by decide +kernel
theorem dX0_tightenOnce_93 : decode cX0_tightenOnce 93 = .ok (.iinc 2 1, 3) := by decide +kernel
theorem dX0_tightenOnce_96 : decode cX0_tightenOnce 96 = .ok (.goto (-92), 3) := by decide +kernel
theorem dX0_tightenOnce_99 : decode cX0_tightenOnce 99 = .ok (.iload_n 1, 1) := by decide +kernel
theorem dX0_tightenOnce_100 : decode cX0_tightenOnce 100 = .ok (.ireturn, 1) := by decide +kernel
theorem dX0_allHaveYears_0 : decode cX0_allHaveYears 0 = .ok (.iconst 0, 1) := by decide +kernel
theorem dX0_allHaveYears_1 : decode cX0_allHaveYears 1 = .ok (.istore_n 1, 1) := by decide +kernel
theorem dX0_allHaveYears_2 : decode cX0_allHaveYears 2 = .ok (.iload_n 1, 1) := by decide +kernel
theorem dX0_allHaveYears_3 : decode cX0_allHaveYears 3 = .ok (.aload_n 0, 1) := by decide +kernel
theorem dX0_allHaveYears_4 : decode cX0_allHaveYears 4 = .ok (.getfield 33, 3) := by decide +kernel
theorem dX0_allHaveYears_7 : decode cX0_allHaveYears 7 = .ok (.if_icmp .ge 26, 3) := by decide +kernel
theorem dX0_allHaveYears_10 : decode cX0_allHaveYears 10 = .ok (.aload_n 0, 1) := by decide +kernel
theorem dX0_allHaveYears_11 : decode cX0_allHaveYears 11 = .ok (.getfield 18, 3) := by decide +kernel
theorem dX0_allHaveYears_14 : decode cX0_allHaveYears 14 = .ok (.iload_n 1, 1) := by decide +kernel
theorem dX0_allHaveYears_15 : decode cX0_allHaveYears 15 = .ok (.iaload, 1) := by decide +kernel
theorem dX0_allHaveYears_16 : decode cX0_allHaveYears 16 = .ok (.aload_n 0, 1) := by decide +kernel
theorem dX0_allHaveYears_17 : decode cX0_allHaveYears 17 = .ok (.getfield 21, 3) := by decide +kernel
theorem dX0_allHaveYears_20 : decode cX0_allHaveYears 20 = .ok (.iload_n 1, 1) := by decide +kernel
theorem dX0_allHaveYears_21 : decode cX0_allHaveYears 21 = .ok (.iaload, 1) := by decide +kernel
theorem dX0_allHaveYears_22 : decode cX0_allHaveYears 22 = .ok (.if_icmp .le 5, 3) := by decide +kernel
theorem dX0_allHaveYears_25 : decode cX0_allHaveYears 25 = .ok (.iconst 0, 1) := by decide +kernel
theorem dX0_allHaveYears_26 : decode cX0_allHaveYears 26 = .ok (.ireturn, 1) := by decide +kernel
theorem dX0_allHaveYears_27 : decode cX0_allHaveYears 27 = .ok (.iinc 1 1, 3) := by decide +kernel
theorem dX0_allHaveYears_30 : decode cX0_allHaveYears 30 = .ok (.goto (-28), 3) := by decide +kernel
theorem dX0_allHaveYears_33 : decode cX0_allHaveYears 33 = .ok (.iconst 1, 1) := by decide +kernel
theorem dX0_allHaveYears_34 : decode cX0_allHaveYears 34 = .ok (.ireturn, 1) := by decide +kernel
theorem dX0_setBehind_0 : decode cX0_setBehind 0 = .ok (.iconst 1, 1) := by decide +kernel
theorem dX0_setBehind_1 : decode cX0_setBehind 1 = .ok (.iload_n 2, 1) := by decide +kernel
theorem dX0_setBehind_2 : decode cX0_setBehind 2 = .ok (.ishl, 1) := by decide +kernel
theorem dX0_setBehind_3 : decode cX0_setBehind 3 = .ok (.aload_n 0, 1) := by decide +kernel
theorem dX0_setBehind_4 : decode cX0_setBehind 4 = .ok (.getfield 24, 3) := by decide +kernel
theorem dX0_setBehind_7 : decode cX0_setBehind 7 = .ok (.iload_n 2, 1) := by decide +kernel
theorem dX0_setBehind_8 : decode cX0_setBehind 8 = .ok (.iaload, 1) := by decide +kernel
theorem dX0_setBehind_9 : decode cX0_setBehind 9 = .ok (.ior, 1) := by decide +kernel
theorem dX0_setBehind_10 : decode cX0_setBehind 10 = .ok (.istore_n 3, 1) := by decide +kernel
theorem dX0_setBehind_11 : decode cX0_setBehind 11 = .ok (.iconst 0, 1) := by decide +kernel
theorem dX0_setBehind_12 : decode cX0_setBehind 12 = .ok (.istore 4, 2) := by decide +kernel
theorem dX0_setBehind_14 : decode cX0_setBehind 14 = .ok (.iload 4, 2) := by decide +kernel
theorem dX0_setBehind_16 : decode cX0_setBehind 16 = .ok (.aload_n 0, 1) := by decide +kernel
theorem dX0_setBehind_17 : decode cX0_setBehind 17 = .ok (.getfield 33, 3) := by decide +kernel
theorem dX0_setBehind_20 : decode cX0_setBehind 20 = .ok (.if_icmp .ge 40, 3) := by decide +kernel
theorem dX0_setBehind_23 : decode cX0_setBehind 23 = .ok (.iload 4, 2) := by decide +kernel
theorem dX0_setBehind_25 : decode cX0_setBehind 25 = .ok (.iload_n 1, 1) := by decide +kernel
theorem dX0_setBehind_26 : decode cX0_setBehind 26 = .ok (.if_icmp .eq 17, 3) := by decide +kernel
theorem dX0_setBehind_29 : decode cX0_setBehind 29 = .ok (.iload_n 1, 1) := by decide +kernel
theorem dX0_setBehind_30 : decode cX0_setBehind 30 = .ok (.aload_n 0, 1) := by decide +kernel
theorem dX0_setBehind_31 : decode cX0_setBehind 31 = .ok (.getfield 24, 3) := by decide +kernel
theorem dX0_setBehind_34 : decode cX0_setBehind 34 = .ok (.iload 4, 2) := by decide +kernel
theorem dX0_setBehind_36 : decode cX0_setBehind 36 = .ok (.iaload, 1) := by decide +kernel
theorem dX0_setBehind_37 : decode cX0_setBehind 37 = .ok (.invokestatic 58, 3) := by decide +kernel
theorem dX0_setBehind_40 : decode cX0_setBehind 40 = .ok (.ifCond .eq 14, 3) := by decide +kernel
theorem dX0_setBehind_43 : decode cX0_setBehind 43 = .ok (.aload_n 0, 1) := by decide +kernel
theorem dX0_setBehind_44 : decode cX0_setBehind 44 = .ok (.getfield 24, 3) := by decide +kernel
theorem dX0_setBehind_47 : decode cX0_setBehind 47 = .ok (.iload 4, 2) := by decide +kernel
theorem dX0_setBehind_49 : decode cX0_setBehind 49 = .ok (.dup2, 1) := by decide +kernel
theorem dX0_setBehind_50 : decode cX0_setBehind 50 = .ok (.iaload, 1) := by decide +kernel
theorem dX0_setBehind_51 : decode cX0_setBehind 51 = .ok (.iload_n 3, 1) := by decide +kernel
theorem dX0_setBehind_52 : decode cX0_setBehind 52 = .ok (.ior, 1) := by decide +kernel
theorem dX0_setBehind_53 : decode cX0_setBehind 53 = .ok (.iastore, 1) := by decide +kernel
theorem dX0_setBehind_54 : decode cX0_setBehind 54 = .ok (.iinc 4 1, 3) := by decide +kernel
theorem dX0_setBehind_57 : decode cX0_setBehind 57 = .ok (.goto (-43), 3) := by decide +kernel
theorem dX0_setBehind_60 : decode cX0_setBehind 60 = .ok (.return_, 1) := by decide +kernel
theorem dX0_isIn_0 : decode cX0_isIn 0 = .ok (.iload_n 1, 1) := by decide +kernel
theorem dX0_isIn_1 : decode cX0_isIn 1 = .ok (.iload_n 0, 1) := by decide +kernel
theorem dX0_isIn_2 : decode cX0_isIn 2 = .ok (.iushr, 1) := by decide +kernel
theorem dX0_isIn_3 : decode cX0_isIn 3 = .ok (.iconst 1, 1) := by decide +kernel
theorem dX0_isIn_4 : decode cX0_isIn 4 = .ok (.iand, 1) := by decide +kernel
theorem dX0_isIn_5 : decode cX0_isIn 5 = .ok (.iconst 1, 1) := by decide +kernel
theorem dX0_isIn_6 : decode cX0_isIn 6 = .ok (.if_icmp .ne 7, 3) := by decide +kernel
theorem dX0_isIn_9 : decode cX0_isIn 9 = .ok (.iconst 1, 1) := by decide +kernel
theorem dX0_isIn_10 : decode cX0_isIn 10 = .ok (.goto 4, 3) := by decide +kernel
theorem dX0_isIn_13 : decode cX0_isIn 13 = .ok (.iconst 0, 1) := by decide +kernel
theorem dX0_isIn_14 : decode cX0_isIn 14 = .ok (.ireturn, 1) := by decide +kernel
theorem dX0_least_0 : decode cX0_least 0 = .ok (.sipush 2001, 3) := by decide +kernel
theorem dX0_least_3 : decode cX0_least 3 = .ok (.istore_n 3, 1) := by decide +kernel
theorem dX0_least_4 : decode cX0_least 4 = .ok (.iconst 0, 1) := by decide +kernel
theorem dX0_least_5 : decode cX0_least 5 = .ok (.istore 4, 2) := by decide +kernel
theorem dX0_least_7 : decode cX0_least 7 = .ok (.iload 4, 2) := by decide +kernel
theorem dX0_least_9 : decode cX0_least 9 = .ok (.aload_n 0, 1) := by decide +kernel
theorem dX0_least_10 : decode cX0_least 10 = .ok (.getfield 33, 3) := by decide +kernel
theorem dX0_least_13 : decode cX0_least 13 = .ok (.if_icmp .ge 34, 3) := by decide +kernel
theorem dX0_least_16 : decode cX0_least 16 = .ok (.iload 4, 2) := by decide +kernel
theorem dX0_least_18 : decode cX0_least 18 = .ok (.aload_n 1, 1) := by decide +kernel
theorem dX0_least_19 : decode cX0_least 19 = .ok (.arraylength, 1) := by decide +kernel
theorem dX0_least_20 : decode cX0_least 20 = .ok (.if_icmp .ge 27, 3) := by decide +kernel
theorem dX0_least_23 : decode cX0_least 23 = .ok (.iload 4, 2) := by decide +kernel
theorem dX0_least_25 : decode cX0_least 25 = .ok (.iload_n 2, 1) := by decide +kernel
theorem dX0_least_26 : decode cX0_least 26 = .ok (.invokestatic 58, 3) := by decide +kernel
theorem dX0_least_29 : decode cX0_least 29 = .ok (.ifCond .eq 12, 3) := by decide +kernel
theorem dX0_least_32 : decode cX0_least 32 = .ok (.iload_n 3, 1) := by decide +kernel
theorem dX0_least_33 : decode cX0_least 33 = .ok (.aload_n 1, 1) := by decide +kernel
theorem dX0_least_34 : decode cX0_least 34 = .ok (.iload 4, 2) := by decide +kernel
theorem dX0_least_36 : decode cX0_least 36 = .ok (.iaload, 1) := by decide +kernel
theorem dX0_least_37 : decode cX0_least 37 = .ok (.invokestatic 61, 3) := by decide +kernel
theorem dX0_least_40 : decode cX0_least 40 = .ok (.istore_n 3, 1) := by decide +kernel
theorem dX0_least_41 : decode cX0_least 41 = .ok (.iinc 4 1, 3) := by decide +kernel
theorem dX0_least_44 : decode cX0_least 44 = .ok (.goto (-37), 3) := by decide +kernel
theorem dX0_least_47 : decode cX0_least 47 = .ok (.iload_n 3, 1) := by decide +kernel
theorem dX0_least_48 : decode cX0_least 48 = .ok (.ireturn, 1) := by decide +kernel
theorem dX0_greatest_0 : decode cX0_greatest 0 = .ok (.iconst 0, 1) := by decide +kernel
theorem dX0_greatest_1 : decode cX0_greatest 1 = .ok (.istore_n 3, 1) := by decide +kernel
theorem dX0_greatest_2 : decode cX0_greatest 2 = .ok (.iconst 0, 1) := by decide +kernel
theorem dX0_greatest_3 : decode cX0_greatest 3 = .ok (.istore 4, 2) := by decide +kernel
theorem dX0_greatest_5 : decode cX0_greatest 5 = .ok (.iload 4, 2) := by decide +kernel
theorem dX0_greatest_7 : decode cX0_greatest 7 = .ok (.aload_n 0, 1) := by decide +kernel
theorem dX0_greatest_8 : decode cX0_greatest 8 = .ok (.getfield 33, 3) := by decide +kernel
theorem dX0_greatest_11 : decode cX0_greatest 11 = .ok (.if_icmp .ge 34, 3) := by decide +kernel
theorem dX0_greatest_14 : decode cX0_greatest 14 = .ok (.iload 4, 2) := by decide +kernel
theorem dX0_greatest_16 : decode cX0_greatest 16 = .ok (.aload_n 1, 1) := by decide +kernel
theorem dX0_greatest_17 : decode cX0_greatest 17 = .ok (.arraylength, 1) := by decide +kernel
theorem dX0_greatest_18 : decode cX0_greatest 18 = .ok (.if_icmp .ge 27, 3) := by decide +kernel
theorem dX0_greatest_21 : decode cX0_greatest 21 = .ok (.iload 4, 2) := by decide +kernel
theorem dX0_greatest_23 : decode cX0_greatest 23 = .ok (.iload_n 2, 1) := by decide +kernel
theorem dX0_greatest_24 : decode cX0_greatest 24 = .ok (.invokestatic 58, 3) := by decide +kernel
theorem dX0_greatest_27 : decode cX0_greatest 27 = .ok (.ifCond .eq 12, 3) := by decide +kernel
theorem dX0_greatest_30 : decode cX0_greatest 30 = .ok (.iload_n 3, 1) := by decide +kernel
theorem dX0_greatest_31 : decode cX0_greatest 31 = .ok (.aload_n 1, 1) := by decide +kernel
theorem dX0_greatest_32 : decode cX0_greatest 32 = .ok (.iload 4, 2) := by decide +kernel
theorem dX0_greatest_34 : decode cX0_greatest 34 = .ok (.iaload, 1) := by decide +kernel
theorem dX0_greatest_35 : decode cX0_greatest 35 = .ok (.invokestatic 67, 3) := by decide +kernel
theorem dX0_greatest_38 : decode cX0_greatest 38 = .ok (.istore_n 3, 1) := by decide +kernel
theorem dX0_greatest_39 : decode cX0_greatest 39 = .ok (.iinc 4 1, 3) := by decide +kernel
theorem dX0_greatest_42 : decode cX0_greatest 42 = .ok (.goto (-37), 3) := by decide +kernel
theorem dX0_greatest_45 : decode cX0_greatest 45 = .ok (.iload_n 3, 1) := by decide +kernel
theorem dX0_greatest_46 : decode cX0_greatest 46 = .ok (.ireturn, 1) := by decide +kernel
theorem dX0_widestGap_0 : decode cX0_widestGap 0 = .ok (.iconst 0, 1) := by decide +kernel
theorem dX0_widestGap_1 : decode cX0_widestGap 1 = .ok (.istore_n 2, 1) := by decide +kernel
theorem dX0_widestGap_2 : decode cX0_widestGap 2 = .ok (.iconst 0, 1) := by decide +kernel
theorem dX0_widestGap_3 : decode cX0_widestGap 3 = .ok (.istore_n 3, 1) := by decide +kernel
theorem dX0_widestGap_4 : decode cX0_widestGap 4 = .ok (.iload_n 3, 1) := by decide +kernel
theorem dX0_widestGap_5 : decode cX0_widestGap 5 = .ok (.aload_n 0, 1) := by decide +kernel
theorem dX0_widestGap_6 : decode cX0_widestGap 6 = .ok (.getfield 33, 3) := by decide +kernel
theorem dX0_widestGap_9 : decode cX0_widestGap 9 = .ok (.if_icmp .ge 28, 3) := by decide +kernel
theorem dX0_widestGap_12 : decode cX0_widestGap 12 = .ok (.iload_n 3, 1) := by decide +kernel
theorem dX0_widestGap_13 : decode cX0_widestGap 13 = .ok (.iload_n 1, 1) := by decide +kernel
theorem dX0_widestGap_14 : decode cX0_widestGap 14 = .ok (.invokestatic 58, 3) := by decide +kernel
theorem dX0_widestGap_17 : decode cX0_widestGap 17 = .ok (.ifCond .eq 14, 3) := by decide +kernel
theorem dX0_widestGap_20 : decode cX0_widestGap 20 = .ok (.iload_n 2, 1) := by decide +kernel
theorem dX0_widestGap_21 : decode cX0_widestGap 21 = .ok (.aload_n 0, 1) := by decide +kernel
theorem dX0_widestGap_22 : decode cX0_widestGap 22 = .ok (.iload_n 3, 1) := by decide +kernel
theorem dX0_widestGap_23 : decode cX0_widestGap 23 = .ok (.iload_n 1, 1) := by decide +kernel
theorem dX0_widestGap_24 : decode cX0_widestGap 24 = .ok (.invokevirtual 70, 3) := by decide +kernel
theorem dX0_widestGap_27 : decode cX0_widestGap 27 = .ok (.invokestatic 67, 3) := by decide +kernel
theorem dX0_widestGap_30 : decode cX0_widestGap 30 = .ok (.istore_n 2, 1) := by decide +kernel
theorem dX0_widestGap_31 : decode cX0_widestGap 31 = .ok (.iinc 3 1, 3) := by decide +kernel
theorem dX0_widestGap_34 : decode cX0_widestGap 34 = .ok (.goto (-30), 3) := by decide +kernel
theorem dX0_widestGap_37 : decode cX0_widestGap 37 = .ok (.iload_n 2, 1) := by decide +kernel
theorem dX0_widestGap_38 : decode cX0_widestGap 38 = .ok (.ireturn, 1) := by decide +kernel
theorem dX0_gapAhead_0 : decode cX0_gapAhead 0 = .ok (.aload_n 0, 1) := by decide +kernel
theorem dX0_gapAhead_1 : decode cX0_gapAhead 1 = .ok (.getfield 18, 3) := by decide +kernel
theorem dX0_gapAhead_4 : decode cX0_gapAhead 4 = .ok (.iload_n 1, 1) := by decide +kernel
theorem dX0_gapAhead_5 : decode cX0_gapAhead 5 = .ok (.iaload, 1) := by decide +kernel
theorem dX0_gapAhead_6 : decode cX0_gapAhead 6 = .ok (.istore_n 3, 1) := by decide +kernel
theorem dX0_gapAhead_7 : decode cX0_gapAhead 7 = .ok (.iconst 1, 1) := by decide +kernel
theorem dX0_gapAhead_8 : decode cX0_gapAhead 8 = .ok (.istore 4, 2) := by decide +kernel
theorem dX0_gapAhead_10 : decode cX0_gapAhead 10 = .ok (.iconst 0, 1) := by decide +kernel
theorem dX0_gapAhead_11 : decode cX0_gapAhead 11 = .ok (.istore 5, 2) := by decide +kernel
theorem dX0_gapAhead_13 : decode cX0_gapAhead 13 = .ok (.iload 5, 2) := by decide +kernel
theorem dX0_gapAhead_15 : decode cX0_gapAhead 15 = .ok (.aload_n 0, 1) := by decide +kernel
theorem dX0_gapAhead_16 : decode cX0_gapAhead 16 = .ok (.getfield 33, 3) := by decide +kernel
theorem dX0_gapAhead_19 : decode cX0_gapAhead 19 = .ok (.if_icmp .ge 64, 3) := by decide +kernel
theorem dX0_gapAhead_22 : decode cX0_gapAhead 22 = .ok (.iload 5, 2) := by decide +kernel
theorem dX0_gapAhead_24 : decode cX0_gapAhead 24 = .ok (.iload_n 2, 1) := by decide +kernel
theorem dX0_gapAhead_25 : decode cX0_gapAhead 25 = .ok (.invokestatic 58, 3) := by decide +kernel
theorem dX0_gapAhead_28 : decode cX0_gapAhead 28 = .ok (.ifCond .eq 49, 3) := by decide +kernel
theorem dX0_gapAhead_31 : decode cX0_gapAhead 31 = .ok (.aload_n 0, 1) := by decide +kernel
theorem dX0_gapAhead_32 : decode cX0_gapAhead 32 = .ok (.getfield 18, 3) := by decide +kernel
theorem dX0_gapAhead_35 : decode cX0_gapAhead 35 = .ok (.iload 5, 2) := by decide +kernel
theorem dX0_gapAhead_37 : decode cX0_gapAhead 37 = .ok (.iaload, 1) := by decide +kernel
theorem dX0_gapAhead_38 : decode cX0_gapAhead 38 = .ok (.aload_n 0, 1) := by decide +kernel
theorem dX0_gapAhead_39 : decode cX0_gapAhead 39 = .ok (.getfield 18, 3) := by decide +kernel
theorem dX0_gapAhead_42 : decode cX0_gapAhead 42 = .ok (.iload_n 1, 1) := by decide +kernel
theorem dX0_gapAhead_43 : decode cX0_gapAhead 43 = .ok (.iaload, 1) := by decide +kernel
theorem dX0_gapAhead_44 : decode cX0_gapAhead 44 = .ok (.if_icmp .ge 33, 3) := by decide +kernel
theorem dX0_gapAhead_47 : decode cX0_gapAhead 47 = .ok (.iload 4, 2) := by decide +kernel
theorem dX0_gapAhead_49 : decode cX0_gapAhead 49 = .ok (.ifCond .eq 13, 3) := by decide +kernel
theorem dX0_gapAhead_52 : decode cX0_gapAhead 52 = .ok (.aload_n 0, 1) := by decide +kernel
theorem dX0_gapAhead_53 : decode cX0_gapAhead 53 = .ok (.getfield 21, 3) := by decide +kernel
theorem dX0_gapAhead_56 : decode cX0_gapAhead 56 = .ok (.iload 5, 2) := by decide +kernel
theorem dX0_gapAhead_58 : decode cX0_gapAhead 58 = .ok (.iaload, 1) := by decide +kernel
theorem dX0_gapAhead_59 : decode cX0_gapAhead 59 = .ok (.goto 14, 3) := by decide +kernel
theorem dX0_gapAhead_62 : decode cX0_gapAhead 62 = .ok (.iload_n 3, 1) := by decide +kernel
theorem dX0_gapAhead_63 : decode cX0_gapAhead 63 = .ok (.aload_n 0, 1) := by decide +kernel
theorem dX0_gapAhead_64 : decode cX0_gapAhead 64 = .ok (.getfield 21, 3) := by decide +kernel
theorem dX0_gapAhead_67 : decode cX0_gapAhead 67 = .ok (.iload 5, 2) := by decide +kernel
theorem dX0_gapAhead_69 : decode cX0_gapAhead 69 = .ok (.iaload, 1) := by decide +kernel
theorem dX0_gapAhead_70 : decode cX0_gapAhead 70 = .ok (.invokestatic 67, 3) := by decide +kernel
theorem dX0_gapAhead_73 : decode cX0_gapAhead 73 = .ok (.istore_n 3, 1) := by decide +kernel
theorem dX0_gapAhead_74 : decode cX0_gapAhead 74 = .ok (.iconst 0, 1) := by decide +kernel
theorem dX0_gapAhead_75 : decode cX0_gapAhead 75 = .ok (.istore 4, 2) := by decide +kernel
theorem dX0_gapAhead_77 : decode cX0_gapAhead 77 = .ok (.iinc 5 1, 3) := by decide +kernel
theorem dX0_gapAhead_80 : decode cX0_gapAhead 80 = .ok (.goto (-67), 3) := by decide +kernel
theorem dX0_gapAhead_83 : decode cX0_gapAhead 83 = .ok (.iconst 0, 1) := by decide +kernel
theorem dX0_gapAhead_84 : decode cX0_gapAhead 84 = .ok (.aload_n 0, 1) := by decide +kernel
theorem dX0_gapAhead_85 : decode cX0_gapAhead 85 = .ok (.getfield 18, 3) := by decide +kernel
theorem dX0_gapAhead_88 : decode cX0_gapAhead 88 = .ok (.iload_n 1, 1) := by decide +kernel
theorem dX0_gapAhead_89 : decode cX0_gapAhead 89 = .ok (.iaload, 1) := by decide +kernel
theorem dX0_gapAhead_90 : decode cX0_gapAhead 90 = .ok (.iload_n 3, 1) := by decide +kernel
theorem dX0_gapAhead_91 : decode cX0_gapAhead 91 = .ok (.isub, 1) := by decide +kernel
theorem dX0_gapAhead_92 : decode cX0_gapAhead 92 = .ok (.iconst 1, 1) := by decide +kernel
theorem dX0_gapAhead_93 : decode cX0_gapAhead 93 = .ok (.isub, 1) := by decide +kernel
theorem dX0_gapAhead_94 : decode cX0_gapAhead 94 = .ok (.invokestatic 67, 3) := by decide +kernel
theorem dX0_gapAhead_97 : decode cX0_gapAhead 97 = .ok (.ireturn, 1) := by decide +kernel
theorem dX0_areSurelyOlder_0 : decode cX0_areSurelyOlder 0 = .ok (.aload_n 0, 1) := by decide +kernel
theorem dX0_areSurelyOlder_1 : decode cX0_areSurelyOlder 1 = .ok (.aload_n 0, 1) := by decide +kernel
theorem dX0_areSurelyOlder_2 : decode cX0_areSurelyOlder 2 = .ok (.getfield 21, 3) := by decide +kernel
theorem dX0_areSurelyOlder_5 : decode cX0_areSurelyOlder 5 = .ok (.iload_n 1, 1) := by decide +kernel
theorem dX0_areSurelyOlder_6 : decode cX0_areSurelyOlder 6 = .ok (.invokevirtual 73, 3) := by decide +kernel
theorem dX0_areSurelyOlder_9 : decode cX0_areSurelyOlder 9 = .ok (.aload_n 0, 1) := by decide +kernel
theorem dX0_areSurelyOlder_10 : decode cX0_areSurelyOlder 10 = .ok (.aload_n 0, 1) := by decide +kernel
theorem dX0_areSurelyOlder_11 : decode cX0_areSurelyOlder 11 = .ok (.getfield 18, 3) := by decide +kernel
theorem dX0_areSurelyOlder_14 : decode cX0_areSurelyOlder 14 = .ok (.iload_n 2, 1) := by decide +kernel
theorem dX0_areSurelyOlder_15 : decode cX0_areSurelyOlder 15 = .ok (.invokevirtual 73, 3) := by decide +kernel
theorem dX0_areSurelyOlder_18 : decode cX0_areSurelyOlder 18 = .ok (.if_icmp .ge 5, 3) := by decide +kernel
theorem dX0_areSurelyOlder_21 : decode cX0_areSurelyOlder 21 = .ok (.iconst 1, 1) := by decide +kernel
theorem dX0_areSurelyOlder_22 : decode cX0_areSurelyOlder 22 = .ok (.ireturn, 1) := by decide +kernel
theorem dX0_areSurelyOlder_23 : decode cX0_areSurelyOlder 23 = .ok (.iconst 0, 1) := by decide +kernel
theorem dX0_areSurelyOlder_24 : decode cX0_areSurelyOlder 24 = .ok (.istore_n 3, 1) := by decide +kernel
theorem dX0_areSurelyOlder_25 : decode cX0_areSurelyOlder 25 = .ok (.iload_n 3, 1) := by decide +kernel
theorem dX0_areSurelyOlder_26 : decode cX0_areSurelyOlder 26 = .ok (.aload_n 0, 1) := by decide +kernel
theorem dX0_areSurelyOlder_27 : decode cX0_areSurelyOlder 27 = .ok (.getfield 33, 3) := by decide +kernel
theorem dX0_areSurelyOlder_30 : decode cX0_areSurelyOlder 30 = .ok (.if_icmp .ge 32, 3) := by decide +kernel
theorem dX0_areSurelyOlder_33 : decode cX0_areSurelyOlder 33 = .ok (.iload_n 3, 1) := by decide +kernel
theorem dX0_areSurelyOlder_34 : decode cX0_areSurelyOlder 34 = .ok (.iload_n 1, 1) := by decide +kernel
theorem dX0_areSurelyOlder_35 : decode cX0_areSurelyOlder 35 = .ok (.invokestatic 58, 3) := by decide +kernel
theorem dX0_areSurelyOlder_38 : decode cX0_areSurelyOlder 38 = .ok (.ifCond .eq 18, 3) := by decide +kernel
theorem dX0_areSurelyOlder_41 : decode cX0_areSurelyOlder 41 = .ok (.iload_n 2, 1) := by decide +kernel
theorem dX0_areSurelyOlder_42 : decode cX0_areSurelyOlder 42 = .ok (.aload_n 0, 1) := by decide +kernel
theorem dX0_areSurelyOlder_43 : decode cX0_areSurelyOlder 43 = .ok (.getfield 24, 3) := by decide +kernel
theorem dX0_areSurelyOlder_46 : decode cX0_areSurelyOlder 46 = .ok (.iload_n 3, 1) := by decide +kernel
theorem dX0_areSurelyOlder_47 : decode cX0_areSurelyOlder 47 = .ok (.iaload, 1) := by decide +kernel
theorem dX0_areSurelyOlder_48 : decode cX0_areSurelyOlder 48 = .ok (.iconst (-1), 1) := by decide +kernel
theorem dX0_areSurelyOlder_49 : decode cX0_areSurelyOlder 49 = .ok (.ixor, 1) := by decide +kernel
theorem dX0_areSurelyOlder_50 : decode cX0_areSurelyOlder 50 = .ok (.iand, 1) := by decide +kernel
theorem dX0_areSurelyOlder_51 : decode cX0_areSurelyOlder 51 = .ok (.ifCond .ne 5, 3) := by decide +kernel
theorem dX0_areSurelyOlder_54 : decode cX0_areSurelyOlder 54 = .ok (.iconst 1, 1) := by decide +kernel
theorem dX0_areSurelyOlder_55 : decode cX0_areSurelyOlder 55 = .ok (.ireturn, 1) := by decide +kernel
theorem dX0_areSurelyOlder_56 : decode cX0_areSurelyOlder 56 = .ok (.iinc 3 1, 3) := by decide +kernel
theorem dX0_areSurelyOlder_59 : decode cX0_areSurelyOlder 59 = .ok (.goto (-34), 3) := by decide +kernel
theorem dX0_areSurelyOlder_62 : decode cX0_areSurelyOlder 62 = .ok (.iconst 0, 1) := by decide +kernel
theorem dX0_areSurelyOlder_63 : decode cX0_areSurelyOlder 63 = .ok (.ireturn, 1) := by decide +kernel
theorem dX1_has_0 : decode cX1_has 0 = .ok (.iload_n 1, 1) := by decide +kernel
theorem dX1_has_1 : decode cX1_has 1 = .ok (.ifCond .lt 15, 3) := by decide +kernel
theorem dX1_has_4 : decode cX1_has 4 = .ok (.iload_n 1, 1) := by decide +kernel
theorem dX1_has_5 : decode cX1_has 5 = .ok (.aload_n 0, 1) := by decide +kernel
theorem dX1_has_6 : decode cX1_has 6 = .ok (.getfield 27, 3) := by decide +kernel
theorem dX1_has_9 : decode cX1_has 9 = .ok (.if_icmp .ge 7, 3) := by decide +kernel
theorem dX1_has_12 : decode cX1_has 12 = .ok (.iconst 1, 1) := by decide +kernel
theorem dX1_has_13 : decode cX1_has 13 = .ok (.goto 4, 3) := by decide +kernel
theorem dX1_has_16 : decode cX1_has 16 = .ok (.iconst 0, 1) := by decide +kernel
theorem dX1_has_17 : decode cX1_has 17 = .ok (.ireturn, 1) := by decide +kernel
theorem dX1_add_0 : decode cX1_add 0 = .ok (.aload_n 0, 1) := by decide +kernel
theorem dX1_add_1 : decode cX1_add 1 = .ok (.getfield 27, 3) := by decide +kernel
theorem dX1_add_4 : decode cX1_add 4 = .ok (.istore_n 1, 1) := by decide +kernel
theorem dX1_add_5 : decode cX1_add 5 = .ok (.iload_n 1, 1) := by decide +kernel
theorem dX1_add_6 : decode cX1_add 6 = .ok (.bipush 8, 2) := by decide +kernel
theorem dX1_add_8 : decode cX1_add 8 = .ok (.if_icmp .lt 5, 3) := by decide +kernel
theorem dX1_add_11 : decode cX1_add 11 = .ok (.iconst (-1), 1) := by decide +kernel
theorem dX1_add_12 : decode cX1_add 12 = .ok (.ireturn, 1) := by decide +kernel
theorem dX1_add_13 : decode cX1_add 13 = .ok (.iconst 0, 1) := by decide +kernel
theorem dX1_add_14 : decode cX1_add 14 = .ok (.istore_n 2, 1) := by decide +kernel
theorem dX1_add_15 : decode cX1_add 15 = .ok (.iload_n 2, 1) := by decide +kernel
theorem dX1_add_16 : decode cX1_add 16 = .ok (.aload_n 0, 1) := by decide +kernel
theorem dX1_add_17 : decode cX1_add 17 = .ok (.getfield 23, 3) := by decide +kernel
theorem dX1_add_20 : decode cX1_add 20 = .ok (.getfield 31, 3) := by decide +kernel
theorem dX1_add_23 : decode cX1_add 23 = .ok (.if_icmp .ge 43, 3) := by decide +kernel
theorem dX1_add_26 : decode cX1_add 26 = .ok (.aload_n 0, 1) := by decide +kernel
theorem dX1_add_27 : decode cX1_add 27 = .ok (.getfield 17, 3) := by decide +kernel
theorem dX1_add_30 : decode cX1_add 30 = .ok (.iload_n 1, 1) := by decide +kernel
theorem dX1_add_31 : decode cX1_add 31 = .ok (.aaload, 1) := by decide +kernel
theorem dX1_add_32 : decode cX1_add 32 = .ok (.iload_n 2, 1) := by decide +kernel
theorem dX1_add_33 : decode cX1_add 33 = .ok (.aload_n 0, 1) := by decide +kernel
theorem dX1_add_34 : decode cX1_add 34 = .ok (.getfield 23, 3) := by decide +kernel
theorem dX1_add_37 : decode cX1_add 37 = .ok (.getfield 34, 3) := by decide +kernel
theorem dX1_add_40 : decode cX1_add 40 = .ok (.iload_n 2, 1) := by decide +kernel
theorem dX1_add_41 : decode cX1_add 41 = .ok (.iaload, 1) := by decide +kernel
theorem dX1_add_42 : decode cX1_add 42 = .ok (.iastore, 1) := by decide +kernel
theorem dX1_add_43 : decode cX1_add 43 = .ok (.aload_n 0, 1) := by decide +kernel
theorem dX1_add_44 : decode cX1_add 44 = .ok (.getfield 20, 3) := by decide +kernel
theorem dX1_add_47 : decode cX1_add 47 = .ok (.iload_n 1, 1) := by decide +kernel
theorem dX1_add_48 : decode cX1_add 48 = .ok (.aaload, 1) := by decide +kernel
theorem dX1_add_49 : decode cX1_add 49 = .ok (.iload_n 2, 1) := by decide +kernel
theorem dX1_add_50 : decode cX1_add 50 = .ok (.aload_n 0, 1) := by decide +kernel
theorem dX1_add_51 : decode cX1_add 51 = .ok (.getfield 23, 3) := by decide +kernel
theorem dX1_add_54 : decode cX1_add 54 = .ok (.getfield 36, 3) := by decide +kernel
theorem dX1_add_57 : decode cX1_add 57 = .ok (.iload_n 2, 1) := by decide +kernel
theorem dX1_add_58 : decode cX1_add 58 = .ok (.iaload, 1) := by decide +kernel
theorem dX1_add_59 : decode cX1_add 59 = .ok (.iastore, 1) := by decide +kernel
theorem dX1_add_60 : decode cX1_add 60 = .ok (.iinc 2 1, 3) := by decide +kernel
theorem dX1_add_63 : decode cX1_add 63 = .ok (.goto (-48), 3) := by decide +kernel
theorem dX1_add_66 : decode cX1_add 66 = .ok (.aload_n 0, 1) := by decide +kernel
theorem dX1_add_67 : decode cX1_add 67 = .ok (.getfield 9, 3) := by decide +kernel
theorem dX1_add_70 : decode cX1_add 70 = .ok (.iload_n 1, 1) := by decide +kernel
theorem dX1_add_71 : decode cX1_add 71 = .ok (.aload_n 0, 1) := by decide +kernel
theorem dX1_add_72 : decode cX1_add 72 = .ok (.getfield 23, 3) := by decide +kernel
theorem dX1_add_75 : decode cX1_add 75 = .ok (.getfield 31, 3) := by decide +kernel
theorem dX1_add_78 : decode cX1_add 78 = .ok (.iastore, 1) := by decide +kernel
theorem dX1_add_79 : decode cX1_add 79 = .ok (.aload_n 0, 1) := by decide +kernel
theorem dX1_add_80 : decode cX1_add 80 = .ok (.dup, 1) := by decide +kernel
theorem dX1_add_81 : decode cX1_add 81 = .ok (.getfield 27, 3) := by decide +kernel
theorem dX1_add_84 : decode cX1_add 84 = .ok (.iconst 1, 1) := by decide +kernel
theorem dX1_add_85 : decode cX1_add 85 = .ok (.iadd, 1) := by decide +kernel
theorem dX1_add_86 : decode cX1_add 86 = .ok (.putfield 27, 3) := by decide +kernel
theorem dX1_add_89 : decode cX1_add 89 = .ok (.iload_n 1, 1) := by decide +kernel
theorem dX1_add_90 : decode cX1_add 90 = .ok (.ireturn, 1) := by decide +kernel
theorem dX1_entryOf_0 : decode cX1_entryOf 0 = .ok (.aload_n 0, 1) := by decide +kernel
theorem dX1_entryOf_1 : decode cX1_entryOf 1 = .ok (.iload_n 1, 1) := by decide +kernel
theorem dX1_entryOf_2 : decode cX1_entryOf 2 = .ok (.iload_n 2, 1) := by decide +kernel
theorem dX1_entryOf_3 : decode cX1_entryOf 3 = .ok (.invokevirtual 38, 3) := by decide +kernel
theorem dX1_entryOf_6 : decode cX1_entryOf 6 = .ok (.ifCond .eq 14, 3) := by decide +kernel
theorem dX1_entryOf_9 : decode cX1_entryOf 9 = .ok (.aload_n 0, 1) := by decide +kernel
theorem dX1_entryOf_10 : decode cX1_entryOf 10 = .ok (.getfield 17, 3) := by decide +kernel
theorem dX1_entryOf_13 : decode cX1_entryOf 13 = .ok (.iload_n 1, 1) := by decide +kernel
theorem dX1_entryOf_14 : decode cX1_entryOf 14 = .ok (.aaload, 1) := by decide +kernel
theorem dX1_entryOf_15 : decode cX1_entryOf 15 = .ok (.iload_n 2, 1) := by decide +kernel
theorem dX1_entryOf_16 : decode cX1_entryOf 16 = .ok (.iaload, 1) := by decide +kernel
theorem dX1_entryOf_17 : decode cX1_entryOf 17 = .ok (.goto 5, 3) := by decide +kernel
theorem dX1_entryOf_20 : decode cX1_entryOf 20 = .ok (.bipush (-2), 2) := by decide +kernel
theorem dX1_entryOf_22 : decode cX1_entryOf 22 = .ok (.ireturn, 1) := by decide +kernel
theorem dX1_senseOf_0 : decode cX1_senseOf 0 = .ok (.aload_n 0, 1) := by decide +kernel
theorem dX1_senseOf_1 : decode cX1_senseOf 1 = .ok (.iload_n 1, 1) := by decide +kernel
theorem dX1_senseOf_2 : decode cX1_senseOf 2 = .ok (.iload_n 2, 1) := by decide +kernel
theorem dX1_senseOf_3 : decode cX1_senseOf 3 = .ok (.invokevirtual 38, 3) := by decide +kernel
theorem dX1_senseOf_6 : decode cX1_senseOf 6 = .ok (.ifCond .eq 14, 3) := by decide +kernel
theorem dX1_senseOf_9 : decode cX1_senseOf 9 = .ok (.aload_n 0, 1) := by decide +kernel
theorem dX1_senseOf_10 : decode cX1_senseOf 10 = .ok (.getfield 20, 3) := by decide +kernel
theorem dX1_senseOf_13 : decode cX1_senseOf 13 = .ok (.iload_n 1, 1) := by decide +kernel
theorem dX1_senseOf_14 : decode cX1_senseOf 14 = .ok (.aaload, 1) := by decide +kernel
theorem dX1_senseOf_15 : decode cX1_senseOf 15 = .ok (.iload_n 2, 1) := by decide +kernel
theorem dX1_senseOf_16 : decode cX1_senseOf 16 = .ok (.iaload, 1) := by decide +kernel
theorem dX1_senseOf_17 : decode cX1_senseOf 17 = .ok (.goto 5, 3) := by decide +kernel
theorem dX1_senseOf_20 : decode cX1_senseOf 20 = .ok (.bipush (-2), 2) := by decide +kernel
theorem dX1_senseOf_22 : decode cX1_senseOf 22 = .ok (.ireturn, 1) := by decide +kernel
theorem dX1_wasThere_0 : decode cX1_wasThere 0 = .ok (.aload_n 0, 1) := by decide +kernel
theorem dX1_wasThere_1 : decode cX1_wasThere 1 = .ok (.iload_n 1, 1) := by decide +kernel
theorem dX1_wasThere_2 : decode cX1_wasThere 2 = .ok (.invokevirtual 42, 3) := by decide +kernel
theorem dX1_wasThere_5 : decode cX1_wasThere 5 = .ok (.ifCond .eq 21, 3) := by decide +kernel
theorem dX1_wasThere_8 : decode cX1_wasThere 8 = .ok (.iload_n 2, 1) := by decide +kernel
theorem dX1_wasThere_9 : decode cX1_wasThere 9 = .ok (.ifCond .lt 17, 3) := by decide +kernel
theorem dX1_wasThere_12 : decode cX1_wasThere 12 = .ok (.iload_n 2, 1) := by decide +kernel
theorem dX1_wasThere_13 : decode cX1_wasThere 13 = .ok (.aload_n 0, 1) := by decide +kernel
theorem dX1_wasThere_14 : decode cX1_wasThere 14 = .ok (.getfield 9, 3) := by decide +kernel
theorem dX1_wasThere_17 : decode cX1_wasThere 17 = .ok (.iload_n 1, 1) := by decide +kernel
theorem dX1_wasThere_18 : decode cX1_wasThere 18 = .ok (.iaload, 1) := by decide +kernel
theorem dX1_wasThere_19 : decode cX1_wasThere 19 = .ok (.if_icmp .ge 7, 3) := by decide +kernel
theorem dX1_wasThere_22 : decode cX1_wasThere 22 = .ok (.iconst 1, 1) := by decide +kernel
theorem dX1_wasThere_23 : decode cX1_wasThere 23 = .ok (.goto 4, 3) := by decide +kernel
theorem dX1_wasThere_26 : decode cX1_wasThere 26 = .ok (.iconst 0, 1) := by decide +kernel
theorem dX1_wasThere_27 : decode cX1_wasThere 27 = .ok (.ireturn, 1) := by decide +kernel
theorem dX1_isOtherwise_0 : decode cX1_isOtherwise 0 = .ok (.aload_n 0, 1) := by decide +kernel
theorem dX1_isOtherwise_1 : decode cX1_isOtherwise 1 = .ok (.iload_n 1, 1) := by decide +kernel
theorem dX1_isOtherwise_2 : decode cX1_isOtherwise 2 = .ok (.iload_n 3, 1) := by decide +kernel
theorem dX1_isOtherwise_3 : decode cX1_isOtherwise 3 = .ok (.invokevirtual 46, 3) := by decide +kernel
theorem dX1_isOtherwise_6 : decode cX1_isOtherwise 6 = .ok (.aload_n 0, 1) := by decide +kernel
theorem dX1_isOtherwise_7 : decode cX1_isOtherwise 7 = .ok (.iload_n 2, 1) := by decide +kernel
theorem dX1_isOtherwise_8 : decode cX1_isOtherwise 8 = .ok (.iload_n 3, 1) := by decide +kernel
theorem dX1_isOtherwise_9 : decode cX1_isOtherwise 9 = .ok (.invokevirtual 46, 3) := by decide +kernel
theorem dX1_isOtherwise_12 : decode cX1_isOtherwise 12 = .ok (.if_icmp .ne 18, 3) := by decide +kernel
theorem dX1_isOtherwise_15 : decode cX1_isOtherwise 15 = .ok (.aload_n 0, 1) := by decide +kernel
theorem dX1_isOtherwise_16 : decode cX1_isOtherwise 16 = .ok (.iload_n 1, 1) := by decide +kernel
theorem dX1_isOtherwise_17 : decode cX1_isOtherwise 17 = .ok (.iload_n 3, 1) := by decide +kernel
theorem dX1_isOtherwise_18 : decode cX1_isOtherwise 18 = .ok (.invokevirtual 50, 3) := by decide +kernel
theorem dX1_isOtherwise_21 : decode cX1_isOtherwise 21 = .ok (.aload_n 0, 1) := by decide +kernel
theorem dX1_isOtherwise_22 : decode cX1_isOtherwise 22 = .ok (.iload_n 2, 1) := by decide +kernel
theorem dX1_isOtherwise_23 : decode cX1_isOtherwise 23 = .ok (.iload_n 3, 1) := by decide +kernel
theorem dX1_isOtherwise_24 : decode cX1_isOtherwise 24 = .ok (.invokevirtual 50, 3) := by decide +kernel
theorem dX1_isOtherwise_27 : decode cX1_isOtherwise 27 = .ok (.if_icmp .eq 7, 3) := by decide +kernel
theorem dX1_isOtherwise_30 : decode cX1_isOtherwise 30 = .ok (.iconst 1, 1) := by decide +kernel
theorem dX1_isOtherwise_31 : decode cX1_isOtherwise 31 = .ok (.goto 4, 3) := by decide +kernel
theorem dX1_isOtherwise_34 : decode cX1_isOtherwise 34 = .ok (.iconst 0, 1) := by decide +kernel
theorem dX1_isOtherwise_35 : decode cX1_isOtherwise 35 = .ok (.ireturn, 1) := by decide +kernel
theorem dX2_formOf_0 : decode cX2_formOf 0 = .ok (.iload_n 0, 1) := by decide +kernel
theorem dX2_formOf_1 : decode cX2_formOf 1 = .ok (.iconst 5, 1) := by decide +kernel
theorem dX2_formOf_2 : decode cX2_formOf 2 = .ok (.imul, 1) := by decide +kernel
theorem dX2_formOf_3 : decode cX2_formOf 3 = .ok (.iload_n 1, 1) := by decide +kernel
theorem dX2_formOf_4 : decode cX2_formOf 4 = .ok (.iadd, 1) := by decide +kernel
theorem dX2_formOf_5 : decode cX2_formOf 5 = .ok (.ireturn, 1) := by decide +kernel
theorem dX2_has_0 : decode cX2_has 0 = .ok (.iload_n 1, 1) := by decide +kernel
theorem dX2_has_1 : decode cX2_has 1 = .ok (.ifCond .lt 15, 3) := by decide +kernel
theorem dX2_has_4 : decode cX2_has 4 = .ok (.iload_n 1, 1) := by decide +kernel
theorem dX2_has_5 : decode cX2_has 5 = .ok (.aload_n 0, 1) := by decide +kernel
theorem dX2_has_6 : decode cX2_has 6 = .ok (.getfield 30, 3) := by decide +kernel
theorem dX2_has_9 : decode cX2_has 9 = .ok (.if_icmp .ge 7, 3) := by decide +kernel
theorem dX2_has_12 : decode cX2_has 12 = .ok (.iconst 1, 1) := by decide +kernel
theorem dX2_has_13 : decode cX2_has 13 = .ok (.goto 4, 3) := by decide +kernel
theorem dX2_has_16 : decode cX2_has 16 = .ok (.iconst 0, 1) := by decide +kernel
theorem dX2_has_17 : decode cX2_has 17 = .ok (.ireturn, 1) := by decide +kernel
theorem dX2_hasRoomForForm_0 : decode cX2_hasRoomForForm 0 = .ok (.aload_n 0, 1) := by decide +kernel
theorem dX2_hasRoomForForm_1 : decode cX2_hasRoomForForm 1 = .ok (.iload_n 1, 1) := by decide +kernel
theorem dX2_hasRoomForForm_2 : decode cX2_hasRoomForForm 2 = .ok (.invokevirtual 34, 3) := by decide +kernel
theorem dX2_hasRoomForForm_5 : decode cX2_hasRoomForForm 5 = .ok (.ifCond .eq 17, 3) := by decide +kernel
theorem dX2_hasRoomForForm_8 : decode cX2_hasRoomForForm 8 = .ok (.aload_n 0, 1) := by decide +kernel
theorem dX2_hasRoomForForm_9 : decode cX2_hasRoomForForm 9 = .ok (.getfield 9, 3) := by decide +kernel
theorem dX2_hasRoomForForm_12 : decode cX2_hasRoomForForm 12 = .ok (.iload_n 1, 1) := by decide +kernel
theorem dX2_hasRoomForForm_13 : decode cX2_hasRoomForForm 13 = .ok (.iaload, 1) := by decide +kernel
theorem dX2_hasRoomForForm_14 : decode cX2_hasRoomForForm 14 = .ok (.iconst 5, 1) := by decide +kernel
theorem dX2_hasRoomForForm_15 : decode cX2_hasRoomForForm 15 = .ok (.if_icmp .ge 7, 3) := by decide +kernel
theorem dX2_hasRoomForForm_18 : decode cX2_hasRoomForForm 18 = .ok (.iconst 1, 1) := by decide +kernel
theorem dX2_hasRoomForForm_19 : decode cX2_hasRoomForForm 19 = .ok (.goto 4, 3) := by decide +kernel
theorem dX2_hasRoomForForm_22 : decode cX2_hasRoomForForm 22 = .ok (.iconst 0, 1) := by decide +kernel
theorem dX2_hasRoomForForm_23 : decode cX2_hasRoomForForm 23 = .ok (.ireturn, 1) := by decide +kernel
theorem dX2_add_0 : decode cX2_add 0 = .ok (.aload_n 0, 1) := by decide +kernel
theorem dX2_add_1 : decode cX2_add 1 = .ok (.getfield 30, 3) := by decide +kernel
theorem dX2_add_4 : decode cX2_add 4 = .ok (.istore 5, 2) := by decide +kernel
theorem dX2_add_6 : decode cX2_add 6 = .ok (.iload 5, 2) := by decide +kernel
theorem dX2_add_8 : decode cX2_add 8 = .ok (.bipush 12, 2) := by decide +kernel
theorem dX2_add_10 : decode cX2_add 10 = .ok (.if_icmp .lt 5, 3) := by decide +kernel
theorem dX2_add_13 : decode cX2_add 13 = .ok (.iconst (-1), 1) := by decide +kernel
theorem dX2_add_14 : decode cX2_add 14 = .ok (.ireturn, 1) := by decide +kernel
theorem dX2_add_15 : decode cX2_add 15 = .ok (.aload_n 0, 1) := by decide +kernel
theorem dX2_add_16 : decode cX2_add 16 = .ok (.dup, 1) := by decide +kernel
theorem dX2_add_17 : decode cX2_add 17 = .ok (.getfield 30, 3) := by decide +kernel
theorem dX2_add_20 : decode cX2_add 20 = .ok (.iconst 1, 1) := by decide +kernel
theorem dX2_add_21 : decode cX2_add 21 = .ok (.iadd, 1) := by decide +kernel
theorem dX2_add_22 : decode cX2_add 22 = .ok (.putfield 30, 3) := by decide +kernel
theorem dX2_add_25 : decode cX2_add 25 = .ok (.aload_n 0, 1) := by decide +kernel
theorem dX2_add_26 : decode cX2_add 26 = .ok (.iload 5, 2) := by decide +kernel
theorem dX2_add_28 : decode cX2_add 28 = .ok (.lload_n 1, 1) := by decide +kernel
theorem dX2_add_29 : decode cX2_add 29 = .ok (.iload_n 3, 1) := by decide +kernel
theorem dX2_add_30 : decode cX2_add 30 = .ok (.iload 4, 2) := by decide +kernel
theorem dX2_add_32 : decode cX2_add 32 = .ok (.invokevirtual 38, 3) := by decide +kernel
theorem dX2_add_35 : decode cX2_add 35 = .ok (.pop, 1) := by decide +kernel
theorem dX2_add_36 : decode cX2_add 36 = .ok (.iload 5, 2) := by decide +kernel
theorem dX2_add_38 : decode cX2_add 38 = .ok (.ireturn, 1) := by decide +kernel
theorem dX2_addForm_0 : decode cX2_addForm 0 = .ok (.aload_n 0, 1) := by decide +kernel
theorem dX2_addForm_1 : decode cX2_addForm 1 = .ok (.iload_n 1, 1) := by decide +kernel
theorem dX2_addForm_2 : decode cX2_addForm 2 = .ok (.invokevirtual 42, 3) := by decide +kernel
theorem dX2_addForm_5 : decode cX2_addForm 5 = .ok (.ifCond .ne 5, 3) := by decide +kernel
theorem dX2_addForm_8 : decode cX2_addForm 8 = .ok (.iconst (-1), 1) := by decide +kernel
theorem dX2_addForm_9 : decode cX2_addForm 9 = .ok (.ireturn, 1) := by decide +kernel
theorem dX2_addForm_10 : decode cX2_addForm 10 = .ok (.iload_n 1, 1) := by decide +kernel
theorem dX2_addForm_11 : decode cX2_addForm 11 = .ok (.aload_n 0, 1) := by decide +kernel
theorem dX2_addForm_12 : decode cX2_addForm 12 = .ok (.getfield 9, 3) := by decide +kernel
theorem dX2_addForm_15 : decode cX2_addForm 15 = .ok (.iload_n 1, 1) := by decide +kernel
theorem dX2_addForm_16 : decode cX2_addForm 16 = .ok (.iaload, 1) := by decide +kernel
theorem dX2_addForm_17 : decode cX2_addForm 17 = .ok (.invokestatic 45, 3) := by decide +kernel
theorem dX2_addForm_20 : decode cX2_addForm 20 = .ok (.istore 6, 2) := by decide +kernel
theorem dX2_addForm_22 : decode cX2_addForm 22 = .ok (.aload_n 0, 1) := by decide +kernel
theorem dX2_addForm_23 : decode cX2_addForm 23 = .ok (.getfield 26, 3) := by decide +kernel
theorem dX2_addForm_26 : decode cX2_addForm 26 = .ok (.iload 6, 2) := by decide +kernel
theorem dX2_addForm_28 : decode cX2_addForm 28 = .ok (.lload_n 2, 1) := by decide +kernel
theorem dX2_addForm_29 : decode cX2_addForm 29 = .ok (.invokevirtual 49, 3) := by decide +kernel
theorem dX2_addForm_32 : decode cX2_addForm 32 = .ok (.aload_n 0, 1) := by decide +kernel
theorem dX2_addForm_33 : decode cX2_addForm 33 = .ok (.getfield 15, 3) := by decide +kernel
theorem dX2_addForm_36 : decode cX2_addForm 36 = .ok (.iload 6, 2) := by decide +kernel
theorem dX2_addForm_38 : decode cX2_addForm 38 = .ok (.iload 4, 2) := by decide +kernel
theorem dX2_addForm_40 : decode cX2_addForm 40 = .ok (.iastore, 1) := by decide +kernel
theorem dX2_addForm_41 : decode cX2_addForm 41 = .ok (.aload_n 0, 1) := by decide +kernel
theorem dX2_addForm_42 : decode cX2_addForm 42 = .ok (.getfield 18, 3) := by decide +kernel
theorem dX2_addForm_45 : decode cX2_addForm 45 = .ok (.iload 6, 2) := by decide +kernel
theorem dX2_addForm_47 : decode cX2_addForm 47 = .ok (.iload 5, 2) := by decide +kernel
theorem dX2_addForm_49 : decode cX2_addForm 49 = .ok (.iastore, 1) := by decide +kernel
theorem dX2_addForm_50 : decode cX2_addForm 50 = .ok (.aload_n 0, 1) := by decide +kernel
theorem dX2_addForm_51 : decode cX2_addForm 51 = .ok (.getfield 9, 3) := by decide +kernel
theorem dX2_addForm_54 : decode cX2_addForm 54 = .ok (.iload_n 1, 1) := by decide +kernel
theorem dX2_addForm_55 : decode cX2_addForm 55 = .ok (.dup2, 1) := by decide +kernel
theorem dX2_addForm_56 : decode cX2_addForm 56 = .ok (.iaload, 1) := by decide +kernel
theorem dX2_addForm_57 : decode cX2_addForm 57 = .ok (.iconst 1, 1) := by decide +kernel
theorem dX2_addForm_58 : decode cX2_addForm 58 = .ok (.iadd, 1) := by decide +kernel
theorem dX2_addForm_59 : decode cX2_addForm 59 = .ok (.iastore, 1) := by decide +kernel
theorem dX2_addForm_60 : decode cX2_addForm 60 = .ok (.aload_n 0, 1) := by decide +kernel
theorem dX2_addForm_61 : decode cX2_addForm 61 = .ok (.getfield 9, 3) := by decide +kernel
theorem dX2_addForm_64 : decode cX2_addForm 64 = .ok (.iload_n 1, 1) := by decide +kernel
theorem dX2_addForm_65 : decode cX2_addForm 65 = .ok (.iaload, 1) := by decide +kernel
theorem dX2_addForm_66 : decode cX2_addForm 66 = .ok (.ireturn, 1) := by decide +kernel
theorem dX2_isSpelledIn_0 : decode cX2_isSpelledIn 0 = .ok (.iload_n 1, 1) := by decide +kernel
theorem dX2_isSpelledIn_1 : decode cX2_isSpelledIn 1 = .ok (.ifCond .lt 36, 3) := by decide +kernel
theorem dX2_isSpelledIn_4 : decode cX2_isSpelledIn 4 = .ok (.iload_n 1, 1) := by decide +kernel
theorem dX2_isSpelledIn_5 : decode cX2_isSpelledIn 5 = .ok (.aload_n 0, 1) := by decide +kernel
theorem dX2_isSpelledIn_6 : decode cX2_isSpelledIn 6 = .ok (.getfield 15, 3) := by decide +kernel
theorem dX2_isSpelledIn_9 : decode cX2_isSpelledIn 9 = .ok (.arraylength, 1) := by decide +kernel
theorem dX2_isSpelledIn_10 : decode cX2_isSpelledIn 10 = .ok (.if_icmp .ge 27, 3) := by decide +kernel
theorem dX2_isSpelledIn_13 : decode cX2_isSpelledIn 13 = .ok (.aload_n 0, 1) := by decide +kernel
theorem dX2_isSpelledIn_14 : decode cX2_isSpelledIn 14 = .ok (.getfield 15, 3) := by decide +kernel
theorem dX2_isSpelledIn_17 : decode cX2_isSpelledIn 17 = .ok (.iload_n 1, 1) := by decide +kernel
theorem dX2_isSpelledIn_18 : decode cX2_isSpelledIn 18 = .ok (.iaload, 1) := by decide +kernel
theorem dX2_isSpelledIn_19 : decode cX2_isSpelledIn 19 = .ok (.iload_n 3, 1) := by decide +kernel
theorem dX2_isSpelledIn_20 : decode cX2_isSpelledIn 20 = .ok (.if_icmp .gt 17, 3) := by decide +kernel
theorem dX2_isSpelledIn_23 : decode cX2_isSpelledIn 23 = .ok (.iload_n 2, 1) := by decide +kernel
theorem dX2_isSpelledIn_24 : decode cX2_isSpelledIn 24 = .ok (.aload_n 0, 1) := by decide +kernel
theorem dX2_isSpelledIn_25 : decode cX2_isSpelledIn 25 = .ok (.getfield 18, 3) := by decide +kernel
theorem dX2_isSpelledIn_28 : decode cX2_isSpelledIn 28 = .ok (.iload_n 1, 1) := by decide +kernel
theorem dX2_isSpelledIn_29 : decode cX2_isSpelledIn 29 = .ok (.iaload, 1) := by decide +kernel
theorem dX2_isSpelledIn_30 : decode cX2_isSpelledIn 30 = .ok (.if_icmp .gt 7, 3) := by decide +kernel
theorem dX2_isSpelledIn_33 : decode cX2_isSpelledIn 33 = .ok (.iconst 1, 1) := by decide +kernel
theorem dX2_isSpelledIn_34 : decode cX2_isSpelledIn 34 = .ok (.goto 4, 3) := by decide +kernel
theorem dX2_isSpelledIn_37 : decode cX2_isSpelledIn 37 = .ok (.iconst 0, 1) := by decide +kernel
theorem dX2_isSpelledIn_38 : decode cX2_isSpelledIn 38 = .ok (.ireturn, 1) := by decide +kernel
theorem dX2_head_0 : decode cX2_head 0 = .ok (.aload_n 0, 1) := by decide +kernel
theorem dX2_head_1 : decode cX2_head 1 = .ok (.iload_n 1, 1) := by decide +kernel
theorem dX2_head_2 : decode cX2_head 2 = .ok (.invokevirtual 34, 3) := by decide +kernel
theorem dX2_head_5 : decode cX2_head 5 = .ok (.ifCond .eq 18, 3) := by decide +kernel
theorem dX2_head_8 : decode cX2_head 8 = .ok (.aload_n 0, 1) := by decide +kernel
theorem dX2_head_9 : decode cX2_head 9 = .ok (.getfield 26, 3) := by decide +kernel
theorem dX2_head_12 : decode cX2_head 12 = .ok (.iload_n 1, 1) := by decide +kernel
theorem dX2_head_13 : decode cX2_head 13 = .ok (.iconst 0, 1) := by decide +kernel
theorem dX2_head_14 : decode cX2_head 14 = .ok (.invokestatic 45, 3) := by decide +kernel
theorem dX2_head_17 : decode cX2_head 17 = .ok (.invokevirtual 53, 3) := by decide +kernel
theorem dX2_head_20 : decode cX2_head 20 = .ok (.goto 4, 3) := by decide +kernel
theorem dX2_head_23 : decode cX2_head 23 = .ok (.lconst 0, 1) := by decide +kernel
theorem dX2_head_24 : decode cX2_head 24 = .ok (.lreturn, 1) := by decide +kernel
theorem dX3_has_0 : decode cX3_has 0 = .ok (.iload_n 1, 1) := by decide +kernel
theorem dX3_has_1 : decode cX3_has 1 = .ok (.ifCond .lt 15, 3) := by decide +kernel
theorem dX3_has_4 : decode cX3_has 4 = .ok (.iload_n 1, 1) := by decide +kernel
theorem dX3_has_5 : decode cX3_has 5 = .ok (.aload_n 0, 1) := by decide +kernel
theorem dX3_has_6 : decode cX3_has 6 = .ok (.getfield 18, 3) := by decide +kernel
theorem dX3_has_9 : decode cX3_has 9 = .ok (.if_icmp .ge 7, 3) := by decide +kernel
theorem dX3_has_12 : decode cX3_has 12 = .ok (.iconst 1, 1) := by decide +kernel
theorem dX3_has_13 : decode cX3_has 13 = .ok (.goto 4, 3) := by decide +kernel
theorem dX3_has_16 : decode cX3_has 16 = .ok (.iconst 0, 1) := by decide +kernel
theorem dX3_has_17 : decode cX3_has 17 = .ok (.ireturn, 1) := by decide +kernel
theorem dX3_isLoose_0 : decode cX3_isLoose 0 = .ok (.aload_n 0, 1) := by decide +kernel
theorem dX3_isLoose_1 : decode cX3_isLoose 1 = .ok (.iload_n 1, 1) := by decide +kernel
theorem dX3_isLoose_2 : decode cX3_isLoose 2 = .ok (.invokevirtual 22, 3) := by decide +kernel
theorem dX3_isLoose_5 : decode cX3_isLoose 5 = .ok (.ifCond .eq 17, 3) := by decide +kernel
theorem dX3_isLoose_8 : decode cX3_isLoose 8 = .ok (.aload_n 0, 1) := by decide +kernel
theorem dX3_isLoose_9 : decode cX3_isLoose 9 = .ok (.getfield 15, 3) := by decide +kernel
theorem dX3_isLoose_12 : decode cX3_isLoose 12 = .ok (.iload_n 1, 1) := by decide +kernel
theorem dX3_isLoose_13 : decode cX3_isLoose 13 = .ok (.iaload, 1) := by decide +kernel
theorem dX3_isLoose_14 : decode cX3_isLoose 14 = .ok (.iconst (-1), 1) := by decide +kernel
theorem dX3_isLoose_15 : decode cX3_isLoose 15 = .ok (.if_icmp .ne 7, 3) := by decide +kernel
theorem dX3_isLoose_18 : decode cX3_isLoose 18 = .ok (.iconst 1, 1) := by decide +kernel
theorem dX3_isLoose_19 : decode cX3_isLoose 19 = .ok (.goto 4, 3) := by decide +kernel
theorem dX3_isLoose_22 : decode cX3_isLoose 22 = .ok (.iconst 0, 1) := by decide +kernel
theorem dX3_isLoose_23 : decode cX3_isLoose 23 = .ok (.ireturn, 1) := by decide +kernel
theorem dX3_loose_0 : decode cX3_loose 0 = .ok (.iconst 0, 1) := by decide +kernel
theorem dX3_loose_1 : decode cX3_loose 1 = .ok (.istore_n 1, 1) := by decide +kernel
theorem dX3_loose_2 : decode cX3_loose 2 = .ok (.iconst 0, 1) := by decide +kernel
theorem dX3_loose_3 : decode cX3_loose 3 = .ok (.istore_n 2, 1) := by decide +kernel
theorem dX3_loose_4 : decode cX3_loose 4 = .ok (.iload_n 2, 1) := by decide +kernel
theorem dX3_loose_5 : decode cX3_loose 5 = .ok (.aload_n 0, 1) := by decide +kernel
theorem dX3_loose_6 : decode cX3_loose 6 = .ok (.getfield 18, 3) := by decide +kernel
theorem dX3_loose_9 : decode cX3_loose 9 = .ok (.if_icmp .ge 20, 3) := by decide +kernel
theorem dX3_loose_12 : decode cX3_loose 12 = .ok (.aload_n 0, 1) := by decide +kernel
theorem dX3_loose_13 : decode cX3_loose 13 = .ok (.iload_n 2, 1) := by decide +kernel
theorem dX3_loose_14 : decode cX3_loose 14 = .ok (.invokevirtual 26, 3) := by decide +kernel
theorem dX3_loose_17 : decode cX3_loose 17 = .ok (.ifCond .eq 6, 3) := by decide +kernel
theorem dX3_loose_20 : decode cX3_loose 20 = .ok (.iinc 1 1, 3) := by decide +kernel
theorem dX3_loose_23 : decode cX3_loose 23 = .ok (.iinc 2 1, 3) := by decide +kernel
theorem dX3_loose_26 : decode cX3_loose 26 = .ok (.goto (-22), 3) := by decide +kernel
theorem dX3_loose_29 : decode cX3_loose 29 = .ok (.iload_n 1, 1) := by decide +kernel
theorem dX3_loose_30 : decode cX3_loose 30 = .ok (.ireturn, 1) := by decide +kernel
theorem dX3_add_0 : decode cX3_add 0 = .ok (.aload_n 0, 1) := by decide +kernel
theorem dX3_add_1 : decode cX3_add 1 = .ok (.getfield 18, 3) := by decide +kernel
theorem dX3_add_4 : decode cX3_add 4 = .ok (.istore_n 3, 1) := by decide +kernel
theorem dX3_add_5 : decode cX3_add 5 = .ok (.iload_n 3, 1) := by decide +kernel
theorem dX3_add_6 : decode cX3_add 6 = .ok (.bipush 20, 2) := by decide +kernel
theorem dX3_add_8 : decode cX3_add 8 = .ok (.if_icmp .lt 5, 3) := by decide +kernel
theorem dX3_add_11 : decode cX3_add 11 = .ok (.iconst (-1), 1) := by decide +kernel
theorem dX3_add_12 : decode cX3_add 12 = .ok (.ireturn, 1) := by decide +kernel
theorem dX3_add_13 : decode cX3_add 13 = .ok (.aload_n 0, 1) := by decide +kernel
theorem dX3_add_14 : decode cX3_add 14 = .ok (.getfield 9, 3) := by decide +kernel
theorem dX3_add_17 : decode cX3_add 17 = .ok (.iload_n 3, 1) := by decide +kernel
theorem dX3_add_18 : decode cX3_add 18 = .ok (.iload_n 1, 1) := by decide +kernel
theorem dX3_add_19 : decode cX3_add 19 = .ok (.iastore, 1) := by decide +kernel
theorem dX3_add_20 : decode cX3_add 20 = .ok (.aload_n 0, 1) := by decide +kernel
theorem dX3_add_21 : decode cX3_add 21 = .ok (.getfield 15, 3) := by decide +kernel
theorem dX3_add_24 : decode cX3_add 24 = .ok (.iload_n 3, 1) := by decide +kernel
theorem dX3_add_25 : decode cX3_add 25 = .ok (.iload_n 2, 1) := by decide +kernel
theorem dX3_add_26 : decode cX3_add 26 = .ok (.iastore, 1) := by decide +kernel
theorem dX3_add_27 : decode cX3_add 27 = .ok (.aload_n 0, 1) := by decide +kernel
theorem dX3_add_28 : decode cX3_add 28 = .ok (.dup, 1) := by decide +kernel
theorem dX3_add_29 : decode cX3_add 29 = .ok (.getfield 18, 3) := by decide +kernel
theorem dX3_add_32 : decode cX3_add 32 = .ok (.iconst 1, 1) := by decide +kernel
theorem dX3_add_33 : decode cX3_add 33 = .ok (.iadd, 1) := by decide +kernel
theorem dX3_add_34 : decode cX3_add 34 = .ok (.putfield 18, 3) := by decide +kernel
theorem dX3_add_37 : decode cX3_add 37 = .ok (.iload_n 3, 1) := by decide +kernel
theorem dX3_add_38 : decode cX3_add 38 = .ok (.ireturn, 1) := by decide +kernel
theorem dX3_remove_0 : decode cX3_remove 0 = .ok (.aload_n 0, 1) := by decide +kernel
theorem dX3_remove_1 : decode cX3_remove 1 = .ok (.iload_n 1, 1) := by decide +kernel
theorem dX3_remove_2 : decode cX3_remove 2 = .ok (.invokevirtual 22, 3) := by decide +kernel
theorem dX3_remove_5 : decode cX3_remove 5 = .ok (.ifCond .ne 4, 3) := by decide +kernel
theorem dX3_remove_8 : decode cX3_remove 8 = .ok (.return_, 1) := by decide +kernel
theorem dX3_remove_9 : decode cX3_remove 9 = .ok (.aload_n 0, 1) := by decide +kernel
theorem dX3_remove_10 : decode cX3_remove 10 = .ok (.dup, 1) := by decide +kernel
theorem dX3_remove_11 : decode cX3_remove 11 = .ok (.getfield 18, 3) := by decide +kernel
theorem dX3_remove_14 : decode cX3_remove 14 = .ok (.iconst 1, 1) := by decide +kernel
theorem dX3_remove_15 : decode cX3_remove 15 = .ok (.isub, 1) := by decide +kernel
theorem dX3_remove_16 : decode cX3_remove 16 = .ok (.putfield 18, 3) := by decide +kernel
theorem dX3_remove_19 : decode cX3_remove 19 = .ok (.iload_n 1, 1) := by decide +kernel
theorem dX3_remove_20 : decode cX3_remove 20 = .ok (.istore_n 2, 1) := by decide +kernel
theorem dX3_remove_21 : decode cX3_remove 21 = .ok (.iload_n 2, 1) := by decide +kernel
theorem dX3_remove_22 : decode cX3_remove 22 = .ok (.aload_n 0, 1) := by decide +kernel
theorem dX3_remove_23 : decode cX3_remove 23 = .ok (.getfield 18, 3) := by decide +kernel
theorem dX3_remove_26 : decode cX3_remove 26 = .ok (.if_icmp .ge 37, 3) := by decide +kernel
theorem dX3_remove_29 : decode cX3_remove 29 = .ok (.aload_n 0, 1) := by decide +kernel
theorem dX3_remove_30 : decode cX3_remove 30 = .ok (.getfield 9, 3) := by decide +kernel
theorem dX3_remove_33 : decode cX3_remove 33 = .ok (.iload_n 2, 1) := by decide +kernel
theorem dX3_remove_34 : decode cX3_remove 34 = .ok (.aload_n 0, 1) := by decide +kernel
theorem dX3_remove_35 : decode cX3_remove 35 = .ok (.getfield 9, 3) := by decide +kernel
theorem dX3_remove_38 : decode cX3_remove 38 = .ok (.iload_n 2, 1) := by decide +kernel
theorem dX3_remove_39 : decode cX3_remove 39 = .ok (.iconst 1, 1) := by decide +kernel
theorem dX3_remove_40 : decode cX3_remove 40 = .ok (.iadd, 1) := by decide +kernel
theorem dX3_remove_41 : decode cX3_remove 41 = .ok (.iaload, 1) := by decide +kernel
theorem dX3_remove_42 : decode cX3_remove 42 = .ok (.iastore, 1) := by decide +kernel
theorem dX3_remove_43 : decode cX3_remove 43 = .ok (.aload_n 0, 1) := by decide +kernel
theorem dX3_remove_44 : decode cX3_remove 44 = .ok (.getfield 15, 3) := by decide +kernel
theorem dX3_remove_47 : decode cX3_remove 47 = .ok (.iload_n 2, 1) := by decide +kernel
theorem dX3_remove_48 : decode cX3_remove 48 = .ok (.aload_n 0, 1) := by decide +kernel
theorem dX3_remove_49 : decode cX3_remove 49 = .ok (.getfield 15, 3) := by decide +kernel
theorem dX3_remove_52 : decode cX3_remove 52 = .ok (.iload_n 2, 1) := by decide +kernel
theorem dX3_remove_53 : decode cX3_remove 53 = .ok (.iconst 1, 1) := by decide +kernel
theorem dX3_remove_54 : decode cX3_remove 54 = .ok (.iadd, 1) := by decide +kernel
theorem dX3_remove_55 : decode cX3_remove 55 = .ok (.iaload, 1) := by decide +kernel
theorem dX3_remove_56 : decode cX3_remove 56 = .ok (.iastore, 1) := by decide +kernel
theorem dX3_remove_57 : decode cX3_remove 57 = .ok (.iinc 2 1, 3) := by decide +kernel
theorem dX3_remove_60 : decode cX3_remove 60 = .ok (.goto (-39), 3) := by decide +kernel
theorem dX3_remove_63 : decode cX3_remove 63 = .ok (.return_, 1) := by decide +kernel
theorem dX3_forget_0 : decode cX3_forget 0 = .ok (.aload_n 0, 1) := by decide +kernel
theorem dX3_forget_1 : decode cX3_forget 1 = .ok (.getfield 18, 3) := by decide +kernel
theorem dX3_forget_4 : decode cX3_forget 4 = .ok (.iconst 1, 1) := by decide +kernel
theorem dX3_forget_5 : decode cX3_forget 5 = .ok (.isub, 1) := by decide +kernel
theorem dX3_forget_6 : decode cX3_forget 6 = .ok (.istore_n 2, 1) := by decide +kernel
theorem dX3_forget_7 : decode cX3_forget 7 = .ok (.iload_n 2, 1) := by decide +kernel
theorem dX3_forget_8 : decode cX3_forget 8 = .ok (.ifCond .lt 44, 3) := by decide +kernel
theorem dX3_forget_11 : decode cX3_forget 11 = .ok (.aload_n 0, 1) := by decide +kernel
theorem dX3_forget_12 : decode cX3_forget 12 = .ok (.getfield 9, 3) := by decide +kernel
theorem dX3_forget_15 : decode cX3_forget 15 = .ok (.iload_n 2, 1) := by decide +kernel
theorem dX3_forget_16 : decode cX3_forget 16 = .ok (.iaload, 1) := by decide +kernel
theorem dX3_forget_17 : decode cX3_forget 17 = .ok (.iload_n 1, 1) := by decide +kernel
theorem dX3_forget_18 : decode cX3_forget 18 = .ok (.if_icmp .ne 11, 3) := by decide +kernel
theorem dX3_forget_21 : decode cX3_forget 21 = .ok (.aload_n 0, 1) := by decide +kernel
theorem dX3_forget_22 : decode cX3_forget 22 = .ok (.iload_n 2, 1) := by decide +kernel
theorem dX3_forget_23 : decode cX3_forget 23 = .ok (.invokevirtual 29, 3) := by decide +kernel
theorem dX3_forget_26 : decode cX3_forget 26 = .ok (.goto 20, 3) := by decide +kernel
theorem dX3_forget_29 : decode cX3_forget 29 = .ok (.aload_n 0, 1) := by decide +kernel
theorem dX3_forget_30 : decode cX3_forget 30 = .ok (.getfield 15, 3) := by decide +kernel
theorem dX3_forget_33 : decode cX3_forget 33 = .ok (.iload_n 2, 1) := by decide +kernel
theorem dX3_forget_34 : decode cX3_forget 34 = .ok (.iaload, 1) := by decide +kernel
theorem dX3_forget_35 : decode cX3_forget 35 = .ok (.iload_n 1, 1) := by decide +kernel
theorem dX3_forget_36 : decode cX3_forget 36 = .ok (.if_icmp .ne 10, 3) := by decide +kernel
theorem dX3_forget_39 : decode cX3_forget 39 = .ok (.aload_n 0, 1) := by decide +kernel
theorem dX3_forget_40 : decode cX3_forget 40 = .ok (.getfield 15, 3) := by decide +kernel
theorem dX3_forget_43 : decode cX3_forget 43 = .ok (.iload_n 2, 1) := by decide +kernel
theorem dX3_forget_44 : decode cX3_forget 44 = .ok (.iconst (-1), 1) := by decide +kernel
theorem dX3_forget_45 : decode cX3_forget 45 = .ok (.iastore, 1) := by decide +kernel
theorem dX3_forget_46 : decode cX3_forget 46 = .ok (.iinc 2 (-1), 3) := by decide +kernel
theorem dX3_forget_49 : decode cX3_forget 49 = .ok (.goto (-42), 3) := by decide +kernel
theorem dX3_forget_52 : decode cX3_forget 52 = .ok (.return_, 1) := by decide +kernel
theorem dX4_byteAt_0 : decode cX4_byteAt 0 = .ok (.iload_n 1, 1) := by decide +kernel
theorem dX4_byteAt_1 : decode cX4_byteAt 1 = .ok (.ifCond .lt 20, 3) := by decide +kernel
theorem dX4_byteAt_4 : decode cX4_byteAt 4 = .ok (.iload_n 1, 1) := by decide +kernel
theorem dX4_byteAt_5 : decode cX4_byteAt 5 = .ok (.aload_n 0, 1) := by decide +kernel
theorem dX4_byteAt_6 : decode cX4_byteAt 6 = .ok (.getfield 39, 3) := by decide +kernel
theorem dX4_byteAt_9 : decode cX4_byteAt 9 = .ok (.if_icmp .ge 12, 3) := by decide +kernel
theorem dX4_byteAt_12 : decode cX4_byteAt 12 = .ok (.aload_n 0, 1) := by decide +kernel
theorem dX4_byteAt_13 : decode cX4_byteAt 13 = .ok (.getfield 11, 3) := by decide +kernel
theorem dX4_byteAt_16 : decode cX4_byteAt 16 = .ok (.iload_n 1, 1) := by decide +kernel
theorem dX4_byteAt_17 : decode cX4_byteAt 17 = .ok (.baload, 1) := by decide +kernel
theorem dX4_byteAt_18 : decode cX4_byteAt 18 = .ok (.goto 4, 3) := by decide +kernel
theorem dX4_byteAt_21 : decode cX4_byteAt 21 = .ok (.iconst (-1), 1) := by decide +kernel
theorem dX4_byteAt_22 : decode cX4_byteAt 22 = .ok (.ireturn, 1) := by decide +kernel
theorem dX4_compose_0 : decode cX4_compose 0 = .ok (.aload_n 0, 1) := by decide +kernel
theorem dX4_compose_1 : decode cX4_compose 1 = .ok (.getfield 31, 3) := by decide +kernel
theorem dX4_compose_4 : decode cX4_compose 4 = .ok (.invokevirtual 43, 3) := by decide +kernel
theorem dX4_compose_7 : decode cX4_compose 7 = .ok (.aload_n 0, 1) := by decide +kernel
theorem dX4_compose_8 : decode cX4_compose 8 = .ok (.iconst 0, 1) := by decide +kernel
theorem dX4_compose_9 : decode cX4_compose 9 = .ok (.putfield 39, 3) := by decide +kernel
theorem dX4_compose_12 : decode cX4_compose 12 = .ok (.aload_n 0, 1) := by decide +kernel
theorem dX4_compose_13 : decode cX4_compose 13 = .ok (.aload_n 0, 1) := by decide +kernel
theorem dX4_compose_14 : decode cX4_compose 14 = .ok (.getfield 19, 3) := by decide +kernel
theorem dX4_compose_17 : decode cX4_compose 17 = .ok (.iload_n 1, 1) := by decide +kernel
theorem dX4_compose_18 : decode cX4_compose 18 = .ok (.invokevirtual 48, 3) := by decide +kernel
theorem dX4_compose_21 : decode cX4_compose 21 = .ok (.invokevirtual 54, 3) := by decide +kernel
theorem dX4_compose_24 : decode cX4_compose 24 = .ok (.aload_n 0, 1) := by decide +kernel
theorem dX4_compose_25 : decode cX4_compose 25 = .ok (.bipush 58, 2) := by decide +kernel
theorem dX4_compose_27 : decode cX4_compose 27 = .ok (.invokevirtual 58, 3) := by decide +kernel
theorem dX4_compose_30 : decode cX4_compose 30 = .ok (.aload_n 0, 1) := by decide +kernel
theorem dX4_compose_31 : decode cX4_compose 31 = .ok (.iload_n 1, 1) := by decide +kernel
theorem dX4_compose_32 : decode cX4_compose 32 = .ok (.iconst (-1), 1) := by decide +kernel
theorem dX4_compose_33 : decode cX4_compose 33 = .ok (.iconst 1, 1) := by decide +kernel
theorem dX4_compose_34 : decode cX4_compose 34 = .ok (.invokevirtual 62, 3) := by decide +kernel
theorem dX4_compose_37 : decode cX4_compose 37 = .ok (.istore_n 2, 1) := by decide +kernel
theorem dX4_compose_38 : decode cX4_compose 38 = .ok (.iconst 0, 1) := by decide +kernel
theorem dX4_compose_39 : decode cX4_compose 39 = .ok (.istore_n 3, 1) := by decide +kernel
theorem dX4_compose_40 : decode cX4_compose 40 = .ok (.iload_n 3, 1) := by decide +kernel
theorem dX4_compose_41 : decode cX4_compose 41 = .ok (.bipush 40, 2) := by decide +kernel
theorem dX4_compose_43 : decode cX4_compose 43 = .ok (.if_icmp .ge 31, 3) := by decide +kernel
theorem dX4_compose_46 : decode cX4_compose 46 = .ok (.aload_n 0, 1) := by decide +kernel
theorem dX4_compose_47 : decode cX4_compose 47 = .ok (.getfield 27, 3) := by decide +kernel
theorem dX4_compose_50 : decode cX4_compose 50 = .ok (.iload_n 2, 1) := by decide +kernel
theorem dX4_compose_51 : decode cX4_compose 51 = .ok (.invokevirtual 66, 3) := by decide +kernel
theorem dX4_compose_54 : decode cX4_compose 54 = .ok (.ifCond .eq 20, 3) := by decide +kernel
theorem dX4_compose_57 : decode cX4_compose 57 = .ok (.aload_n 0, 1) := by decide +kernel
theorem dX4_compose_58 : decode cX4_compose 58 = .ok (.iload_n 2, 1) := by decide +kernel
theorem dX4_compose_59 : decode cX4_compose 59 = .ok (.invokevirtual 72, 3) := by decide +kernel
theorem dX4_compose_62 : decode cX4_compose 62 = .ok (.aload_n 0, 1) := by decide +kernel
theorem dX4_compose_63 : decode cX4_compose 63 = .ok (.iload_n 2, 1) := by decide +kernel
theorem dX4_compose_64 : decode cX4_compose 64 = .ok (.invokevirtual 75, 3) := by decide +kernel
theorem dX4_compose_67 : decode cX4_compose 67 = .ok (.istore_n 2, 1) := by decide +kernel
theorem dX4_compose_68 : decode cX4_compose 68 = .ok (.iinc 3 1, 3) := by decide +kernel
theorem dX4_compose_71 : decode cX4_compose 71 = .ok (.goto (-31), 3) := by decide +kernel
theorem dX4_compose_74 : decode cX4_compose 74 = .ok (.aload_n 0, 1) := by decide +kernel
theorem dX4_compose_75 : decode cX4_compose 75 = .ok (.aload_n 0, 1) := by decide +kernel
theorem dX4_compose_76 : decode cX4_compose 76 = .ok (.getfield 23, 3) := by decide +kernel
theorem dX4_compose_79 : decode cX4_compose 79 = .ok (.iload_n 1, 1) := by decide +kernel
theorem dX4_compose_80 : decode cX4_compose 80 = .ok (.iconst (-1), 1) := by decide +kernel
theorem dX4_compose_81 : decode cX4_compose 81 = .ok (.invokevirtual 79, 3) := by decide +kernel
theorem dX4_compose_84 : decode cX4_compose 84 = .ok (.invokevirtual 85, 3) := by decide +kernel
theorem dX4_compose_87 : decode cX4_compose 87 = .ok (.aload_n 0, 1) := by decide +kernel
theorem dX4_compose_88 : decode cX4_compose 88 = .ok (.getfield 39, 3) := by decide +kernel
theorem dX4_compose_91 : decode cX4_compose 91 = .ok (.ireturn, 1) := by decide +kernel
theorem dX4_senseAt_0 : decode cX4_senseAt 0 = .ok (.iconst 0, 1) := by decide +kernel
theorem dX4_senseAt_1 : decode cX4_senseAt 1 = .ok (.istore 4, 2) := by decide +kernel
theorem dX4_senseAt_3 : decode cX4_senseAt 3 = .ok (.iload 4, 2) := by decide +kernel
theorem dX4_senseAt_5 : decode cX4_senseAt 5 = .ok (.bipush 40, 2) := by decide +kernel
theorem dX4_senseAt_7 : decode cX4_senseAt 7 = .ok (.if_icmp .ge 66, 3) := by decide +kernel
theorem dX4_senseAt_10 : decode cX4_senseAt 10 = .ok (.aload_n 0, 1) := by decide +kernel
theorem dX4_senseAt_11 : decode cX4_senseAt 11 = .ok (.getfield 27, 3) := by decide +kernel
theorem dX4_senseAt_14 : decode cX4_senseAt 14 = .ok (.iload 4, 2) := by decide +kernel
theorem dX4_senseAt_16 : decode cX4_senseAt 16 = .ok (.invokevirtual 66, 3) := by decide +kernel
theorem dX4_senseAt_19 : decode cX4_senseAt 19 = .ok (.ifCond .eq 48, 3) := by decide +kernel
theorem dX4_senseAt_22 : decode cX4_senseAt 22 = .ok (.aload_n 0, 1) := by decide +kernel
theorem dX4_senseAt_23 : decode cX4_senseAt 23 = .ok (.getfield 27, 3) := by decide +kernel
theorem dX4_senseAt_26 : decode cX4_senseAt 26 = .ok (.getfield 88, 3) := by decide +kernel
theorem dX4_senseAt_29 : decode cX4_senseAt 29 = .ok (.iload 4, 2) := by decide +kernel
theorem dX4_senseAt_31 : decode cX4_senseAt 31 = .ok (.iaload, 1) := by decide +kernel
theorem dX4_senseAt_32 : decode cX4_senseAt 32 = .ok (.iload_n 1, 1) := by decide +kernel
theorem dX4_senseAt_33 : decode cX4_senseAt 33 = .ok (.if_icmp .ne 34, 3) := by decide +kernel
theorem dX4_senseAt_36 : decode cX4_senseAt 36 = .ok (.aload_n 0, 1) := by decide +kernel
theorem dX4_senseAt_37 : decode cX4_senseAt 37 = .ok (.getfield 27, 3) := by decide +kernel
theorem dX4_senseAt_40 : decode cX4_senseAt 40 = .ok (.getfield 91, 3) := by decide +kernel
theorem dX4_senseAt_43 : decode cX4_senseAt 43 = .ok (.iload 4, 2) := by decide +kernel
theorem dX4_senseAt_45 : decode cX4_senseAt 45 = .ok (.iaload, 1) := by decide +kernel
theorem dX4_senseAt_46 : decode cX4_senseAt 46 = .ok (.iload_n 2, 1) := by decide +kernel
theorem dX4_senseAt_47 : decode cX4_senseAt 47 = .ok (.if_icmp .ne 20, 3) := by decide +kernel
theorem dX4_senseAt_50 : decode cX4_senseAt 50 = .ok (.aload_n 0, 1) := by decide +kernel
theorem dX4_senseAt_51 : decode cX4_senseAt 51 = .ok (.getfield 31, 3) := by decide +kernel
theorem dX4_senseAt_54 : decode cX4_senseAt 54 = .ok (.getfield 94, 3) := by decide +kernel
theorem dX4_senseAt_57 : decode cX4_senseAt 57 = .ok (.iload 4, 2) := by decide +kernel
theorem dX4_senseAt_59 : decode cX4_senseAt 59 = .ok (.iaload, 1) := by decide +kernel
theorem dX4_senseAt_60 : decode cX4_senseAt 60 = .ok (.iload_n 3, 1) := by decide +kernel
theorem dX4_senseAt_61 : decode cX4_senseAt 61 = .ok (.if_icmp .ne 6, 3) := by decide +kernel
theorem dX4_senseAt_64 : decode cX4_senseAt 64 = .ok (.iload 4, 2) := by decide +kernel
theorem dX4_senseAt_66 : decode cX4_senseAt 66 = .ok (.ireturn, 1) := by decide +kernel
theorem dX4_senseAt_67 : decode cX4_senseAt 67 = .ok (.iinc 4 1, 3) := by decide +kernel
theorem dX4_senseAt_70 : decode cX4_senseAt 70 = .ok (.goto (-67), 3) := by decide +kernel
theorem dX4_senseAt_73 : decode cX4_senseAt 73 = .ok (.iconst (-1), 1) := by decide +kernel
theorem dX4_senseAt_74 : decode cX4_senseAt 74 = .ok (.ireturn, 1) := by decide +kernel
theorem dX4_senseBehind_0 : decode cX4_senseBehind 0 = .ok (.aload_n 0, 1) := by decide +kernel
theorem dX4_senseBehind_1 : decode cX4_senseBehind 1 = .ok (.getfield 27, 3) := by decide +kernel
theorem dX4_senseBehind_4 : decode cX4_senseBehind 4 = .ok (.getfield 88, 3) := by decide +kernel
theorem dX4_senseBehind_7 : decode cX4_senseBehind 7 = .ok (.iload_n 1, 1) := by decide +kernel
theorem dX4_senseBehind_8 : decode cX4_senseBehind 8 = .ok (.iaload, 1) := by decide +kernel
theorem dX4_senseBehind_9 : decode cX4_senseBehind 9 = .ok (.istore_n 2, 1) := by decide +kernel
theorem dX4_senseBehind_10 : decode cX4_senseBehind 10 = .ok (.aload_n 0, 1) := by decide +kernel
theorem dX4_senseBehind_11 : decode cX4_senseBehind 11 = .ok (.iload_n 2, 1) := by decide +kernel
theorem dX4_senseBehind_12 : decode cX4_senseBehind 12 = .ok (.iload_n 1, 1) := by decide +kernel
theorem dX4_senseBehind_13 : decode cX4_senseBehind 13 = .ok (.iconst 1, 1) := by decide +kernel
theorem dX4_senseBehind_14 : decode cX4_senseBehind 14 = .ok (.invokevirtual 62, 3) := by decide +kernel
theorem dX4_senseBehind_17 : decode cX4_senseBehind 17 = .ok (.istore_n 3, 1) := by decide +kernel
theorem dX4_senseBehind_18 : decode cX4_senseBehind 18 = .ok (.iload_n 1, 1) := by decide +kernel
theorem dX4_senseBehind_19 : decode cX4_senseBehind 19 = .ok (.istore 4, 2) := by decide +kernel
theorem dX4_senseBehind_21 : decode cX4_senseBehind 21 = .ok (.iconst 0, 1) := by decide +kernel
theorem dX4_senseBehind_22 : decode cX4_senseBehind 22 = .ok (.istore 5, 2) := by decide +kernel
theorem dX4_senseBehind_24 : decode cX4_senseBehind 24 = .ok (.iload 5, 2) := by decide +kernel
theorem dX4_senseBehind_26 : decode cX4_senseBehind 26 = .ok (.bipush 40, 2) := by decide +kernel
theorem dX4_senseBehind_28 : decode cX4_senseBehind 28 = .ok (.if_icmp .ge 66, 3) := by decide +kernel
theorem dX4_senseBehind_31 : decode cX4_senseBehind 31 = .ok (.iload_n 3, 1) := by decide +kernel
theorem dX4_senseBehind_32 : decode cX4_senseBehind 32 = .ok (.iconst (-1), 1) := by decide +kernel
theorem dX4_senseBehind_33 : decode cX4_senseBehind 33 = .ok (.if_icmp .ne 61, 3) := by decide +kernel
theorem dX4_senseBehind_36 : decode cX4_senseBehind 36 = .ok (.aload_n 0, 1) := by decide +kernel
theorem dX4_senseBehind_37 : decode cX4_senseBehind 37 = .ok (.getfield 27, 3) := by decide +kernel
theorem dX4_senseBehind_40 : decode cX4_senseBehind 40 = .ok (.iload 4, 2) := by decide +kernel
theorem dX4_senseBehind_42 : decode cX4_senseBehind 42 = .ok (.invokevirtual 66, 3) := by decide +kernel
theorem dX4_senseBehind_45 : decode cX4_senseBehind 45 = .ok (.ifCond .eq 49, 3) := by decide +kernel
theorem dX4_senseBehind_48 : decode cX4_senseBehind 48 = .ok (.aload_n 0, 1) := by decide +kernel
theorem dX4_senseBehind_49 : decode cX4_senseBehind 49 = .ok (.iload_n 2, 1) := by decide +kernel
theorem dX4_senseBehind_50 : decode cX4_senseBehind 50 = .ok (.aload_n 0, 1) := by decide +kernel
theorem dX4_senseBehind_51 : decode cX4_senseBehind 51 = .ok (.getfield 27, 3) := by decide +kernel
theorem dX4_senseBehind_54 : decode cX4_senseBehind 54 = .ok (.getfield 91, 3) := by decide +kernel
theorem dX4_senseBehind_57 : decode cX4_senseBehind 57 = .ok (.iload 4, 2) := by decide +kernel
theorem dX4_senseBehind_59 : decode cX4_senseBehind 59 = .ok (.iaload, 1) := by decide +kernel
theorem dX4_senseBehind_60 : decode cX4_senseBehind 60 = .ok (.aload_n 0, 1) := by decide +kernel
theorem dX4_senseBehind_61 : decode cX4_senseBehind 61 = .ok (.getfield 31, 3) := by decide +kernel
theorem dX4_senseBehind_64 : decode cX4_senseBehind 64 = .ok (.getfield 94, 3) := by decide +kernel
theorem dX4_senseBehind_67 : decode cX4_senseBehind 67 = .ok (.iload 4, 2) := by decide +kernel
theorem dX4_senseBehind_69 : decode cX4_senseBehind 69 = .ok (.iaload, 1) := by decide +kernel
theorem dX4_senseBehind_70 : decode cX4_senseBehind 70 = .ok (.iconst 1, 1) := by decide +kernel
theorem dX4_senseBehind_71 : decode cX4_senseBehind 71 = .ok (.iadd, 1) := by decide +kernel
theorem dX4_senseBehind_72 : decode cX4_senseBehind 72 = .ok (.invokevirtual 62, 3) := by decide +kernel
theorem dX4_senseBehind_75 : decode cX4_senseBehind 75 = .ok (.istore_n 3, 1) := by decide +kernel
theorem dX4_senseBehind_76 : decode cX4_senseBehind 76 = .ok (.aload_n 0, 1) := by decide +kernel
theorem dX4_senseBehind_77 : decode cX4_senseBehind 77 = .ok (.getfield 27, 3) := by decide +kernel
theorem dX4_senseBehind_80 : decode cX4_senseBehind 80 = .ok (.getfield 91, 3) := by decide +kernel
theorem dX4_senseBehind_83 : decode cX4_senseBehind 83 = .ok (.iload 4, 2) := by decide +kernel
theorem dX4_senseBehind_85 : decode cX4_senseBehind 85 = .ok (.iaload, 1) := by decide +kernel
theorem dX4_senseBehind_86 : decode cX4_senseBehind 86 = .ok (.istore 4, 2) := by decide +kernel
theorem dX4_senseBehind_88 : decode cX4_senseBehind 88 = .ok (.iinc 5 1, 3) := by decide +kernel
theorem dX4_senseBehind_91 : decode cX4_senseBehind 91 = .ok (.goto (-67), 3) := by decide +kernel
theorem dX4_senseBehind_94 : decode cX4_senseBehind 94 = .ok (.iload_n 3, 1) := by decide +kernel
theorem dX4_senseBehind_95 : decode cX4_senseBehind 95 = .ok (.ireturn, 1) := by decide +kernel
theorem dX4_addSense_0 : decode cX4_addSense 0 = .ok (.aload_n 0, 1) := by decide +kernel
theorem dX4_addSense_1 : decode cX4_addSense 1 = .ok (.bipush 32, 2) := by decide +kernel
theorem dX4_addSense_3 : decode cX4_addSense 3 = .ok (.invokevirtual 58, 3) := by decide +kernel
theorem dX4_addSense_6 : decode cX4_addSense 6 = .ok (.aload_n 0, 1) := by decide +kernel
theorem dX4_addSense_7 : decode cX4_addSense 7 = .ok (.iload_n 1, 1) := by decide +kernel
theorem dX4_addSense_8 : decode cX4_addSense 8 = .ok (.invokevirtual 97, 3) := by decide +kernel
theorem dX4_addSense_11 : decode cX4_addSense 11 = .ok (.aload_n 0, 1) := by decide +kernel
theorem dX4_addSense_12 : decode cX4_addSense 12 = .ok (.iload_n 1, 1) := by decide +kernel
theorem dX4_addSense_13 : decode cX4_addSense 13 = .ok (.invokevirtual 100, 3) := by decide +kernel
theorem dX4_addSense_16 : decode cX4_addSense 16 = .ok (.iconst 0, 1) := by decide +kernel
theorem dX4_addSense_17 : decode cX4_addSense 17 = .ok (.istore_n 2, 1) := by decide +kernel
theorem dX4_addSense_18 : decode cX4_addSense 18 = .ok (.iload_n 2, 1) := by decide +kernel
theorem dX4_addSense_19 : decode cX4_addSense 19 = .ok (.aload_n 0, 1) := by decide +kernel
theorem dX4_addSense_20 : decode cX4_addSense 20 = .ok (.getfield 35, 3) := by decide +kernel
theorem dX4_addSense_23 : decode cX4_addSense 23 = .ok (.getfield 103, 3) := by decide +kernel
theorem dX4_addSense_26 : decode cX4_addSense 26 = .ok (.if_icmp .ge 54, 3) := by decide +kernel
theorem dX4_addSense_29 : decode cX4_addSense 29 = .ok (.aload_n 0, 1) := by decide +kernel
theorem dX4_addSense_30 : decode cX4_addSense 30 = .ok (.getfield 35, 3) := by decide +kernel
theorem dX4_addSense_33 : decode cX4_addSense 33 = .ok (.getfield 106, 3) := by decide +kernel
theorem dX4_addSense_36 : decode cX4_addSense 36 = .ok (.iload_n 2, 1) := by decide +kernel
theorem dX4_addSense_37 : decode cX4_addSense 37 = .ok (.iaload, 1) := by decide +kernel
theorem dX4_addSense_38 : decode cX4_addSense 38 = .ok (.iload_n 1, 1) := by decide +kernel
theorem dX4_addSense_39 : decode cX4_addSense 39 = .ok (.if_icmp .ne 35, 3) := by decide +kernel
theorem dX4_addSense_42 : decode cX4_addSense 42 = .ok (.aload_n 0, 1) := by decide +kernel
theorem dX4_addSense_43 : decode cX4_addSense 43 = .ok (.getfield 27, 3) := by decide +kernel
theorem dX4_addSense_46 : decode cX4_addSense 46 = .ok (.aload_n 0, 1) := by decide +kernel
theorem dX4_addSense_47 : decode cX4_addSense 47 = .ok (.getfield 35, 3) := by decide +kernel
theorem dX4_addSense_50 : decode cX4_addSense 50 = .ok (.getfield 109, 3) := by decide +kernel
theorem dX4_addSense_53 : decode cX4_addSense 53 = .ok (.iload_n 2, 1) := by decide +kernel
theorem dX4_addSense_54 : decode cX4_addSense 54 = .ok (.iaload, 1) := by decide +kernel
theorem dX4_addSense_55 : decode cX4_addSense 55 = .ok (.invokevirtual 66, 3) := by decide +kernel
theorem dX4_addSense_58 : decode cX4_addSense 58 = .ok (.ifCond .eq 16, 3) := by decide +kernel
theorem dX4_addSense_61 : decode cX4_addSense 61 = .ok (.aload_n 0, 1) := by decide +kernel
theorem dX4_addSense_62 : decode cX4_addSense 62 = .ok (.aload_n 0, 1) := by decide +kernel
theorem dX4_addSense_63 : decode cX4_addSense 63 = .ok (.getfield 35, 3) := by decide +kernel
theorem dX4_addSense_66 : decode cX4_addSense 66 = .ok (.getfield 109, 3) := by decide +kernel
theorem dX4_addSense_69 : decode cX4_addSense 69 = .ok (.iload_n 2, 1) := by decide +kernel
theorem dX4_addSense_70 : decode cX4_addSense 70 = .ok (.iaload, 1) := by decide +kernel
theorem dX4_addSense_71 : decode cX4_addSense 71 = .ok (.invokevirtual 112, 3) := by decide +kernel
theorem dX4_addSense_74 : decode cX4_addSense 74 = .ok (.iinc 2 1, 3) := by decide +kernel
theorem dX4_addSense_77 : decode cX4_addSense 77 = .ok (.goto (-59), 3) := by decide +kernel
theorem dX4_addSense_80 : decode cX4_addSense 80 = .ok (.return_, 1) := by decide +kernel
theorem dX4_addMark_0 : decode cX4_addMark 0 = .ok (.iconst 0, 1) := by decide +kernel
theorem dX4_addMark_1 : decode cX4_addMark 1 = .ok (.istore_n 2, 1) := by decide +kernel
theorem dX4_addMark_2 : decode cX4_addMark 2 = .ok (.iload_n 1, 1) := by decide +kernel
theorem dX4_addMark_3 : decode cX4_addMark 3 = .ok (.istore_n 3, 1) := by decide +kernel
theorem dX4_addMark_4 : decode cX4_addMark 4 = .ok (.aload_n 0, 1) := by decide +kernel
theorem dX4_addMark_5 : decode cX4_addMark 5 = .ok (.getfield 27, 3) := by decide +kernel
theorem dX4_addMark_8 : decode cX4_addMark 8 = .ok (.iload_n 3, 1) := by decide +kernel
theorem dX4_addMark_9 : decode cX4_addMark 9 = .ok (.invokevirtual 66, 3) := by decide +kernel
theorem dX4_addMark_12 : decode cX4_addMark 12 = .ok (.ifCond .eq 43, 3) := by decide +kernel
theorem dX4_addMark_15 : decode cX4_addMark 15 = .ok (.iload_n 2, 1) := by decide +kernel
theorem dX4_addMark_16 : decode cX4_addMark 16 = .ok (.aload_n 0, 1) := by decide +kernel
theorem dX4_addMark_17 : decode cX4_addMark 17 = .ok (.getfield 15, 3) := by decide +kernel
theorem dX4_addMark_20 : decode cX4_addMark 20 = .ok (.arraylength, 1) := by decide +kernel
theorem dX4_addMark_21 : decode cX4_addMark 21 = .ok (.if_icmp .ge 34, 3) := by decide +kernel
theorem dX4_addMark_24 : decode cX4_addMark 24 = .ok (.aload_n 0, 1) := by decide +kernel
theorem dX4_addMark_25 : decode cX4_addMark 25 = .ok (.getfield 15, 3) := by decide +kernel
theorem dX4_addMark_28 : decode cX4_addMark 28 = .ok (.iload_n 2, 1) := by decide +kernel
theorem dX4_addMark_29 : decode cX4_addMark 29 = .ok (.aload_n 0, 1) := by decide +kernel
theorem dX4_addMark_30 : decode cX4_addMark 30 = .ok (.getfield 31, 3) := by decide +kernel
theorem dX4_addMark_33 : decode cX4_addMark 33 = .ok (.getfield 94, 3) := by decide +kernel
theorem dX4_addMark_36 : decode cX4_addMark 36 = .ok (.iload_n 3, 1) := by decide +kernel
theorem dX4_addMark_37 : decode cX4_addMark 37 = .ok (.iaload, 1) := by decide +kernel
theorem dX4_addMark_38 : decode cX4_addMark 38 = .ok (.iastore, 1) := by decide +kernel
theorem dX4_addMark_39 : decode cX4_addMark 39 = .ok (.iinc 2 1, 3) := by decide +kernel
theorem dX4_addMark_42 : decode cX4_addMark 42 = .ok (.aload_n 0, 1) := by decide +kernel
theorem dX4_addMark_43 : decode cX4_addMark 43 = .ok (.getfield 27, 3) := by decide +kernel
theorem dX4_addMark_46 : decode cX4_addMark 46 = .ok (.getfield 91, 3) := by decide +kernel
theorem dX4_addMark_49 : decode cX4_addMark 49 = .ok (.iload_n 3, 1) := by decide +kernel
theorem dX4_addMark_50 : decode cX4_addMark 50 = .ok (.iaload, 1) := by decide +kernel
theorem dX4_addMark_51 : decode cX4_addMark 51 = .ok (.istore_n 3, 1) := by decide +kernel
theorem dX4_addMark_52 : decode cX4_addMark 52 = .ok (.goto (-48), 3) := by decide +kernel
theorem dX4_addMark_55 : decode cX4_addMark 55 = .ok (.iload_n 2, 1) := by decide +kernel
theorem dX4_addMark_56 : decode cX4_addMark 56 = .ok (.iconst 1, 1) := by decide +kernel
theorem dX4_addMark_57 : decode cX4_addMark 57 = .ok (.isub, 1) := by decide +kernel
theorem dX4_addMark_58 : decode cX4_addMark 58 = .ok (.istore_n 3, 1) := by decide +kernel
theorem dX4_addMark_59 : decode cX4_addMark 59 = .ok (.iload_n 3, 1) := by decide +kernel
theorem dX4_addMark_60 : decode cX4_addMark 60 = .ok (.ifCond .lt 29, 3) := by decide +kernel
theorem dX4_addMark_63 : decode cX4_addMark 63 = .ok (.aload_n 0, 1) := by decide +kernel
theorem dX4_addMark_64 : decode cX4_addMark 64 = .ok (.aload_n 0, 1) := by decide +kernel
theorem dX4_addMark_65 : decode cX4_addMark 65 = .ok (.getfield 15, 3) := by decide +kernel
theorem dX4_addMark_68 : decode cX4_addMark 68 = .ok (.iload_n 3, 1) := by decide +kernel
theorem dX4_addMark_69 : decode cX4_addMark 69 = .ok (.iaload, 1) := by decide +kernel
theorem dX4_addMark_70 : decode cX4_addMark 70 = .ok (.invokevirtual 115, 3) := by decide +kernel
theorem dX4_addMark_73 : decode cX4_addMark 73 = .ok (.iload_n 3, 1) := by decide +kernel
theorem dX4_addMark_74 : decode cX4_addMark 74 = .ok (.ifCond .le 9, 3) := by decide +kernel
theorem dX4_addMark_77 : decode cX4_addMark 77 = .ok (.aload_n 0, 1) := by decide +kernel
theorem dX4_addMark_78 : decode cX4_addMark 78 = .ok (.bipush 46, 2) := by decide +kernel
theorem dX4_addMark_80 : decode cX4_addMark 80 = .ok (.invokevirtual 58, 3) := by decide +kernel
theorem dX4_addMark_83 : decode cX4_addMark 83 = .ok (.iinc 3 (-1), 3) := by decide +kernel
theorem dX4_addMark_86 : decode cX4_addMark 86 = .ok (.goto (-27), 3) := by decide +kernel
theorem dX4_addMark_89 : decode cX4_addMark 89 = .ok (.return_, 1) := by decide +kernel
theorem dX4_addWitnesses_0 : decode cX4_addWitnesses 0 = .ok (.aload_n 0, 1) := by decide +kernel
theorem dX4_addWitnesses_1 : decode cX4_addWitnesses 1 = .ok (.bipush 40, 2) := by decide +kernel
theorem dX4_addWitnesses_3 : decode cX4_addWitnesses 3 = .ok (.invokevirtual 58, 3) := by decide +kernel
theorem dX4_addWitnesses_6 : decode cX4_addWitnesses 6 = .ok (.aload_n 0, 1) := by decide +kernel
theorem dX4_addWitnesses_7 : decode cX4_addWitnesses 7 = .ok (.getfield 31, 3) := by decide +kernel
theorem dX4_addWitnesses_10 : decode cX4_addWitnesses 10 = .ok (.getfield 118, 3) := by decide +kernel
theorem dX4_addWitnesses_13 : decode cX4_addWitnesses 13 = .ok (.iload_n 1, 1) := by decide +kernel
theorem dX4_addWitnesses_14 : decode cX4_addWitnesses 14 = .ok (.iaload, 1) := by decide +kernel
theorem dX4_addWitnesses_15 : decode cX4_addWitnesses 15 = .ok (.ifCond .le 62, 3) := by decide +kernel
theorem dX4_addWitnesses_18 : decode cX4_addWitnesses 18 = .ok (.aload_n 0, 1) := by decide +kernel
theorem dX4_addWitnesses_19 : decode cX4_addWitnesses 19 = .ok (.aload_n 0, 1) := by decide +kernel
theorem dX4_addWitnesses_20 : decode cX4_addWitnesses 20 = .ok (.getfield 31, 3) := by decide +kernel
theorem dX4_addWitnesses_23 : decode cX4_addWitnesses 23 = .ok (.getfield 121, 3) := by decide +kernel
theorem dX4_addWitnesses_26 : decode cX4_addWitnesses 26 = .ok (.iload_n 1, 1) := by decide +kernel
theorem dX4_addWitnesses_27 : decode cX4_addWitnesses 27 = .ok (.iaload, 1) := by decide +kernel
theorem dX4_addWitnesses_28 : decode cX4_addWitnesses 28 = .ok (.invokevirtual 115, 3) := by decide +kernel
theorem dX4_addWitnesses_31 : decode cX4_addWitnesses 31 = .ok (.aload_n 0, 1) := by decide +kernel
theorem dX4_addWitnesses_32 : decode cX4_addWitnesses 32 = .ok (.getfield 31, 3) := by decide +kernel
theorem dX4_addWitnesses_35 : decode cX4_addWitnesses 35 = .ok (.getfield 124, 3) := by decide +kernel
theorem dX4_addWitnesses_38 : decode cX4_addWitnesses 38 = .ok (.iload_n 1, 1) := by decide +kernel
theorem dX4_addWitnesses_39 : decode cX4_addWitnesses 39 = .ok (.iaload, 1) := by decide +kernel
theorem dX4_addWitnesses_40 : decode cX4_addWitnesses 40 = .ok (.aload_n 0, 1) := by decide +kernel
theorem dX4_addWitnesses_41 : decode cX4_addWitnesses 41 = .ok (.getfield 31, 3) := by decide +kernel
theorem dX4_addWitnesses_44 : decode cX4_addWitnesses 44 = .ok (.getfield 121, 3) := by decide +kernel
theorem dX4_addWitnesses_47 : decode cX4_addWitnesses 47 = .ok (.iload_n 1, 1) := by decide +kernel
theorem dX4_addWitnesses_48 : decode cX4_addWitnesses 48 = .ok (.iaload, 1) := by decide +kernel
theorem dX4_addWitnesses_49 : decode cX4_addWitnesses 49 = .ok (.if_icmp .eq 22, 3) := by decide +kernel
theorem dX4_addWitnesses_52 : decode cX4_addWitnesses 52 = .ok (.aload_n 0, 1) := by decide +kernel
theorem dX4_addWitnesses_53 : decode cX4_addWitnesses 53 = .ok (.bipush 45, 2) := by decide +kernel
theorem dX4_addWitnesses_55 : decode cX4_addWitnesses 55 = .ok (.invokevirtual 58, 3) := by decide +kernel
theorem dX4_addWitnesses_58 : decode cX4_addWitnesses 58 = .ok (.aload_n 0, 1) := by decide +kernel
theorem dX4_addWitnesses_59 : decode cX4_addWitnesses 59 = .ok (.aload_n 0, 1) := by decide +kernel
theorem dX4_addWitnesses_60 : decode cX4_addWitnesses 60 = .ok (.getfield 31, 3) := by decide +kernel
theorem dX4_addWitnesses_63 : decode cX4_addWitnesses 63 = .ok (.getfield 124, 3) := by decide +kernel
theorem dX4_addWitnesses_66 : decode cX4_addWitnesses 66 = .ok (.iload_n 1, 1) := by decide +kernel
theorem dX4_addWitnesses_67 : decode cX4_addWitnesses 67 = .ok (.iaload, 1) := by decide +kernel
theorem dX4_addWitnesses_68 : decode cX4_addWitnesses 68 = .ok (.invokevirtual 115, 3) := by decide +kernel
theorem dX4_addWitnesses_71 : decode cX4_addWitnesses 71 = .ok (.aload_n 0, 1) := by decide +kernel
theorem dX4_addWitnesses_72 : decode cX4_addWitnesses 72 = .ok (.bipush 44, 2) := by decide +kernel
theorem dX4_addWitnesses_74 : decode cX4_addWitnesses 74 = .ok (.invokevirtual 58, 3) := by decide +kernel
theorem dX4_addWitnesses_77 : decode cX4_addWitnesses 77 = .ok (.aload_n 0, 1) := by decide +kernel
theorem dX4_addWitnesses_78 : decode cX4_addWitnesses 78 = .ok (.aload_n 0, 1) := by decide +kernel
theorem dX4_addWitnesses_79 : decode cX4_addWitnesses 79 = .ok (.getfield 31, 3) := by decide +kernel
theorem dX4_addWitnesses_82 : decode cX4_addWitnesses 82 = .ok (.getfield 118, 3) := by decide +kernel
theorem dX4_addWitnesses_85 : decode cX4_addWitnesses 85 = .ok (.iload_n 1, 1) := by decide +kernel
theorem dX4_addWitnesses_86 : decode cX4_addWitnesses 86 = .ok (.iaload, 1) := by decide +kernel
theorem dX4_addWitnesses_87 : decode cX4_addWitnesses 87 = .ok (.invokevirtual 115, 3) := by decide +kernel
theorem dX4_addWitnesses_90 : decode cX4_addWitnesses 90 = .ok (.aload_n 0, 1) := by decide +kernel
theorem dX4_addWitnesses_91 : decode cX4_addWitnesses 91 = .ok (.bipush 41, 2) := by decide +kernel
theorem dX4_addWitnesses_93 : decode cX4_addWitnesses 93 = .ok (.invokevirtual 58, 3) := by decide +kernel
theorem dX4_addWitnesses_96 : decode cX4_addWitnesses 96 = .ok (.return_, 1) := by decide +kernel
theorem dX4_addPointer_0 : decode cX4_addPointer 0 = .ok (.aload_n 0, 1) := by decide +kernel
theorem dX4_addPointer_1 : decode cX4_addPointer 1 = .ok (.bipush 62, 2) := by decide +kernel
theorem dX4_addPointer_3 : decode cX4_addPointer 3 = .ok (.invokevirtual 58, 3) := by decide +kernel
theorem dX4_addPointer_6 : decode cX4_addPointer 6 = .ok (.aload_n 0, 1) := by decide +kernel
theorem dX4_addPointer_7 : decode cX4_addPointer 7 = .ok (.aload_n 0, 1) := by decide +kernel
theorem dX4_addPointer_8 : decode cX4_addPointer 8 = .ok (.getfield 19, 3) := by decide +kernel
theorem dX4_addPointer_11 : decode cX4_addPointer 11 = .ok (.aload_n 0, 1) := by decide +kernel
theorem dX4_addPointer_12 : decode cX4_addPointer 12 = .ok (.getfield 27, 3) := by decide +kernel
theorem dX4_addPointer_15 : decode cX4_addPointer 15 = .ok (.getfield 88, 3) := by decide +kernel
theorem dX4_addPointer_18 : decode cX4_addPointer 18 = .ok (.iload_n 1, 1) := by decide +kernel
theorem dX4_addPointer_19 : decode cX4_addPointer 19 = .ok (.iaload, 1) := by decide +kernel
theorem dX4_addPointer_20 : decode cX4_addPointer 20 = .ok (.invokevirtual 48, 3) := by decide +kernel
theorem dX4_addPointer_23 : decode cX4_addPointer 23 = .ok (.invokevirtual 54, 3) := by decide +kernel
theorem dX4_addPointer_26 : decode cX4_addPointer 26 = .ok (.aload_n 0, 1) := by decide +kernel
theorem dX4_addPointer_27 : decode cX4_addPointer 27 = .ok (.bipush 32, 2) := by decide +kernel
theorem dX4_addPointer_29 : decode cX4_addPointer 29 = .ok (.invokevirtual 58, 3) := by decide +kernel
theorem dX4_addPointer_32 : decode cX4_addPointer 32 = .ok (.aload_n 0, 1) := by decide +kernel
theorem dX4_addPointer_33 : decode cX4_addPointer 33 = .ok (.iload_n 1, 1) := by decide +kernel
theorem dX4_addPointer_34 : decode cX4_addPointer 34 = .ok (.invokevirtual 97, 3) := by decide +kernel
theorem dX4_addPointer_37 : decode cX4_addPointer 37 = .ok (.return_, 1) := by decide +kernel
theorem dX4_addHeap_0 : decode cX4_addHeap 0 = .ok (.iload_n 1, 1) := by decide +kernel
theorem dX4_addHeap_1 : decode cX4_addHeap 1 = .ok (.ifCond .le 20, 3) := by decide +kernel
theorem dX4_addHeap_4 : decode cX4_addHeap 4 = .ok (.aload_n 0, 1) := by decide +kernel
theorem dX4_addHeap_5 : decode cX4_addHeap 5 = .ok (.bipush 32, 2) := by decide +kernel
theorem dX4_addHeap_7 : decode cX4_addHeap 7 = .ok (.invokevirtual 58, 3) := by decide +kernel
theorem dX4_addHeap_10 : decode cX4_addHeap 10 = .ok (.aload_n 0, 1) := by decide +kernel
theorem dX4_addHeap_11 : decode cX4_addHeap 11 = .ok (.bipush 43, 2) := by decide +kernel
theorem dX4_addHeap_13 : decode cX4_addHeap 13 = .ok (.invokevirtual 58, 3) := by decide +kernel
theorem dX4_addHeap_16 : decode cX4_addHeap 16 = .ok (.aload_n 0, 1) := by decide +kernel
theorem dX4_addHeap_17 : decode cX4_addHeap 17 = .ok (.iload_n 1, 1) := by decide +kernel
theorem dX4_addHeap_18 : decode cX4_addHeap 18 = .ok (.invokevirtual 115, 3) := by decide +kernel
theorem dX4_addHeap_21 : decode cX4_addHeap 21 = .ok (.return_, 1) := by decide +kernel
theorem dX4_addWord_0 : decode cX4_addWord 0 = .ok (.lload_n 1, 1) := by decide +kernel
theorem dX4_addWord_1 : decode cX4_addWord 1 = .ok (.invokestatic 127, 3) := by decide +kernel
theorem dX4_addWord_4 : decode cX4_addWord 4 = .ok (.istore_n 3, 1) := by decide +kernel
theorem dX4_addWord_5 : decode cX4_addWord 5 = .ok (.iconst 0, 1) := by decide +kernel
theorem dX4_addWord_6 : decode cX4_addWord 6 = .ok (.istore 4, 2) := by decide +kernel
theorem dX4_addWord_8 : decode cX4_addWord 8 = .ok (.iload 4, 2) := by decide +kernel
theorem dX4_addWord_10 : decode cX4_addWord 10 = .ok (.iload_n 3, 1) := by decide +kernel
theorem dX4_addWord_11 : decode cX4_addWord 11 = .ok (.if_icmp .ge 19, 3) := by decide +kernel
theorem dX4_addWord_14 : decode cX4_addWord 14 = .ok (.aload_n 0, 1) := by decide +kernel
theorem dX4_addWord_15 : decode cX4_addWord 15 = .ok (.lload_n 1, 1) := by decide +kernel
theorem dX4_addWord_16 : decode cX4_addWord 16 = .ok (.iload 4, 2) := by decide +kernel
theorem dX4_addWord_18 : decode cX4_addWord 18 = .ok (.invokestatic 133, 3) := by decide +kernel
theorem dX4_addWord_21 : decode cX4_addWord 21 = .ok (.invokevirtual 58, 3) := by decide +kernel
theorem dX4_addWord_24 : decode cX4_addWord 24 = .ok (.iinc 4 1, 3) := by decide +kernel
theorem dX4_addWord_27 : decode cX4_addWord 27 = .ok (.goto (-19), 3) := by decide +kernel
theorem dX4_addWord_30 : decode cX4_addWord 30 = .ok (.return_, 1) := by decide +kernel
theorem dX4_addNumber_0 : decode cX4_addNumber 0 = .ok (.sipush 1000, 3) := by decide +kernel
theorem dX4_addNumber_3 : decode cX4_addNumber 3 = .ok (.istore_n 2, 1) := by decide +kernel
theorem dX4_addNumber_4 : decode cX4_addNumber 4 = .ok (.iload_n 2, 1) := by decide +kernel
theorem dX4_addNumber_5 : decode cX4_addNumber 5 = .ok (.iconst 1, 1) := by decide +kernel
theorem dX4_addNumber_6 : decode cX4_addNumber 6 = .ok (.if_icmp .lt 34, 3) := by decide +kernel
theorem dX4_addNumber_9 : decode cX4_addNumber 9 = .ok (.iload_n 1, 1) := by decide +kernel
theorem dX4_addNumber_10 : decode cX4_addNumber 10 = .ok (.iload_n 2, 1) := by decide +kernel
theorem dX4_addNumber_11 : decode cX4_addNumber 11 = .ok (.if_icmp .ge 8, 3) := by decide +kernel
theorem dX4_addNumber_14 : decode cX4_addNumber 14 = .ok (.iload_n 2, 1) := by decide +kernel
theorem dX4_addNumber_15 : decode cX4_addNumber 15 = .ok (.iconst 1, 1) := by decide +kernel
theorem dX4_addNumber_16 : decode cX4_addNumber 16 = .ok (.if_icmp .ne 16, 3) := by decide +kernel
theorem dX4_addNumber_19 : decode cX4_addNumber 19 = .ok (.aload_n 0, 1) := by decide +kernel
theorem dX4_addNumber_20 : decode cX4_addNumber 20 = .ok (.bipush 48, 2) := by decide +kernel
theorem dX4_addNumber_22 : decode cX4_addNumber 22 = .ok (.iload_n 1, 1) := by decide +kernel
theorem dX4_addNumber_23 : decode cX4_addNumber 23 = .ok (.iload_n 2, 1) := by decide +kernel
theorem dX4_addNumber_24 : decode cX4_addNumber 24 = .ok (.idiv, 1) := by decide +kernel
theorem dX4_addNumber_25 : decode cX4_addNumber 25 = .ok (.bipush 10, 2) := by decide +kernel
theorem dX4_addNumber_27 : decode cX4_addNumber 27 = .ok (.irem, 1) := by decide +kernel
theorem dX4_addNumber_28 : decode cX4_addNumber 28 = .ok (.iadd, 1) := by decide +kernel
theorem dX4_addNumber_29 : decode cX4_addNumber 29 = .ok (.invokevirtual 58, 3) := by decide +kernel
theorem dX4_addNumber_32 : decode cX4_addNumber 32 = .ok (.iload_n 2, 1) := by decide +kernel
theorem dX4_addNumber_33 : decode cX4_addNumber 33 = .ok (.bipush 10, 2) := by decide +kernel
theorem dX4_addNumber_35 : decode cX4_addNumber 35 = .ok (.idiv, 1) := by decide +kernel
theorem dX4_addNumber_36 : decode cX4_addNumber 36 = .ok (.istore_n 2, 1) := by decide +kernel
theorem dX4_addNumber_37 : decode cX4_addNumber 37 = .ok (.goto (-33), 3) := by decide +kernel
theorem dX4_addNumber_40 : decode cX4_addNumber 40 = .ok (.return_, 1) := by decide +kernel
theorem dX4_addByte_0 : decode cX4_addByte 0 = .ok (.aload_n 0, 1) := by decide +kernel
theorem dX4_addByte_1 : decode cX4_addByte 1 = .ok (.getfield 39, 3) := by decide +kernel
theorem dX4_addByte_4 : decode cX4_addByte 4 = .ok (.aload_n 0, 1) := by decide +kernel
theorem dX4_addByte_5 : decode cX4_addByte 5 = .ok (.getfield 11, 3) := by decide +kernel
theorem dX4_addByte_8 : decode cX4_addByte 8 = .ok (.arraylength, 1) := by decide +kernel
theorem dX4_addByte_9 : decode cX4_addByte 9 = .ok (.if_icmp .ge 24, 3) := by decide +kernel
theorem dX4_addByte_12 : decode cX4_addByte 12 = .ok (.aload_n 0, 1) := by decide +kernel
theorem dX4_addByte_13 : decode cX4_addByte 13 = .ok (.getfield 11, 3) := by decide +kernel
theorem dX4_addByte_16 : decode cX4_addByte 16 = .ok (.aload_n 0, 1) := by decide +kernel
theorem dX4_addByte_17 : decode cX4_addByte 17 = .ok (.getfield 39, 3) := by decide +kernel
theorem dX4_addByte_20 : decode cX4_addByte 20 = .ok (.iload_n 1, 1) := by decide +kernel
theorem dX4_addByte_21 : decode cX4_addByte 21 = .ok (.i2b, 1) := by decide +kernel
theorem dX4_addByte_22 : decode cX4_addByte 22 = .ok (.bastore, 1) := by decide +kernel
theorem dX4_addByte_23 : decode cX4_addByte 23 = .ok (.aload_n 0, 1) := by decide +kernel
theorem dX4_addByte_24 : decode cX4_addByte 24 = .ok (.dup, 1) := by decide +kernel
theorem dX4_addByte_25 : decode cX4_addByte 25 = .ok (.getfield 39, 3) := by decide +kernel
theorem dX4_addByte_28 : decode cX4_addByte 28 = .ok (.iconst 1, 1) := by decide +kernel
theorem dX4_addByte_29 : decode cX4_addByte 29 = .ok (.iadd, 1) := by decide +kernel
theorem dX4_addByte_30 : decode cX4_addByte 30 = .ok (.putfield 39, 3) := by decide +kernel
theorem dX4_addByte_33 : decode cX4_addByte 33 = .ok (.return_, 1) := by decide +kernel
theorem dX5_add_0 : decode cX5_add 0 = .ok (.aload_n 0, 1) := by decide +kernel
theorem dX5_add_1 : decode cX5_add 1 = .ok (.getfield 18, 3) := by decide +kernel
theorem dX5_add_4 : decode cX5_add 4 = .ok (.istore 5, 2) := by decide +kernel
theorem dX5_add_6 : decode cX5_add 6 = .ok (.iload 5, 2) := by decide +kernel
theorem dX5_add_8 : decode cX5_add 8 = .ok (.bipush 10, 2) := by decide +kernel
theorem dX5_add_10 : decode cX5_add 10 = .ok (.if_icmp .lt 5, 3) := by decide +kernel
theorem dX5_add_13 : decode cX5_add 13 = .ok (.iconst (-1), 1) := by decide +kernel
theorem dX5_add_14 : decode cX5_add 14 = .ok (.ireturn, 1) := by decide +kernel
theorem dX5_add_15 : decode cX5_add 15 = .ok (.aload_n 0, 1) := by decide +kernel
theorem dX5_add_16 : decode cX5_add 16 = .ok (.getfield 9, 3) := by decide +kernel
theorem dX5_add_19 : decode cX5_add 19 = .ok (.iload 5, 2) := by decide +kernel
theorem dX5_add_21 : decode cX5_add 21 = .ok (.lload_n 1, 1) := by decide +kernel
theorem dX5_add_22 : decode cX5_add 22 = .ok (.lastore, 1) := by decide +kernel
theorem dX5_add_23 : decode cX5_add 23 = .ok (.aload_n 0, 1) := by decide +kernel
theorem dX5_add_24 : decode cX5_add 24 = .ok (.getfield 15, 3) := by decide +kernel
theorem dX5_add_27 : decode cX5_add 27 = .ok (.iload 5, 2) := by decide +kernel
theorem dX5_add_29 : decode cX5_add 29 = .ok (.lload_n 3, 1) := by decide +kernel
theorem dX5_add_30 : decode cX5_add 30 = .ok (.lastore, 1) := by decide +kernel
theorem dX5_add_31 : decode cX5_add 31 = .ok (.aload_n 0, 1) := by decide +kernel
theorem dX5_add_32 : decode cX5_add 32 = .ok (.dup, 1) := by decide +kernel
theorem dX5_add_33 : decode cX5_add 33 = .ok (.getfield 18, 3) := by decide +kernel
theorem dX5_add_36 : decode cX5_add 36 = .ok (.iconst 1, 1) := by decide +kernel
theorem dX5_add_37 : decode cX5_add 37 = .ok (.iadd, 1) := by decide +kernel
theorem dX5_add_38 : decode cX5_add 38 = .ok (.putfield 18, 3) := by decide +kernel
theorem dX5_add_41 : decode cX5_add 41 = .ok (.iload 5, 2) := by decide +kernel
theorem dX5_add_43 : decode cX5_add 43 = .ok (.ireturn, 1) := by decide +kernel
theorem dX6_has_0 : decode cX6_has 0 = .ok (.iload_n 1, 1) := by decide +kernel
theorem dX6_has_1 : decode cX6_has 1 = .ok (.ifCond .lt 23, 3) := by decide +kernel
theorem dX6_has_4 : decode cX6_has 4 = .ok (.iload_n 1, 1) := by decide +kernel
theorem dX6_has_5 : decode cX6_has 5 = .ok (.bipush 40, 2) := by decide +kernel
theorem dX6_has_7 : decode cX6_has 7 = .ok (.if_icmp .ge 17, 3) := by decide +kernel
theorem dX6_has_10 : decode cX6_has 10 = .ok (.aload_n 0, 1) := by decide +kernel
theorem dX6_has_11 : decode cX6_has 11 = .ok (.getfield 9, 3) := by decide +kernel
theorem dX6_has_14 : decode cX6_has 14 = .ok (.iload_n 1, 1) := by decide +kernel
theorem dX6_has_15 : decode cX6_has 15 = .ok (.iaload, 1) := by decide +kernel
theorem dX6_has_16 : decode cX6_has 16 = .ok (.iconst (-1), 1) := by decide +kernel
theorem dX6_has_17 : decode cX6_has 17 = .ok (.if_icmp .eq 7, 3) := by decide +kernel
theorem dX6_has_20 : decode cX6_has 20 = .ok (.iconst 1, 1) := by decide +kernel
theorem dX6_has_21 : decode cX6_has 21 = .ok (.goto 4, 3) := by decide +kernel
theorem dX6_has_24 : decode cX6_has 24 = .ok (.iconst 0, 1) := by decide +kernel
theorem dX6_has_25 : decode cX6_has 25 = .ok (.ireturn, 1) := by decide +kernel
theorem dX6_add_0 : decode cX6_add 0 = .ok (.iconst 0, 1) := by decide +kernel
theorem dX6_add_1 : decode cX6_add 1 = .ok (.istore_n 3, 1) := by decide +kernel
theorem dX6_add_2 : decode cX6_add 2 = .ok (.iload_n 3, 1) := by decide +kernel
theorem dX6_add_3 : decode cX6_add 3 = .ok (.bipush 40, 2) := by decide +kernel
theorem dX6_add_5 : decode cX6_add 5 = .ok (.if_icmp .ge 33, 3) := by decide +kernel
theorem dX6_add_8 : decode cX6_add 8 = .ok (.aload_n 0, 1) := by decide +kernel
theorem dX6_add_9 : decode cX6_add 9 = .ok (.iload_n 3, 1) := by decide +kernel
theorem dX6_add_10 : decode cX6_add 10 = .ok (.invokevirtual 18, 3) := by decide +kernel
theorem dX6_add_13 : decode cX6_add 13 = .ok (.ifCond .ne 19, 3) := by decide +kernel
theorem dX6_add_16 : decode cX6_add 16 = .ok (.aload_n 0, 1) := by decide +kernel
theorem dX6_add_17 : decode cX6_add 17 = .ok (.getfield 9, 3) := by decide +kernel
theorem dX6_add_20 : decode cX6_add 20 = .ok (.iload_n 3, 1) := by decide +kernel
theorem dX6_add_21 : decode cX6_add 21 = .ok (.iload_n 1, 1) := by decide +kernel
theorem dX6_add_22 : decode cX6_add 22 = .ok (.iastore, 1) := by decide +kernel
theorem dX6_add_23 : decode cX6_add 23 = .ok (.aload_n 0, 1) := by decide +kernel
theorem dX6_add_24 : decode cX6_add 24 = .ok (.getfield 15, 3) := by decide +kernel
theorem dX6_add_27 : decode cX6_add 27 = .ok (.iload_n 3, 1) := by decide +kernel
theorem dX6_add_28 : decode cX6_add 28 = .ok (.iload_n 2, 1) := by decide +kernel
theorem dX6_add_29 : decode cX6_add 29 = .ok (.iastore, 1) := by decide +kernel
theorem dX6_add_30 : decode cX6_add 30 = .ok (.iload_n 3, 1) := by decide +kernel
theorem dX6_add_31 : decode cX6_add 31 = .ok (.ireturn, 1) := by decide +kernel
theorem dX6_add_32 : decode cX6_add 32 = .ok (.iinc 3 1, 3) := by decide +kernel
theorem dX6_add_35 : decode cX6_add 35 = .ok (.goto (-33), 3) := by decide +kernel
theorem dX6_add_38 : decode cX6_add 38 = .ok (.iconst (-1), 1) := by decide +kernel
theorem dX6_add_39 : decode cX6_add 39 = .ok (.ireturn, 1) := by decide +kernel
theorem dX6_remove_0 : decode cX6_remove 0 = .ok (.aload_n 0, 1) := by decide +kernel
theorem dX6_remove_1 : decode cX6_remove 1 = .ok (.iload_n 1, 1) := by decide +kernel
theorem dX6_remove_2 : decode cX6_remove 2 = .ok (.invokevirtual 18, 3) := by decide +kernel
theorem dX6_remove_5 : decode cX6_remove 5 = .ok (.ifCond .eq 17, 3) := by decide +kernel
theorem dX6_remove_8 : decode cX6_remove 8 = .ok (.aload_n 0, 1) := by decide +kernel
theorem dX6_remove_9 : decode cX6_remove 9 = .ok (.getfield 9, 3) := by decide +kernel
theorem dX6_remove_12 : decode cX6_remove 12 = .ok (.iload_n 1, 1) := by decide +kernel
theorem dX6_remove_13 : decode cX6_remove 13 = .ok (.iconst (-1), 1) := by decide +kernel
theorem dX6_remove_14 : decode cX6_remove 14 = .ok (.iastore, 1) := by decide +kernel
theorem dX6_remove_15 : decode cX6_remove 15 = .ok (.aload_n 0, 1) := by decide +kernel
theorem dX6_remove_16 : decode cX6_remove 16 = .ok (.getfield 15, 3) := by decide +kernel
theorem dX6_remove_19 : decode cX6_remove 19 = .ok (.iload_n 1, 1) := by decide +kernel
theorem dX6_remove_20 : decode cX6_remove 20 = .ok (.iconst (-1), 1) := by decide +kernel
theorem dX6_remove_21 : decode cX6_remove 21 = .ok (.iastore, 1) := by decide +kernel
theorem dX6_remove_22 : decode cX6_remove 22 = .ok (.return_, 1) := by decide +kernel
theorem dX6_inUse_0 : decode cX6_inUse 0 = .ok (.iconst 0, 1) := by decide +kernel
theorem dX6_inUse_1 : decode cX6_inUse 1 = .ok (.istore_n 1, 1) := by decide +kernel
theorem dX6_inUse_2 : decode cX6_inUse 2 = .ok (.iconst 0, 1) := by decide +kernel
theorem dX6_inUse_3 : decode cX6_inUse 3 = .ok (.istore_n 2, 1) := by decide +kernel
theorem dX6_inUse_4 : decode cX6_inUse 4 = .ok (.iload_n 2, 1) := by decide +kernel
theorem dX6_inUse_5 : decode cX6_inUse 5 = .ok (.bipush 40, 2) := by decide +kernel
theorem dX6_inUse_7 : decode cX6_inUse 7 = .ok (.if_icmp .ge 20, 3) := by decide +kernel
theorem dX6_inUse_10 : decode cX6_inUse 10 = .ok (.aload_n 0, 1) := by decide +kernel
theorem dX6_inUse_11 : decode cX6_inUse 11 = .ok (.iload_n 2, 1) := by decide +kernel
theorem dX6_inUse_12 : decode cX6_inUse 12 = .ok (.invokevirtual 18, 3) := by decide +kernel
theorem dX6_inUse_15 : decode cX6_inUse 15 = .ok (.ifCond .eq 6, 3) := by decide +kernel
theorem dX6_inUse_18 : decode cX6_inUse 18 = .ok (.iinc 1 1, 3) := by decide +kernel
theorem dX6_inUse_21 : decode cX6_inUse 21 = .ok (.iinc 2 1, 3) := by decide +kernel
theorem dX6_inUse_24 : decode cX6_inUse 24 = .ok (.goto (-20), 3) := by decide +kernel
theorem dX6_inUse_27 : decode cX6_inUse 27 = .ok (.iload_n 1, 1) := by decide +kernel
theorem dX6_inUse_28 : decode cX6_inUse 28 = .ok (.ireturn, 1) := by decide +kernel
theorem dX6_justUnder_0 : decode cX6_justUnder 0 = .ok (.iconst 0, 1) := by decide +kernel
theorem dX6_justUnder_1 : decode cX6_justUnder 1 = .ok (.istore_n 2, 1) := by decide +kernel
theorem dX6_justUnder_2 : decode cX6_justUnder 2 = .ok (.iconst 0, 1) := by decide +kernel
theorem dX6_justUnder_3 : decode cX6_justUnder 3 = .ok (.istore_n 3, 1) := by decide +kernel
theorem dX6_justUnder_4 : decode cX6_justUnder 4 = .ok (.iload_n 3, 1) := by decide +kernel
theorem dX6_justUnder_5 : decode cX6_justUnder 5 = .ok (.bipush 40, 2) := by decide +kernel
theorem dX6_justUnder_7 : decode cX6_justUnder 7 = .ok (.if_icmp .ge 30, 3) := by decide +kernel
theorem dX6_justUnder_10 : decode cX6_justUnder 10 = .ok (.aload_n 0, 1) := by decide +kernel
theorem dX6_justUnder_11 : decode cX6_justUnder 11 = .ok (.iload_n 3, 1) := by decide +kernel
theorem dX6_justUnder_12 : decode cX6_justUnder 12 = .ok (.invokevirtual 18, 3) := by decide +kernel
theorem dX6_justUnder_15 : decode cX6_justUnder 15 = .ok (.ifCond .eq 16, 3) := by decide +kernel
theorem dX6_justUnder_18 : decode cX6_justUnder 18 = .ok (.aload_n 0, 1) := by decide +kernel
theorem dX6_justUnder_19 : decode cX6_justUnder 19 = .ok (.getfield 15, 3) := by decide +kernel
theorem dX6_justUnder_22 : decode cX6_justUnder 22 = .ok (.iload_n 3, 1) := by decide +kernel
theorem dX6_justUnder_23 : decode cX6_justUnder 23 = .ok (.iaload, 1) := by decide +kernel
theorem dX6_justUnder_24 : decode cX6_justUnder 24 = .ok (.iload_n 1, 1) := by decide +kernel
theorem dX6_justUnder_25 : decode cX6_justUnder 25 = .ok (.if_icmp .ne 6, 3) := by decide +kernel
theorem dX6_justUnder_28 : decode cX6_justUnder 28 = .ok (.iinc 2 1, 3) := by decide +kernel
theorem dX6_justUnder_31 : decode cX6_justUnder 31 = .ok (.iinc 3 1, 3) := by decide +kernel
theorem dX6_justUnder_34 : decode cX6_justUnder 34 = .ok (.goto (-30), 3) := by decide +kernel
theorem dX6_justUnder_37 : decode cX6_justUnder 37 = .ok (.iload_n 2, 1) := by decide +kernel
theorem dX6_justUnder_38 : decode cX6_justUnder 38 = .ok (.ireturn, 1) := by decide +kernel
theorem dX6_moveAllUnder_0 : decode cX6_moveAllUnder 0 = .ok (.iconst 0, 1) := by decide +kernel
theorem dX6_moveAllUnder_1 : decode cX6_moveAllUnder 1 = .ok (.istore_n 3, 1) := by decide +kernel
theorem dX6_moveAllUnder_2 : decode cX6_moveAllUnder 2 = .ok (.iload_n 3, 1) := by decide +kernel
theorem dX6_moveAllUnder_3 : decode cX6_moveAllUnder 3 = .ok (.bipush 40, 2) := by decide +kernel
theorem dX6_moveAllUnder_5 : decode cX6_moveAllUnder 5 = .ok (.if_icmp .ge 34, 3) := by decide +kernel
theorem dX6_moveAllUnder_8 : decode cX6_moveAllUnder 8 = .ok (.aload_n 0, 1) := by decide +kernel
theorem dX6_moveAllUnder_9 : decode cX6_moveAllUnder 9 = .ok (.iload_n 3, 1) := by decide +kernel
theorem dX6_moveAllUnder_10 : decode cX6_moveAllUnder 10 = .ok (.invokevirtual 18, 3) := by decide +kernel
theorem dX6_moveAllUnder_13 : decode cX6_moveAllUnder 13 = .ok (.ifCond .eq 20, 3) := by decide +kernel
theorem dX6_moveAllUnder_16 : decode cX6_moveAllUnder 16 = .ok (.aload_n 0, 1) := by decide +kernel
theorem dX6_moveAllUnder_17 : decode cX6_moveAllUnder 17 = .ok (.getfield 15, 3) := by decide +kernel
theorem dX6_moveAllUnder_20 : decode cX6_moveAllUnder 20 = .ok (.iload_n 3, 1) := by decide +kernel
theorem dX6_moveAllUnder_21 : decode cX6_moveAllUnder 21 = .ok (.iaload, 1) := by decide +kernel
theorem dX6_moveAllUnder_22 : decode cX6_moveAllUnder 22 = .ok (.iload_n 1, 1) := by decide +kernel
theorem dX6_moveAllUnder_23 : decode cX6_moveAllUnder 23 = .ok (.if_icmp .ne 10, 3) := by decide +kernel
theorem dX6_moveAllUnder_26 : decode cX6_moveAllUnder 26 = .ok (.aload_n 0, 1) := by decide +kernel
theorem dX6_moveAllUnder_27 : decode cX6_moveAllUnder 27 = .ok (.getfield 15, 3) := by decide +kernel
theorem dX6_moveAllUnder_30 : decode cX6_moveAllUnder 30 = .ok (.iload_n 3, 1) := by decide +kernel
theorem dX6_moveAllUnder_31 : decode cX6_moveAllUnder 31 = .ok (.iload_n 2, 1) := by decide +kernel
theorem dX6_moveAllUnder_32 : decode cX6_moveAllUnder 32 = .ok (.iastore, 1) := by decide +kernel
theorem dX6_moveAllUnder_33 : decode cX6_moveAllUnder 33 = .ok (.iinc 3 1, 3) := by decide +kernel
theorem dX6_moveAllUnder_36 : decode cX6_moveAllUnder 36 = .ok (.goto (-34), 3) := by decide +kernel
theorem dX6_moveAllUnder_39 : decode cX6_moveAllUnder 39 = .ok (.return_, 1) := by decide +kernel
theorem dX6_depth_0 : decode cX6_depth 0 = .ok (.iconst 0, 1) := by decide +kernel
theorem dX6_depth_1 : decode cX6_depth 1 = .ok (.istore_n 2, 1) := by decide +kernel
theorem dX6_depth_2 : decode cX6_depth 2 = .ok (.iload_n 1, 1) := by decide +kernel
theorem dX6_depth_3 : decode cX6_depth 3 = .ok (.istore_n 3, 1) := by decide +kernel
theorem dX6_depth_4 : decode cX6_depth 4 = .ok (.aload_n 0, 1) := by decide +kernel
theorem dX6_depth_5 : decode cX6_depth 5 = .ok (.iload_n 3, 1) := by decide +kernel
theorem dX6_depth_6 : decode cX6_depth 6 = .ok (.invokevirtual 18, 3) := by decide +kernel
theorem dX6_depth_9 : decode cX6_depth 9 = .ok (.ifCond .eq 22, 3) := by decide +kernel
theorem dX6_depth_12 : decode cX6_depth 12 = .ok (.iload_n 2, 1) := by decide +kernel
theorem dX6_depth_13 : decode cX6_depth 13 = .ok (.bipush 40, 2) := by decide +kernel
theorem dX6_depth_15 : decode cX6_depth 15 = .ok (.if_icmp .ge 16, 3) := by decide +kernel
theorem dX6_depth_18 : decode cX6_depth 18 = .ok (.iinc 2 1, 3) := by decide +kernel
theorem dX6_depth_21 : decode cX6_depth 21 = .ok (.aload_n 0, 1) := by decide +kernel
theorem dX6_depth_22 : decode cX6_depth 22 = .ok (.getfield 15, 3) := by decide +kernel
theorem dX6_depth_25 : decode cX6_depth 25 = .ok (.iload_n 3, 1) := by decide +kernel
theorem dX6_depth_26 : decode cX6_depth 26 = .ok (.iaload, 1) := by decide +kernel
theorem dX6_depth_27 : decode cX6_depth 27 = .ok (.istore_n 3, 1) := by decide +kernel
theorem dX6_depth_28 : decode cX6_depth 28 = .ok (.goto (-24), 3) := by decide +kernel
theorem dX6_depth_31 : decode cX6_depth 31 = .ok (.iload_n 2, 1) := by decide +kernel
theorem dX6_depth_32 : decode cX6_depth 32 = .ok (.ireturn, 1) := by decide +kernel
theorem dX6_isWithin_0 : decode cX6_isWithin 0 = .ok (.iload_n 1, 1) := by decide +kernel
theorem dX6_isWithin_1 : decode cX6_isWithin 1 = .ok (.istore_n 3, 1) := by decide +kernel
theorem dX6_isWithin_2 : decode cX6_isWithin 2 = .ok (.iconst 0, 1) := by decide +kernel
theorem dX6_isWithin_3 : decode cX6_isWithin 3 = .ok (.istore 4, 2) := by decide +kernel
theorem dX6_isWithin_5 : decode cX6_isWithin 5 = .ok (.iload 4, 2) := by decide +kernel
theorem dX6_isWithin_7 : decode cX6_isWithin 7 = .ok (.bipush 40, 2) := by decide +kernel
theorem dX6_isWithin_9 : decode cX6_isWithin 9 = .ok (.if_icmp .ge 31, 3) := by decide +kernel
theorem dX6_isWithin_12 : decode cX6_isWithin 12 = .ok (.aload_n 0, 1) := by decide +kernel
theorem dX6_isWithin_13 : decode cX6_isWithin 13 = .ok (.iload_n 3, 1) := by decide +kernel
theorem dX6_isWithin_14 : decode cX6_isWithin 14 = .ok (.invokevirtual 18, 3) := by decide +kernel
theorem dX6_isWithin_17 : decode cX6_isWithin 17 = .ok (.ifCond .eq 23, 3) := by decide +kernel
theorem dX6_isWithin_20 : decode cX6_isWithin 20 = .ok (.iload_n 3, 1) := by decide +kernel
theorem dX6_isWithin_21 : decode cX6_isWithin 21 = .ok (.iload_n 2, 1) := by decide +kernel
theorem dX6_isWithin_22 : decode cX6_isWithin 22 = .ok (.if_icmp .ne 5, 3) := by decide +kernel
theorem dX6_isWithin_25 : decode cX6_isWithin 25 = .ok (.iconst 1, 1) := by decide +kernel
theorem dX6_isWithin_26 : decode cX6_isWithin 26 = .ok (.ireturn, 1) := by decide +kernel
theorem dX6_isWithin_27 : decode cX6_isWithin 27 = .ok (.aload_n 0, 1) := by decide +kernel
theorem dX6_isWithin_28 : decode cX6_isWithin 28 = .ok (.getfield 15, 3) := by decide +kernel
theorem dX6_isWithin_31 : decode cX6_isWithin 31 = .ok (.iload_n 3, 1) := by decide +kernel
theorem dX6_isWithin_32 : decode cX6_isWithin 32 = .ok (.iaload, 1) := by decide +kernel
theorem dX6_isWithin_33 : decode cX6_isWithin 33 = .ok (.istore_n 3, 1) := by decide +kernel
theorem dX6_isWithin_34 : decode cX6_isWithin 34 = .ok (.iinc 4 1, 3) := by decide +kernel
theorem dX6_isWithin_37 : decode cX6_isWithin 37 = .ok (.goto (-32), 3) := by decide +kernel
theorem dX6_isWithin_40 : decode cX6_isWithin 40 = .ok (.iconst 0, 1) := by decide +kernel
theorem dX6_isWithin_41 : decode cX6_isWithin 41 = .ok (.ireturn, 1) := by decide +kernel
theorem dX6_areBeside_0 : decode cX6_areBeside 0 = .ok (.aload_n 0, 1) := by decide +kernel
theorem dX6_areBeside_1 : decode cX6_areBeside 1 = .ok (.iload_n 1, 1) := by decide +kernel
theorem dX6_areBeside_2 : decode cX6_areBeside 2 = .ok (.invokevirtual 18, 3) := by decide +kernel
theorem dX6_areBeside_5 : decode cX6_areBeside 5 = .ok (.ifCond .eq 45, 3) := by decide +kernel
theorem dX6_areBeside_8 : decode cX6_areBeside 8 = .ok (.aload_n 0, 1) := by decide +kernel
theorem dX6_areBeside_9 : decode cX6_areBeside 9 = .ok (.iload_n 2, 1) := by decide +kernel
theorem dX6_areBeside_10 : decode cX6_areBeside 10 = .ok (.invokevirtual 18, 3) := by decide +kernel
theorem dX6_areBeside_13 : decode cX6_areBeside 13 = .ok (.ifCond .eq 37, 3) := by decide +kernel
theorem dX6_areBeside_16 : decode cX6_areBeside 16 = .ok (.aload_n 0, 1) := by decide +kernel
theorem dX6_areBeside_17 : decode cX6_areBeside 17 = .ok (.getfield 9, 3) := by decide +kernel
theorem dX6_areBeside_20 : decode cX6_areBeside 20 = .ok (.iload_n 1, 1) := by decide +kernel
theorem dX6_areBeside_21 : decode cX6_areBeside 21 = .ok (.iaload, 1) := by decide +kernel
theorem dX6_areBeside_22 : decode cX6_areBeside 22 = .ok (.aload_n 0, 1) := by decide +kernel
theorem dX6_areBeside_23 : decode cX6_areBeside 23 = .ok (.getfield 9, 3) := by decide +kernel
theorem dX6_areBeside_26 : decode cX6_areBeside 26 = .ok (.iload_n 2, 1) := by decide +kernel
theorem dX6_areBeside_27 : decode cX6_areBeside 27 = .ok (.iaload, 1) := by decide +kernel
theorem dX6_areBeside_28 : decode cX6_areBeside 28 = .ok (.if_icmp .ne 22, 3) := by decide +kernel
theorem dX6_areBeside_31 : decode cX6_areBeside 31 = .ok (.aload_n 0, 1) := by decide +kernel
theorem dX6_areBeside_32 : decode cX6_areBeside 32 = .ok (.getfield 15, 3) := by decide +kernel
theorem dX6_areBeside_35 : decode cX6_areBeside 35 = .ok (.iload_n 1, 1) := by decide +kernel
theorem dX6_areBeside_36 : decode cX6_areBeside 36 = .ok (.iaload, 1) := by decide +kernel
theorem dX6_areBeside_37 : decode cX6_areBeside 37 = .ok (.aload_n 0, 1) := by decide +kernel
theorem dX6_areBeside_38 : decode cX6_areBeside 38 = .ok (.getfield 15, 3) := by decide +kernel
theorem dX6_areBeside_41 : decode cX6_areBeside 41 = .ok (.iload_n 2, 1) := by decide +kernel
theorem dX6_areBeside_42 : decode cX6_areBeside 42 = .ok (.iaload, 1) := by decide +kernel
theorem dX6_areBeside_43 : decode cX6_areBeside 43 = .ok (.if_icmp .ne 7, 3) := by decide +kernel
theorem dX6_areBeside_46 : decode cX6_areBeside 46 = .ok (.iconst 1, 1) := by decide +kernel
theorem dX6_areBeside_47 : decode cX6_areBeside 47 = .ok (.goto 4, 3) := by decide +kernel
theorem dX6_areBeside_50 : decode cX6_areBeside 50 = .ok (.iconst 0, 1) := by decide +kernel
theorem dX6_areBeside_51 : decode cX6_areBeside 51 = .ok (.ireturn, 1) := by decide +kernel
theorem dX7_has_0 : decode cX7_has 0 = .ok (.iload_n 1, 1) := by decide +kernel
theorem dX7_has_1 : decode cX7_has 1 = .ok (.ifCond .lt 15, 3) := by decide +kernel
theorem dX7_has_4 : decode cX7_has 4 = .ok (.iload_n 1, 1) := by decide +kernel
theorem dX7_has_5 : decode cX7_has 5 = .ok (.aload_n 0, 1) := by decide +kernel
theorem dX7_has_6 : decode cX7_has 6 = .ok (.getfield 30, 3) := by decide +kernel
theorem dX7_has_9 : decode cX7_has 9 = .ok (.if_icmp .ge 7, 3) := by decide +kernel
theorem dX7_has_12 : decode cX7_has 12 = .ok (.iconst 1, 1) := by decide +kernel
theorem dX7_has_13 : decode cX7_has 13 = .ok (.goto 4, 3) := by decide +kernel
theorem dX7_has_16 : decode cX7_has 16 = .ok (.iconst 0, 1) := by decide +kernel
theorem dX7_has_17 : decode cX7_has 17 = .ok (.ireturn, 1) := by decide +kernel
theorem dX7_add_0 : decode cX7_add 0 = .ok (.aload_n 0, 1) := by decide +kernel
theorem dX7_add_1 : decode cX7_add 1 = .ok (.getfield 30, 3) := by decide +kernel
theorem dX7_add_4 : decode cX7_add 4 = .ok (.istore 4, 2) := by decide +kernel
theorem dX7_add_6 : decode cX7_add 6 = .ok (.iload 4, 2) := by decide +kernel
theorem dX7_add_8 : decode cX7_add 8 = .ok (.bipush 120, 2) := by decide +kernel
theorem dX7_add_10 : decode cX7_add 10 = .ok (.if_icmp .lt 5, 3) := by decide +kernel
theorem dX7_add_13 : decode cX7_add 13 = .ok (.iconst (-1), 1) := by decide +kernel
theorem dX7_add_14 : decode cX7_add 14 = .ok (.ireturn, 1) := by decide +kernel
theorem dX7_add_15 : decode cX7_add 15 = .ok (.aload_n 0, 1) := by decide +kernel
theorem dX7_add_16 : decode cX7_add 16 = .ok (.dup, 1) := by decide +kernel
theorem dX7_add_17 : decode cX7_add 17 = .ok (.getfield 30, 3) := by decide +kernel
theorem dX7_add_20 : decode cX7_add 20 = .ok (.iconst 1, 1) := by decide +kernel
theorem dX7_add_21 : decode cX7_add 21 = .ok (.iadd, 1) := by decide +kernel
theorem dX7_add_22 : decode cX7_add 22 = .ok (.putfield 30, 3) := by decide +kernel
theorem dX7_add_25 : decode cX7_add 25 = .ok (.aload_n 0, 1) := by decide +kernel
theorem dX7_add_26 : decode cX7_add 26 = .ok (.getfield 9, 3) := by decide +kernel
theorem dX7_add_29 : decode cX7_add 29 = .ok (.iload 4, 2) := by decide +kernel
theorem dX7_add_31 : decode cX7_add 31 = .ok (.iload_n 1, 1) := by decide +kernel
theorem dX7_add_32 : decode cX7_add 32 = .ok (.iastore, 1) := by decide +kernel
theorem dX7_add_33 : decode cX7_add 33 = .ok (.aload_n 0, 1) := by decide +kernel
theorem dX7_add_34 : decode cX7_add 34 = .ok (.getfield 26, 3) := by decide +kernel
theorem dX7_add_37 : decode cX7_add 37 = .ok (.iload 4, 2) := by decide +kernel
theorem dX7_add_39 : decode cX7_add 39 = .ok (.lload_n 2, 1) := by decide +kernel
theorem dX7_add_40 : decode cX7_add 40 = .ok (.invokevirtual 34, 3) := by decide +kernel
theorem dX7_add_43 : decode cX7_add 43 = .ok (.aload_n 0, 1) := by decide +kernel
theorem dX7_add_44 : decode cX7_add 44 = .ok (.iload 4, 2) := by decide +kernel
theorem dX7_add_46 : decode cX7_add 46 = .ok (.iconst (-1), 1) := by decide +kernel
theorem dX7_add_47 : decode cX7_add 47 = .ok (.iconst (-1), 1) := by decide +kernel
theorem dX7_add_48 : decode cX7_add 48 = .ok (.invokevirtual 38, 3) := by decide +kernel
theorem dX7_add_51 : decode cX7_add 51 = .ok (.iload 4, 2) := by decide +kernel
theorem dX7_add_53 : decode cX7_add 53 = .ok (.ireturn, 1) := by decide +kernel
theorem dX7_place_0 : decode cX7_place 0 = .ok (.aload_n 0, 1) := by decide +kernel
theorem dX7_place_1 : decode cX7_place 1 = .ok (.iload_n 1, 1) := by decide +kernel
theorem dX7_place_2 : decode cX7_place 2 = .ok (.invokevirtual 42, 3) := by decide +kernel
theorem dX7_place_5 : decode cX7_place 5 = .ok (.ifCond .eq 17, 3) := by decide +kernel
theorem dX7_place_8 : decode cX7_place 8 = .ok (.aload_n 0, 1) := by decide +kernel
theorem dX7_place_9 : decode cX7_place 9 = .ok (.getfield 15, 3) := by decide +kernel
theorem dX7_place_12 : decode cX7_place 12 = .ok (.iload_n 1, 1) := by decide +kernel
theorem dX7_place_13 : decode cX7_place 13 = .ok (.iload_n 2, 1) := by decide +kernel
theorem dX7_place_14 : decode cX7_place 14 = .ok (.iastore, 1) := by decide +kernel
theorem dX7_place_15 : decode cX7_place 15 = .ok (.aload_n 0, 1) := by decide +kernel
theorem dX7_place_16 : decode cX7_place 16 = .ok (.getfield 18, 3) := by decide +kernel
theorem dX7_place_19 : decode cX7_place 19 = .ok (.iload_n 1, 1) := by decide +kernel
theorem dX7_place_20 : decode cX7_place 20 = .ok (.iload_n 3, 1) := by decide +kernel
theorem dX7_place_21 : decode cX7_place 21 = .ok (.iastore, 1) := by decide +kernel
theorem dX7_place_22 : decode cX7_place 22 = .ok (.return_, 1) := by decide +kernel
theorem dX7_isLoose_0 : decode cX7_isLoose 0 = .ok (.aload_n 0, 1) := by decide +kernel
theorem dX7_isLoose_1 : decode cX7_isLoose 1 = .ok (.iload_n 1, 1) := by decide +kernel
theorem dX7_isLoose_2 : decode cX7_isLoose 2 = .ok (.iconst (-1), 1) := by decide +kernel
theorem dX7_isLoose_3 : decode cX7_isLoose 3 = .ok (.iconst (-1), 1) := by decide +kernel
theorem dX7_isLoose_4 : decode cX7_isLoose 4 = .ok (.invokevirtual 46, 3) := by decide +kernel
theorem dX7_isLoose_7 : decode cX7_isLoose 7 = .ok (.ireturn, 1) := by decide +kernel
theorem dX7_standsAt_0 : decode cX7_standsAt 0 = .ok (.aload_n 0, 1) := by decide +kernel
theorem dX7_standsAt_1 : decode cX7_standsAt 1 = .ok (.iload_n 1, 1) := by decide +kernel
theorem dX7_standsAt_2 : decode cX7_standsAt 2 = .ok (.invokevirtual 42, 3) := by decide +kernel
theorem dX7_standsAt_5 : decode cX7_standsAt 5 = .ok (.ifCond .eq 27, 3) := by decide +kernel
theorem dX7_standsAt_8 : decode cX7_standsAt 8 = .ok (.aload_n 0, 1) := by decide +kernel
theorem dX7_standsAt_9 : decode cX7_standsAt 9 = .ok (.getfield 15, 3) := by decide +kernel
theorem dX7_standsAt_12 : decode cX7_standsAt 12 = .ok (.iload_n 1, 1) := by decide +kernel
theorem dX7_standsAt_13 : decode cX7_standsAt 13 = .ok (.iaload, 1) := by decide +kernel
theorem dX7_standsAt_14 : decode cX7_standsAt 14 = .ok (.iload_n 2, 1) := by decide +kernel
theorem dX7_standsAt_15 : decode cX7_standsAt 15 = .ok (.if_icmp .ne 17, 3) := by decide +kernel
theorem dX7_standsAt_18 : decode cX7_standsAt 18 = .ok (.aload_n 0, 1) := by decide +kernel
theorem dX7_standsAt_19 : decode cX7_standsAt 19 = .ok (.getfield 18, 3) := by decide +kernel
theorem dX7_standsAt_22 : decode cX7_standsAt 22 = .ok (.iload_n 1, 1) := by decide +kernel
theorem dX7_standsAt_23 : decode cX7_standsAt 23 = .ok (.iaload, 1) := by decide +kernel
theorem dX7_standsAt_24 : decode cX7_standsAt 24 = .ok (.iload_n 3, 1) := by decide +kernel
theorem dX7_standsAt_25 : decode cX7_standsAt 25 = .ok (.if_icmp .ne 7, 3) := by decide +kernel
theorem dX7_standsAt_28 : decode cX7_standsAt 28 = .ok (.iconst 1, 1) := by decide +kernel
theorem dX7_standsAt_29 : decode cX7_standsAt 29 = .ok (.goto 4, 3) := by decide +kernel
theorem dX7_standsAt_32 : decode cX7_standsAt 32 = .ok (.iconst 0, 1) := by decide +kernel
theorem dX7_standsAt_33 : decode cX7_standsAt 33 = .ok (.ireturn, 1) := by decide +kernel
theorem dX7_at_0 : decode cX7_at 0 = .ok (.iconst 0, 1) := by decide +kernel
theorem dX7_at_1 : decode cX7_at 1 = .ok (.istore_n 3, 1) := by decide +kernel
theorem dX7_at_2 : decode cX7_at 2 = .ok (.iconst 0, 1) := by decide +kernel
theorem dX7_at_3 : decode cX7_at 3 = .ok (.istore 4, 2) := by decide +kernel
theorem dX7_at_5 : decode cX7_at 5 = .ok (.iload 4, 2) := by decide +kernel
theorem dX7_at_7 : decode cX7_at 7 = .ok (.aload_n 0, 1) := by decide +kernel
theorem dX7_at_8 : decode cX7_at 8 = .ok (.getfield 30, 3) := by decide +kernel
theorem dX7_at_11 : decode cX7_at 11 = .ok (.if_icmp .ge 23, 3) := by decide +kernel
theorem dX7_at_14 : decode cX7_at 14 = .ok (.aload_n 0, 1) := by decide +kernel
theorem dX7_at_15 : decode cX7_at 15 = .ok (.iload 4, 2) := by decide +kernel
theorem dX7_at_17 : decode cX7_at 17 = .ok (.iload_n 1, 1) := by decide +kernel
theorem dX7_at_18 : decode cX7_at 18 = .ok (.iload_n 2, 1) := by decide +kernel
theorem dX7_at_19 : decode cX7_at 19 = .ok (.invokevirtual 46, 3) := by decide +kernel
theorem dX7_at_22 : decode cX7_at 22 = .ok (.ifCond .eq 6, 3) := by decide +kernel
theorem dX7_at_25 : decode cX7_at 25 = .ok (.iinc 3 1, 3) := by decide +kernel
theorem dX7_at_28 : decode cX7_at 28 = .ok (.iinc 4 1, 3) := by decide +kernel
theorem dX7_at_31 : decode cX7_at 31 = .ok (.goto (-26), 3) := by decide +kernel
theorem dX7_at_34 : decode cX7_at 34 = .ok (.iload_n 3, 1) := by decide +kernel
theorem dX7_at_35 : decode cX7_at 35 = .ok (.ireturn, 1) := by decide +kernel
theorem dX7_ofBook_0 : decode cX7_ofBook 0 = .ok (.iconst 0, 1) := by decide +kernel
theorem dX7_ofBook_1 : decode cX7_ofBook 1 = .ok (.istore_n 2, 1) := by decide +kernel
theorem dX7_ofBook_2 : decode cX7_ofBook 2 = .ok (.iconst 0, 1) := by decide +kernel
theorem dX7_ofBook_3 : decode cX7_ofBook 3 = .ok (.istore_n 3, 1) := by decide +kernel
theorem dX7_ofBook_4 : decode cX7_ofBook 4 = .ok (.iload_n 3, 1) := by decide +kernel
theorem dX7_ofBook_5 : decode cX7_ofBook 5 = .ok (.aload_n 0, 1) := by decide +kernel
theorem dX7_ofBook_6 : decode cX7_ofBook 6 = .ok (.getfield 30, 3) := by decide +kernel
theorem dX7_ofBook_9 : decode cX7_ofBook 9 = .ok (.if_icmp .ge 22, 3) := by decide +kernel
theorem dX7_ofBook_12 : decode cX7_ofBook 12 = .ok (.aload_n 0, 1) := by decide +kernel
theorem dX7_ofBook_13 : decode cX7_ofBook 13 = .ok (.getfield 9, 3) := by decide +kernel
theorem dX7_ofBook_16 : decode cX7_ofBook 16 = .ok (.iload_n 3, 1) := by decide +kernel
theorem dX7_ofBook_17 : decode cX7_ofBook 17 = .ok (.iaload, 1) := by decide +kernel
theorem dX7_ofBook_18 : decode cX7_ofBook 18 = .ok (.iload_n 1, 1) := by decide +kernel
theorem dX7_ofBook_19 : decode cX7_ofBook 19 = .ok (.if_icmp .ne 6, 3) := by decide +kernel
theorem dX7_ofBook_22 : decode cX7_ofBook 22 = .ok (.iinc 2 1, 3) := by decide +kernel
theorem dX7_ofBook_25 : decode cX7_ofBook 25 = .ok (.iinc 3 1, 3) := by decide +kernel
theorem dX7_ofBook_28 : decode cX7_ofBook 28 = .ok (.goto (-24), 3) := by decide +kernel
theorem dX7_ofBook_31 : decode cX7_ofBook 31 = .ok (.iload_n 2, 1) := by decide +kernel
theorem dX7_ofBook_32 : decode cX7_ofBook 32 = .ok (.ireturn, 1) := by decide +kernel
theorem dX7_moveAll_0 : decode cX7_moveAll 0 = .ok (.iconst 0, 1) := by decide +kernel
theorem dX7_moveAll_1 : decode cX7_moveAll 1 = .ok (.istore_n 3, 1) := by decide +kernel
theorem dX7_moveAll_2 : decode cX7_moveAll 2 = .ok (.iload_n 3, 1) := by decide +kernel
theorem dX7_moveAll_3 : decode cX7_moveAll 3 = .ok (.aload_n 0, 1) := by decide +kernel
theorem dX7_moveAll_4 : decode cX7_moveAll 4 = .ok (.getfield 30, 3) := by decide +kernel
theorem dX7_moveAll_7 : decode cX7_moveAll 7 = .ok (.if_icmp .ge 26, 3) := by decide +kernel
theorem dX7_moveAll_10 : decode cX7_moveAll 10 = .ok (.aload_n 0, 1) := by decide +kernel
theorem dX7_moveAll_11 : decode cX7_moveAll 11 = .ok (.getfield 18, 3) := by decide +kernel
theorem dX7_moveAll_14 : decode cX7_moveAll 14 = .ok (.iload_n 3, 1) := by decide +kernel
theorem dX7_moveAll_15 : decode cX7_moveAll 15 = .ok (.iaload, 1) := by decide +kernel
theorem dX7_moveAll_16 : decode cX7_moveAll 16 = .ok (.iload_n 1, 1) := by decide +kernel
theorem dX7_moveAll_17 : decode cX7_moveAll 17 = .ok (.if_icmp .ne 10, 3) := by decide +kernel
theorem dX7_moveAll_20 : decode cX7_moveAll 20 = .ok (.aload_n 0, 1) := by decide +kernel
theorem dX7_moveAll_21 : decode cX7_moveAll 21 = .ok (.getfield 18, 3) := by decide +kernel
theorem dX7_moveAll_24 : decode cX7_moveAll 24 = .ok (.iload_n 3, 1) := by decide +kernel
theorem dX7_moveAll_25 : decode cX7_moveAll 25 = .ok (.iload_n 2, 1) := by decide +kernel
theorem dX7_moveAll_26 : decode cX7_moveAll 26 = .ok (.iastore, 1) := by decide +kernel
theorem dX7_moveAll_27 : decode cX7_moveAll 27 = .ok (.iinc 3 1, 3) := by decide +kernel
theorem dX7_moveAll_30 : decode cX7_moveAll 30 = .ok (.goto (-28), 3) := by decide +kernel
theorem dX7_moveAll_33 : decode cX7_moveAll 33 = .ok (.return_, 1) := by decide +kernel
theorem dX8_addFour_0 : decode cX8_addFour 0 = .ok (.bipush 24, 2) := by decide +kernel
theorem dX8_addFour_2 : decode cX8_addFour 2 = .ok (.istore_n 2, 1) := by decide +kernel
theorem dX8_addFour_3 : decode cX8_addFour 3 = .ok (.iload_n 2, 1) := by decide +kernel
theorem dX8_addFour_4 : decode cX8_addFour 4 = .ok (.ifCond .lt 47, 3) := by decide +kernel
theorem dX8_addFour_7 : decode cX8_addFour 7 = .ok (.aload_n 0, 1) := by decide +kernel
theorem dX8_addFour_8 : decode cX8_addFour 8 = .ok (.getfield 15, 3) := by decide +kernel
theorem dX8_addFour_11 : decode cX8_addFour 11 = .ok (.aload_n 0, 1) := by decide +kernel
theorem dX8_addFour_12 : decode cX8_addFour 12 = .ok (.getfield 9, 3) := by decide +kernel
theorem dX8_addFour_15 : decode cX8_addFour 15 = .ok (.arraylength, 1) := by decide +kernel
theorem dX8_addFour_16 : decode cX8_addFour 16 = .ok (.if_icmp .ge 35, 3) := by decide +kernel
theorem dX8_addFour_19 : decode cX8_addFour 19 = .ok (.aload_n 0, 1) := by decide +kernel
theorem dX8_addFour_20 : decode cX8_addFour 20 = .ok (.getfield 9, 3) := by decide +kernel
theorem dX8_addFour_23 : decode cX8_addFour 23 = .ok (.aload_n 0, 1) := by decide +kernel
theorem dX8_addFour_24 : decode cX8_addFour 24 = .ok (.getfield 15, 3) := by decide +kernel
theorem dX8_addFour_27 : decode cX8_addFour 27 = .ok (.iload_n 1, 1) := by decide +kernel
theorem dX8_addFour_28 : decode cX8_addFour 28 = .ok (.iload_n 2, 1) := by decide +kernel
theorem dX8_addFour_29 : decode cX8_addFour 29 = .ok (.iushr, 1) := by decide +kernel
theorem dX8_addFour_30 : decode cX8_addFour 30 = .ok (.sipush 255, 3) := by decide +kernel
theorem dX8_addFour_33 : decode cX8_addFour 33 = .ok (.iand, 1) := by decide +kernel
theorem dX8_addFour_34 : decode cX8_addFour 34 = .ok (.iastore, 1) := by decide +kernel
theorem dX8_addFour_35 : decode cX8_addFour 35 = .ok (.aload_n 0, 1) := by decide +kernel
theorem dX8_addFour_36 : decode cX8_addFour 36 = .ok (.dup, 1) := by decide +kernel
theorem dX8_addFour_37 : decode cX8_addFour 37 = .ok (.getfield 15, 3) := by decide +kernel
theorem dX8_addFour_40 : decode cX8_addFour 40 = .ok (.iconst 1, 1) := by decide +kernel
theorem dX8_addFour_41 : decode cX8_addFour 41 = .ok (.iadd, 1) := by decide +kernel
theorem dX8_addFour_42 : decode cX8_addFour 42 = .ok (.putfield 15, 3) := by decide +kernel
theorem dX8_addFour_45 : decode cX8_addFour 45 = .ok (.iinc 2 (-8), 3) := by decide +kernel
theorem dX8_addFour_48 : decode cX8_addFour 48 = .ok (.goto (-45), 3) := by decide +kernel
theorem dX8_addFour_51 : decode cX8_addFour 51 = .ok (.return_, 1) := by decide +kernel
theorem dX8_clear_0 : decode cX8_clear 0 = .ok (.aload_n 0, 1) := by decide +kernel
theorem dX8_clear_1 : decode cX8_clear 1 = .ok (.iconst 0, 1) := by decide +kernel
theorem dX8_clear_2 : decode cX8_clear 2 = .ok (.putfield 15, 3) := by decide +kernel
theorem dX8_clear_5 : decode cX8_clear 5 = .ok (.return_, 1) := by decide +kernel
theorem dX8_takeWord_0 : decode cX8_takeWord 0 = .ok (.aload_n 0, 1) := by decide +kernel
theorem dX8_takeWord_1 : decode cX8_takeWord 1 = .ok (.iconst 0, 1) := by decide +kernel
theorem dX8_takeWord_2 : decode cX8_takeWord 2 = .ok (.iload_n 1, 1) := by decide +kernel
theorem dX8_takeWord_3 : decode cX8_takeWord 3 = .ok (.invokevirtual 19, 3) := by decide +kernel
theorem dX8_takeWord_6 : decode cX8_takeWord 6 = .ok (.lstore_n 2, 1) := by decide +kernel
theorem dX8_takeWord_7 : decode cX8_takeWord 7 = .ok (.aload_n 0, 1) := by decide +kernel
theorem dX8_takeWord_8 : decode cX8_takeWord 8 = .ok (.invokevirtual 23, 3) := by decide +kernel
theorem dX8_takeWord_11 : decode cX8_takeWord 11 = .ok (.lload_n 2, 1) := by decide +kernel
theorem dX8_takeWord_12 : decode cX8_takeWord 12 = .ok (.lreturn, 1) := by decide +kernel
theorem dX8_wordAt_0 : decode cX8_wordAt 0 = .ok (.lconst 0, 1) := by decide +kernel
theorem dX8_wordAt_1 : decode cX8_wordAt 1 = .ok (.lstore_n 3, 1) := by decide +kernel
theorem dX8_wordAt_2 : decode cX8_wordAt 2 = .ok (.iload_n 1, 1) := by decide +kernel
theorem dX8_wordAt_3 : decode cX8_wordAt 3 = .ok (.istore 5, 2) := by decide +kernel
theorem dX8_wordAt_5 : decode cX8_wordAt 5 = .ok (.iload 5, 2) := by decide +kernel
theorem dX8_wordAt_7 : decode cX8_wordAt 7 = .ok (.iload_n 1, 1) := by decide +kernel
theorem dX8_wordAt_8 : decode cX8_wordAt 8 = .ok (.iload_n 2, 1) := by decide +kernel
theorem dX8_wordAt_9 : decode cX8_wordAt 9 = .ok (.iadd, 1) := by decide +kernel
theorem dX8_wordAt_10 : decode cX8_wordAt 10 = .ok (.if_icmp .ge 61, 3) := by decide +kernel
theorem dX8_wordAt_13 : decode cX8_wordAt 13 = .ok (.iload 5, 2) := by decide +kernel
theorem dX8_wordAt_15 : decode cX8_wordAt 15 = .ok (.ifCond .lt 36, 3) := by decide +kernel
theorem dX8_wordAt_18 : decode cX8_wordAt 18 = .ok (.iload 5, 2) := by decide +kernel
theorem dX8_wordAt_20 : decode cX8_wordAt 20 = .ok (.aload_n 0, 1) := by decide +kernel
theorem dX8_wordAt_21 : decode cX8_wordAt 21 = .ok (.getfield 15, 3) := by decide +kernel
theorem dX8_wordAt_24 : decode cX8_wordAt 24 = .ok (.if_icmp .ge 27, 3) := by decide +kernel
theorem dX8_wordAt_27 : decode cX8_wordAt 27 = .ok (.aload_n 0, 1) := by decide +kernel
theorem dX8_wordAt_28 : decode cX8_wordAt 28 = .ok (.getfield 9, 3) := by decide +kernel
theorem dX8_wordAt_31 : decode cX8_wordAt 31 = .ok (.iload 5, 2) := by decide +kernel
theorem dX8_wordAt_33 : decode cX8_wordAt 33 = .ok (.iaload, 1) := by decide +kernel
theorem dX8_wordAt_34 : decode cX8_wordAt 34 = .ok (.bipush 97, 2) := by decide +kernel
theorem dX8_wordAt_36 : decode cX8_wordAt 36 = .ok (.if_icmp .lt 15, 3) := by decide +kernel
theorem dX8_wordAt_39 : decode cX8_wordAt 39 = .ok (.aload_n 0, 1) := by decide +kernel
theorem dX8_wordAt_40 : decode cX8_wordAt 40 = .ok (.getfield 9, 3) := by decide +kernel
theorem dX8_wordAt_43 : decode cX8_wordAt 43 = .ok (.iload 5, 2) := by decide +kernel
theorem dX8_wordAt_45 : decode cX8_wordAt 45 = .ok (.iaload, 1) := by decide +kernel
theorem dX8_wordAt_46 : decode cX8_wordAt 46 = .ok (.bipush 122, 2) := by decide +kernel
theorem dX8_wordAt_48 : decode cX8_wordAt 48 = .ok (.if_icmp .le 5, 3) := by decide +kernel
theorem dX8_wordAt_51 : decode cX8_wordAt 51 = .ok (.lconst 0, 1) := by decide +kernel
theorem dX8_wordAt_52 : decode cX8_wordAt 52 = .ok (.lreturn, 1) := by decide +kernel
theorem dX8_wordAt_53 : decode cX8_wordAt 53 = .ok (.lload_n 3, 1) := by decide +kernel
theorem dX8_wordAt_54 : decode cX8_wordAt 54 = .ok (.aload_n 0, 1) := by decide +kernel
theorem dX8_wordAt_55 : decode cX8_wordAt 55 = .ok (.getfield 9, 3) := by decide +kernel
theorem dX8_wordAt_58 : decode cX8_wordAt 58 = .ok (.iload 5, 2) := by decide +kernel
theorem dX8_wordAt_60 : decode cX8_wordAt 60 = .ok (.iaload, 1) := by decide +kernel
theorem dX8_wordAt_61 : decode cX8_wordAt 61 = .ok (.invokestatic 28, 3) := by decide +kernel
theorem dX8_wordAt_64 : decode cX8_wordAt 64 = .ok (.lstore_n 3, 1) := by decide +kernel
theorem dX8_wordAt_65 : decode cX8_wordAt 65 = .ok (.iinc 5 1, 3) := by decide +kernel
theorem dX8_wordAt_68 : decode cX8_wordAt 68 = .ok (.goto (-63), 3) := by decide +kernel
theorem dX8_wordAt_71 : decode cX8_wordAt 71 = .ok (.lload_n 3, 1) := by decide +kernel
theorem dX8_wordAt_72 : decode cX8_wordAt 72 = .ok (.lreturn, 1) := by decide +kernel
theorem dX9_gather_0 : decode cX9_gather 0 = .ok (.iconst 0, 1) := by decide +kernel
theorem dX9_gather_1 : decode cX9_gather 1 = .ok (.istore_n 1, 1) := by decide +kernel
theorem dX9_gather_2 : decode cX9_gather 2 = .ok (.iload_n 1, 1) := by decide +kernel
theorem dX9_gather_3 : decode cX9_gather 3 = .ok (.bipush 40, 2) := by decide +kernel
theorem dX9_gather_5 : decode cX9_gather 5 = .ok (.if_icmp .ge 37, 3) := by decide +kernel
theorem dX9_gather_8 : decode cX9_gather 8 = .ok (.aload_n 0, 1) := by decide +kernel
theorem dX9_gather_9 : decode cX9_gather 9 = .ok (.getfield 9, 3) := by decide +kernel
theorem dX9_gather_12 : decode cX9_gather 12 = .ok (.iload_n 1, 1) := by decide +kernel
theorem dX9_gather_13 : decode cX9_gather 13 = .ok (.iconst 0, 1) := by decide +kernel
theorem dX9_gather_14 : decode cX9_gather 14 = .ok (.iastore, 1) := by decide +kernel
theorem dX9_gather_15 : decode cX9_gather 15 = .ok (.aload_n 0, 1) := by decide +kernel
theorem dX9_gather_16 : decode cX9_gather 16 = .ok (.getfield 15, 3) := by decide +kernel
theorem dX9_gather_19 : decode cX9_gather 19 = .ok (.iload_n 1, 1) := by decide +kernel
theorem dX9_gather_20 : decode cX9_gather 20 = .ok (.iconst 0, 1) := by decide +kernel
theorem dX9_gather_21 : decode cX9_gather 21 = .ok (.iastore, 1) := by decide +kernel
theorem dX9_gather_22 : decode cX9_gather 22 = .ok (.aload_n 0, 1) := by decide +kernel
theorem dX9_gather_23 : decode cX9_gather 23 = .ok (.getfield 18, 3) := by decide +kernel
theorem dX9_gather_26 : decode cX9_gather 26 = .ok (.iload_n 1, 1) := by decide +kernel
theorem dX9_gather_27 : decode cX9_gather 27 = .ok (.iconst 0, 1) := by decide +kernel
theorem dX9_gather_28 : decode cX9_gather 28 = .ok (.iastore, 1) := by decide +kernel
theorem dX9_gather_29 : decode cX9_gather 29 = .ok (.aload_n 0, 1) := by decide +kernel
theorem dX9_gather_30 : decode cX9_gather 30 = .ok (.getfield 21, 3) := by decide +kernel
theorem dX9_gather_33 : decode cX9_gather 33 = .ok (.iload_n 1, 1) := by decide +kernel
theorem dX9_gather_34 : decode cX9_gather 34 = .ok (.iconst 0, 1) := by decide +kernel
theorem dX9_gather_35 : decode cX9_gather 35 = .ok (.iastore, 1) := by decide +kernel
theorem dX9_gather_36 : decode cX9_gather 36 = .ok (.iinc 1 1, 3) := by decide +kernel
theorem dX9_gather_39 : decode cX9_gather 39 = .ok (.goto (-37), 3) := by decide +kernel
theorem dX9_gather_42 : decode cX9_gather 42 = .ok (.iconst 0, 1) := by decide +kernel
theorem dX9_gather_43 : decode cX9_gather 43 = .ok (.istore_n 1, 1) := by decide +kernel
theorem dX9_gather_44 : decode cX9_gather 44 = .ok (.iload_n 1, 1) := by decide +kernel
theorem dX9_gather_45 : decode cX9_gather 45 = .ok (.aload_n 0, 1) := by decide +kernel
theorem dX9_gather_46 : decode cX9_gather 46 = .ok (.getfield 37, 3) := by decide +kernel
theorem dX9_gather_49 : decode cX9_gather 49 = .ok (.getfield 45, 3) := by decide +kernel
theorem dX9_gather_52 : decode cX9_gather 52 = .ok (.if_icmp .ge 33, 3) := by decide +kernel
theorem dX9_gather_55 : decode cX9_gather 55 = .ok (.aload_n 0, 1) := by decide +kernel
theorem dX9_gather_56 : decode cX9_gather 56 = .ok (.aload_n 0, 1) := by decide +kernel
theorem dX9_gather_57 : decode cX9_gather 57 = .ok (.getfield 37, 3) := by decide +kernel
theorem dX9_gather_60 : decode cX9_gather 60 = .ok (.getfield 51, 3) := by decide +kernel
theorem dX9_gather_63 : decode cX9_gather 63 = .ok (.iload_n 1, 1) := by decide +kernel
theorem dX9_gather_64 : decode cX9_gather 64 = .ok (.iaload, 1) := by decide +kernel
theorem dX9_gather_65 : decode cX9_gather 65 = .ok (.iconst 1, 1) := by decide +kernel
theorem dX9_gather_66 : decode cX9_gather 66 = .ok (.aload_n 0, 1) := by decide +kernel
theorem dX9_gather_67 : decode cX9_gather 67 = .ok (.getfield 37, 3) := by decide +kernel
theorem dX9_gather_70 : decode cX9_gather 70 = .ok (.getfield 54, 3) := by decide +kernel
theorem dX9_gather_73 : decode cX9_gather 73 = .ok (.iload_n 1, 1) := by decide +kernel
theorem dX9_gather_74 : decode cX9_gather 74 = .ok (.iaload, 1) := by decide +kernel
theorem dX9_gather_75 : decode cX9_gather 75 = .ok (.ishl, 1) := by decide +kernel
theorem dX9_gather_76 : decode cX9_gather 76 = .ok (.invokevirtual 57, 3) := by decide +kernel
theorem dX9_gather_79 : decode cX9_gather 79 = .ok (.iinc 1 1, 3) := by decide +kernel
theorem dX9_gather_82 : decode cX9_gather 82 = .ok (.goto (-38), 3) := by decide +kernel
theorem dX9_gather_85 : decode cX9_gather 85 = .ok (.iconst 0, 1) := by decide +kernel
theorem dX9_gather_86 : decode cX9_gather 86 = .ok (.istore_n 1, 1) := by decide +kernel
theorem dX9_gather_87 : decode cX9_gather 87 = .ok (.iload_n 1, 1) := by decide +kernel
theorem dX9_gather_88 : decode cX9_gather 88 = .ok (.bipush 40, 2) := by decide +kernel
theorem dX9_gather_90 : decode cX9_gather 90 = .ok (.if_icmp .ge 72, 3) := by decide +kernel
theorem dX9_gather_93 : decode cX9_gather 93 = .ok (.aload_n 0, 1) := by decide +kernel
theorem dX9_gather_94 : decode cX9_gather 94 = .ok (.getfield 41, 3) := by decide +kernel
theorem dX9_gather_97 : decode cX9_gather 97 = .ok (.iload_n 1, 1) := by decide +kernel
theorem dX9_gather_98 : decode cX9_gather 98 = .ok (.invokevirtual 61, 3) := by decide +kernel
theorem dX9_gather_101 : decode cX9_gather 101 = .ok (.ifCond .eq 55, 3) := by decide +kernel
theorem dX9_gather_104 : decode cX9_gather 104 = .ok (.aload_n 0, 1) := by decide +kernel
theorem dX9_gather_105 : decode cX9_gather 105 = .ok (.getfield 24, 3) := by decide +kernel
theorem dX9_gather_108 : decode cX9_gather 108 = .ok (.iload_n 1, 1) := by decide +kernel
theorem dX9_gather_109 : decode cX9_gather 109 = .ok (.aload_n 0, 1) := by decide +kernel
theorem dX9_gather_110 : decode cX9_gather 110 = .ok (.getfield 33, 3) := by decide +kernel
theorem dX9_gather_113 : decode cX9_gather 113 = .ok (.aload_n 0, 1) := by decide +kernel
theorem dX9_gather_114 : decode cX9_gather 114 = .ok (.getfield 33, 3) := by decide +kernel
theorem dX9_gather_117 : decode cX9_gather 117 = .ok (.getfield 67, 3) := by decide +kernel
theorem dX9_gather_120 : decode cX9_gather 120 = .ok (.aload_n 0, 1) := by decide +kernel
theorem dX9_gather_121 : decode cX9_gather 121 = .ok (.getfield 21, 3) := by decide +kernel
theorem dX9_gather_124 : decode cX9_gather 124 = .ok (.iload_n 1, 1) := by decide +kernel
theorem dX9_gather_125 : decode cX9_gather 125 = .ok (.iaload, 1) := by decide +kernel
theorem dX9_gather_126 : decode cX9_gather 126 = .ok (.invokevirtual 72, 3) := by decide +kernel
theorem dX9_gather_129 : decode cX9_gather 129 = .ok (.iastore, 1) := by decide +kernel
theorem dX9_gather_130 : decode cX9_gather 130 = .ok (.aload_n 0, 1) := by decide +kernel
theorem dX9_gather_131 : decode cX9_gather 131 = .ok (.getfield 27, 3) := by decide +kernel
theorem dX9_gather_134 : decode cX9_gather 134 = .ok (.iload_n 1, 1) := by decide +kernel
theorem dX9_gather_135 : decode cX9_gather 135 = .ok (.aload_n 0, 1) := by decide +kernel
theorem dX9_gather_136 : decode cX9_gather 136 = .ok (.getfield 33, 3) := by decide +kernel
theorem dX9_gather_139 : decode cX9_gather 139 = .ok (.aload_n 0, 1) := by decide +kernel
theorem dX9_gather_140 : decode cX9_gather 140 = .ok (.getfield 33, 3) := by decide +kernel
theorem dX9_gather_143 : decode cX9_gather 143 = .ok (.getfield 76, 3) := by decide +kernel
theorem dX9_gather_146 : decode cX9_gather 146 = .ok (.aload_n 0, 1) := by decide +kernel
theorem dX9_gather_147 : decode cX9_gather 147 = .ok (.getfield 21, 3) := by decide +kernel
theorem dX9_gather_150 : decode cX9_gather 150 = .ok (.iload_n 1, 1) := by decide +kernel
theorem dX9_gather_151 : decode cX9_gather 151 = .ok (.iaload, 1) := by decide +kernel
theorem dX9_gather_152 : decode cX9_gather 152 = .ok (.invokevirtual 72, 3) := by decide +kernel
theorem dX9_gather_155 : decode cX9_gather 155 = .ok (.iastore, 1) := by decide +kernel
theorem dX9_gather_156 : decode cX9_gather 156 = .ok (.iinc 1 1, 3) := by decide +kernel
theorem dX9_gather_159 : decode cX9_gather 159 = .ok (.goto (-72), 3) := by decide +kernel
theorem dX9_gather_162 : decode cX9_gather 162 = .ok (.iconst 0, 1) := by decide +kernel
theorem dX9_gather_163 : decode cX9_gather 163 = .ok (.istore_n 1, 1) := by decide +kernel
theorem dX9_gather_164 : decode cX9_gather 164 = .ok (.iload_n 1, 1) := by decide +kernel
theorem dX9_gather_165 : decode cX9_gather 165 = .ok (.bipush 40, 2) := by decide +kernel
theorem dX9_gather_167 : decode cX9_gather 167 = .ok (.if_icmp .ge 31, 3) := by decide +kernel
theorem dX9_gather_170 : decode cX9_gather 170 = .ok (.aload_n 0, 1) := by decide +kernel
theorem dX9_gather_171 : decode cX9_gather 171 = .ok (.getfield 41, 3) := by decide +kernel
theorem dX9_gather_174 : decode cX9_gather 174 = .ok (.iload_n 1, 1) := by decide +kernel
theorem dX9_gather_175 : decode cX9_gather 175 = .ok (.invokevirtual 61, 3) := by decide +kernel
theorem dX9_gather_178 : decode cX9_gather 178 = .ok (.ifCond .eq 14, 3) := by decide +kernel
theorem dX9_gather_181 : decode cX9_gather 181 = .ok (.aload_n 0, 1) := by decide +kernel
theorem dX9_gather_182 : decode cX9_gather 182 = .ok (.getfield 30, 3) := by decide +kernel
theorem dX9_gather_185 : decode cX9_gather 185 = .ok (.iload_n 1, 1) := by decide +kernel
theorem dX9_gather_186 : decode cX9_gather 186 = .ok (.aload_n 0, 1) := by decide +kernel
theorem dX9_gather_187 : decode cX9_gather 187 = .ok (.iload_n 1, 1) := by decide +kernel
theorem dX9_gather_188 : decode cX9_gather 188 = .ok (.invokevirtual 79, 3) := by decide +kernel
theorem dX9_gather_191 : decode cX9_gather 191 = .ok (.iastore, 1) := by decide +kernel
theorem dX9_gather_192 : decode cX9_gather 192 = .ok (.iinc 1 1, 3) := by decide +kernel
theorem dX9_gather_195 : decode cX9_gather 195 = .ok (.goto (-31), 3) := by decide +kernel
theorem dX9_gather_198 : decode cX9_gather 198 = .ok (.return_, 1) := by decide +kernel
theorem dX9_addSlip_0 : decode cX9_addSlip 0 = .ok (.aload_n 0, 1) := by decide +kernel
theorem dX9_addSlip_1 : decode cX9_addSlip 1 = .ok (.getfield 41, 3) := by decide +kernel
theorem dX9_addSlip_4 : decode cX9_addSlip 4 = .ok (.iload_n 1, 1) := by decide +kernel
theorem dX9_addSlip_5 : decode cX9_addSlip 5 = .ok (.invokevirtual 61, 3) := by decide +kernel
theorem dX9_addSlip_8 : decode cX9_addSlip 8 = .ok (.ifCond .ne 4, 3) := by decide +kernel
theorem dX9_addSlip_11 : decode cX9_addSlip 11 = .ok (.return_, 1) := by decide +kernel
theorem dX9_addSlip_12 : decode cX9_addSlip 12 = .ok (.aload_n 0, 1) := by decide +kernel
theorem dX9_addSlip_13 : decode cX9_addSlip 13 = .ok (.getfield 9, 3) := by decide +kernel
theorem dX9_addSlip_16 : decode cX9_addSlip 16 = .ok (.iload_n 1, 1) := by decide +kernel
theorem dX9_addSlip_17 : decode cX9_addSlip 17 = .ok (.dup2, 1) := by decide +kernel
theorem dX9_addSlip_18 : decode cX9_addSlip 18 = .ok (.iaload, 1) := by decide +kernel
theorem dX9_addSlip_19 : decode cX9_addSlip 19 = .ok (.iconst 1, 1) := by decide +kernel
theorem dX9_addSlip_20 : decode cX9_addSlip 20 = .ok (.iadd, 1) := by decide +kernel
theorem dX9_addSlip_21 : decode cX9_addSlip 21 = .ok (.iastore, 1) := by decide +kernel
theorem dX9_addSlip_22 : decode cX9_addSlip 22 = .ok (.aload_n 0, 1) := by decide +kernel
theorem dX9_addSlip_23 : decode cX9_addSlip 23 = .ok (.getfield 15, 3) := by decide +kernel
theorem dX9_addSlip_26 : decode cX9_addSlip 26 = .ok (.iload_n 1, 1) := by decide +kernel
theorem dX9_addSlip_27 : decode cX9_addSlip 27 = .ok (.dup2, 1) := by decide +kernel
theorem dX9_addSlip_28 : decode cX9_addSlip 28 = .ok (.iaload, 1) := by decide +kernel
theorem dX9_addSlip_29 : decode cX9_addSlip 29 = .ok (.iload_n 2, 1) := by decide +kernel
theorem dX9_addSlip_30 : decode cX9_addSlip 30 = .ok (.ior, 1) := by decide +kernel
theorem dX9_addSlip_31 : decode cX9_addSlip 31 = .ok (.iastore, 1) := by decide +kernel
theorem dX9_addSlip_32 : decode cX9_addSlip 32 = .ok (.iload_n 1, 1) := by decide +kernel
theorem dX9_addSlip_33 : decode cX9_addSlip 33 = .ok (.istore_n 3, 1) := by decide +kernel
theorem dX9_addSlip_34 : decode cX9_addSlip 34 = .ok (.iconst 0, 1) := by decide +kernel
theorem dX9_addSlip_35 : decode cX9_addSlip 35 = .ok (.istore 4, 2) := by decide +kernel
theorem dX9_addSlip_37 : decode cX9_addSlip 37 = .ok (.iload 4, 2) := by decide +kernel
theorem dX9_addSlip_39 : decode cX9_addSlip 39 = .ok (.bipush 40, 2) := by decide +kernel
theorem dX9_addSlip_41 : decode cX9_addSlip 41 = .ok (.if_icmp .ge 50, 3) := by decide +kernel
theorem dX9_addSlip_44 : decode cX9_addSlip 44 = .ok (.aload_n 0, 1) := by decide +kernel
theorem dX9_addSlip_45 : decode cX9_addSlip 45 = .ok (.getfield 41, 3) := by decide +kernel
theorem dX9_addSlip_48 : decode cX9_addSlip 48 = .ok (.iload_n 3, 1) := by decide +kernel
theorem dX9_addSlip_49 : decode cX9_addSlip 49 = .ok (.invokevirtual 61, 3) := by decide +kernel
theorem dX9_addSlip_52 : decode cX9_addSlip 52 = .ok (.ifCond .eq 39, 3) := by decide +kernel
theorem dX9_addSlip_55 : decode cX9_addSlip 55 = .ok (.aload_n 0, 1) := by decide +kernel
theorem dX9_addSlip_56 : decode cX9_addSlip 56 = .ok (.getfield 18, 3) := by decide +kernel
theorem dX9_addSlip_59 : decode cX9_addSlip 59 = .ok (.iload_n 3, 1) := by decide +kernel
theorem dX9_addSlip_60 : decode cX9_addSlip 60 = .ok (.dup2, 1) := by decide +kernel
theorem dX9_addSlip_61 : decode cX9_addSlip 61 = .ok (.iaload, 1) := by decide +kernel
theorem dX9_addSlip_62 : decode cX9_addSlip 62 = .ok (.iconst 1, 1) := by decide +kernel
theorem dX9_addSlip_63 : decode cX9_addSlip 63 = .ok (.iadd, 1) := by decide +kernel
theorem dX9_addSlip_64 : decode cX9_addSlip 64 = .ok (.iastore, 1) := by decide +kernel
theorem dX9_addSlip_65 : decode cX9_addSlip 65 = .ok (.aload_n 0, 1) := by decide +kernel
theorem dX9_addSlip_66 : decode cX9_addSlip 66 = .ok (.getfield 21, 3) := by decide +kernel
theorem dX9_addSlip_69 : decode cX9_addSlip 69 = .ok (.iload_n 3, 1) := by decide +kernel
theorem dX9_addSlip_70 : decode cX9_addSlip 70 = .ok (.dup2, 1) := by decide +kernel
theorem dX9_addSlip_71 : decode cX9_addSlip 71 = .ok (.iaload, 1) := by decide +kernel
theorem dX9_addSlip_72 : decode cX9_addSlip 72 = .ok (.iload_n 2, 1) := by decide +kernel
theorem dX9_addSlip_73 : decode cX9_addSlip 73 = .ok (.ior, 1) := by decide +kernel
theorem dX9_addSlip_74 : decode cX9_addSlip 74 = .ok (.iastore, 1) := by decide +kernel
theorem dX9_addSlip_75 : decode cX9_addSlip 75 = .ok (.aload_n 0, 1) := by decide +kernel
theorem dX9_addSlip_76 : decode cX9_addSlip 76 = .ok (.getfield 41, 3) := by decide +kernel
theorem dX9_addSlip_79 : decode cX9_addSlip 79 = .ok (.getfield 83, 3) := by decide +kernel
theorem dX9_addSlip_82 : decode cX9_addSlip 82 = .ok (.iload_n 3, 1) := by decide +kernel
theorem dX9_addSlip_83 : decode cX9_addSlip 83 = .ok (.iaload, 1) := by decide +kernel
theorem dX9_addSlip_84 : decode cX9_addSlip 84 = .ok (.istore_n 3, 1) := by decide +kernel
theorem dX9_addSlip_85 : decode cX9_addSlip 85 = .ok (.iinc 4 1, 3) := by decide +kernel
theorem dX9_addSlip_88 : decode cX9_addSlip 88 = .ok (.goto (-51), 3) := by decide +kernel
theorem dX9_addSlip_91 : decode cX9_addSlip 91 = .ok (.return_, 1) := by decide +kernel
theorem dX9_placeOf_0 : decode cX9_placeOf 0 = .ok (.iconst 0, 1) := by decide +kernel
theorem dX9_placeOf_1 : decode cX9_placeOf 1 = .ok (.istore_n 2, 1) := by decide +kernel
theorem dX9_placeOf_2 : decode cX9_placeOf 2 = .ok (.iconst 0, 1) := by decide +kernel
theorem dX9_placeOf_3 : decode cX9_placeOf 3 = .ok (.istore_n 3, 1) := by decide +kernel
theorem dX9_placeOf_4 : decode cX9_placeOf 4 = .ok (.iload_n 3, 1) := by decide +kernel
theorem dX9_placeOf_5 : decode cX9_placeOf 5 = .ok (.bipush 40, 2) := by decide +kernel
theorem dX9_placeOf_7 : decode cX9_placeOf 7 = .ok (.if_icmp .ge 33, 3) := by decide +kernel
theorem dX9_placeOf_10 : decode cX9_placeOf 10 = .ok (.aload_n 0, 1) := by decide +kernel
theorem dX9_placeOf_11 : decode cX9_placeOf 11 = .ok (.getfield 41, 3) := by decide +kernel
theorem dX9_placeOf_14 : decode cX9_placeOf 14 = .ok (.iload_n 3, 1) := by decide +kernel
theorem dX9_placeOf_15 : decode cX9_placeOf 15 = .ok (.iload_n 1, 1) := by decide +kernel
theorem dX9_placeOf_16 : decode cX9_placeOf 16 = .ok (.invokevirtual 86, 3) := by decide +kernel
theorem dX9_placeOf_19 : decode cX9_placeOf 19 = .ok (.ifCond .eq 15, 3) := by decide +kernel
theorem dX9_placeOf_22 : decode cX9_placeOf 22 = .ok (.aload_n 0, 1) := by decide +kernel
theorem dX9_placeOf_23 : decode cX9_placeOf 23 = .ok (.iload_n 3, 1) := by decide +kernel
theorem dX9_placeOf_24 : decode cX9_placeOf 24 = .ok (.iload_n 1, 1) := by decide +kernel
theorem dX9_placeOf_25 : decode cX9_placeOf 25 = .ok (.invokevirtual 90, 3) := by decide +kernel
theorem dX9_placeOf_28 : decode cX9_placeOf 28 = .ok (.ifCond .eq 6, 3) := by decide +kernel
theorem dX9_placeOf_31 : decode cX9_placeOf 31 = .ok (.iinc 2 1, 3) := by decide +kernel
theorem dX9_placeOf_34 : decode cX9_placeOf 34 = .ok (.iinc 3 1, 3) := by decide +kernel
theorem dX9_placeOf_37 : decode cX9_placeOf 37 = .ok (.goto (-33), 3) := by decide +kernel
theorem dX9_placeOf_40 : decode cX9_placeOf 40 = .ok (.iload_n 2, 1) := by decide +kernel
theorem dX9_placeOf_41 : decode cX9_placeOf 41 = .ok (.iconst 1, 1) := by decide +kernel
theorem dX9_placeOf_42 : decode cX9_placeOf 42 = .ok (.iadd, 1) := by decide +kernel
theorem dX9_placeOf_43 : decode cX9_placeOf 43 = .ok (.ireturn, 1) := by decide +kernel
theorem dX9_isAhead_0 : decode cX9_isAhead 0 = .ok (.aload_n 0, 1) := by decide +kernel
theorem dX9_isAhead_1 : decode cX9_isAhead 1 = .ok (.getfield 24, 3) := by decide +kernel
theorem dX9_isAhead_4 : decode cX9_isAhead 4 = .ok (.iload_n 1, 1) := by decide +kernel
theorem dX9_isAhead_5 : decode cX9_isAhead 5 = .ok (.iaload, 1) := by decide +kernel
theorem dX9_isAhead_6 : decode cX9_isAhead 6 = .ok (.aload_n 0, 1) := by decide +kernel
theorem dX9_isAhead_7 : decode cX9_isAhead 7 = .ok (.getfield 24, 3) := by decide +kernel
theorem dX9_isAhead_10 : decode cX9_isAhead 10 = .ok (.iload_n 2, 1) := by decide +kernel
theorem dX9_isAhead_11 : decode cX9_isAhead 11 = .ok (.iaload, 1) := by decide +kernel
theorem dX9_isAhead_12 : decode cX9_isAhead 12 = .ok (.if_icmp .eq 24, 3) := by decide +kernel
theorem dX9_isAhead_15 : decode cX9_isAhead 15 = .ok (.aload_n 0, 1) := by decide +kernel
theorem dX9_isAhead_16 : decode cX9_isAhead 16 = .ok (.getfield 24, 3) := by decide +kernel
theorem dX9_isAhead_19 : decode cX9_isAhead 19 = .ok (.iload_n 1, 1) := by decide +kernel
theorem dX9_isAhead_20 : decode cX9_isAhead 20 = .ok (.iaload, 1) := by decide +kernel
theorem dX9_isAhead_21 : decode cX9_isAhead 21 = .ok (.aload_n 0, 1) := by decide +kernel
theorem dX9_isAhead_22 : decode cX9_isAhead 22 = .ok (.getfield 24, 3) := by decide +kernel
theorem dX9_isAhead_25 : decode cX9_isAhead 25 = .ok (.iload_n 2, 1) := by decide +kernel
theorem dX9_isAhead_26 : decode cX9_isAhead 26 = .ok (.iaload, 1) := by decide +kernel
theorem dX9_isAhead_27 : decode cX9_isAhead 27 = .ok (.if_icmp .ge 7, 3) := by decide +kernel
theorem dX9_isAhead_30 : decode cX9_isAhead 30 = .ok (.iconst 1, 1) := by decide +kernel
theorem dX9_isAhead_31 : decode cX9_isAhead 31 = .ok (.goto 4, 3) := by decide +kernel
theorem dX9_isAhead_34 : decode cX9_isAhead 34 = .ok (.iconst 0, 1) := by decide +kernel
theorem dX9_isAhead_35 : decode cX9_isAhead 35 = .ok (.ireturn, 1) := by decide +kernel
theorem dX9_isAhead_36 : decode cX9_isAhead 36 = .ok (.aload_n 0, 1) := by decide +kernel
theorem dX9_isAhead_37 : decode cX9_isAhead 37 = .ok (.getfield 27, 3) := by decide +kernel
theorem dX9_isAhead_40 : decode cX9_isAhead 40 = .ok (.iload_n 1, 1) := by decide +kernel
theorem dX9_isAhead_41 : decode cX9_isAhead 41 = .ok (.iaload, 1) := by decide +kernel
theorem dX9_isAhead_42 : decode cX9_isAhead 42 = .ok (.aload_n 0, 1) := by decide +kernel
theorem dX9_isAhead_43 : decode cX9_isAhead 43 = .ok (.getfield 27, 3) := by decide +kernel
theorem dX9_isAhead_46 : decode cX9_isAhead 46 = .ok (.iload_n 2, 1) := by decide +kernel
theorem dX9_isAhead_47 : decode cX9_isAhead 47 = .ok (.iaload, 1) := by decide +kernel
theorem dX9_isAhead_48 : decode cX9_isAhead 48 = .ok (.if_icmp .eq 24, 3) := by decide +kernel
theorem dX9_isAhead_51 : decode cX9_isAhead 51 = .ok (.aload_n 0, 1) := by decide +kernel
theorem dX9_isAhead_52 : decode cX9_isAhead 52 = .ok (.getfield 27, 3) := by decide +kernel
theorem dX9_isAhead_55 : decode cX9_isAhead 55 = .ok (.iload_n 1, 1) := by decide +kernel
theorem dX9_isAhead_56 : decode cX9_isAhead 56 = .ok (.iaload, 1) := by decide +kernel
theorem dX9_isAhead_57 : decode cX9_isAhead 57 = .ok (.aload_n 0, 1) := by decide +kernel
theorem dX9_isAhead_58 : decode cX9_isAhead 58 = .ok (.getfield 27, 3) := by decide +kernel
theorem dX9_isAhead_61 : decode cX9_isAhead 61 = .ok (.iload_n 2, 1) := by decide +kernel
theorem dX9_isAhead_62 : decode cX9_isAhead 62 = .ok (.iaload, 1) := by decide +kernel
theorem dX9_isAhead_63 : decode cX9_isAhead 63 = .ok (.if_icmp .ge 7, 3) := by decide +kernel
theorem dX9_isAhead_66 : decode cX9_isAhead 66 = .ok (.iconst 1, 1) := by decide +kernel
theorem dX9_isAhead_67 : decode cX9_isAhead 67 = .ok (.goto 4, 3) := by decide +kernel
theorem dX9_isAhead_70 : decode cX9_isAhead 70 = .ok (.iconst 0, 1) := by decide +kernel
theorem dX9_isAhead_71 : decode cX9_isAhead 71 = .ok (.ireturn, 1) := by decide +kernel
theorem dX9_isAhead_72 : decode cX9_isAhead 72 = .ok (.iload_n 1, 1) := by decide +kernel
theorem dX9_isAhead_73 : decode cX9_isAhead 73 = .ok (.iload_n 2, 1) := by decide +kernel
theorem dX9_isAhead_74 : decode cX9_isAhead 74 = .ok (.if_icmp .ge 7, 3) := by decide +kernel
theorem dX9_isAhead_77 : decode cX9_isAhead 77 = .ok (.iconst 1, 1) := by decide +kernel
theorem dX9_isAhead_78 : decode cX9_isAhead 78 = .ok (.goto 4, 3) := by decide +kernel
theorem dX9_isAhead_81 : decode cX9_isAhead 81 = .ok (.iconst 0, 1) := by decide +kernel
theorem dX9_isAhead_82 : decode cX9_isAhead 82 = .ok (.ireturn, 1) := by decide +kernel
theorem dX9_isFlaw_0 : decode cX9_isFlaw 0 = .ok (.iload_n 1, 1) := by decide +kernel
theorem dX9_isFlaw_1 : decode cX9_isFlaw 1 = .ok (.iload_n 2, 1) := by decide +kernel
theorem dX9_isFlaw_2 : decode cX9_isFlaw 2 = .ok (.if_icmp .eq 57, 3) := by decide +kernel
theorem dX9_isFlaw_5 : decode cX9_isFlaw 5 = .ok (.aload_n 0, 1) := by decide +kernel
theorem dX9_isFlaw_6 : decode cX9_isFlaw 6 = .ok (.iload_n 1, 1) := by decide +kernel
theorem dX9_isFlaw_7 : decode cX9_isFlaw 7 = .ok (.invokevirtual 93, 3) := by decide +kernel
theorem dX9_isFlaw_10 : decode cX9_isFlaw 10 = .ok (.ifCond .eq 49, 3) := by decide +kernel
theorem dX9_isFlaw_13 : decode cX9_isFlaw 13 = .ok (.aload_n 0, 1) := by decide +kernel
theorem dX9_isFlaw_14 : decode cX9_isFlaw 14 = .ok (.iload_n 2, 1) := by decide +kernel
theorem dX9_isFlaw_15 : decode cX9_isFlaw 15 = .ok (.invokevirtual 93, 3) := by decide +kernel
theorem dX9_isFlaw_18 : decode cX9_isFlaw 18 = .ok (.ifCond .eq 41, 3) := by decide +kernel
theorem dX9_isFlaw_21 : decode cX9_isFlaw 21 = .ok (.aload_n 0, 1) := by decide +kernel
theorem dX9_isFlaw_22 : decode cX9_isFlaw 22 = .ok (.getfield 41, 3) := by decide +kernel
theorem dX9_isFlaw_25 : decode cX9_isFlaw 25 = .ok (.iload_n 1, 1) := by decide +kernel
theorem dX9_isFlaw_26 : decode cX9_isFlaw 26 = .ok (.iload_n 2, 1) := by decide +kernel
theorem dX9_isFlaw_27 : decode cX9_isFlaw 27 = .ok (.invokevirtual 96, 3) := by decide +kernel
theorem dX9_isFlaw_30 : decode cX9_isFlaw 30 = .ok (.ifCond .eq 29, 3) := by decide +kernel
theorem dX9_isFlaw_33 : decode cX9_isFlaw 33 = .ok (.aload_n 0, 1) := by decide +kernel
theorem dX9_isFlaw_34 : decode cX9_isFlaw 34 = .ok (.getfield 33, 3) := by decide +kernel
theorem dX9_isFlaw_37 : decode cX9_isFlaw 37 = .ok (.aload_n 0, 1) := by decide +kernel
theorem dX9_isFlaw_38 : decode cX9_isFlaw 38 = .ok (.getfield 15, 3) := by decide +kernel
theorem dX9_isFlaw_41 : decode cX9_isFlaw 41 = .ok (.iload_n 1, 1) := by decide +kernel
theorem dX9_isFlaw_42 : decode cX9_isFlaw 42 = .ok (.iaload, 1) := by decide +kernel
theorem dX9_isFlaw_43 : decode cX9_isFlaw 43 = .ok (.aload_n 0, 1) := by decide +kernel
theorem dX9_isFlaw_44 : decode cX9_isFlaw 44 = .ok (.getfield 15, 3) := by decide +kernel
theorem dX9_isFlaw_47 : decode cX9_isFlaw 47 = .ok (.iload_n 2, 1) := by decide +kernel
theorem dX9_isFlaw_48 : decode cX9_isFlaw 48 = .ok (.iaload, 1) := by decide +kernel
theorem dX9_isFlaw_49 : decode cX9_isFlaw 49 = .ok (.invokevirtual 99, 3) := by decide +kernel
theorem dX9_isFlaw_52 : decode cX9_isFlaw 52 = .ok (.ifCond .eq 7, 3) := by decide +kernel
theorem dX9_isFlaw_55 : decode cX9_isFlaw 55 = .ok (.iconst 1, 1) := by decide +kernel
theorem dX9_isFlaw_56 : decode cX9_isFlaw 56 = .ok (.goto 4, 3) := by decide +kernel
theorem dX9_isFlaw_59 : decode cX9_isFlaw 59 = .ok (.iconst 0, 1) := by decide +kernel
theorem dX9_isFlaw_60 : decode cX9_isFlaw 60 = .ok (.ireturn, 1) := by decide +kernel
theorem dX9_hasOwn_0 : decode cX9_hasOwn 0 = .ok (.aload_n 0, 1) := by decide +kernel
theorem dX9_hasOwn_1 : decode cX9_hasOwn 1 = .ok (.getfield 41, 3) := by decide +kernel
theorem dX9_hasOwn_4 : decode cX9_hasOwn 4 = .ok (.iload_n 1, 1) := by decide +kernel
theorem dX9_hasOwn_5 : decode cX9_hasOwn 5 = .ok (.invokevirtual 61, 3) := by decide +kernel
theorem dX9_hasOwn_8 : decode cX9_hasOwn 8 = .ok (.ifCond .eq 16, 3) := by decide +kernel
theorem dX9_hasOwn_11 : decode cX9_hasOwn 11 = .ok (.aload_n 0, 1) := by decide +kernel
theorem dX9_hasOwn_12 : decode cX9_hasOwn 12 = .ok (.getfield 9, 3) := by decide +kernel
theorem dX9_hasOwn_15 : decode cX9_hasOwn 15 = .ok (.iload_n 1, 1) := by decide +kernel
theorem dX9_hasOwn_16 : decode cX9_hasOwn 16 = .ok (.iaload, 1) := by decide +kernel
theorem dX9_hasOwn_17 : decode cX9_hasOwn 17 = .ok (.ifCond .le 7, 3) := by decide +kernel
theorem dX9_hasOwn_20 : decode cX9_hasOwn 20 = .ok (.iconst 1, 1) := by decide +kernel
theorem dX9_hasOwn_21 : decode cX9_hasOwn 21 = .ok (.goto 4, 3) := by decide +kernel
theorem dX9_hasOwn_24 : decode cX9_hasOwn 24 = .ok (.iconst 0, 1) := by decide +kernel
theorem dX9_hasOwn_25 : decode cX9_hasOwn 25 = .ok (.ireturn, 1) := by decide +kernel
theorem dX10_has_0 : decode cX10_has 0 = .ok (.iload_n 1, 1) := by decide +kernel
theorem dX10_has_1 : decode cX10_has 1 = .ok (.ifCond .lt 25, 3) := by decide +kernel
theorem dX10_has_4 : decode cX10_has 4 = .ok (.iload_n 1, 1) := by decide +kernel
theorem dX10_has_5 : decode cX10_has 5 = .ok (.aload_n 0, 1) := by decide +kernel
theorem dX10_has_6 : decode cX10_has 6 = .ok (.getfield 21, 3) := by decide +kernel
theorem dX10_has_9 : decode cX10_has 9 = .ok (.arraylength, 1) := by decide +kernel
theorem dX10_has_10 : decode cX10_has 10 = .ok (.if_icmp .ge 16, 3) := by decide +kernel
theorem dX10_has_13 : decode cX10_has 13 = .ok (.aload_n 0, 1) := by decide +kernel
theorem dX10_has_14 : decode cX10_has 14 = .ok (.getfield 24, 3) := by decide +kernel
theorem dX10_has_17 : decode cX10_has 17 = .ok (.iload_n 1, 1) := by decide +kernel
theorem dX10_has_18 : decode cX10_has 18 = .ok (.iaload, 1) := by decide +kernel
theorem dX10_has_19 : decode cX10_has 19 = .ok (.ifCond .le 7, 3) := by decide +kernel
theorem dX10_has_22 : decode cX10_has 22 = .ok (.iconst 1, 1) := by decide +kernel
theorem dX10_has_23 : decode cX10_has 23 = .ok (.goto 4, 3) := by decide +kernel
theorem dX10_has_26 : decode cX10_has 26 = .ok (.iconst 0, 1) := by decide +kernel
theorem dX10_has_27 : decode cX10_has 27 = .ok (.ireturn, 1) := by decide +kernel
theorem dX10_set_0 : decode cX10_set 0 = .ok (.iload_n 1, 1) := by decide +kernel
theorem dX10_set_1 : decode cX10_set 1 = .ok (.ifCond .lt 12, 3) := by decide +kernel
theorem dX10_set_4 : decode cX10_set 4 = .ok (.iload_n 1, 1) := by decide +kernel
theorem dX10_set_5 : decode cX10_set 5 = .ok (.aload_n 0, 1) := by decide +kernel
theorem dX10_set_6 : decode cX10_set 6 = .ok (.getfield 21, 3) := by decide +kernel
theorem dX10_set_9 : decode cX10_set 9 = .ok (.arraylength, 1) := by decide +kernel
theorem dX10_set_10 : decode cX10_set 10 = .ok (.if_icmp .lt 4, 3) := by decide +kernel
theorem dX10_set_13 : decode cX10_set 13 = .ok (.return_, 1) := by decide +kernel
theorem dX10_set_14 : decode cX10_set 14 = .ok (.aload_n 0, 1) := by decide +kernel
theorem dX10_set_15 : decode cX10_set 15 = .ok (.getfield 21, 3) := by decide +kernel
theorem dX10_set_18 : decode cX10_set 18 = .ok (.iload_n 1, 1) := by decide +kernel
theorem dX10_set_19 : decode cX10_set 19 = .ok (.aaload, 1) := by decide +kernel
theorem dX10_set_20 : decode cX10_set 20 = .ok (.iconst 0, 1) := by decide +kernel
theorem dX10_set_21 : decode cX10_set 21 = .ok (.lload_n 2, 1) := by decide +kernel
theorem dX10_set_22 : decode cX10_set 22 = .ok (.lastore, 1) := by decide +kernel
theorem dX10_set_23 : decode cX10_set 23 = .ok (.aload_n 0, 1) := by decide +kernel
theorem dX10_set_24 : decode cX10_set 24 = .ok (.getfield 24, 3) := by decide +kernel
theorem dX10_set_27 : decode cX10_set 27 = .ok (.iload_n 1, 1) := by decide +kernel
theorem dX10_set_28 : decode cX10_set 28 = .ok (.iconst 1, 1) := by decide +kernel
theorem dX10_set_29 : decode cX10_set 29 = .ok (.iastore, 1) := by decide +kernel
theorem dX10_set_30 : decode cX10_set 30 = .ok (.iconst 0, 1) := by decide +kernel
theorem dX10_set_31 : decode cX10_set 31 = .ok (.istore 4, 2) := by decide +kernel
theorem dX10_set_33 : decode cX10_set 33 = .ok (.iload 4, 2) := by decide +kernel
theorem dX10_set_35 : decode cX10_set 35 = .ok (.aload_n 0, 1) := by decide +kernel
theorem dX10_set_36 : decode cX10_set 36 = .ok (.getfield 9, 3) := by decide +kernel
theorem dX10_set_39 : decode cX10_set 39 = .ok (.getfield 28, 3) := by decide +kernel
theorem dX10_set_42 : decode cX10_set 42 = .ok (.if_icmp .ge 16, 3) := by decide +kernel
theorem dX10_set_45 : decode cX10_set 45 = .ok (.aload_n 0, 1) := by decide +kernel
theorem dX10_set_46 : decode cX10_set 46 = .ok (.iload_n 1, 1) := by decide +kernel
theorem dX10_set_47 : decode cX10_set 47 = .ok (.iload 4, 2) := by decide +kernel
theorem dX10_set_49 : decode cX10_set 49 = .ok (.invokevirtual 34, 3) := by decide +kernel
theorem dX10_set_52 : decode cX10_set 52 = .ok (.iinc 4 1, 3) := by decide +kernel
theorem dX10_set_55 : decode cX10_set 55 = .ok (.goto (-22), 3) := by decide +kernel
theorem dX10_set_58 : decode cX10_set 58 = .ok (.return_, 1) := by decide +kernel
theorem dX10_wordAt_0 : decode cX10_wordAt 0 = .ok (.aload_n 0, 1) := by decide +kernel
theorem dX10_wordAt_1 : decode cX10_wordAt 1 = .ok (.iload_n 1, 1) := by decide +kernel
theorem dX10_wordAt_2 : decode cX10_wordAt 2 = .ok (.invokevirtual 38, 3) := by decide +kernel
theorem dX10_wordAt_5 : decode cX10_wordAt 5 = .ok (.ifCond .eq 14, 3) := by decide +kernel
theorem dX10_wordAt_8 : decode cX10_wordAt 8 = .ok (.aload_n 0, 1) := by decide +kernel
theorem dX10_wordAt_9 : decode cX10_wordAt 9 = .ok (.getfield 21, 3) := by decide +kernel
theorem dX10_wordAt_12 : decode cX10_wordAt 12 = .ok (.iload_n 1, 1) := by decide +kernel
theorem dX10_wordAt_13 : decode cX10_wordAt 13 = .ok (.aaload, 1) := by decide +kernel
theorem dX10_wordAt_14 : decode cX10_wordAt 14 = .ok (.iconst 0, 1) := by decide +kernel
theorem dX10_wordAt_15 : decode cX10_wordAt 15 = .ok (.laload, 1) := by decide +kernel
theorem dX10_wordAt_16 : decode cX10_wordAt 16 = .ok (.goto 4, 3) := by decide +kernel
theorem dX10_wordAt_19 : decode cX10_wordAt 19 = .ok (.lconst 0, 1) := by decide +kernel
theorem dX10_wordAt_20 : decode cX10_wordAt 20 = .ok (.lreturn, 1) := by decide +kernel
theorem dX10_addNeighbours_0 : decode cX10_addNeighbours 0 = .ok (.iconst 0, 1) := by decide +kernel
theorem dX10_addNeighbours_1 : decode cX10_addNeighbours 1 = .ok (.istore_n 2, 1) := by decide +kernel
theorem dX10_addNeighbours_2 : decode cX10_addNeighbours 2 = .ok (.iload_n 2, 1) := by decide +kernel
theorem dX10_addNeighbours_3 : decode cX10_addNeighbours 3 = .ok (.aload_n 0, 1) := by decide +kernel
theorem dX10_addNeighbours_4 : decode cX10_addNeighbours 4 = .ok (.getfield 21, 3) := by decide +kernel
theorem dX10_addNeighbours_7 : decode cX10_addNeighbours 7 = .ok (.arraylength, 1) := by decide +kernel
theorem dX10_addNeighbours_8 : decode cX10_addNeighbours 8 = .ok (.if_icmp .ge 23, 3) := by decide +kernel
theorem dX10_addNeighbours_11 : decode cX10_addNeighbours 11 = .ok (.aload_n 0, 1) := by decide +kernel
theorem dX10_addNeighbours_12 : decode cX10_addNeighbours 12 = .ok (.iload_n 2, 1) := by decide +kernel
theorem dX10_addNeighbours_13 : decode cX10_addNeighbours 13 = .ok (.invokevirtual 38, 3) := by decide +kernel
theorem dX10_addNeighbours_16 : decode cX10_addNeighbours 16 = .ok (.ifCond .eq 9, 3) := by decide +kernel
theorem dX10_addNeighbours_19 : decode cX10_addNeighbours 19 = .ok (.aload_n 0, 1) := by decide +kernel
theorem dX10_addNeighbours_20 : decode cX10_addNeighbours 20 = .ok (.iload_n 2, 1) := by decide +kernel
theorem dX10_addNeighbours_21 : decode cX10_addNeighbours 21 = .ok (.iload_n 1, 1) := by decide +kernel
theorem dX10_addNeighbours_22 : decode cX10_addNeighbours 22 = .ok (.invokevirtual 34, 3) := by decide +kernel
theorem dX10_addNeighbours_25 : decode cX10_addNeighbours 25 = .ok (.iinc 2 1, 3) := by decide +kernel
theorem dX10_addNeighbours_28 : decode cX10_addNeighbours 28 = .ok (.goto (-26), 3) := by decide +kernel
theorem dX10_addNeighbours_31 : decode cX10_addNeighbours 31 = .ok (.return_, 1) := by decide +kernel
theorem dX10_addNeighboursOf_0 : decode cX10_addNeighboursOf 0 = .ok (.iload_n 2, 1) := by decide +kernel
theorem dX10_addNeighboursOf_1 : decode cX10_addNeighboursOf 1 = .ok (.ifCond .lt 14, 3) := by decide +kernel
theorem dX10_addNeighboursOf_4 : decode cX10_addNeighboursOf 4 = .ok (.iload_n 2, 1) := by decide +kernel
theorem dX10_addNeighboursOf_5 : decode cX10_addNeighboursOf 5 = .ok (.aload_n 0, 1) := by decide +kernel
theorem dX10_addNeighboursOf_6 : decode cX10_addNeighboursOf 6 = .ok (.getfield 9, 3) := by decide +kernel
theorem dX10_addNeighboursOf_9 : decode cX10_addNeighboursOf 9 = .ok (.getfield 28, 3) := by decide +kernel
theorem dX10_addNeighboursOf_12 : decode cX10_addNeighboursOf 12 = .ok (.if_icmp .lt 4, 3) := by decide +kernel
theorem dX10_addNeighboursOf_15 : decode cX10_addNeighboursOf 15 = .ok (.return_, 1) := by decide +kernel
theorem dX10_addNeighboursOf_16 : decode cX10_addNeighboursOf 16 = .ok (.aload_n 0, 1) := by decide +kernel
theorem dX10_addNeighboursOf_17 : decode cX10_addNeighboursOf 17 = .ok (.getfield 15, 3) := by decide +kernel
theorem dX10_addNeighboursOf_20 : decode cX10_addNeighboursOf 20 = .ok (.ifCond .eq 15, 3) := by decide +kernel
theorem dX10_addNeighboursOf_23 : decode cX10_addNeighboursOf 23 = .ok (.aload_n 0, 1) := by decide +kernel
theorem dX10_addNeighboursOf_24 : decode cX10_addNeighboursOf 24 = .ok (.getfield 9, 3) := by decide +kernel
theorem dX10_addNeighboursOf_27 : decode cX10_addNeighboursOf 27 = .ok (.getfield 42, 3) := by decide +kernel
theorem dX10_addNeighboursOf_30 : decode cX10_addNeighboursOf 30 = .ok (.iload_n 2, 1) := by decide +kernel
theorem dX10_addNeighboursOf_31 : decode cX10_addNeighboursOf 31 = .ok (.laload, 1) := by decide +kernel
theorem dX10_addNeighboursOf_32 : decode cX10_addNeighboursOf 32 = .ok (.goto 12, 3) := by decide +kernel
theorem dX10_addNeighboursOf_35 : decode cX10_addNeighboursOf 35 = .ok (.aload_n 0, 1) := by decide +kernel
theorem dX10_addNeighboursOf_36 : decode cX10_addNeighboursOf 36 = .ok (.getfield 9, 3) := by decide +kernel
theorem dX10_addNeighboursOf_39 : decode cX10_addNeighboursOf 39 = .ok (.getfield 46, 3) := by decide +kernel
theorem dX10_addNeighboursOf_42 : decode cX10_addNeighboursOf 42 = .ok (.iload_n 2, 1) := by decide +kernel
theorem dX10_addNeighboursOf_43 : decode cX10_addNeighboursOf 43 = .ok (.laload, 1) := by decide +kernel
theorem dX10_addNeighboursOf_44 : decode cX10_addNeighboursOf 44 = .ok (.lstore_n 3, 1) := by decide +kernel
theorem dX10_addNeighboursOf_45 : decode cX10_addNeighboursOf 45 = .ok (.aload_n 0, 1) := by decide +kernel
theorem dX10_addNeighboursOf_46 : decode cX10_addNeighboursOf 46 = .ok (.getfield 15, 3) := by decide +kernel
theorem dX10_addNeighboursOf_49 : decode cX10_addNeighboursOf 49 = .ok (.ifCond .eq 15, 3) := by decide +kernel
theorem dX10_addNeighboursOf_52 : decode cX10_addNeighboursOf 52 = .ok (.aload_n 0, 1) := by decide +kernel
theorem dX10_addNeighboursOf_53 : decode cX10_addNeighboursOf 53 = .ok (.getfield 9, 3) := by decide +kernel
theorem dX10_addNeighboursOf_56 : decode cX10_addNeighboursOf 56 = .ok (.getfield 46, 3) := by decide +kernel
theorem dX10_addNeighboursOf_59 : decode cX10_addNeighboursOf 59 = .ok (.iload_n 2, 1) := by decide +kernel
theorem dX10_addNeighboursOf_60 : decode cX10_addNeighboursOf 60 = .ok (.laload, 1) := by decide +kernel
theorem dX10_addNeighboursOf_61 : decode cX10_addNeighboursOf 61 = .ok (.goto 12, 3) := by decide +kernel
theorem dX10_addNeighboursOf_64 : decode cX10_addNeighboursOf 64 = .ok (.aload_n 0, 1) := by decide +kernel
theorem dX10_addNeighboursOf_65 : decode cX10_addNeighboursOf 65 = .ok (.getfield 9, 3) := by decide +kernel
theorem dX10_addNeighboursOf_68 : decode cX10_addNeighboursOf 68 = .ok (.getfield 42, 3) := by decide +kernel
theorem dX10_addNeighboursOf_71 : decode cX10_addNeighboursOf 71 = .ok (.iload_n 2, 1) := by decide +kernel
theorem dX10_addNeighboursOf_72 : decode cX10_addNeighboursOf 72 = .ok (.laload, 1) := by decide +kernel
theorem dX10_addNeighboursOf_73 : decode cX10_addNeighboursOf 73 = .ok (.lstore 5, 2) := by decide +kernel
theorem dX10_addNeighboursOf_75 : decode cX10_addNeighboursOf 75 = .ok (.iconst 0, 1) := by decide +kernel
theorem dX10_addNeighboursOf_76 : decode cX10_addNeighboursOf 76 = .ok (.istore 7, 2) := by decide +kernel
theorem dX10_addNeighboursOf_78 : decode cX10_addNeighboursOf 78 = .ok (.iload 7, 2) := by decide +kernel
theorem dX10_addNeighboursOf_80 : decode cX10_addNeighboursOf 80 = .ok (.bipush 8, 2) := by decide +kernel
theorem dX10_addNeighboursOf_82 : decode cX10_addNeighboursOf 82 = .ok (.if_icmp .ge 70, 3) := by decide +kernel
theorem dX10_addNeighboursOf_85 : decode cX10_addNeighboursOf 85 = .ok (.aload_n 0, 1) := by decide +kernel
theorem dX10_addNeighboursOf_86 : decode cX10_addNeighboursOf 86 = .ok (.getfield 21, 3) := by decide +kernel
theorem dX10_addNeighboursOf_89 : decode cX10_addNeighboursOf 89 = .ok (.iload_n 1, 1) := by decide +kernel
theorem dX10_addNeighboursOf_90 : decode cX10_addNeighboursOf 90 = .ok (.aaload, 1) := by decide +kernel
theorem dX10_addNeighboursOf_91 : decode cX10_addNeighboursOf 91 = .ok (.iconst 0, 1) := by decide +kernel
theorem dX10_addNeighboursOf_92 : decode cX10_addNeighboursOf 92 = .ok (.laload, 1) := by decide +kernel
theorem dX10_addNeighboursOf_93 : decode cX10_addNeighboursOf 93 = .ok (.iload 7, 2) := by decide +kernel
theorem dX10_addNeighboursOf_95 : decode cX10_addNeighboursOf 95 = .ok (.lload_n 3, 1) := by decide +kernel
theorem dX10_addNeighboursOf_96 : decode cX10_addNeighboursOf 96 = .ok (.lload 5, 2) := by decide +kernel
theorem dX10_addNeighboursOf_98 : decode cX10_addNeighboursOf 98 = .ok (.invokestatic 49, 3) := by decide +kernel
theorem dX10_addNeighboursOf_101 : decode cX10_addNeighboursOf 101 = .ok (.lstore 8, 2) := by decide +kernel
theorem dX10_addNeighboursOf_103 : decode cX10_addNeighboursOf 103 = .ok (.lload 8, 2) := by decide +kernel
theorem dX10_addNeighboursOf_105 : decode cX10_addNeighboursOf 105 = .ok (.lconst 0, 1) := by decide +kernel
theorem dX10_addNeighboursOf_106 : decode cX10_addNeighboursOf 106 = .ok (.lcmp, 1) := by decide +kernel
theorem dX10_addNeighboursOf_107 : decode cX10_addNeighboursOf 107 = .ok (.ifCond .eq 39, 3) := by decide +kernel
theorem dX10_addNeighboursOf_110 : decode cX10_addNeighboursOf 110 = .ok (.aload_n 0, 1) := by decide +kernel
theorem dX10_addNeighboursOf_111 : decode cX10_addNeighboursOf 111 = .ok (.getfield 24, 3) := by decide +kernel
theorem dX10_addNeighboursOf_114 : decode cX10_addNeighboursOf 114 = .ok (.iload_n 1, 1) := by decide +kernel
theorem dX10_addNeighboursOf_115 : decode cX10_addNeighboursOf 115 = .ok (.iaload, 1) := by decide +kernel
theorem dX10_addNeighboursOf_116 : decode cX10_addNeighboursOf 116 = .ok (.bipush 81, 2) := by decide +kernel
theorem dX10_addNeighboursOf_118 : decode cX10_addNeighboursOf 118 = .ok (.if_icmp .ge 28, 3) := by decide +kernel
theorem dX10_addNeighboursOf_121 : decode cX10_addNeighboursOf 121 = .ok (.aload_n 0, 1) := by decide +kernel
theorem dX10_addNeighboursOf_122 : decode cX10_addNeighboursOf 122 = .ok (.getfield 21, 3) := by decide +kernel
theorem dX10_addNeighboursOf_125 : decode cX10_addNeighboursOf 125 = .ok (.iload_n 1, 1) := by decide +kernel
theorem dX10_addNeighboursOf_126 : decode cX10_addNeighboursOf 126 = .ok (.aaload, 1) := by decide +kernel
theorem dX10_addNeighboursOf_127 : decode cX10_addNeighboursOf 127 = .ok (.aload_n 0, 1) := by decide +kernel
theorem dX10_addNeighboursOf_128 : decode cX10_addNeighboursOf 128 = .ok (.getfield 24, 3) := by decide +kernel
theorem dX10_addNeighboursOf_131 : decode cX10_addNeighboursOf 131 = .ok (.iload_n 1, 1) := by decide +kernel
theorem dX10_addNeighboursOf_132 : decode cX10_addNeighboursOf 132 = .ok (.iaload, 1) := by decide +kernel
theorem dX10_addNeighboursOf_133 : decode cX10_addNeighboursOf 133 = .ok (.lload 8, 2) := by decide +kernel
theorem dX10_addNeighboursOf_135 : decode cX10_addNeighboursOf 135 = .ok (.lastore, 1) := by decide +kernel
theorem dX10_addNeighboursOf_136 : decode cX10_addNeighboursOf 136 = .ok (.aload_n 0, 1) := by decide +kernel
theorem dX10_addNeighboursOf_137 : decode cX10_addNeighboursOf 137 = .ok (.getfield 24, 3) := by decide +kernel
theorem dX10_addNeighboursOf_140 : decode cX10_addNeighboursOf 140 = .ok (.iload_n 1, 1) := by decide +kernel
theorem dX10_addNeighboursOf_141 : decode cX10_addNeighboursOf 141 = .ok (.dup2, 1) := by decide +kernel
theorem dX10_addNeighboursOf_142 : decode cX10_addNeighboursOf 142 = .ok (.iaload, 1) := by decide +kernel
theorem dX10_addNeighboursOf_143 : decode cX10_addNeighboursOf 143 = .ok (.iconst 1, 1) := by decide +kernel
theorem dX10_addNeighboursOf_144 : decode cX10_addNeighboursOf 144 = .ok (.iadd, 1) := by decide +kernel
theorem dX10_addNeighboursOf_145 : decode cX10_addNeighboursOf 145 = .ok (.iastore, 1) := by decide +kernel
theorem dX10_addNeighboursOf_146 : decode cX10_addNeighboursOf 146 = .ok (.iinc 7 1, 3) := by decide +kernel
theorem dX10_addNeighboursOf_149 : decode cX10_addNeighboursOf 149 = .ok (.goto (-71), 3) := by decide +kernel
theorem dX10_addNeighboursOf_152 : decode cX10_addNeighboursOf 152 = .ok (.return_, 1) := by decide +kernel
theorem dX10_meet_0 : decode cX10_meet 0 = .ok (.aload_n 0, 1) := by decide +kernel
theorem dX10_meet_1 : decode cX10_meet 1 = .ok (.iload_n 1, 1) := by decide +kernel
theorem dX10_meet_2 : decode cX10_meet 2 = .ok (.invokevirtual 38, 3) := by decide +kernel
theorem dX10_meet_5 : decode cX10_meet 5 = .ok (.ifCond .eq 11, 3) := by decide +kernel
theorem dX10_meet_8 : decode cX10_meet 8 = .ok (.aload_n 2, 1) := by decide +kernel
theorem dX10_meet_9 : decode cX10_meet 9 = .ok (.iload_n 3, 1) := by decide +kernel
theorem dX10_meet_10 : decode cX10_meet 10 = .ok (.invokevirtual 38, 3) := by decide +kernel
theorem dX10_meet_13 : decode cX10_meet 13 = .ok (.ifCond .ne 5, 3) := by decide +kernel
theorem dX10_meet_16 : decode cX10_meet 16 = .ok (.iconst 0, 1) := by decide +kernel
theorem dX10_meet_17 : decode cX10_meet 17 = .ok (.ireturn, 1) := by decide +kernel
theorem dX10_meet_18 : decode cX10_meet 18 = .ok (.iconst 0, 1) := by decide +kernel
theorem dX10_meet_19 : decode cX10_meet 19 = .ok (.istore 4, 2) := by decide +kernel
theorem dX10_meet_21 : decode cX10_meet 21 = .ok (.iload 4, 2) := by decide +kernel
theorem dX10_meet_23 : decode cX10_meet 23 = .ok (.aload_n 0, 1) := by decide +kernel
theorem dX10_meet_24 : decode cX10_meet 24 = .ok (.getfield 24, 3) := by decide +kernel
theorem dX10_meet_27 : decode cX10_meet 27 = .ok (.iload_n 1, 1) := by decide +kernel
theorem dX10_meet_28 : decode cX10_meet 28 = .ok (.iaload, 1) := by decide +kernel
theorem dX10_meet_29 : decode cX10_meet 29 = .ok (.if_icmp .ge 53, 3) := by decide +kernel
theorem dX10_meet_32 : decode cX10_meet 32 = .ok (.iconst 0, 1) := by decide +kernel
theorem dX10_meet_33 : decode cX10_meet 33 = .ok (.istore 5, 2) := by decide +kernel
theorem dX10_meet_35 : decode cX10_meet 35 = .ok (.iload 5, 2) := by decide +kernel
theorem dX10_meet_37 : decode cX10_meet 37 = .ok (.aload_n 2, 1) := by decide +kernel
theorem dX10_meet_38 : decode cX10_meet 38 = .ok (.getfield 24, 3) := by decide +kernel
theorem dX10_meet_41 : decode cX10_meet 41 = .ok (.iload_n 3, 1) := by decide +kernel
theorem dX10_meet_42 : decode cX10_meet 42 = .ok (.iaload, 1) := by decide +kernel
theorem dX10_meet_43 : decode cX10_meet 43 = .ok (.if_icmp .ge 33, 3) := by decide +kernel
theorem dX10_meet_46 : decode cX10_meet 46 = .ok (.aload_n 0, 1) := by decide +kernel
theorem dX10_meet_47 : decode cX10_meet 47 = .ok (.getfield 21, 3) := by decide +kernel
theorem dX10_meet_50 : decode cX10_meet 50 = .ok (.iload_n 1, 1) := by decide +kernel
theorem dX10_meet_51 : decode cX10_meet 51 = .ok (.aaload, 1) := by decide +kernel
theorem dX10_meet_52 : decode cX10_meet 52 = .ok (.iload 4, 2) := by decide +kernel
theorem dX10_meet_54 : decode cX10_meet 54 = .ok (.laload, 1) := by decide +kernel
theorem dX10_meet_55 : decode cX10_meet 55 = .ok (.aload_n 2, 1) := by decide +kernel
theorem dX10_meet_56 : decode cX10_meet 56 = .ok (.getfield 21, 3) := by decide +kernel
theorem dX10_meet_59 : decode cX10_meet 59 = .ok (.iload_n 3, 1) := by decide +kernel
theorem dX10_meet_60 : decode cX10_meet 60 = .ok (.aaload, 1) := by decide +kernel
theorem dX10_meet_61 : decode cX10_meet 61 = .ok (.iload 5, 2) := by decide +kernel
theorem dX10_meet_63 : decode cX10_meet 63 = .ok (.laload, 1) := by decide +kernel
theorem dX10_meet_64 : decode cX10_meet 64 = .ok (.lcmp, 1) := by decide +kernel
theorem dX10_meet_65 : decode cX10_meet 65 = .ok (.ifCond .ne 5, 3) := by decide +kernel
theorem dX10_meet_68 : decode cX10_meet 68 = .ok (.iconst 1, 1) := by decide +kernel
theorem dX10_meet_69 : decode cX10_meet 69 = .ok (.ireturn, 1) := by decide +kernel
theorem dX10_meet_70 : decode cX10_meet 70 = .ok (.iinc 5 1, 3) := by decide +kernel
theorem dX10_meet_73 : decode cX10_meet 73 = .ok (.goto (-38), 3) := by decide +kernel
theorem dX10_meet_76 : decode cX10_meet 76 = .ok (.iinc 4 1, 3) := by decide +kernel
theorem dX10_meet_79 : decode cX10_meet 79 = .ok (.goto (-58), 3) := by decide +kernel
theorem dX10_meet_82 : decode cX10_meet 82 = .ok (.iconst 0, 1) := by decide +kernel
theorem dX10_meet_83 : decode cX10_meet 83 = .ok (.ireturn, 1) := by decide +kernel
theorem dX10_append_0 : decode cX10_append 0 = .ok (.lload_n 0, 1) := by decide +kernel
theorem dX10_append_1 : decode cX10_append 1 = .ok (.iconst 5, 1) := by decide +kernel
theorem dX10_append_2 : decode cX10_append 2 = .ok (.lshl, 1) := by decide +kernel
theorem dX10_append_3 : decode cX10_append 3 = .ok (.iload_n 2, 1) := by decide +kernel
theorem dX10_append_4 : decode cX10_append 4 = .ok (.bipush 97, 2) := by decide +kernel
theorem dX10_append_6 : decode cX10_append 6 = .ok (.isub, 1) := by decide +kernel
theorem dX10_append_7 : decode cX10_append 7 = .ok (.iconst 1, 1) := by decide +kernel
theorem dX10_append_8 : decode cX10_append 8 = .ok (.iadd, 1) := by decide +kernel
theorem dX10_append_9 : decode cX10_append 9 = .ok (.i2l, 1) := by decide +kernel
theorem dX10_append_10 : decode cX10_append 10 = .ok (.lor, 1) := by decide +kernel
theorem dX10_append_11 : decode cX10_append 11 = .ok (.lreturn, 1) := by decide +kernel
theorem dX10_lettersIn_0 : decode cX10_lettersIn 0 = .ok (.iconst 0, 1) := by decide +kernel
theorem dX10_lettersIn_1 : decode cX10_lettersIn 1 = .ok (.istore_n 2, 1) := by decide +kernel
theorem dX10_lettersIn_2 : decode cX10_lettersIn 2 = .ok (.iload_n 2, 1) := by decide +kernel
theorem dX10_lettersIn_3 : decode cX10_lettersIn 3 = .ok (.bipush 8, 2) := by decide +kernel
theorem dX10_lettersIn_5 : decode cX10_lettersIn 5 = .ok (.if_icmp .gt 19, 3) := by decide +kernel
theorem dX10_lettersIn_8 : decode cX10_lettersIn 8 = .ok (.lload_n 0, 1) := by decide +kernel
theorem dX10_lettersIn_9 : decode cX10_lettersIn 9 = .ok (.iconst 5, 1) := by decide +kernel
theorem dX10_lettersIn_10 : decode cX10_lettersIn 10 = .ok (.iload_n 2, 1) := by decide +kernel
theorem dX10_lettersIn_11 : decode cX10_lettersIn 11 = .ok (.imul, 1) := by decide +kernel
theorem dX10_lettersIn_12 : decode cX10_lettersIn 12 = .ok (.lushr, 1) := by decide +kernel
theorem dX10_lettersIn_13 : decode cX10_lettersIn 13 = .ok (.lconst 0, 1) := by decide +kernel
theorem dX10_lettersIn_14 : decode cX10_lettersIn 14 = .ok (.lcmp, 1) := by decide +kernel
theorem dX10_lettersIn_15 : decode cX10_lettersIn 15 = .ok (.ifCond .eq 9, 3) := by decide +kernel
theorem dX10_lettersIn_18 : decode cX10_lettersIn 18 = .ok (.iinc 2 1, 3) := by decide +kernel
theorem dX10_lettersIn_21 : decode cX10_lettersIn 21 = .ok (.goto (-19), 3) := by decide +kernel
theorem dX10_lettersIn_24 : decode cX10_lettersIn 24 = .ok (.iload_n 2, 1) := by decide +kernel
theorem dX10_lettersIn_25 : decode cX10_lettersIn 25 = .ok (.ireturn, 1) := by decide +kernel
theorem dX10_letterAt_0 : decode cX10_letterAt 0 = .ok (.lload_n 0, 1) := by decide +kernel
theorem dX10_letterAt_1 : decode cX10_letterAt 1 = .ok (.invokestatic 53, 3) := by decide +kernel
theorem dX10_letterAt_4 : decode cX10_letterAt 4 = .ok (.iconst 1, 1) := by decide +kernel
theorem dX10_letterAt_5 : decode cX10_letterAt 5 = .ok (.isub, 1) := by decide +kernel
theorem dX10_letterAt_6 : decode cX10_letterAt 6 = .ok (.iload_n 2, 1) := by decide +kernel
theorem dX10_letterAt_7 : decode cX10_letterAt 7 = .ok (.isub, 1) := by decide +kernel
theorem dX10_letterAt_8 : decode cX10_letterAt 8 = .ok (.istore_n 3, 1) := by decide +kernel
theorem dX10_letterAt_9 : decode cX10_letterAt 9 = .ok (.iload_n 2, 1) := by decide +kernel
theorem dX10_letterAt_10 : decode cX10_letterAt 10 = .ok (.ifCond .lt 7, 3) := by decide +kernel
theorem dX10_letterAt_13 : decode cX10_letterAt 13 = .ok (.iload_n 3, 1) := by decide +kernel
theorem dX10_letterAt_14 : decode cX10_letterAt 14 = .ok (.ifCond .ge 5, 3) := by decide +kernel
theorem dX10_letterAt_17 : decode cX10_letterAt 17 = .ok (.iconst (-1), 1) := by decide +kernel
theorem dX10_letterAt_18 : decode cX10_letterAt 18 = .ok (.ireturn, 1) := by decide +kernel
theorem dX10_letterAt_19 : decode cX10_letterAt 19 = .ok (.bipush 96, 2) := by decide +kernel
theorem dX10_letterAt_21 : decode cX10_letterAt 21 = .ok (.lload_n 0, 1) := by decide +kernel
theorem dX10_letterAt_22 : decode cX10_letterAt 22 = .ok (.iconst 5, 1) := by decide +kernel
theorem dX10_letterAt_23 : decode cX10_letterAt 23 = .ok (.iload_n 3, 1) := by decide +kernel
theorem dX10_letterAt_24 : decode cX10_letterAt 24 = .ok (.imul, 1) := by decide +kernel
theorem dX10_letterAt_25 : decode cX10_letterAt 25 = .ok (.lushr, 1) := by decide +kernel
theorem dX10_letterAt_26 : decode cX10_letterAt 26 = .ok (.ldc2_w 57, 3) := by decide +kernel
theorem dX10_letterAt_29 : decode cX10_letterAt 29 = .ok (.land, 1) := by decide +kernel
theorem dX10_letterAt_30 : decode cX10_letterAt 30 = .ok (.l2i, 1) := by decide +kernel
theorem dX10_letterAt_31 : decode cX10_letterAt 31 = .ok (.iadd, 1) := by decide +kernel
theorem dX10_letterAt_32 : decode cX10_letterAt 32 = .ok (.ireturn, 1) := by decide +kernel
theorem dX10_changed_0 : decode cX10_changed 0 = .ok (.iconst 5, 1) := by decide +kernel
theorem dX10_changed_1 : decode cX10_changed 1 = .ok (.lload 5, 2) := by decide +kernel
theorem dX10_changed_3 : decode cX10_changed 3 = .ok (.invokestatic 53, 3) := by decide +kernel
theorem dX10_changed_6 : decode cX10_changed 6 = .ok (.imul, 1) := by decide +kernel
theorem dX10_changed_7 : decode cX10_changed 7 = .ok (.istore 7, 2) := by decide +kernel
theorem dX10_changed_9 : decode cX10_changed 9 = .ok (.iconst 5, 1) := by decide +kernel
theorem dX10_changed_10 : decode cX10_changed 10 = .ok (.lload_n 3, 1) := by decide +kernel
theorem dX10_changed_11 : decode cX10_changed 11 = .ok (.invokestatic 53, 3) := by decide +kernel
theorem dX10_changed_14 : decode cX10_changed 14 = .ok (.imul, 1) := by decide +kernel
theorem dX10_changed_15 : decode cX10_changed 15 = .ok (.istore 8, 2) := by decide +kernel
theorem dX10_changed_17 : decode cX10_changed 17 = .ok (.iconst 5, 1) := by decide +kernel
theorem dX10_changed_18 : decode cX10_changed 18 = .ok (.iload_n 2, 1) := by decide +kernel
theorem dX10_changed_19 : decode cX10_changed 19 = .ok (.imul, 1) := by decide +kernel
theorem dX10_changed_20 : decode cX10_changed 20 = .ok (.istore 9, 2) := by decide +kernel
theorem dX10_changed_22 : decode cX10_changed 22 = .ok (.lload_n 0, 1) := by decide +kernel
theorem dX10_changed_23 : decode cX10_changed 23 = .ok (.iload 9, 2) := by decide +kernel
theorem dX10_changed_25 : decode cX10_changed 25 = .ok (.lushr, 1) := by decide +kernel
theorem dX10_changed_26 : decode cX10_changed 26 = .ok (.lstore 10, 2) := by decide +kernel
theorem dX10_changed_28 : decode cX10_changed 28 = .ok (.iload 8, 2) := by decide +kernel
theorem dX10_changed_30 : decode cX10_changed 30 = .ok (.lload 10, 2) := by decide +kernel
theorem dX10_changed_32 : decode cX10_changed 32 = .ok (.invokestatic 59, 3) := by decide +kernel
theorem dX10_changed_35 : decode cX10_changed 35 = .ok (.lload_n 3, 1) := by decide +kernel
theorem dX10_changed_36 : decode cX10_changed 36 = .ok (.lcmp, 1) := by decide +kernel
theorem dX10_changed_37 : decode cX10_changed 37 = .ok (.ifCond .eq 5, 3) := by decide +kernel
theorem dX10_changed_40 : decode cX10_changed 40 = .ok (.lconst 0, 1) := by decide +kernel
theorem dX10_changed_41 : decode cX10_changed 41 = .ok (.lreturn, 1) := by decide +kernel
theorem dX10_changed_42 : decode cX10_changed 42 = .ok (.iload 9, 2) := by decide +kernel
theorem dX10_changed_44 : decode cX10_changed 44 = .ok (.lload_n 0, 1) := by decide +kernel
theorem dX10_changed_45 : decode cX10_changed 45 = .ok (.invokestatic 59, 3) := by decide +kernel
theorem dX10_changed_48 : decode cX10_changed 48 = .ok (.lstore 12, 2) := by decide +kernel
theorem dX10_changed_50 : decode cX10_changed 50 = .ok (.lload 10, 2) := by decide +kernel
theorem dX10_changed_52 : decode cX10_changed 52 = .ok (.iload 8, 2) := by decide +kernel
theorem dX10_changed_54 : decode cX10_changed 54 = .ok (.lushr, 1) := by decide +kernel
theorem dX10_changed_55 : decode cX10_changed 55 = .ok (.iload 7, 2) := by decide +kernel
theorem dX10_changed_57 : decode cX10_changed 57 = .ok (.lshl, 1) := by decide +kernel
theorem dX10_changed_58 : decode cX10_changed 58 = .ok (.lload 5, 2) := by decide +kernel
theorem dX10_changed_60 : decode cX10_changed 60 = .ok (.lor, 1) := by decide +kernel
theorem dX10_changed_61 : decode cX10_changed 61 = .ok (.iload 9, 2) := by decide +kernel
theorem dX10_changed_63 : decode cX10_changed 63 = .ok (.lshl, 1) := by decide +kernel
theorem dX10_changed_64 : decode cX10_changed 64 = .ok (.lload 12, 2) := by decide +kernel
theorem dX10_changed_66 : decode cX10_changed 66 = .ok (.lor, 1) := by decide +kernel
theorem dX10_changed_67 : decode cX10_changed 67 = .ok (.lstore 14, 2) := by decide +kernel
theorem dX10_changed_69 : decode cX10_changed 69 = .ok (.lload 14, 2) := by decide +kernel
theorem dX10_changed_71 : decode cX10_changed 71 = .ok (.invokestatic 53, 3) := by decide +kernel
theorem dX10_changed_74 : decode cX10_changed 74 = .ok (.bipush 8, 2) := by decide +kernel
theorem dX10_changed_76 : decode cX10_changed 76 = .ok (.if_icmp .le 7, 3) := by decide +kernel
theorem dX10_changed_79 : decode cX10_changed 79 = .ok (.lconst 0, 1) := by decide +kernel
theorem dX10_changed_80 : decode cX10_changed 80 = .ok (.goto 5, 3) := by decide +kernel
theorem dX10_changed_83 : decode cX10_changed 83 = .ok (.lload 14, 2) := by decide +kernel
theorem dX10_changed_85 : decode cX10_changed 85 = .ok (.lreturn, 1) := by decide +kernel
theorem dX10_lowest_0 : decode cX10_lowest 0 = .ok (.lload_n 1, 1) := by decide +kernel
theorem dX10_lowest_1 : decode cX10_lowest 1 = .ok (.lconst 1, 1) := by decide +kernel
theorem dX10_lowest_2 : decode cX10_lowest 2 = .ok (.iload_n 0, 1) := by decide +kernel
theorem dX10_lowest_3 : decode cX10_lowest 3 = .ok (.lshl, 1) := by decide +kernel
theorem dX10_lowest_4 : decode cX10_lowest 4 = .ok (.lconst 1, 1) := by decide +kernel
theorem dX10_lowest_5 : decode cX10_lowest 5 = .ok (.lsub, 1) := by decide +kernel
theorem dX10_lowest_6 : decode cX10_lowest 6 = .ok (.land, 1) := by decide +kernel
theorem dX10_lowest_7 : decode cX10_lowest 7 = .ok (.lreturn, 1) := by decide +kernel
theorem dX11_feed_0 : decode cX11_feed 0 = .ok (.aload_n 0, 1) := by decide +kernel
theorem dX11_feed_1 : decode cX11_feed 1 = .ok (.getfield 10, 3) := by decide +kernel
theorem dX11_feed_4 : decode cX11_feed 4 = .ok (.getfield 87, 3) := by decide +kernel
theorem dX11_feed_7 : decode cX11_feed 7 = .ok (.bipush 20, 2) := by decide +kernel
theorem dX11_feed_9 : decode cX11_feed 9 = .ok (.iadd, 1) := by decide +kernel
theorem dX11_feed_10 : decode cX11_feed 10 = .ok (.bipush 40, 2) := by decide +kernel
theorem dX11_feed_12 : decode cX11_feed 12 = .ok (.if_icmp .le 5, 3) := by decide +kernel
theorem dX11_feed_15 : decode cX11_feed 15 = .ok (.iconst (-1), 1) := by decide +kernel
theorem dX11_feed_16 : decode cX11_feed 16 = .ok (.ireturn, 1) := by decide +kernel
theorem dX11_feed_17 : decode cX11_feed 17 = .ok (.aload_n 0, 1) := by decide +kernel
theorem dX11_feed_18 : decode cX11_feed 18 = .ok (.getfield 10, 3) := by decide +kernel
theorem dX11_feed_21 : decode cX11_feed 21 = .ok (.iload_n 1, 1) := by decide +kernel
theorem dX11_feed_22 : decode cX11_feed 22 = .ok (.invokevirtual 91, 3) := by decide +kernel
theorem dX11_feed_25 : decode cX11_feed 25 = .ok (.aload_n 0, 1) := by decide +kernel
theorem dX11_feed_26 : decode cX11_feed 26 = .ok (.getfield 10, 3) := by decide +kernel
theorem dX11_feed_29 : decode cX11_feed 29 = .ok (.iload_n 2, 1) := by decide +kernel
theorem dX11_feed_30 : decode cX11_feed 30 = .ok (.invokevirtual 91, 3) := by decide +kernel
theorem dX11_feed_33 : decode cX11_feed 33 = .ok (.aload_n 0, 1) := by decide +kernel
theorem dX11_feed_34 : decode cX11_feed 34 = .ok (.getfield 10, 3) := by decide +kernel
theorem dX11_feed_37 : decode cX11_feed 37 = .ok (.iload_n 3, 1) := by decide +kernel
theorem dX11_feed_38 : decode cX11_feed 38 = .ok (.invokevirtual 91, 3) := by decide +kernel
theorem dX11_feed_41 : decode cX11_feed 41 = .ok (.aload_n 0, 1) := by decide +kernel
theorem dX11_feed_42 : decode cX11_feed 42 = .ok (.getfield 10, 3) := by decide +kernel
theorem dX11_feed_45 : decode cX11_feed 45 = .ok (.iload 4, 2) := by decide +kernel
theorem dX11_feed_47 : decode cX11_feed 47 = .ok (.invokevirtual 91, 3) := by decide +kernel
theorem dX11_feed_50 : decode cX11_feed 50 = .ok (.aload_n 0, 1) := by decide +kernel
theorem dX11_feed_51 : decode cX11_feed 51 = .ok (.getfield 10, 3) := by decide +kernel
theorem dX11_feed_54 : decode cX11_feed 54 = .ok (.iload 5, 2) := by decide +kernel
theorem dX11_feed_56 : decode cX11_feed 56 = .ok (.invokevirtual 91, 3) := by decide +kernel
theorem dX11_feed_59 : decode cX11_feed 59 = .ok (.aload_n 0, 1) := by decide +kernel
theorem dX11_feed_60 : decode cX11_feed 60 = .ok (.getfield 10, 3) := by decide +kernel
theorem dX11_feed_63 : decode cX11_feed 63 = .ok (.getfield 87, 3) := by decide +kernel
theorem dX11_feed_66 : decode cX11_feed 66 = .ok (.ireturn, 1) := by decide +kernel
theorem dX11_book_0 : decode cX11_book 0 = .ok (.iload_n 1, 1) := by decide +kernel
theorem dX11_book_1 : decode cX11_book 1 = .ok (.iload_n 2, 1) := by decide +kernel
theorem dX11_book_2 : decode cX11_book 2 = .ok (.invokestatic 95, 3) := by decide +kernel
theorem dX11_book_5 : decode cX11_book 5 = .ok (.ifCond .eq 15, 3) := by decide +kernel
theorem dX11_book_8 : decode cX11_book 8 = .ok (.aload_n 0, 1) := by decide +kernel
theorem dX11_book_9 : decode cX11_book 9 = .ok (.getfield 19, 3) := by decide +kernel
theorem dX11_book_12 : decode cX11_book 12 = .ok (.getfield 99, 3) := by decide +kernel
theorem dX11_book_15 : decode cX11_book 15 = .ok (.bipush 30, 2) := by decide +kernel
theorem dX11_book_17 : decode cX11_book 17 = .ok (.if_icmp .lt 5, 3) := by decide +kernel
theorem dX11_book_20 : decode cX11_book 20 = .ok (.iconst (-1), 1) := by decide +kernel
theorem dX11_book_21 : decode cX11_book 21 = .ok (.ireturn, 1) := by decide +kernel
theorem dX11_book_22 : decode cX11_book 22 = .ok (.aload_n 0, 1) := by decide +kernel
theorem dX11_book_23 : decode cX11_book 23 = .ok (.getfield 19, 3) := by decide +kernel
theorem dX11_book_26 : decode cX11_book 26 = .ok (.iload_n 1, 1) := by decide +kernel
theorem dX11_book_27 : decode cX11_book 27 = .ok (.iload_n 2, 1) := by decide +kernel
theorem dX11_book_28 : decode cX11_book 28 = .ok (.invokevirtual 100, 3) := by decide +kernel
theorem dX11_book_31 : decode cX11_book 31 = .ok (.ireturn, 1) := by decide +kernel
theorem dX11_before_0 : decode cX11_before 0 = .ok (.aload_n 0, 1) := by decide +kernel
theorem dX11_before_1 : decode cX11_before 1 = .ok (.getfield 19, 3) := by decide +kernel
theorem dX11_before_4 : decode cX11_before 4 = .ok (.iload_n 1, 1) := by decide +kernel
theorem dX11_before_5 : decode cX11_before 5 = .ok (.invokevirtual 104, 3) := by decide +kernel
theorem dX11_before_8 : decode cX11_before 8 = .ok (.ifCond .eq 35, 3) := by decide +kernel
theorem dX11_before_11 : decode cX11_before 11 = .ok (.aload_n 0, 1) := by decide +kernel
theorem dX11_before_12 : decode cX11_before 12 = .ok (.getfield 19, 3) := by decide +kernel
theorem dX11_before_15 : decode cX11_before 15 = .ok (.iload_n 2, 1) := by decide +kernel
theorem dX11_before_16 : decode cX11_before 16 = .ok (.invokevirtual 104, 3) := by decide +kernel
theorem dX11_before_19 : decode cX11_before 19 = .ok (.ifCond .eq 24, 3) := by decide +kernel
theorem dX11_before_22 : decode cX11_before 22 = .ok (.iload_n 1, 1) := by decide +kernel
theorem dX11_before_23 : decode cX11_before 23 = .ok (.iload_n 2, 1) := by decide +kernel
theorem dX11_before_24 : decode cX11_before 24 = .ok (.if_icmp .eq 19, 3) := by decide +kernel
theorem dX11_before_27 : decode cX11_before 27 = .ok (.aload_n 0, 1) := by decide +kernel
theorem dX11_before_28 : decode cX11_before 28 = .ok (.getfield 19, 3) := by decide +kernel
theorem dX11_before_31 : decode cX11_before 31 = .ok (.iload_n 1, 1) := by decide +kernel
theorem dX11_before_32 : decode cX11_before 32 = .ok (.iload_n 2, 1) := by decide +kernel
theorem dX11_before_33 : decode cX11_before 33 = .ok (.invokevirtual 108, 3) := by decide +kernel
theorem dX11_before_36 : decode cX11_before 36 = .ok (.ifCond .eq 7, 3) := by decide +kernel
theorem dX11_before_39 : decode cX11_before 39 = .ok (.iconst 1, 1) := by decide +kernel
theorem dX11_before_40 : decode cX11_before 40 = .ok (.goto 4, 3) := by decide +kernel
theorem dX11_before_43 : decode cX11_before 43 = .ok (.iconst 0, 1) := by decide +kernel
theorem dX11_before_44 : decode cX11_before 44 = .ok (.ireturn, 1) := by decide +kernel
theorem dX11_span_0 : decode cX11_span 0 = .ok (.aload_n 0, 1) := by decide +kernel
theorem dX11_span_1 : decode cX11_span 1 = .ok (.getfield 19, 3) := by decide +kernel
theorem dX11_span_4 : decode cX11_span 4 = .ok (.iload_n 1, 1) := by decide +kernel
theorem dX11_span_5 : decode cX11_span 5 = .ok (.invokevirtual 104, 3) := by decide +kernel
theorem dX11_span_8 : decode cX11_span 8 = .ok (.ifCond .ne 5, 3) := by decide +kernel
theorem dX11_span_11 : decode cX11_span 11 = .ok (.iconst (-1), 1) := by decide +kernel
theorem dX11_span_12 : decode cX11_span 12 = .ok (.ireturn, 1) := by decide +kernel
theorem dX11_span_13 : decode cX11_span 13 = .ok (.iload_n 2, 1) := by decide +kernel
theorem dX11_span_14 : decode cX11_span 14 = .ok (.tableswitch 83 0 4 #[34, 44, 54, 64, 74], 34) := by decide +kernel
theorem dX11_span_48 : decode cX11_span 48 = .ok (.aload_n 0, 1) := by decide +kernel
theorem dX11_span_49 : decode cX11_span 49 = .ok (.getfield 19, 3) := by decide +kernel
theorem dX11_span_52 : decode cX11_span 52 = .ok (.getfield 111, 3) := by decide +kernel
theorem dX11_span_55 : decode cX11_span 55 = .ok (.iload_n 1, 1) := by decide +kernel
theorem dX11_span_56 : decode cX11_span 56 = .ok (.iaload, 1) := by decide +kernel
theorem dX11_span_57 : decode cX11_span 57 = .ok (.ireturn, 1) := by decide +kernel
theorem dX11_span_58 : decode cX11_span 58 = .ok (.aload_n 0, 1) := by decide +kernel
theorem dX11_span_59 : decode cX11_span 59 = .ok (.getfield 19, 3) := by decide +kernel
theorem dX11_span_62 : decode cX11_span 62 = .ok (.getfield 115, 3) := by decide +kernel
theorem dX11_span_65 : decode cX11_span 65 = .ok (.iload_n 1, 1) := by decide +kernel
theorem dX11_span_66 : decode cX11_span 66 = .ok (.iaload, 1) := by decide +kernel
theorem dX11_span_67 : decode cX11_span 67 = .ok (.ireturn, 1) := by decide +kernel
theorem dX11_span_68 : decode cX11_span 68 = .ok (.aload_n 0, 1) := by decide +kernel
theorem dX11_span_69 : decode cX11_span 69 = .ok (.getfield 19, 3) := by decide +kernel
theorem dX11_span_72 : decode cX11_span 72 = .ok (.getfield 118, 3) := by decide +kernel
theorem dX11_span_75 : decode cX11_span 75 = .ok (.iload_n 1, 1) := by decide +kernel
theorem dX11_span_76 : decode cX11_span 76 = .ok (.iaload, 1) := by decide +kernel
theorem dX11_span_77 : decode cX11_span 77 = .ok (.ireturn, 1) := by decide +kernel
theorem dX11_span_78 : decode cX11_span 78 = .ok (.aload_n 0, 1) := by decide +kernel
theorem dX11_span_79 : decode cX11_span 79 = .ok (.getfield 19, 3) := by decide +kernel
theorem dX11_span_82 : decode cX11_span 82 = .ok (.getfield 121, 3) := by decide +kernel
theorem dX11_span_85 : decode cX11_span 85 = .ok (.iload_n 1, 1) := by decide +kernel
theorem dX11_span_86 : decode cX11_span 86 = .ok (.iaload, 1) := by decide +kernel
theorem dX11_span_87 : decode cX11_span 87 = .ok (.ireturn, 1) := by decide +kernel
theorem dX11_span_88 : decode cX11_span 88 = .ok (.aload_n 0, 1) := by decide +kernel
theorem dX11_span_89 : decode cX11_span 89 = .ok (.getfield 42, 3) := by decide +kernel
theorem dX11_span_92 : decode cX11_span 92 = .ok (.iload_n 1, 1) := by decide +kernel
theorem dX11_span_93 : decode cX11_span 93 = .ok (.invokevirtual 124, 3) := by decide +kernel
theorem dX11_span_96 : decode cX11_span 96 = .ok (.ireturn, 1) := by decide +kernel
theorem dX11_span_97 : decode cX11_span 97 = .ok (.iconst (-1), 1) := by decide +kernel
theorem dX11_span_98 : decode cX11_span 98 = .ok (.ireturn, 1) := by decide +kernel
theorem dX11_slip_0 : decode cX11_slip 0 = .ok (.aload_n 0, 1) := by decide +kernel
theorem dX11_slip_1 : decode cX11_slip 1 = .ok (.getfield 19, 3) := by decide +kernel
theorem dX11_slip_4 : decode cX11_slip 4 = .ok (.iload_n 1, 1) := by decide +kernel
theorem dX11_slip_5 : decode cX11_slip 5 = .ok (.invokevirtual 104, 3) := by decide +kernel
theorem dX11_slip_8 : decode cX11_slip 8 = .ok (.ifCond .eq 23, 3) := by decide +kernel
theorem dX11_slip_11 : decode cX11_slip 11 = .ok (.aload_n 0, 1) := by decide +kernel
theorem dX11_slip_12 : decode cX11_slip 12 = .ok (.getfield 42, 3) := by decide +kernel
theorem dX11_slip_15 : decode cX11_slip 15 = .ok (.getfield 128, 3) := by decide +kernel
theorem dX11_slip_18 : decode cX11_slip 18 = .ok (.bipush 120, 2) := by decide +kernel
theorem dX11_slip_20 : decode cX11_slip 20 = .ok (.if_icmp .ge 11, 3) := by decide +kernel
theorem dX11_slip_23 : decode cX11_slip 23 = .ok (.aload_n 0, 1) := by decide +kernel
theorem dX11_slip_24 : decode cX11_slip 24 = .ok (.iload_n 2, 1) := by decide +kernel
theorem dX11_slip_25 : decode cX11_slip 25 = .ok (.invokevirtual 129, 3) := by decide +kernel
theorem dX11_slip_28 : decode cX11_slip 28 = .ok (.ifCond .ne 5, 3) := by decide +kernel
theorem dX11_slip_31 : decode cX11_slip 31 = .ok (.iconst (-1), 1) := by decide +kernel
theorem dX11_slip_32 : decode cX11_slip 32 = .ok (.ireturn, 1) := by decide +kernel
theorem dX11_slip_33 : decode cX11_slip 33 = .ok (.aload_n 0, 1) := by decide +kernel
theorem dX11_slip_34 : decode cX11_slip 34 = .ok (.getfield 10, 3) := by decide +kernel
theorem dX11_slip_37 : decode cX11_slip 37 = .ok (.iload_n 2, 1) := by decide +kernel
theorem dX11_slip_38 : decode cX11_slip 38 = .ok (.invokevirtual 132, 3) := by decide +kernel
theorem dX11_slip_41 : decode cX11_slip 41 = .ok (.lstore_n 3, 1) := by decide +kernel
theorem dX11_slip_42 : decode cX11_slip 42 = .ok (.lload_n 3, 1) := by decide +kernel
theorem dX11_slip_43 : decode cX11_slip 43 = .ok (.lconst 0, 1) := by decide +kernel
theorem dX11_slip_44 : decode cX11_slip 44 = .ok (.lcmp, 1) := by decide +kernel
theorem dX11_slip_45 : decode cX11_slip 45 = .ok (.ifCond .ne 7, 3) := by decide +kernel
theorem dX11_slip_48 : decode cX11_slip 48 = .ok (.iconst (-1), 1) := by decide +kernel
theorem dX11_slip_49 : decode cX11_slip 49 = .ok (.goto 12, 3) := by decide +kernel
theorem dX11_slip_52 : decode cX11_slip 52 = .ok (.aload_n 0, 1) := by decide +kernel
theorem dX11_slip_53 : decode cX11_slip 53 = .ok (.getfield 42, 3) := by decide +kernel
theorem dX11_slip_56 : decode cX11_slip 56 = .ok (.iload_n 1, 1) := by decide +kernel
theorem dX11_slip_57 : decode cX11_slip 57 = .ok (.lload_n 3, 1) := by decide +kernel
theorem dX11_slip_58 : decode cX11_slip 58 = .ok (.invokevirtual 138, 3) := by decide +kernel
theorem dX11_slip_61 : decode cX11_slip 61 = .ok (.ireturn, 1) := by decide +kernel
theorem dX11_entry_0 : decode cX11_entry 0 = .ok (.iload_n 2, 1) := by decide +kernel
theorem dX11_entry_1 : decode cX11_entry 1 = .ok (.iload_n 3, 1) := by decide +kernel
theorem dX11_entry_2 : decode cX11_entry 2 = .ok (.invokestatic 95, 3) := by decide +kernel
theorem dX11_entry_5 : decode cX11_entry 5 = .ok (.ifCond .eq 23, 3) := by decide +kernel
theorem dX11_entry_8 : decode cX11_entry 8 = .ok (.aload_n 0, 1) := by decide +kernel
theorem dX11_entry_9 : decode cX11_entry 9 = .ok (.getfield 35, 3) := by decide +kernel
theorem dX11_entry_12 : decode cX11_entry 12 = .ok (.getfield 141, 3) := by decide +kernel
theorem dX11_entry_15 : decode cX11_entry 15 = .ok (.bipush 12, 2) := by decide +kernel
theorem dX11_entry_17 : decode cX11_entry 17 = .ok (.if_icmp .ge 11, 3) := by decide +kernel
theorem dX11_entry_20 : decode cX11_entry 20 = .ok (.aload_n 0, 1) := by decide +kernel
theorem dX11_entry_21 : decode cX11_entry 21 = .ok (.iload_n 1, 1) := by decide +kernel
theorem dX11_entry_22 : decode cX11_entry 22 = .ok (.invokevirtual 129, 3) := by decide +kernel
theorem dX11_entry_25 : decode cX11_entry 25 = .ok (.ifCond .ne 5, 3) := by decide +kernel
theorem dX11_entry_28 : decode cX11_entry 28 = .ok (.iconst (-1), 1) := by decide +kernel
theorem dX11_entry_29 : decode cX11_entry 29 = .ok (.ireturn, 1) := by decide +kernel
theorem dX11_entry_30 : decode cX11_entry 30 = .ok (.aload_n 0, 1) := by decide +kernel
theorem dX11_entry_31 : decode cX11_entry 31 = .ok (.getfield 10, 3) := by decide +kernel
theorem dX11_entry_34 : decode cX11_entry 34 = .ok (.iload_n 1, 1) := by decide +kernel
theorem dX11_entry_35 : decode cX11_entry 35 = .ok (.invokevirtual 132, 3) := by decide +kernel
theorem dX11_entry_38 : decode cX11_entry 38 = .ok (.lstore 4, 2) := by decide +kernel
theorem dX11_entry_40 : decode cX11_entry 40 = .ok (.lload 4, 2) := by decide +kernel
theorem dX11_entry_42 : decode cX11_entry 42 = .ok (.lconst 0, 1) := by decide +kernel
theorem dX11_entry_43 : decode cX11_entry 43 = .ok (.lcmp, 1) := by decide +kernel
theorem dX11_entry_44 : decode cX11_entry 44 = .ok (.ifCond .ne 7, 3) := by decide +kernel
theorem dX11_entry_47 : decode cX11_entry 47 = .ok (.iconst (-1), 1) := by decide +kernel
theorem dX11_entry_48 : decode cX11_entry 48 = .ok (.goto 14, 3) := by decide +kernel
theorem dX11_entry_51 : decode cX11_entry 51 = .ok (.aload_n 0, 1) := by decide +kernel
theorem dX11_entry_52 : decode cX11_entry 52 = .ok (.getfield 35, 3) := by decide +kernel
theorem dX11_entry_55 : decode cX11_entry 55 = .ok (.lload 4, 2) := by decide +kernel
theorem dX11_entry_57 : decode cX11_entry 57 = .ok (.iload_n 2, 1) := by decide +kernel
theorem dX11_entry_58 : decode cX11_entry 58 = .ok (.iload_n 3, 1) := by decide +kernel
theorem dX11_entry_59 : decode cX11_entry 59 = .ok (.invokevirtual 142, 3) := by decide +kernel
theorem dX11_entry_62 : decode cX11_entry 62 = .ok (.ireturn, 1) := by decide +kernel
theorem dX11_form_0 : decode cX11_form 0 = .ok (.iload_n 3, 1) := by decide +kernel
theorem dX11_form_1 : decode cX11_form 1 = .ok (.iload 4, 2) := by decide +kernel
theorem dX11_form_3 : decode cX11_form 3 = .ok (.invokestatic 95, 3) := by decide +kernel
theorem dX11_form_6 : decode cX11_form 6 = .ok (.ifCond .eq 22, 3) := by decide +kernel
theorem dX11_form_9 : decode cX11_form 9 = .ok (.aload_n 0, 1) := by decide +kernel
theorem dX11_form_10 : decode cX11_form 10 = .ok (.getfield 35, 3) := by decide +kernel
theorem dX11_form_13 : decode cX11_form 13 = .ok (.iload_n 1, 1) := by decide +kernel
theorem dX11_form_14 : decode cX11_form 14 = .ok (.invokevirtual 145, 3) := by decide +kernel
theorem dX11_form_17 : decode cX11_form 17 = .ok (.ifCond .eq 11, 3) := by decide +kernel
theorem dX11_form_20 : decode cX11_form 20 = .ok (.aload_n 0, 1) := by decide +kernel
theorem dX11_form_21 : decode cX11_form 21 = .ok (.iload_n 2, 1) := by decide +kernel
theorem dX11_form_22 : decode cX11_form 22 = .ok (.invokevirtual 129, 3) := by decide +kernel
theorem dX11_form_25 : decode cX11_form 25 = .ok (.ifCond .ne 5, 3) := by decide +kernel
theorem dX11_form_28 : decode cX11_form 28 = .ok (.iconst (-1), 1) := by decide +kernel
theorem dX11_form_29 : decode cX11_form 29 = .ok (.ireturn, 1) := by decide +kernel
theorem dX11_form_30 : decode cX11_form 30 = .ok (.aload_n 0, 1) := by decide +kernel
theorem dX11_form_31 : decode cX11_form 31 = .ok (.getfield 10, 3) := by decide +kernel
theorem dX11_form_34 : decode cX11_form 34 = .ok (.iload_n 2, 1) := by decide +kernel
theorem dX11_form_35 : decode cX11_form 35 = .ok (.invokevirtual 132, 3) := by decide +kernel
theorem dX11_form_38 : decode cX11_form 38 = .ok (.lstore 5, 2) := by decide +kernel
theorem dX11_form_40 : decode cX11_form 40 = .ok (.lload 5, 2) := by decide +kernel
theorem dX11_form_42 : decode cX11_form 42 = .ok (.lconst 0, 1) := by decide +kernel
theorem dX11_form_43 : decode cX11_form 43 = .ok (.lcmp, 1) := by decide +kernel
theorem dX11_form_44 : decode cX11_form 44 = .ok (.ifCond .ne 7, 3) := by decide +kernel
theorem dX11_form_47 : decode cX11_form 47 = .ok (.iconst (-1), 1) := by decide +kernel
theorem dX11_form_48 : decode cX11_form 48 = .ok (.goto 16, 3) := by decide +kernel
theorem dX11_form_51 : decode cX11_form 51 = .ok (.aload_n 0, 1) := by decide +kernel
theorem dX11_form_52 : decode cX11_form 52 = .ok (.getfield 35, 3) := by decide +kernel
theorem dX11_form_55 : decode cX11_form 55 = .ok (.iload_n 1, 1) := by decide +kernel
theorem dX11_form_56 : decode cX11_form 56 = .ok (.lload 5, 2) := by decide +kernel
theorem dX11_form_58 : decode cX11_form 58 = .ok (.iload_n 3, 1) := by decide +kernel
theorem dX11_form_59 : decode cX11_form 59 = .ok (.iload 4, 2) := by decide +kernel
theorem dX11_form_61 : decode cX11_form 61 = .ok (.invokevirtual 148, 3) := by decide +kernel
theorem dX11_form_64 : decode cX11_form 64 = .ok (.ireturn, 1) := by decide +kernel
theorem dX11_rule_0 : decode cX11_rule 0 = .ok (.iload_n 1, 1) := by decide +kernel
theorem dX11_rule_1 : decode cX11_rule 1 = .ok (.invokestatic 152, 3) := by decide +kernel
theorem dX11_rule_4 : decode cX11_rule 4 = .ok (.ifCond .eq 35, 3) := by decide +kernel
theorem dX11_rule_7 : decode cX11_rule 7 = .ok (.iload_n 2, 1) := by decide +kernel
theorem dX11_rule_8 : decode cX11_rule 8 = .ok (.invokestatic 152, 3) := by decide +kernel
theorem dX11_rule_11 : decode cX11_rule 11 = .ok (.ifCond .eq 28, 3) := by decide +kernel
theorem dX11_rule_14 : decode cX11_rule 14 = .ok (.aload_n 0, 1) := by decide +kernel
theorem dX11_rule_15 : decode cX11_rule 15 = .ok (.getfield 10, 3) := by decide +kernel
theorem dX11_rule_18 : decode cX11_rule 18 = .ok (.getfield 87, 3) := by decide +kernel
theorem dX11_rule_21 : decode cX11_rule 21 = .ok (.iload_n 1, 1) := by decide +kernel
theorem dX11_rule_22 : decode cX11_rule 22 = .ok (.iload_n 2, 1) := by decide +kernel
theorem dX11_rule_23 : decode cX11_rule 23 = .ok (.iadd, 1) := by decide +kernel
theorem dX11_rule_24 : decode cX11_rule 24 = .ok (.if_icmp .lt 15, 3) := by decide +kernel
theorem dX11_rule_27 : decode cX11_rule 27 = .ok (.aload_n 0, 1) := by decide +kernel
theorem dX11_rule_28 : decode cX11_rule 28 = .ok (.getfield 26, 3) := by decide +kernel
theorem dX11_rule_31 : decode cX11_rule 31 = .ok (.getfield 155, 3) := by decide +kernel
theorem dX11_rule_34 : decode cX11_rule 34 = .ok (.bipush 10, 2) := by decide +kernel
theorem dX11_rule_36 : decode cX11_rule 36 = .ok (.if_icmp .lt 5, 3) := by decide +kernel
theorem dX11_rule_39 : decode cX11_rule 39 = .ok (.iconst (-1), 1) := by decide +kernel
theorem dX11_rule_40 : decode cX11_rule 40 = .ok (.ireturn, 1) := by decide +kernel
theorem dX11_rule_41 : decode cX11_rule 41 = .ok (.aload_n 0, 1) := by decide +kernel
theorem dX11_rule_42 : decode cX11_rule 42 = .ok (.getfield 10, 3) := by decide +kernel
theorem dX11_rule_45 : decode cX11_rule 45 = .ok (.iconst 0, 1) := by decide +kernel
theorem dX11_rule_46 : decode cX11_rule 46 = .ok (.iload_n 1, 1) := by decide +kernel
theorem dX11_rule_47 : decode cX11_rule 47 = .ok (.invokevirtual 156, 3) := by decide +kernel
theorem dX11_rule_50 : decode cX11_rule 50 = .ok (.lstore_n 3, 1) := by decide +kernel
theorem dX11_rule_51 : decode cX11_rule 51 = .ok (.aload_n 0, 1) := by decide +kernel
theorem dX11_rule_52 : decode cX11_rule 52 = .ok (.getfield 10, 3) := by decide +kernel
theorem dX11_rule_55 : decode cX11_rule 55 = .ok (.iload_n 1, 1) := by decide +kernel
theorem dX11_rule_56 : decode cX11_rule 56 = .ok (.iload_n 2, 1) := by decide +kernel
theorem dX11_rule_57 : decode cX11_rule 57 = .ok (.invokevirtual 156, 3) := by decide +kernel
theorem dX11_rule_60 : decode cX11_rule 60 = .ok (.lstore 5, 2) := by decide +kernel
theorem dX11_rule_62 : decode cX11_rule 62 = .ok (.aload_n 0, 1) := by decide +kernel
theorem dX11_rule_63 : decode cX11_rule 63 = .ok (.getfield 10, 3) := by decide +kernel
theorem dX11_rule_66 : decode cX11_rule 66 = .ok (.invokevirtual 160, 3) := by decide +kernel
theorem dX11_rule_69 : decode cX11_rule 69 = .ok (.lload_n 3, 1) := by decide +kernel
theorem dX11_rule_70 : decode cX11_rule 70 = .ok (.lconst 0, 1) := by decide +kernel
theorem dX11_rule_71 : decode cX11_rule 71 = .ok (.lcmp, 1) := by decide +kernel
theorem dX11_rule_72 : decode cX11_rule 72 = .ok (.ifCond .eq 17, 3) := by decide +kernel
theorem dX11_rule_75 : decode cX11_rule 75 = .ok (.lload 5, 2) := by decide +kernel
theorem dX11_rule_77 : decode cX11_rule 77 = .ok (.lconst 0, 1) := by decide +kernel
theorem dX11_rule_78 : decode cX11_rule 78 = .ok (.lcmp, 1) := by decide +kernel
theorem dX11_rule_79 : decode cX11_rule 79 = .ok (.ifCond .eq 10, 3) := by decide +kernel
theorem dX11_rule_82 : decode cX11_rule 82 = .ok (.lload_n 3, 1) := by decide +kernel
theorem dX11_rule_83 : decode cX11_rule 83 = .ok (.lload 5, 2) := by decide +kernel
theorem dX11_rule_85 : decode cX11_rule 85 = .ok (.lcmp, 1) := by decide +kernel
theorem dX11_rule_86 : decode cX11_rule 86 = .ok (.ifCond .ne 5, 3) := by decide +kernel
theorem dX11_rule_89 : decode cX11_rule 89 = .ok (.iconst (-1), 1) := by decide +kernel
theorem dX11_rule_90 : decode cX11_rule 90 = .ok (.ireturn, 1) := by decide +kernel
theorem dX11_rule_91 : decode cX11_rule 91 = .ok (.aload_n 0, 1) := by decide +kernel
theorem dX11_rule_92 : decode cX11_rule 92 = .ok (.getfield 26, 3) := by decide +kernel
theorem dX11_rule_95 : decode cX11_rule 95 = .ok (.lload_n 3, 1) := by decide +kernel
theorem dX11_rule_96 : decode cX11_rule 96 = .ok (.lload 5, 2) := by decide +kernel
theorem dX11_rule_98 : decode cX11_rule 98 = .ok (.invokevirtual 163, 3) := by decide +kernel
theorem dX11_rule_101 : decode cX11_rule 101 = .ok (.istore 7, 2) := by decide +kernel
theorem dX11_rule_103 : decode cX11_rule 103 = .ok (.aload_n 0, 1) := by decide +kernel
theorem dX11_rule_104 : decode cX11_rule 104 = .ok (.getfield 35, 3) := by decide +kernel
theorem dX11_rule_107 : decode cX11_rule 107 = .ok (.getfield 166, 3) := by decide +kernel
theorem dX11_rule_110 : decode cX11_rule 110 = .ok (.iload 7, 2) := by decide +kernel
theorem dX11_rule_112 : decode cX11_rule 112 = .ok (.invokevirtual 170, 3) := by decide +kernel
theorem dX11_rule_115 : decode cX11_rule 115 = .ok (.aload_n 0, 1) := by decide +kernel
theorem dX11_rule_116 : decode cX11_rule 116 = .ok (.getfield 42, 3) := by decide +kernel
theorem dX11_rule_119 : decode cX11_rule 119 = .ok (.getfield 173, 3) := by decide +kernel
theorem dX11_rule_122 : decode cX11_rule 122 = .ok (.iload 7, 2) := by decide +kernel
theorem dX11_rule_124 : decode cX11_rule 124 = .ok (.invokevirtual 170, 3) := by decide +kernel
theorem dX11_rule_127 : decode cX11_rule 127 = .ok (.iload 7, 2) := by decide +kernel
theorem dX11_rule_129 : decode cX11_rule 129 = .ok (.ireturn, 1) := by decide +kernel
theorem dX11_fits_0 : decode cX11_fits 0 = .ok (.aload_n 0, 1) := by decide +kernel
theorem dX11_fits_1 : decode cX11_fits 1 = .ok (.getfield 42, 3) := by decide +kernel
theorem dX11_fits_4 : decode cX11_fits 4 = .ok (.iload_n 1, 1) := by decide +kernel
theorem dX11_fits_5 : decode cX11_fits 5 = .ok (.invokevirtual 176, 3) := by decide +kernel
theorem dX11_fits_8 : decode cX11_fits 8 = .ok (.ifCond .eq 14, 3) := by decide +kernel
theorem dX11_fits_11 : decode cX11_fits 11 = .ok (.aload_n 0, 1) := by decide +kernel
theorem dX11_fits_12 : decode cX11_fits 12 = .ok (.getfield 35, 3) := by decide +kernel
theorem dX11_fits_15 : decode cX11_fits 15 = .ok (.iload_n 2, 1) := by decide +kernel
theorem dX11_fits_16 : decode cX11_fits 16 = .ok (.invokevirtual 177, 3) := by decide +kernel
theorem dX11_fits_19 : decode cX11_fits 19 = .ok (.ifCond .ne 5, 3) := by decide +kernel
theorem dX11_fits_22 : decode cX11_fits 22 = .ok (.iconst (-1), 1) := by decide +kernel
theorem dX11_fits_23 : decode cX11_fits 23 = .ok (.ireturn, 1) := by decide +kernel
theorem dX11_fits_24 : decode cX11_fits 24 = .ok (.aload_n 0, 1) := by decide +kernel
theorem dX11_fits_25 : decode cX11_fits 25 = .ok (.iload_n 1, 1) := by decide +kernel
theorem dX11_fits_26 : decode cX11_fits 26 = .ok (.iload_n 2, 1) := by decide +kernel
theorem dX11_fits_27 : decode cX11_fits 27 = .ok (.invokevirtual 178, 3) := by decide +kernel
theorem dX11_fits_30 : decode cX11_fits 30 = .ok (.ifCond .eq 7, 3) := by decide +kernel
theorem dX11_fits_33 : decode cX11_fits 33 = .ok (.iconst 1, 1) := by decide +kernel
theorem dX11_fits_34 : decode cX11_fits 34 = .ok (.goto 4, 3) := by decide +kernel
theorem dX11_fits_37 : decode cX11_fits 37 = .ok (.iconst 0, 1) := by decide +kernel
theorem dX11_fits_38 : decode cX11_fits 38 = .ok (.ireturn, 1) := by decide +kernel
theorem dX11_sort_0 : decode cX11_sort 0 = .ok (.iconst 0, 1) := by decide +kernel
theorem dX11_sort_1 : decode cX11_sort 1 = .ok (.istore_n 1, 1) := by decide +kernel
theorem dX11_sort_2 : decode cX11_sort 2 = .ok (.iconst 0, 1) := by decide +kernel
theorem dX11_sort_3 : decode cX11_sort 3 = .ok (.istore_n 2, 1) := by decide +kernel
theorem dX11_sort_4 : decode cX11_sort 4 = .ok (.iload_n 2, 1) := by decide +kernel
theorem dX11_sort_5 : decode cX11_sort 5 = .ok (.aload_n 0, 1) := by decide +kernel
theorem dX11_sort_6 : decode cX11_sort 6 = .ok (.getfield 42, 3) := by decide +kernel
theorem dX11_sort_9 : decode cX11_sort 9 = .ok (.getfield 128, 3) := by decide +kernel
theorem dX11_sort_12 : decode cX11_sort 12 = .ok (.if_icmp .ge 46, 3) := by decide +kernel
theorem dX11_sort_15 : decode cX11_sort 15 = .ok (.aload_n 0, 1) := by decide +kernel
theorem dX11_sort_16 : decode cX11_sort 16 = .ok (.getfield 42, 3) := by decide +kernel
theorem dX11_sort_19 : decode cX11_sort 19 = .ok (.iload_n 2, 1) := by decide +kernel
theorem dX11_sort_20 : decode cX11_sort 20 = .ok (.invokevirtual 181, 3) := by decide +kernel
theorem dX11_sort_23 : decode cX11_sort 23 = .ok (.ifCond .eq 29, 3) := by decide +kernel
theorem dX11_sort_26 : decode cX11_sort 26 = .ok (.aload_n 0, 1) := by decide +kernel
theorem dX11_sort_27 : decode cX11_sort 27 = .ok (.iload_n 2, 1) := by decide +kernel
theorem dX11_sort_28 : decode cX11_sort 28 = .ok (.invokevirtual 184, 3) := by decide +kernel
theorem dX11_sort_31 : decode cX11_sort 31 = .ok (.iconst 1, 1) := by decide +kernel
theorem dX11_sort_32 : decode cX11_sort 32 = .ok (.if_icmp .ne 20, 3) := by decide +kernel
theorem dX11_sort_35 : decode cX11_sort 35 = .ok (.aload_n 0, 1) := by decide +kernel
theorem dX11_sort_36 : decode cX11_sort 36 = .ok (.getfield 42, 3) := by decide +kernel
theorem dX11_sort_39 : decode cX11_sort 39 = .ok (.iload_n 2, 1) := by decide +kernel
theorem dX11_sort_40 : decode cX11_sort 40 = .ok (.aload_n 0, 1) := by decide +kernel
theorem dX11_sort_41 : decode cX11_sort 41 = .ok (.iload_n 2, 1) := by decide +kernel
theorem dX11_sort_42 : decode cX11_sort 42 = .ok (.invokevirtual 187, 3) := by decide +kernel
theorem dX11_sort_45 : decode cX11_sort 45 = .ok (.iconst (-1), 1) := by decide +kernel
theorem dX11_sort_46 : decode cX11_sort 46 = .ok (.invokevirtual 190, 3) := by decide +kernel
theorem dX11_sort_49 : decode cX11_sort 49 = .ok (.iinc 1 1, 3) := by decide +kernel
theorem dX11_sort_52 : decode cX11_sort 52 = .ok (.iinc 2 1, 3) := by decide +kernel
theorem dX11_sort_55 : decode cX11_sort 55 = .ok (.goto (-51), 3) := by decide +kernel
theorem dX11_sort_58 : decode cX11_sort 58 = .ok (.iload_n 1, 1) := by decide +kernel
theorem dX11_sort_59 : decode cX11_sort 59 = .ok (.ireturn, 1) := by decide +kernel
theorem dX11_sense_0 : decode cX11_sense 0 = .ok (.aload_n 0, 1) := by decide +kernel
theorem dX11_sense_1 : decode cX11_sense 1 = .ok (.getfield 35, 3) := by decide +kernel
theorem dX11_sense_4 : decode cX11_sense 4 = .ok (.iload_n 1, 1) := by decide +kernel
theorem dX11_sense_5 : decode cX11_sense 5 = .ok (.invokevirtual 177, 3) := by decide +kernel
theorem dX11_sense_8 : decode cX11_sense 8 = .ok (.ifCond .eq 12, 3) := by decide +kernel
theorem dX11_sense_11 : decode cX11_sense 11 = .ok (.aload_n 0, 1) := by decide +kernel
theorem dX11_sense_12 : decode cX11_sense 12 = .ok (.iload_n 2, 1) := by decide +kernel
theorem dX11_sense_13 : decode cX11_sense 13 = .ok (.iload_n 1, 1) := by decide +kernel
theorem dX11_sense_14 : decode cX11_sense 14 = .ok (.invokevirtual 194, 3) := by decide +kernel
theorem dX11_sense_17 : decode cX11_sense 17 = .ok (.ifCond .ne 5, 3) := by decide +kernel
theorem dX11_sense_20 : decode cX11_sense 20 = .ok (.iconst (-1), 1) := by decide +kernel
theorem dX11_sense_21 : decode cX11_sense 21 = .ok (.ireturn, 1) := by decide +kernel
theorem dX11_sense_22 : decode cX11_sense 22 = .ok (.aload_n 0, 1) := by decide +kernel
theorem dX11_sense_23 : decode cX11_sense 23 = .ok (.getfield 49, 3) := by decide +kernel
theorem dX11_sense_26 : decode cX11_sense 26 = .ok (.iload_n 1, 1) := by decide +kernel
theorem dX11_sense_27 : decode cX11_sense 27 = .ok (.iload_n 2, 1) := by decide +kernel
theorem dX11_sense_28 : decode cX11_sense 28 = .ok (.invokevirtual 197, 3) := by decide +kernel
theorem dX11_sense_31 : decode cX11_sense 31 = .ok (.ireturn, 1) := by decide +kernel
theorem dX11_put_0 : decode cX11_put 0 = .ok (.aload_n 0, 1) := by decide +kernel
theorem dX11_put_1 : decode cX11_put 1 = .ok (.getfield 42, 3) := by decide +kernel
theorem dX11_put_4 : decode cX11_put 4 = .ok (.iload_n 1, 1) := by decide +kernel
theorem dX11_put_5 : decode cX11_put 5 = .ok (.invokevirtual 176, 3) := by decide +kernel
theorem dX11_put_8 : decode cX11_put 8 = .ok (.ifCond .eq 16, 3) := by decide +kernel
theorem dX11_put_11 : decode cX11_put 11 = .ok (.aload_n 0, 1) := by decide +kernel
theorem dX11_put_12 : decode cX11_put 12 = .ok (.getfield 42, 3) := by decide +kernel
theorem dX11_put_15 : decode cX11_put 15 = .ok (.iload_n 1, 1) := by decide +kernel
theorem dX11_put_16 : decode cX11_put 16 = .ok (.iload_n 2, 1) := by decide +kernel
theorem dX11_put_17 : decode cX11_put 17 = .ok (.iload_n 3, 1) := by decide +kernel
theorem dX11_put_18 : decode cX11_put 18 = .ok (.invokevirtual 198, 3) := by decide +kernel
theorem dX11_put_21 : decode cX11_put 21 = .ok (.ifCond .eq 5, 3) := by decide +kernel
theorem dX11_put_24 : decode cX11_put 24 = .ok (.iconst 0, 1) := by decide +kernel
theorem dX11_put_25 : decode cX11_put 25 = .ok (.ireturn, 1) := by decide +kernel
theorem dX11_put_26 : decode cX11_put 26 = .ok (.iload_n 2, 1) := by decide +kernel
theorem dX11_put_27 : decode cX11_put 27 = .ok (.iconst (-1), 1) := by decide +kernel
theorem dX11_put_28 : decode cX11_put 28 = .ok (.if_icmp .ne 12, 3) := by decide +kernel
theorem dX11_put_31 : decode cX11_put 31 = .ok (.iload_n 3, 1) := by decide +kernel
theorem dX11_put_32 : decode cX11_put 32 = .ok (.iconst (-1), 1) := by decide +kernel
theorem dX11_put_33 : decode cX11_put 33 = .ok (.if_icmp .ne 7, 3) := by decide +kernel
theorem dX11_put_36 : decode cX11_put 36 = .ok (.iconst 1, 1) := by decide +kernel
theorem dX11_put_37 : decode cX11_put 37 = .ok (.goto 4, 3) := by decide +kernel
theorem dX11_put_40 : decode cX11_put 40 = .ok (.iconst 0, 1) := by decide +kernel
theorem dX11_put_41 : decode cX11_put 41 = .ok (.istore 4, 2) := by decide +kernel
theorem dX11_put_43 : decode cX11_put 43 = .ok (.iload 4, 2) := by decide +kernel
theorem dX11_put_45 : decode cX11_put 45 = .ok (.ifCond .ne 25, 3) := by decide +kernel
theorem dX11_put_48 : decode cX11_put 48 = .ok (.aload_n 0, 1) := by decide +kernel
theorem dX11_put_49 : decode cX11_put 49 = .ok (.getfield 35, 3) := by decide +kernel
theorem dX11_put_52 : decode cX11_put 52 = .ok (.iload_n 2, 1) := by decide +kernel
theorem dX11_put_53 : decode cX11_put 53 = .ok (.invokevirtual 177, 3) := by decide +kernel
theorem dX11_put_56 : decode cX11_put 56 = .ok (.ifCond .eq 12, 3) := by decide +kernel
theorem dX11_put_59 : decode cX11_put 59 = .ok (.aload_n 0, 1) := by decide +kernel
theorem dX11_put_60 : decode cX11_put 60 = .ok (.iload_n 3, 1) := by decide +kernel
theorem dX11_put_61 : decode cX11_put 61 = .ok (.iload_n 2, 1) := by decide +kernel
theorem dX11_put_62 : decode cX11_put 62 = .ok (.invokevirtual 194, 3) := by decide +kernel
theorem dX11_put_65 : decode cX11_put 65 = .ok (.ifCond .ne 5, 3) := by decide +kernel
theorem dX11_put_68 : decode cX11_put 68 = .ok (.iconst 0, 1) := by decide +kernel
theorem dX11_put_69 : decode cX11_put 69 = .ok (.ireturn, 1) := by decide +kernel
theorem dX11_put_70 : decode cX11_put 70 = .ok (.aload_n 0, 1) := by decide +kernel
theorem dX11_put_71 : decode cX11_put 71 = .ok (.getfield 42, 3) := by decide +kernel
theorem dX11_put_74 : decode cX11_put 74 = .ok (.iload_n 1, 1) := by decide +kernel
theorem dX11_put_75 : decode cX11_put 75 = .ok (.iload_n 2, 1) := by decide +kernel
theorem dX11_put_76 : decode cX11_put 76 = .ok (.iload_n 3, 1) := by decide +kernel
theorem dX11_put_77 : decode cX11_put 77 = .ok (.invokevirtual 190, 3) := by decide +kernel
theorem dX11_put_80 : decode cX11_put 80 = .ok (.iconst 1, 1) := by decide +kernel
theorem dX11_put_81 : decode cX11_put 81 = .ok (.ireturn, 1) := by decide +kernel
theorem dX11_move_0 : decode cX11_move 0 = .ok (.aload_n 0, 1) := by decide +kernel
theorem dX11_move_1 : decode cX11_move 1 = .ok (.getfield 49, 3) := by decide +kernel
theorem dX11_move_4 : decode cX11_move 4 = .ok (.iload_n 1, 1) := by decide +kernel
theorem dX11_move_5 : decode cX11_move 5 = .ok (.invokevirtual 202, 3) := by decide +kernel
theorem dX11_move_8 : decode cX11_move 8 = .ok (.ifCond .eq 20, 3) := by decide +kernel
theorem dX11_move_11 : decode cX11_move 11 = .ok (.aload_n 0, 1) := by decide +kernel
theorem dX11_move_12 : decode cX11_move 12 = .ok (.iload_n 2, 1) := by decide +kernel
theorem dX11_move_13 : decode cX11_move 13 = .ok (.aload_n 0, 1) := by decide +kernel
theorem dX11_move_14 : decode cX11_move 14 = .ok (.getfield 49, 3) := by decide +kernel
theorem dX11_move_17 : decode cX11_move 17 = .ok (.getfield 203, 3) := by decide +kernel
theorem dX11_move_20 : decode cX11_move 20 = .ok (.iload_n 1, 1) := by decide +kernel
theorem dX11_move_21 : decode cX11_move 21 = .ok (.iaload, 1) := by decide +kernel
theorem dX11_move_22 : decode cX11_move 22 = .ok (.invokevirtual 194, 3) := by decide +kernel
theorem dX11_move_25 : decode cX11_move 25 = .ok (.ifCond .ne 5, 3) := by decide +kernel
theorem dX11_move_28 : decode cX11_move 28 = .ok (.iconst 0, 1) := by decide +kernel
theorem dX11_move_29 : decode cX11_move 29 = .ok (.ireturn, 1) := by decide +kernel
theorem dX11_move_30 : decode cX11_move 30 = .ok (.aload_n 0, 1) := by decide +kernel
theorem dX11_move_31 : decode cX11_move 31 = .ok (.getfield 49, 3) := by decide +kernel
theorem dX11_move_34 : decode cX11_move 34 = .ok (.getfield 206, 3) := by decide +kernel
theorem dX11_move_37 : decode cX11_move 37 = .ok (.iload_n 1, 1) := by decide +kernel
theorem dX11_move_38 : decode cX11_move 38 = .ok (.iaload, 1) := by decide +kernel
theorem dX11_move_39 : decode cX11_move 39 = .ok (.iload_n 2, 1) := by decide +kernel
theorem dX11_move_40 : decode cX11_move 40 = .ok (.if_icmp .eq 15, 3) := by decide +kernel
theorem dX11_move_43 : decode cX11_move 43 = .ok (.aload_n 0, 1) := by decide +kernel
theorem dX11_move_44 : decode cX11_move 44 = .ok (.getfield 49, 3) := by decide +kernel
theorem dX11_move_47 : decode cX11_move 47 = .ok (.iload_n 2, 1) := by decide +kernel
theorem dX11_move_48 : decode cX11_move 48 = .ok (.iload_n 1, 1) := by decide +kernel
theorem dX11_move_49 : decode cX11_move 49 = .ok (.invokevirtual 209, 3) := by decide +kernel
theorem dX11_move_52 : decode cX11_move 52 = .ok (.ifCond .eq 5, 3) := by decide +kernel
theorem dX11_move_55 : decode cX11_move 55 = .ok (.iconst 0, 1) := by decide +kernel
theorem dX11_move_56 : decode cX11_move 56 = .ok (.ireturn, 1) := by decide +kernel
theorem dX11_move_57 : decode cX11_move 57 = .ok (.aload_n 0, 1) := by decide +kernel
theorem dX11_move_58 : decode cX11_move 58 = .ok (.getfield 49, 3) := by decide +kernel
theorem dX11_move_61 : decode cX11_move 61 = .ok (.getfield 206, 3) := by decide +kernel
theorem dX11_move_64 : decode cX11_move 64 = .ok (.iload_n 1, 1) := by decide +kernel
theorem dX11_move_65 : decode cX11_move 65 = .ok (.iload_n 2, 1) := by decide +kernel
theorem dX11_move_66 : decode cX11_move 66 = .ok (.iastore, 1) := by decide +kernel
theorem dX11_move_67 : decode cX11_move 67 = .ok (.iconst 1, 1) := by decide +kernel
theorem dX11_move_68 : decode cX11_move 68 = .ok (.ireturn, 1) := by decide +kernel
theorem dX11_join_0 : decode cX11_join 0 = .ok (.aload_n 0, 1) := by decide +kernel
theorem dX11_join_1 : decode cX11_join 1 = .ok (.getfield 49, 3) := by decide +kernel
theorem dX11_join_4 : decode cX11_join 4 = .ok (.iload_n 1, 1) := by decide +kernel
theorem dX11_join_5 : decode cX11_join 5 = .ok (.invokevirtual 202, 3) := by decide +kernel
theorem dX11_join_8 : decode cX11_join 8 = .ok (.ifCond .eq 47, 3) := by decide +kernel
theorem dX11_join_11 : decode cX11_join 11 = .ok (.aload_n 0, 1) := by decide +kernel
theorem dX11_join_12 : decode cX11_join 12 = .ok (.getfield 49, 3) := by decide +kernel
theorem dX11_join_15 : decode cX11_join 15 = .ok (.iload_n 2, 1) := by decide +kernel
theorem dX11_join_16 : decode cX11_join 16 = .ok (.invokevirtual 202, 3) := by decide +kernel
theorem dX11_join_19 : decode cX11_join 19 = .ok (.ifCond .eq 36, 3) := by decide +kernel
theorem dX11_join_22 : decode cX11_join 22 = .ok (.aload_n 0, 1) := by decide +kernel
theorem dX11_join_23 : decode cX11_join 23 = .ok (.getfield 49, 3) := by decide +kernel
theorem dX11_join_26 : decode cX11_join 26 = .ok (.getfield 203, 3) := by decide +kernel
theorem dX11_join_29 : decode cX11_join 29 = .ok (.iload_n 1, 1) := by decide +kernel
theorem dX11_join_30 : decode cX11_join 30 = .ok (.iaload, 1) := by decide +kernel
theorem dX11_join_31 : decode cX11_join 31 = .ok (.aload_n 0, 1) := by decide +kernel
theorem dX11_join_32 : decode cX11_join 32 = .ok (.getfield 49, 3) := by decide +kernel
theorem dX11_join_35 : decode cX11_join 35 = .ok (.getfield 203, 3) := by decide +kernel
theorem dX11_join_38 : decode cX11_join 38 = .ok (.iload_n 2, 1) := by decide +kernel
theorem dX11_join_39 : decode cX11_join 39 = .ok (.iaload, 1) := by decide +kernel
theorem dX11_join_40 : decode cX11_join 40 = .ok (.if_icmp .ne 15, 3) := by decide +kernel
theorem dX11_join_43 : decode cX11_join 43 = .ok (.aload_n 0, 1) := by decide +kernel
theorem dX11_join_44 : decode cX11_join 44 = .ok (.getfield 49, 3) := by decide +kernel
theorem dX11_join_47 : decode cX11_join 47 = .ok (.iload_n 2, 1) := by decide +kernel
theorem dX11_join_48 : decode cX11_join 48 = .ok (.iload_n 1, 1) := by decide +kernel
theorem dX11_join_49 : decode cX11_join 49 = .ok (.invokevirtual 209, 3) := by decide +kernel
theorem dX11_join_52 : decode cX11_join 52 = .ok (.ifCond .eq 5, 3) := by decide +kernel
theorem dX11_join_55 : decode cX11_join 55 = .ok (.iconst 0, 1) := by decide +kernel
theorem dX11_join_56 : decode cX11_join 56 = .ok (.ireturn, 1) := by decide +kernel
theorem dX11_join_57 : decode cX11_join 57 = .ok (.aload_n 0, 1) := by decide +kernel
theorem dX11_join_58 : decode cX11_join 58 = .ok (.getfield 42, 3) := by decide +kernel
theorem dX11_join_61 : decode cX11_join 61 = .ok (.iload_n 1, 1) := by decide +kernel
theorem dX11_join_62 : decode cX11_join 62 = .ok (.iload_n 2, 1) := by decide +kernel
theorem dX11_join_63 : decode cX11_join 63 = .ok (.invokevirtual 212, 3) := by decide +kernel
theorem dX11_join_66 : decode cX11_join 66 = .ok (.aload_n 0, 1) := by decide +kernel
theorem dX11_join_67 : decode cX11_join 67 = .ok (.getfield 49, 3) := by decide +kernel
theorem dX11_join_70 : decode cX11_join 70 = .ok (.iload_n 1, 1) := by decide +kernel
theorem dX11_join_71 : decode cX11_join 71 = .ok (.iload_n 2, 1) := by decide +kernel
theorem dX11_join_72 : decode cX11_join 72 = .ok (.invokevirtual 216, 3) := by decide +kernel
theorem dX11_join_75 : decode cX11_join 75 = .ok (.aload_n 0, 1) := by decide +kernel
theorem dX11_join_76 : decode cX11_join 76 = .ok (.iload_n 1, 1) := by decide +kernel
theorem dX11_join_77 : decode cX11_join 77 = .ok (.invokevirtual 219, 3) := by decide +kernel
theorem dX11_join_80 : decode cX11_join 80 = .ok (.iconst 1, 1) := by decide +kernel
theorem dX11_join_81 : decode cX11_join 81 = .ok (.ireturn, 1) := by decide +kernel
theorem dX11_part_0 : decode cX11_part 0 = .ok (.aload_n 0, 1) := by decide +kernel
theorem dX11_part_1 : decode cX11_part 1 = .ok (.getfield 49, 3) := by decide +kernel
theorem dX11_part_4 : decode cX11_part 4 = .ok (.iload_n 1, 1) := by decide +kernel
theorem dX11_part_5 : decode cX11_part 5 = .ok (.invokevirtual 202, 3) := by decide +kernel
theorem dX11_part_8 : decode cX11_part 8 = .ok (.ifCond .ne 5, 3) := by decide +kernel
theorem dX11_part_11 : decode cX11_part 11 = .ok (.iconst (-1), 1) := by decide +kernel
theorem dX11_part_12 : decode cX11_part 12 = .ok (.ireturn, 1) := by decide +kernel
theorem dX11_part_13 : decode cX11_part 13 = .ok (.aload_n 0, 1) := by decide +kernel
theorem dX11_part_14 : decode cX11_part 14 = .ok (.getfield 49, 3) := by decide +kernel
theorem dX11_part_17 : decode cX11_part 17 = .ok (.aload_n 0, 1) := by decide +kernel
theorem dX11_part_18 : decode cX11_part 18 = .ok (.getfield 49, 3) := by decide +kernel
theorem dX11_part_21 : decode cX11_part 21 = .ok (.getfield 203, 3) := by decide +kernel
theorem dX11_part_24 : decode cX11_part 24 = .ok (.iload_n 1, 1) := by decide +kernel
theorem dX11_part_25 : decode cX11_part 25 = .ok (.iaload, 1) := by decide +kernel
theorem dX11_part_26 : decode cX11_part 26 = .ok (.aload_n 0, 1) := by decide +kernel
theorem dX11_part_27 : decode cX11_part 27 = .ok (.getfield 49, 3) := by decide +kernel
theorem dX11_part_30 : decode cX11_part 30 = .ok (.getfield 206, 3) := by decide +kernel
theorem dX11_part_33 : decode cX11_part 33 = .ok (.iload_n 1, 1) := by decide +kernel
theorem dX11_part_34 : decode cX11_part 34 = .ok (.iaload, 1) := by decide +kernel
theorem dX11_part_35 : decode cX11_part 35 = .ok (.invokevirtual 197, 3) := by decide +kernel
theorem dX11_part_38 : decode cX11_part 38 = .ok (.ireturn, 1) := by decide +kernel
theorem dX11_drop_0 : decode cX11_drop 0 = .ok (.aload_n 0, 1) := by decide +kernel
theorem dX11_drop_1 : decode cX11_drop 1 = .ok (.getfield 49, 3) := by decide +kernel
theorem dX11_drop_4 : decode cX11_drop 4 = .ok (.iload_n 1, 1) := by decide +kernel
theorem dX11_drop_5 : decode cX11_drop 5 = .ok (.invokevirtual 202, 3) := by decide +kernel
theorem dX11_drop_8 : decode cX11_drop 8 = .ok (.ifCond .eq 34, 3) := by decide +kernel
theorem dX11_drop_11 : decode cX11_drop 11 = .ok (.aload_n 0, 1) := by decide +kernel
theorem dX11_drop_12 : decode cX11_drop 12 = .ok (.getfield 49, 3) := by decide +kernel
theorem dX11_drop_15 : decode cX11_drop 15 = .ok (.iload_n 1, 1) := by decide +kernel
theorem dX11_drop_16 : decode cX11_drop 16 = .ok (.invokevirtual 222, 3) := by decide +kernel
theorem dX11_drop_19 : decode cX11_drop 19 = .ok (.ifCond .gt 23, 3) := by decide +kernel
theorem dX11_drop_22 : decode cX11_drop 22 = .ok (.aload_n 0, 1) := by decide +kernel
theorem dX11_drop_23 : decode cX11_drop 23 = .ok (.getfield 42, 3) := by decide +kernel
theorem dX11_drop_26 : decode cX11_drop 26 = .ok (.aload_n 0, 1) := by decide +kernel
theorem dX11_drop_27 : decode cX11_drop 27 = .ok (.getfield 49, 3) := by decide +kernel
theorem dX11_drop_30 : decode cX11_drop 30 = .ok (.getfield 203, 3) := by decide +kernel
theorem dX11_drop_33 : decode cX11_drop 33 = .ok (.iload_n 1, 1) := by decide +kernel
theorem dX11_drop_34 : decode cX11_drop 34 = .ok (.iaload, 1) := by decide +kernel
theorem dX11_drop_35 : decode cX11_drop 35 = .ok (.iload_n 1, 1) := by decide +kernel
theorem dX11_drop_36 : decode cX11_drop 36 = .ok (.invokevirtual 225, 3) := by decide +kernel
theorem dX11_drop_39 : decode cX11_drop 39 = .ok (.ifCond .le 5, 3) := by decide +kernel
theorem dX11_drop_42 : decode cX11_drop 42 = .ok (.iconst 0, 1) := by decide +kernel
theorem dX11_drop_43 : decode cX11_drop 43 = .ok (.ireturn, 1) := by decide +kernel
theorem dX11_drop_44 : decode cX11_drop 44 = .ok (.aload_n 0, 1) := by decide +kernel
theorem dX11_drop_45 : decode cX11_drop 45 = .ok (.iload_n 1, 1) := by decide +kernel
theorem dX11_drop_46 : decode cX11_drop 46 = .ok (.invokevirtual 219, 3) := by decide +kernel
theorem dX11_drop_49 : decode cX11_drop 49 = .ok (.iconst 1, 1) := by decide +kernel
theorem dX11_drop_50 : decode cX11_drop 50 = .ok (.ireturn, 1) := by decide +kernel
theorem dX11_point_0 : decode cX11_point 0 = .ok (.aload_n 0, 1) := by decide +kernel
theorem dX11_point_1 : decode cX11_point 1 = .ok (.getfield 49, 3) := by decide +kernel
theorem dX11_point_4 : decode cX11_point 4 = .ok (.iload_n 1, 1) := by decide +kernel
theorem dX11_point_5 : decode cX11_point 5 = .ok (.invokevirtual 202, 3) := by decide +kernel
theorem dX11_point_8 : decode cX11_point 8 = .ok (.ifCond .eq 31, 3) := by decide +kernel
theorem dX11_point_11 : decode cX11_point 11 = .ok (.aload_n 0, 1) := by decide +kernel
theorem dX11_point_12 : decode cX11_point 12 = .ok (.getfield 49, 3) := by decide +kernel
theorem dX11_point_15 : decode cX11_point 15 = .ok (.iload_n 2, 1) := by decide +kernel
theorem dX11_point_16 : decode cX11_point 16 = .ok (.invokevirtual 202, 3) := by decide +kernel
theorem dX11_point_19 : decode cX11_point 19 = .ok (.ifCond .eq 20, 3) := by decide +kernel
theorem dX11_point_22 : decode cX11_point 22 = .ok (.iload_n 1, 1) := by decide +kernel
theorem dX11_point_23 : decode cX11_point 23 = .ok (.iload_n 2, 1) := by decide +kernel
theorem dX11_point_24 : decode cX11_point 24 = .ok (.if_icmp .eq 15, 3) := by decide +kernel
theorem dX11_point_27 : decode cX11_point 27 = .ok (.aload_n 0, 1) := by decide +kernel
theorem dX11_point_28 : decode cX11_point 28 = .ok (.getfield 65, 3) := by decide +kernel
theorem dX11_point_31 : decode cX11_point 31 = .ok (.getfield 228, 3) := by decide +kernel
theorem dX11_point_34 : decode cX11_point 34 = .ok (.bipush 20, 2) := by decide +kernel
theorem dX11_point_36 : decode cX11_point 36 = .ok (.if_icmp .lt 5, 3) := by decide +kernel
theorem dX11_point_39 : decode cX11_point 39 = .ok (.iconst (-1), 1) := by decide +kernel
theorem dX11_point_40 : decode cX11_point 40 = .ok (.ireturn, 1) := by decide +kernel
theorem dX11_point_41 : decode cX11_point 41 = .ok (.aload_n 0, 1) := by decide +kernel
theorem dX11_point_42 : decode cX11_point 42 = .ok (.getfield 65, 3) := by decide +kernel
theorem dX11_point_45 : decode cX11_point 45 = .ok (.iload_n 1, 1) := by decide +kernel
theorem dX11_point_46 : decode cX11_point 46 = .ok (.iload_n 2, 1) := by decide +kernel
theorem dX11_point_47 : decode cX11_point 47 = .ok (.invokevirtual 229, 3) := by decide +kernel
theorem dX11_point_50 : decode cX11_point 50 = .ok (.ireturn, 1) := by decide +kernel
theorem dX11_lead_0 : decode cX11_lead 0 = .ok (.aload_n 0, 1) := by decide +kernel
theorem dX11_lead_1 : decode cX11_lead 1 = .ok (.getfield 65, 3) := by decide +kernel
theorem dX11_lead_4 : decode cX11_lead 4 = .ok (.iload_n 1, 1) := by decide +kernel
theorem dX11_lead_5 : decode cX11_lead 5 = .ok (.invokevirtual 230, 3) := by decide +kernel
theorem dX11_lead_8 : decode cX11_lead 8 = .ok (.ifCond .eq 14, 3) := by decide +kernel
theorem dX11_lead_11 : decode cX11_lead 11 = .ok (.aload_n 0, 1) := by decide +kernel
theorem dX11_lead_12 : decode cX11_lead 12 = .ok (.getfield 65, 3) := by decide +kernel
theorem dX11_lead_15 : decode cX11_lead 15 = .ok (.iload_n 1, 1) := by decide +kernel
theorem dX11_lead_16 : decode cX11_lead 16 = .ok (.invokevirtual 231, 3) := by decide +kernel
theorem dX11_lead_19 : decode cX11_lead 19 = .ok (.ifCond .ne 5, 3) := by decide +kernel
theorem dX11_lead_22 : decode cX11_lead 22 = .ok (.iconst 0, 1) := by decide +kernel
theorem dX11_lead_23 : decode cX11_lead 23 = .ok (.ireturn, 1) := by decide +kernel
theorem dX11_lead_24 : decode cX11_lead 24 = .ok (.iload_n 2, 1) := by decide +kernel
theorem dX11_lead_25 : decode cX11_lead 25 = .ok (.iconst (-1), 1) := by decide +kernel
theorem dX11_lead_26 : decode cX11_lead 26 = .ok (.if_icmp .ne 13, 3) := by decide +kernel
theorem dX11_lead_29 : decode cX11_lead 29 = .ok (.aload_n 0, 1) := by decide +kernel
theorem dX11_lead_30 : decode cX11_lead 30 = .ok (.getfield 65, 3) := by decide +kernel
theorem dX11_lead_33 : decode cX11_lead 33 = .ok (.iload_n 1, 1) := by decide +kernel
theorem dX11_lead_34 : decode cX11_lead 34 = .ok (.invokevirtual 232, 3) := by decide +kernel
theorem dX11_lead_37 : decode cX11_lead 37 = .ok (.iconst 1, 1) := by decide +kernel
theorem dX11_lead_38 : decode cX11_lead 38 = .ok (.ireturn, 1) := by decide +kernel
theorem dX11_lead_39 : decode cX11_lead 39 = .ok (.aload_n 0, 1) := by decide +kernel
theorem dX11_lead_40 : decode cX11_lead 40 = .ok (.getfield 49, 3) := by decide +kernel
theorem dX11_lead_43 : decode cX11_lead 43 = .ok (.iload_n 2, 1) := by decide +kernel
theorem dX11_lead_44 : decode cX11_lead 44 = .ok (.invokevirtual 202, 3) := by decide +kernel
theorem dX11_lead_47 : decode cX11_lead 47 = .ok (.ifCond .eq 16, 3) := by decide +kernel
theorem dX11_lead_50 : decode cX11_lead 50 = .ok (.aload_n 0, 1) := by decide +kernel
theorem dX11_lead_51 : decode cX11_lead 51 = .ok (.getfield 65, 3) := by decide +kernel
theorem dX11_lead_54 : decode cX11_lead 54 = .ok (.getfield 235, 3) := by decide +kernel
theorem dX11_lead_57 : decode cX11_lead 57 = .ok (.iload_n 1, 1) := by decide +kernel
theorem dX11_lead_58 : decode cX11_lead 58 = .ok (.iaload, 1) := by decide +kernel
theorem dX11_lead_59 : decode cX11_lead 59 = .ok (.iload_n 2, 1) := by decide +kernel
theorem dX11_lead_60 : decode cX11_lead 60 = .ok (.if_icmp .ne 5, 3) := by decide +kernel
theorem dX11_lead_63 : decode cX11_lead 63 = .ok (.iconst 0, 1) := by decide +kernel
theorem dX11_lead_64 : decode cX11_lead 64 = .ok (.ireturn, 1) := by decide +kernel
theorem dX11_lead_65 : decode cX11_lead 65 = .ok (.aload_n 0, 1) := by decide +kernel
theorem dX11_lead_66 : decode cX11_lead 66 = .ok (.getfield 65, 3) := by decide +kernel
theorem dX11_lead_69 : decode cX11_lead 69 = .ok (.getfield 238, 3) := by decide +kernel
theorem dX11_lead_72 : decode cX11_lead 72 = .ok (.iload_n 1, 1) := by decide +kernel
theorem dX11_lead_73 : decode cX11_lead 73 = .ok (.iload_n 2, 1) := by decide +kernel
theorem dX11_lead_74 : decode cX11_lead 74 = .ok (.iastore, 1) := by decide +kernel
theorem dX11_lead_75 : decode cX11_lead 75 = .ok (.iconst 1, 1) := by decide +kernel
theorem dX11_lead_76 : decode cX11_lead 76 = .ok (.ireturn, 1) := by decide +kernel
theorem dX11_told_0 : decode cX11_told 0 = .ok (.aload_n 0, 1) := by decide +kernel
theorem dX11_told_1 : decode cX11_told 1 = .ok (.getfield 49, 3) := by decide +kernel
theorem dX11_told_4 : decode cX11_told 4 = .ok (.iload_n 1, 1) := by decide +kernel
theorem dX11_told_5 : decode cX11_told 5 = .ok (.invokevirtual 202, 3) := by decide +kernel
theorem dX11_told_8 : decode cX11_told 8 = .ok (.ifCond .ne 5, 3) := by decide +kernel
theorem dX11_told_11 : decode cX11_told 11 = .ok (.iconst (-1), 1) := by decide +kernel
theorem dX11_told_12 : decode cX11_told 12 = .ok (.ireturn, 1) := by decide +kernel
theorem dX11_told_13 : decode cX11_told 13 = .ok (.aload_n 0, 1) := by decide +kernel
theorem dX11_told_14 : decode cX11_told 14 = .ok (.getfield 58, 3) := by decide +kernel
theorem dX11_told_17 : decode cX11_told 17 = .ok (.invokevirtual 241, 3) := by decide +kernel
theorem dX11_told_20 : decode cX11_told 20 = .ok (.iload_n 2, 1) := by decide +kernel
theorem dX11_told_21 : decode cX11_told 21 = .ok (.iconst 4, 1) := by decide +kernel
theorem dX11_told_22 : decode cX11_told 22 = .ok (.if_icmp .lt 40, 3) := by decide +kernel
theorem dX11_told_25 : decode cX11_told 25 = .ok (.iload_n 2, 1) := by decide +kernel
theorem dX11_told_26 : decode cX11_told 26 = .ok (.bipush 8, 2) := by decide +kernel
theorem dX11_told_28 : decode cX11_told 28 = .ok (.if_icmp .gt 34, 3) := by decide +kernel
theorem dX11_told_31 : decode cX11_told 31 = .ok (.aload_n 0, 1) := by decide +kernel
theorem dX11_told_32 : decode cX11_told 32 = .ok (.getfield 58, 3) := by decide +kernel
theorem dX11_told_35 : decode cX11_told 35 = .ok (.getfield 244, 3) := by decide +kernel
theorem dX11_told_38 : decode cX11_told 38 = .ok (.iload_n 1, 1) := by decide +kernel
theorem dX11_told_39 : decode cX11_told 39 = .ok (.iaload, 1) := by decide +kernel
theorem dX11_told_40 : decode cX11_told 40 = .ok (.ifCond .ne 7, 3) := by decide +kernel
theorem dX11_told_43 : decode cX11_told 43 = .ok (.iconst (-1), 1) := by decide +kernel
theorem dX11_told_44 : decode cX11_told 44 = .ok (.goto 17, 3) := by decide +kernel
theorem dX11_told_47 : decode cX11_told 47 = .ok (.aload_n 0, 1) := by decide +kernel
theorem dX11_told_48 : decode cX11_told 48 = .ok (.aload_n 0, 1) := by decide +kernel
theorem dX11_told_49 : decode cX11_told 49 = .ok (.getfield 58, 3) := by decide +kernel
theorem dX11_told_52 : decode cX11_told 52 = .ok (.getfield 247, 3) := by decide +kernel
theorem dX11_told_55 : decode cX11_told 55 = .ok (.iload_n 1, 1) := by decide +kernel
theorem dX11_told_56 : decode cX11_told 56 = .ok (.iaload, 1) := by decide +kernel
theorem dX11_told_57 : decode cX11_told 57 = .ok (.iload_n 2, 1) := by decide +kernel
theorem dX11_told_58 : decode cX11_told 58 = .ok (.invokevirtual 250, 3) := by decide +kernel
theorem dX11_told_61 : decode cX11_told 61 = .ok (.ireturn, 1) := by decide +kernel
theorem dX11_told_62 : decode cX11_told 62 = .ok (.iload_n 2, 1) := by decide +kernel
theorem dX11_told_63 : decode cX11_told 63 = .ok (.tableswitch 129 0 11 #[61, 71, 81, 91, 129, 129, 129, 129, 129, 101, 111, 120], 61) := by decide +kernel
theorem dX11_told_124 : decode cX11_told 124 = .ok (.aload_n 0, 1) := by decide +kernel
theorem dX11_told_125 : decode cX11_told 125 = .ok (.getfield 49, 3) := by decide +kernel
theorem dX11_told_128 : decode cX11_told 128 = .ok (.getfield 203, 3) := by decide +kernel
theorem dX11_told_131 : decode cX11_told 131 = .ok (.iload_n 1, 1) := by decide +kernel
theorem dX11_told_132 : decode cX11_told 132 = .ok (.iaload, 1) := by decide +kernel
theorem dX11_told_133 : decode cX11_told 133 = .ok (.ireturn, 1) := by decide +kernel
theorem dX11_told_134 : decode cX11_told 134 = .ok (.aload_n 0, 1) := by decide +kernel
theorem dX11_told_135 : decode cX11_told 135 = .ok (.getfield 49, 3) := by decide +kernel
theorem dX11_told_138 : decode cX11_told 138 = .ok (.getfield 206, 3) := by decide +kernel
theorem dX11_told_141 : decode cX11_told 141 = .ok (.iload_n 1, 1) := by decide +kernel
theorem dX11_told_142 : decode cX11_told 142 = .ok (.iaload, 1) := by decide +kernel
theorem dX11_told_143 : decode cX11_told 143 = .ok (.ireturn, 1) := by decide +kernel
theorem dX11_told_144 : decode cX11_told 144 = .ok (.aload_n 0, 1) := by decide +kernel
theorem dX11_told_145 : decode cX11_told 145 = .ok (.getfield 58, 3) := by decide +kernel
theorem dX11_told_148 : decode cX11_told 148 = .ok (.getfield 253, 3) := by decide +kernel
theorem dX11_told_151 : decode cX11_told 151 = .ok (.iload_n 1, 1) := by decide +kernel
theorem dX11_told_152 : decode cX11_told 152 = .ok (.iaload, 1) := by decide +kernel
theorem dX11_told_153 : decode cX11_told 153 = .ok (.ireturn, 1) := by decide +kernel
theorem dX11_told_154 : decode cX11_told 154 = .ok (.aload_n 0, 1) := by decide +kernel
theorem dX11_told_155 : decode cX11_told 155 = .ok (.getfield 58, 3) := by decide +kernel
theorem dX11_told_158 : decode cX11_told 158 = .ok (.getfield 244, 3) := by decide +kernel
theorem dX11_told_161 : decode cX11_told 161 = .ok (.iload_n 1, 1) := by decide +kernel
theorem dX11_told_162 : decode cX11_told 162 = .ok (.iaload, 1) := by decide +kernel
theorem dX11_told_163 : decode cX11_told 163 = .ok (.ireturn, 1) := by decide +kernel
theorem dX11_told_164 : decode cX11_told 164 = .ok (.aload_n 0, 1) := by decide +kernel
theorem dX11_told_165 : decode cX11_told 165 = .ok (.getfield 58, 3) := by decide +kernel
theorem dX11_told_168 : decode cX11_told 168 = .ok (.getfield 256, 3) := by decide +kernel
theorem dX11_told_171 : decode cX11_told 171 = .ok (.iload_n 1, 1) := by decide +kernel
theorem dX11_told_172 : decode cX11_told 172 = .ok (.iaload, 1) := by decide +kernel
theorem dX11_told_173 : decode cX11_told 173 = .ok (.ireturn, 1) := by decide +kernel
theorem dX11_told_174 : decode cX11_told 174 = .ok (.aload_n 0, 1) := by decide +kernel
theorem dX11_told_175 : decode cX11_told 175 = .ok (.getfield 49, 3) := by decide +kernel
theorem dX11_told_178 : decode cX11_told 178 = .ok (.iload_n 1, 1) := by decide +kernel
theorem dX11_told_179 : decode cX11_told 179 = .ok (.invokevirtual 222, 3) := by decide +kernel
theorem dX11_told_182 : decode cX11_told 182 = .ok (.ireturn, 1) := by decide +kernel
theorem dX11_told_183 : decode cX11_told 183 = .ok (.aload_n 0, 1) := by decide +kernel
theorem dX11_told_184 : decode cX11_told 184 = .ok (.getfield 49, 3) := by decide +kernel
theorem dX11_told_187 : decode cX11_told 187 = .ok (.iload_n 1, 1) := by decide +kernel
theorem dX11_told_188 : decode cX11_told 188 = .ok (.invokevirtual 258, 3) := by decide +kernel
theorem dX11_told_191 : decode cX11_told 191 = .ok (.ireturn, 1) := by decide +kernel
theorem dX11_told_192 : decode cX11_told 192 = .ok (.iconst (-1), 1) := by decide +kernel
theorem dX11_told_193 : decode cX11_told 193 = .ok (.ireturn, 1) := by decide +kernel
theorem dX11_older_0 : decode cX11_older 0 = .ok (.aload_n 0, 1) := by decide +kernel
theorem dX11_older_1 : decode cX11_older 1 = .ok (.getfield 49, 3) := by decide +kernel
theorem dX11_older_4 : decode cX11_older 4 = .ok (.iload_n 1, 1) := by decide +kernel
theorem dX11_older_5 : decode cX11_older 5 = .ok (.invokevirtual 202, 3) := by decide +kernel
theorem dX11_older_8 : decode cX11_older 8 = .ok (.ifCond .eq 14, 3) := by decide +kernel
theorem dX11_older_11 : decode cX11_older 11 = .ok (.aload_n 0, 1) := by decide +kernel
theorem dX11_older_12 : decode cX11_older 12 = .ok (.getfield 49, 3) := by decide +kernel
theorem dX11_older_15 : decode cX11_older 15 = .ok (.iload_n 2, 1) := by decide +kernel
theorem dX11_older_16 : decode cX11_older 16 = .ok (.invokevirtual 202, 3) := by decide +kernel
theorem dX11_older_19 : decode cX11_older 19 = .ok (.ifCond .ne 5, 3) := by decide +kernel
theorem dX11_older_22 : decode cX11_older 22 = .ok (.iconst (-1), 1) := by decide +kernel
theorem dX11_older_23 : decode cX11_older 23 = .ok (.ireturn, 1) := by decide +kernel
theorem dX11_older_24 : decode cX11_older 24 = .ok (.aload_n 0, 1) := by decide +kernel
theorem dX11_older_25 : decode cX11_older 25 = .ok (.getfield 58, 3) := by decide +kernel
theorem dX11_older_28 : decode cX11_older 28 = .ok (.invokevirtual 241, 3) := by decide +kernel
theorem dX11_older_31 : decode cX11_older 31 = .ok (.aload_n 0, 1) := by decide +kernel
theorem dX11_older_32 : decode cX11_older 32 = .ok (.getfield 58, 3) := by decide +kernel
theorem dX11_older_35 : decode cX11_older 35 = .ok (.getfield 244, 3) := by decide +kernel
theorem dX11_older_38 : decode cX11_older 38 = .ok (.iload_n 1, 1) := by decide +kernel
theorem dX11_older_39 : decode cX11_older 39 = .ok (.iaload, 1) := by decide +kernel
theorem dX11_older_40 : decode cX11_older 40 = .ok (.ifCond .eq 15, 3) := by decide +kernel
theorem dX11_older_43 : decode cX11_older 43 = .ok (.aload_n 0, 1) := by decide +kernel
theorem dX11_older_44 : decode cX11_older 44 = .ok (.getfield 58, 3) := by decide +kernel
theorem dX11_older_47 : decode cX11_older 47 = .ok (.getfield 244, 3) := by decide +kernel
theorem dX11_older_50 : decode cX11_older 50 = .ok (.iload_n 2, 1) := by decide +kernel
theorem dX11_older_51 : decode cX11_older 51 = .ok (.iaload, 1) := by decide +kernel
theorem dX11_older_52 : decode cX11_older 52 = .ok (.ifCond .ne 5, 3) := by decide +kernel
theorem dX11_older_55 : decode cX11_older 55 = .ok (.iconst (-1), 1) := by decide +kernel
theorem dX11_older_56 : decode cX11_older 56 = .ok (.ireturn, 1) := by decide +kernel
theorem dX11_older_57 : decode cX11_older 57 = .ok (.aload_n 0, 1) := by decide +kernel
theorem dX11_older_58 : decode cX11_older 58 = .ok (.getfield 19, 3) := by decide +kernel
theorem dX11_older_61 : decode cX11_older 61 = .ok (.aload_n 0, 1) := by decide +kernel
theorem dX11_older_62 : decode cX11_older 62 = .ok (.getfield 58, 3) := by decide +kernel
theorem dX11_older_65 : decode cX11_older 65 = .ok (.getfield 247, 3) := by decide +kernel
theorem dX11_older_68 : decode cX11_older 68 = .ok (.iload_n 1, 1) := by decide +kernel
theorem dX11_older_69 : decode cX11_older 69 = .ok (.iaload, 1) := by decide +kernel
theorem dX11_older_70 : decode cX11_older 70 = .ok (.aload_n 0, 1) := by decide +kernel
theorem dX11_older_71 : decode cX11_older 71 = .ok (.getfield 58, 3) := by decide +kernel
theorem dX11_older_74 : decode cX11_older 74 = .ok (.getfield 247, 3) := by decide +kernel
theorem dX11_older_77 : decode cX11_older 77 = .ok (.iload_n 2, 1) := by decide +kernel
theorem dX11_older_78 : decode cX11_older 78 = .ok (.iaload, 1) := by decide +kernel
theorem dX11_older_79 : decode cX11_older 79 = .ok (.invokevirtual 261, 3) := by decide +kernel
theorem dX11_older_82 : decode cX11_older 82 = .ok (.ifCond .eq 5, 3) := by decide +kernel
theorem dX11_older_85 : decode cX11_older 85 = .ok (.iconst 1, 1) := by decide +kernel
theorem dX11_older_86 : decode cX11_older 86 = .ok (.ireturn, 1) := by decide +kernel
theorem dX11_older_87 : decode cX11_older 87 = .ok (.aload_n 0, 1) := by decide +kernel
theorem dX11_older_88 : decode cX11_older 88 = .ok (.getfield 19, 3) := by decide +kernel
theorem dX11_older_91 : decode cX11_older 91 = .ok (.aload_n 0, 1) := by decide +kernel
theorem dX11_older_92 : decode cX11_older 92 = .ok (.getfield 58, 3) := by decide +kernel
theorem dX11_older_95 : decode cX11_older 95 = .ok (.getfield 247, 3) := by decide +kernel
theorem dX11_older_98 : decode cX11_older 98 = .ok (.iload_n 2, 1) := by decide +kernel
theorem dX11_older_99 : decode cX11_older 99 = .ok (.iaload, 1) := by decide +kernel
theorem dX11_older_100 : decode cX11_older 100 = .ok (.aload_n 0, 1) := by decide +kernel
theorem dX11_older_101 : decode cX11_older 101 = .ok (.getfield 58, 3) := by decide +kernel
theorem dX11_older_104 : decode cX11_older 104 = .ok (.getfield 247, 3) := by decide +kernel
theorem dX11_older_107 : decode cX11_older 107 = .ok (.iload_n 1, 1) := by decide +kernel
theorem dX11_older_108 : decode cX11_older 108 = .ok (.iaload, 1) := by decide +kernel
theorem dX11_older_109 : decode cX11_older 109 = .ok (.invokevirtual 261, 3) := by decide +kernel
theorem dX11_older_112 : decode cX11_older 112 = .ok (.ifCond .eq 7, 3) := by decide +kernel
theorem dX11_older_115 : decode cX11_older 115 = .ok (.iconst 2, 1) := by decide +kernel
theorem dX11_older_116 : decode cX11_older 116 = .ok (.goto 4, 3) := by decide +kernel
theorem dX11_older_119 : decode cX11_older 119 = .ok (.iconst 0, 1) := by decide +kernel
theorem dX11_older_120 : decode cX11_older 120 = .ok (.ireturn, 1) := by decide +kernel
theorem dX11_flaw_0 : decode cX11_flaw 0 = .ok (.aload_n 0, 1) := by decide +kernel
theorem dX11_flaw_1 : decode cX11_flaw 1 = .ok (.getfield 58, 3) := by decide +kernel
theorem dX11_flaw_4 : decode cX11_flaw 4 = .ok (.invokevirtual 241, 3) := by decide +kernel
theorem dX11_flaw_7 : decode cX11_flaw 7 = .ok (.iconst 0, 1) := by decide +kernel
theorem dX11_flaw_8 : decode cX11_flaw 8 = .ok (.istore_n 2, 1) := by decide +kernel
theorem dX11_flaw_9 : decode cX11_flaw 9 = .ok (.iconst 0, 1) := by decide +kernel
theorem dX11_flaw_10 : decode cX11_flaw 10 = .ok (.istore_n 3, 1) := by decide +kernel
theorem dX11_flaw_11 : decode cX11_flaw 11 = .ok (.iload_n 3, 1) := by decide +kernel
theorem dX11_flaw_12 : decode cX11_flaw 12 = .ok (.sipush 2560, 3) := by decide +kernel
theorem dX11_flaw_15 : decode cX11_flaw 15 = .ok (.if_icmp .ge 37, 3) := by decide +kernel
theorem dX11_flaw_18 : decode cX11_flaw 18 = .ok (.aload_n 0, 1) := by decide +kernel
theorem dX11_flaw_19 : decode cX11_flaw 19 = .ok (.getfield 58, 3) := by decide +kernel
theorem dX11_flaw_22 : decode cX11_flaw 22 = .ok (.iload_n 3, 1) := by decide +kernel
theorem dX11_flaw_23 : decode cX11_flaw 23 = .ok (.bipush 64, 2) := by decide +kernel
theorem dX11_flaw_25 : decode cX11_flaw 25 = .ok (.idiv, 1) := by decide +kernel
theorem dX11_flaw_26 : decode cX11_flaw 26 = .ok (.iload_n 3, 1) := by decide +kernel
theorem dX11_flaw_27 : decode cX11_flaw 27 = .ok (.bipush 64, 2) := by decide +kernel
theorem dX11_flaw_29 : decode cX11_flaw 29 = .ok (.irem, 1) := by decide +kernel
theorem dX11_flaw_30 : decode cX11_flaw 30 = .ok (.invokevirtual 264, 3) := by decide +kernel
theorem dX11_flaw_33 : decode cX11_flaw 33 = .ok (.ifCond .eq 13, 3) := by decide +kernel
theorem dX11_flaw_36 : decode cX11_flaw 36 = .ok (.iload_n 2, 1) := by decide +kernel
theorem dX11_flaw_37 : decode cX11_flaw 37 = .ok (.iload_n 1, 1) := by decide +kernel
theorem dX11_flaw_38 : decode cX11_flaw 38 = .ok (.if_icmp .ne 5, 3) := by decide +kernel
theorem dX11_flaw_41 : decode cX11_flaw 41 = .ok (.iload_n 3, 1) := by decide +kernel
theorem dX11_flaw_42 : decode cX11_flaw 42 = .ok (.ireturn, 1) := by decide +kernel
theorem dX11_flaw_43 : decode cX11_flaw 43 = .ok (.iinc 2 1, 3) := by decide +kernel
theorem dX11_flaw_46 : decode cX11_flaw 46 = .ok (.iinc 3 1, 3) := by decide +kernel
theorem dX11_flaw_49 : decode cX11_flaw 49 = .ok (.goto (-38), 3) := by decide +kernel
theorem dX11_flaw_52 : decode cX11_flaw 52 = .ok (.iconst (-1), 1) := by decide +kernel
theorem dX11_flaw_53 : decode cX11_flaw 53 = .ok (.ireturn, 1) := by decide +kernel
theorem dX11_where_0 : decode cX11_where 0 = .ok (.aload_n 0, 1) := by decide +kernel
theorem dX11_where_1 : decode cX11_where 1 = .ok (.getfield 42, 3) := by decide +kernel
theorem dX11_where_4 : decode cX11_where 4 = .ok (.iload_n 1, 1) := by decide +kernel
theorem dX11_where_5 : decode cX11_where 5 = .ok (.invokevirtual 176, 3) := by decide +kernel
theorem dX11_where_8 : decode cX11_where 8 = .ok (.ifCond .ne 5, 3) := by decide +kernel
theorem dX11_where_11 : decode cX11_where 11 = .ok (.iconst (-1), 1) := by decide +kernel
theorem dX11_where_12 : decode cX11_where 12 = .ok (.ireturn, 1) := by decide +kernel
theorem dX11_where_13 : decode cX11_where 13 = .ok (.iload_n 2, 1) := by decide +kernel
theorem dX11_where_14 : decode cX11_where 14 = .ok (.tableswitch 93 0 4 #[34, 44, 54, 68, 78], 34) := by decide +kernel
theorem dX11_where_48 : decode cX11_where 48 = .ok (.aload_n 0, 1) := by decide +kernel
theorem dX11_where_49 : decode cX11_where 49 = .ok (.getfield 42, 3) := by decide +kernel
theorem dX11_where_52 : decode cX11_where 52 = .ok (.getfield 267, 3) := by decide +kernel
theorem dX11_where_55 : decode cX11_where 55 = .ok (.iload_n 1, 1) := by decide +kernel
theorem dX11_where_56 : decode cX11_where 56 = .ok (.iaload, 1) := by decide +kernel
theorem dX11_where_57 : decode cX11_where 57 = .ok (.ireturn, 1) := by decide +kernel
theorem dX11_where_58 : decode cX11_where 58 = .ok (.aload_n 0, 1) := by decide +kernel
theorem dX11_where_59 : decode cX11_where 59 = .ok (.getfield 42, 3) := by decide +kernel
theorem dX11_where_62 : decode cX11_where 62 = .ok (.getfield 268, 3) := by decide +kernel
theorem dX11_where_65 : decode cX11_where 65 = .ok (.iload_n 1, 1) := by decide +kernel
theorem dX11_where_66 : decode cX11_where 66 = .ok (.iaload, 1) := by decide +kernel
theorem dX11_where_67 : decode cX11_where 67 = .ok (.ireturn, 1) := by decide +kernel
theorem dX11_where_68 : decode cX11_where 68 = .ok (.aload_n 0, 1) := by decide +kernel
theorem dX11_where_69 : decode cX11_where 69 = .ok (.iload_n 1, 1) := by decide +kernel
theorem dX11_where_70 : decode cX11_where 70 = .ok (.invokevirtual 271, 3) := by decide +kernel
theorem dX11_where_73 : decode cX11_where 73 = .ok (.ifCond .eq 7, 3) := by decide +kernel
theorem dX11_where_76 : decode cX11_where 76 = .ok (.iconst 1, 1) := by decide +kernel
theorem dX11_where_77 : decode cX11_where 77 = .ok (.goto 4, 3) := by decide +kernel
theorem dX11_where_80 : decode cX11_where 80 = .ok (.iconst 0, 1) := by decide +kernel
theorem dX11_where_81 : decode cX11_where 81 = .ok (.ireturn, 1) := by decide +kernel
theorem dX11_where_82 : decode cX11_where 82 = .ok (.aload_n 0, 1) := by decide +kernel
theorem dX11_where_83 : decode cX11_where 83 = .ok (.getfield 42, 3) := by decide +kernel
theorem dX11_where_86 : decode cX11_where 86 = .ok (.getfield 274, 3) := by decide +kernel
theorem dX11_where_89 : decode cX11_where 89 = .ok (.iload_n 1, 1) := by decide +kernel
theorem dX11_where_90 : decode cX11_where 90 = .ok (.iaload, 1) := by decide +kernel
theorem dX11_where_91 : decode cX11_where 91 = .ok (.ireturn, 1) := by decide +kernel
theorem dX11_where_92 : decode cX11_where 92 = .ok (.aload_n 0, 1) := by decide +kernel
theorem dX11_where_93 : decode cX11_where 93 = .ok (.getfield 42, 3) := by decide +kernel
theorem dX11_where_96 : decode cX11_where 96 = .ok (.getfield 173, 3) := by decide +kernel
theorem dX11_where_99 : decode cX11_where 99 = .ok (.iload_n 1, 1) := by decide +kernel
theorem dX11_where_100 : decode cX11_where 100 = .ok (.invokevirtual 277, 3) := by decide +kernel
theorem dX11_where_103 : decode cX11_where 103 = .ok (.invokestatic 279, 3) := by decide +kernel
theorem dX11_where_106 : decode cX11_where 106 = .ok (.ireturn, 1) := by decide +kernel
theorem dX11_where_107 : decode cX11_where 107 = .ok (.iload_n 2, 1) := by decide +kernel
theorem dX11_where_108 : decode cX11_where 108 = .ok (.bipush 10, 2) := by decide +kernel
theorem dX11_where_110 : decode cX11_where 110 = .ok (.if_icmp .ge 7, 3) := by decide +kernel
theorem dX11_where_113 : decode cX11_where 113 = .ok (.iconst (-1), 1) := by decide +kernel
theorem dX11_where_114 : decode cX11_where 114 = .ok (.goto 21, 3) := by decide +kernel
theorem dX11_where_117 : decode cX11_where 117 = .ok (.aload_n 0, 1) := by decide +kernel
theorem dX11_where_118 : decode cX11_where 118 = .ok (.getfield 42, 3) := by decide +kernel
theorem dX11_where_121 : decode cX11_where 121 = .ok (.getfield 173, 3) := by decide +kernel
theorem dX11_where_124 : decode cX11_where 124 = .ok (.iload_n 1, 1) := by decide +kernel
theorem dX11_where_125 : decode cX11_where 125 = .ok (.invokevirtual 277, 3) := by decide +kernel
theorem dX11_where_128 : decode cX11_where 128 = .ok (.iload_n 2, 1) := by decide +kernel
theorem dX11_where_129 : decode cX11_where 129 = .ok (.bipush 10, 2) := by decide +kernel
theorem dX11_where_131 : decode cX11_where 131 = .ok (.isub, 1) := by decide +kernel
theorem dX11_where_132 : decode cX11_where 132 = .ok (.invokestatic 283, 3) := by decide +kernel
theorem dX11_where_135 : decode cX11_where 135 = .ok (.ireturn, 1) := by decide +kernel
theorem dX11_edition_0 : decode cX11_edition 0 = .ok (.aload_n 0, 1) := by decide +kernel
theorem dX11_edition_1 : decode cX11_edition 1 = .ok (.getfield 65, 3) := by decide +kernel
theorem dX11_edition_4 : decode cX11_edition 4 = .ok (.invokevirtual 287, 3) := by decide +kernel
theorem dX11_edition_7 : decode cX11_edition 7 = .ok (.ifCond .gt 15, 3) := by decide +kernel
theorem dX11_edition_10 : decode cX11_edition 10 = .ok (.aload_n 0, 1) := by decide +kernel
theorem dX11_edition_11 : decode cX11_edition 11 = .ok (.getfield 74, 3) := by decide +kernel
theorem dX11_edition_14 : decode cX11_edition 14 = .ok (.getfield 291, 3) := by decide +kernel
theorem dX11_edition_17 : decode cX11_edition 17 = .ok (.bipush 8, 2) := by decide +kernel
theorem dX11_edition_19 : decode cX11_edition 19 = .ok (.if_icmp .lt 5, 3) := by decide +kernel
theorem dX11_edition_22 : decode cX11_edition 22 = .ok (.iconst (-1), 1) := by decide +kernel
theorem dX11_edition_23 : decode cX11_edition 23 = .ok (.ireturn, 1) := by decide +kernel
theorem dX11_edition_24 : decode cX11_edition 24 = .ok (.aload_n 0, 1) := by decide +kernel
theorem dX11_edition_25 : decode cX11_edition 25 = .ok (.getfield 74, 3) := by decide +kernel
theorem dX11_edition_28 : decode cX11_edition 28 = .ok (.invokevirtual 292, 3) := by decide +kernel
theorem dX11_edition_31 : decode cX11_edition 31 = .ok (.ireturn, 1) := by decide +kernel
theorem dX11_as_0 : decode cX11_as 0 = .ok (.aload_n 0, 1) := by decide +kernel
theorem dX11_as_1 : decode cX11_as 1 = .ok (.getfield 74, 3) := by decide +kernel
theorem dX11_as_4 : decode cX11_as 4 = .ok (.iload_n 1, 1) := by decide +kernel
theorem dX11_as_5 : decode cX11_as 5 = .ok (.invokevirtual 294, 3) := by decide +kernel
theorem dX11_as_8 : decode cX11_as 8 = .ok (.ifCond .eq 14, 3) := by decide +kernel
theorem dX11_as_11 : decode cX11_as 11 = .ok (.aload_n 0, 1) := by decide +kernel
theorem dX11_as_12 : decode cX11_as 12 = .ok (.getfield 42, 3) := by decide +kernel
theorem dX11_as_15 : decode cX11_as 15 = .ok (.iload_n 2, 1) := by decide +kernel
theorem dX11_as_16 : decode cX11_as 16 = .ok (.invokevirtual 176, 3) := by decide +kernel
theorem dX11_as_19 : decode cX11_as 19 = .ok (.ifCond .ne 5, 3) := by decide +kernel
theorem dX11_as_22 : decode cX11_as 22 = .ok (.iconst (-1), 1) := by decide +kernel
theorem dX11_as_23 : decode cX11_as 23 = .ok (.ireturn, 1) := by decide +kernel
theorem dX11_as_24 : decode cX11_as 24 = .ok (.iload_n 3, 1) := by decide +kernel
theorem dX11_as_25 : decode cX11_as 25 = .ok (.lookupswitch 47 #[(0, 27), (1, 37)], 27) := by decide +kernel
theorem dX11_as_52 : decode cX11_as 52 = .ok (.aload_n 0, 1) := by decide +kernel
theorem dX11_as_53 : decode cX11_as 53 = .ok (.getfield 74, 3) := by decide +kernel
theorem dX11_as_56 : decode cX11_as 56 = .ok (.iload_n 1, 1) := by decide +kernel
theorem dX11_as_57 : decode cX11_as 57 = .ok (.iload_n 2, 1) := by decide +kernel
theorem dX11_as_58 : decode cX11_as 58 = .ok (.invokevirtual 295, 3) := by decide +kernel
theorem dX11_as_61 : decode cX11_as 61 = .ok (.ireturn, 1) := by decide +kernel
theorem dX11_as_62 : decode cX11_as 62 = .ok (.aload_n 0, 1) := by decide +kernel
theorem dX11_as_63 : decode cX11_as 63 = .ok (.getfield 74, 3) := by decide +kernel
theorem dX11_as_66 : decode cX11_as 66 = .ok (.iload_n 1, 1) := by decide +kernel
theorem dX11_as_67 : decode cX11_as 67 = .ok (.iload_n 2, 1) := by decide +kernel
theorem dX11_as_68 : decode cX11_as 68 = .ok (.invokevirtual 298, 3) := by decide +kernel
theorem dX11_as_71 : decode cX11_as 71 = .ok (.ireturn, 1) := by decide +kernel
theorem dX11_as_72 : decode cX11_as 72 = .ok (.iconst (-1), 1) := by decide +kernel
theorem dX11_as_73 : decode cX11_as 73 = .ok (.ireturn, 1) := by decide +kernel
theorem dX11_differ_0 : decode cX11_differ 0 = .ok (.aload_n 0, 1) := by decide +kernel
theorem dX11_differ_1 : decode cX11_differ 1 = .ok (.getfield 74, 3) := by decide +kernel
theorem dX11_differ_4 : decode cX11_differ 4 = .ok (.iload_n 1, 1) := by decide +kernel
theorem dX11_differ_5 : decode cX11_differ 5 = .ok (.invokevirtual 294, 3) := by decide +kernel
theorem dX11_differ_8 : decode cX11_differ 8 = .ok (.ifCond .eq 14, 3) := by decide +kernel
theorem dX11_differ_11 : decode cX11_differ 11 = .ok (.aload_n 0, 1) := by decide +kernel
theorem dX11_differ_12 : decode cX11_differ 12 = .ok (.getfield 74, 3) := by decide +kernel
theorem dX11_differ_15 : decode cX11_differ 15 = .ok (.iload_n 2, 1) := by decide +kernel
theorem dX11_differ_16 : decode cX11_differ 16 = .ok (.invokevirtual 294, 3) := by decide +kernel
theorem dX11_differ_19 : decode cX11_differ 19 = .ok (.ifCond .ne 5, 3) := by decide +kernel
theorem dX11_differ_22 : decode cX11_differ 22 = .ok (.iconst (-1), 1) := by decide +kernel
theorem dX11_differ_23 : decode cX11_differ 23 = .ok (.ireturn, 1) := by decide +kernel
theorem dX11_differ_24 : decode cX11_differ 24 = .ok (.iconst 0, 1) := by decide +kernel
theorem dX11_differ_25 : decode cX11_differ 25 = .ok (.istore 4, 2) := by decide +kernel
theorem dX11_differ_27 : decode cX11_differ 27 = .ok (.iconst 0, 1) := by decide +kernel
theorem dX11_differ_28 : decode cX11_differ 28 = .ok (.istore 5, 2) := by decide +kernel
theorem dX11_differ_30 : decode cX11_differ 30 = .ok (.iload 5, 2) := by decide +kernel
theorem dX11_differ_32 : decode cX11_differ 32 = .ok (.aload_n 0, 1) := by decide +kernel
theorem dX11_differ_33 : decode cX11_differ 33 = .ok (.getfield 42, 3) := by decide +kernel
theorem dX11_differ_36 : decode cX11_differ 36 = .ok (.getfield 128, 3) := by decide +kernel
theorem dX11_differ_39 : decode cX11_differ 39 = .ok (.if_icmp .ge 35, 3) := by decide +kernel
theorem dX11_differ_42 : decode cX11_differ 42 = .ok (.aload_n 0, 1) := by decide +kernel
theorem dX11_differ_43 : decode cX11_differ 43 = .ok (.getfield 74, 3) := by decide +kernel
theorem dX11_differ_46 : decode cX11_differ 46 = .ok (.iload_n 1, 1) := by decide +kernel
theorem dX11_differ_47 : decode cX11_differ 47 = .ok (.iload_n 2, 1) := by decide +kernel
theorem dX11_differ_48 : decode cX11_differ 48 = .ok (.iload 5, 2) := by decide +kernel
theorem dX11_differ_50 : decode cX11_differ 50 = .ok (.invokevirtual 301, 3) := by decide +kernel
theorem dX11_differ_53 : decode cX11_differ 53 = .ok (.ifCond .eq 15, 3) := by decide +kernel
theorem dX11_differ_56 : decode cX11_differ 56 = .ok (.iload 4, 2) := by decide +kernel
theorem dX11_differ_58 : decode cX11_differ 58 = .ok (.iload_n 3, 1) := by decide +kernel
theorem dX11_differ_59 : decode cX11_differ 59 = .ok (.if_icmp .ne 6, 3) := by decide +kernel
theorem dX11_differ_62 : decode cX11_differ 62 = .ok (.iload 5, 2) := by decide +kernel
theorem dX11_differ_64 : decode cX11_differ 64 = .ok (.ireturn, 1) := by decide +kernel
theorem dX11_differ_65 : decode cX11_differ 65 = .ok (.iinc 4 1, 3) := by decide +kernel
theorem dX11_differ_68 : decode cX11_differ 68 = .ok (.iinc 5 1, 3) := by decide +kernel
theorem dX11_differ_71 : decode cX11_differ 71 = .ok (.goto (-41), 3) := by decide +kernel
theorem dX11_differ_74 : decode cX11_differ 74 = .ok (.iload_n 3, 1) := by decide +kernel
theorem dX11_differ_75 : decode cX11_differ 75 = .ok (.iconst (-1), 1) := by decide +kernel
theorem dX11_differ_76 : decode cX11_differ 76 = .ok (.if_icmp .ne 8, 3) := by decide +kernel
theorem dX11_differ_79 : decode cX11_differ 79 = .ok (.iload 4, 2) := by decide +kernel
theorem dX11_differ_81 : decode cX11_differ 81 = .ok (.goto 4, 3) := by decide +kernel
theorem dX11_differ_84 : decode cX11_differ 84 = .ok (.iconst (-1), 1) := by decide +kernel
theorem dX11_differ_85 : decode cX11_differ 85 = .ok (.ireturn, 1) := by decide +kernel
theorem dX11_print_0 : decode cX11_print 0 = .ok (.aload_n 0, 1) := by decide +kernel
theorem dX11_print_1 : decode cX11_print 1 = .ok (.getfield 35, 3) := by decide +kernel
theorem dX11_print_4 : decode cX11_print 4 = .ok (.iload_n 1, 1) := by decide +kernel
theorem dX11_print_5 : decode cX11_print 5 = .ok (.invokevirtual 177, 3) := by decide +kernel
theorem dX11_print_8 : decode cX11_print 8 = .ok (.ifCond .eq 14, 3) := by decide +kernel
theorem dX11_print_11 : decode cX11_print 11 = .ok (.aload_n 0, 1) := by decide +kernel
theorem dX11_print_12 : decode cX11_print 12 = .ok (.getfield 83, 3) := by decide +kernel
theorem dX11_print_15 : decode cX11_print 15 = .ok (.iload_n 1, 1) := by decide +kernel
theorem dX11_print_16 : decode cX11_print 16 = .ok (.invokevirtual 304, 3) := by decide +kernel
theorem dX11_print_19 : decode cX11_print 19 = .ok (.goto 4, 3) := by decide +kernel
theorem dX11_print_22 : decode cX11_print 22 = .ok (.iconst (-1), 1) := by decide +kernel
theorem dX11_print_23 : decode cX11_print 23 = .ok (.ireturn, 1) := by decide +kernel
theorem dX11_octet_0 : decode cX11_octet 0 = .ok (.aload_n 0, 1) := by decide +kernel
theorem dX11_octet_1 : decode cX11_octet 1 = .ok (.getfield 83, 3) := by decide +kernel
theorem dX11_octet_4 : decode cX11_octet 4 = .ok (.iload_n 1, 1) := by decide +kernel
theorem dX11_octet_5 : decode cX11_octet 5 = .ok (.invokevirtual 307, 3) := by decide +kernel
theorem dX11_octet_8 : decode cX11_octet 8 = .ok (.ireturn, 1) := by decide +kernel
theorem dX11_count_0 : decode cX11_count 0 = .ok (.iload_n 1, 1) := by decide +kernel
theorem dX11_count_1 : decode cX11_count 1 = .ok (.tableswitch 167 0 12 #[67, 75, 83, 91, 99, 107, 115, 123, 133, 138, 146, 154, 159], 67) := by decide +kernel
theorem dX11_count_68 : decode cX11_count 68 = .ok (.aload_n 0, 1) := by decide +kernel
theorem dX11_count_69 : decode cX11_count 69 = .ok (.getfield 19, 3) := by decide +kernel
theorem dX11_count_72 : decode cX11_count 72 = .ok (.getfield 99, 3) := by decide +kernel
theorem dX11_count_75 : decode cX11_count 75 = .ok (.ireturn, 1) := by decide +kernel
theorem dX11_count_76 : decode cX11_count 76 = .ok (.aload_n 0, 1) := by decide +kernel
theorem dX11_count_77 : decode cX11_count 77 = .ok (.getfield 42, 3) := by decide +kernel
theorem dX11_count_80 : decode cX11_count 80 = .ok (.getfield 128, 3) := by decide +kernel
theorem dX11_count_83 : decode cX11_count 83 = .ok (.ireturn, 1) := by decide +kernel
theorem dX11_count_84 : decode cX11_count 84 = .ok (.aload_n 0, 1) := by decide +kernel
theorem dX11_count_85 : decode cX11_count 85 = .ok (.getfield 35, 3) := by decide +kernel
theorem dX11_count_88 : decode cX11_count 88 = .ok (.getfield 141, 3) := by decide +kernel
theorem dX11_count_91 : decode cX11_count 91 = .ok (.ireturn, 1) := by decide +kernel
theorem dX11_count_92 : decode cX11_count 92 = .ok (.aload_n 0, 1) := by decide +kernel
theorem dX11_count_93 : decode cX11_count 93 = .ok (.getfield 26, 3) := by decide +kernel
theorem dX11_count_96 : decode cX11_count 96 = .ok (.getfield 155, 3) := by decide +kernel
theorem dX11_count_99 : decode cX11_count 99 = .ok (.ireturn, 1) := by decide +kernel
theorem dX11_count_100 : decode cX11_count 100 = .ok (.aload_n 0, 1) := by decide +kernel
theorem dX11_count_101 : decode cX11_count 101 = .ok (.getfield 49, 3) := by decide +kernel
theorem dX11_count_104 : decode cX11_count 104 = .ok (.invokevirtual 310, 3) := by decide +kernel
theorem dX11_count_107 : decode cX11_count 107 = .ok (.ireturn, 1) := by decide +kernel
theorem dX11_count_108 : decode cX11_count 108 = .ok (.aload_n 0, 1) := by decide +kernel
theorem dX11_count_109 : decode cX11_count 109 = .ok (.getfield 65, 3) := by decide +kernel
theorem dX11_count_112 : decode cX11_count 112 = .ok (.getfield 228, 3) := by decide +kernel
theorem dX11_count_115 : decode cX11_count 115 = .ok (.ireturn, 1) := by decide +kernel
theorem dX11_count_116 : decode cX11_count 116 = .ok (.aload_n 0, 1) := by decide +kernel
theorem dX11_count_117 : decode cX11_count 117 = .ok (.getfield 65, 3) := by decide +kernel
theorem dX11_count_120 : decode cX11_count 120 = .ok (.invokevirtual 287, 3) := by decide +kernel
theorem dX11_count_123 : decode cX11_count 123 = .ok (.ireturn, 1) := by decide +kernel
theorem dX11_count_124 : decode cX11_count 124 = .ok (.aload_n 0, 1) := by decide +kernel
theorem dX11_count_125 : decode cX11_count 125 = .ok (.getfield 42, 3) := by decide +kernel
theorem dX11_count_128 : decode cX11_count 128 = .ok (.iconst (-1), 1) := by decide +kernel
theorem dX11_count_129 : decode cX11_count 129 = .ok (.iconst (-1), 1) := by decide +kernel
theorem dX11_count_130 : decode cX11_count 130 = .ok (.invokevirtual 225, 3) := by decide +kernel
theorem dX11_count_133 : decode cX11_count 133 = .ok (.ireturn, 1) := by decide +kernel
theorem dX11_count_134 : decode cX11_count 134 = .ok (.aload_n 0, 1) := by decide +kernel
theorem dX11_count_135 : decode cX11_count 135 = .ok (.invokevirtual 313, 3) := by decide +kernel
theorem dX11_count_138 : decode cX11_count 138 = .ok (.ireturn, 1) := by decide +kernel
theorem dX11_count_139 : decode cX11_count 139 = .ok (.aload_n 0, 1) := by decide +kernel
theorem dX11_count_140 : decode cX11_count 140 = .ok (.getfield 74, 3) := by decide +kernel
theorem dX11_count_143 : decode cX11_count 143 = .ok (.getfield 291, 3) := by decide +kernel
theorem dX11_count_146 : decode cX11_count 146 = .ok (.ireturn, 1) := by decide +kernel
theorem dX11_count_147 : decode cX11_count 147 = .ok (.aload_n 0, 1) := by decide +kernel
theorem dX11_count_148 : decode cX11_count 148 = .ok (.getfield 19, 3) := by decide +kernel
theorem dX11_count_151 : decode cX11_count 151 = .ok (.getfield 316, 3) := by decide +kernel
theorem dX11_count_154 : decode cX11_count 154 = .ok (.ireturn, 1) := by decide +kernel
theorem dX11_count_155 : decode cX11_count 155 = .ok (.aload_n 0, 1) := by decide +kernel
theorem dX11_count_156 : decode cX11_count 156 = .ok (.invokevirtual 319, 3) := by decide +kernel
theorem dX11_count_159 : decode cX11_count 159 = .ok (.ireturn, 1) := by decide +kernel
theorem dX11_count_160 : decode cX11_count 160 = .ok (.aload_n 0, 1) := by decide +kernel
theorem dX11_count_161 : decode cX11_count 161 = .ok (.getfield 10, 3) := by decide +kernel
theorem dX11_count_164 : decode cX11_count 164 = .ok (.getfield 87, 3) := by decide +kernel
theorem dX11_count_167 : decode cX11_count 167 = .ok (.ireturn, 1) := by decide +kernel
theorem dX11_count_168 : decode cX11_count 168 = .ok (.aload_n 0, 1) := by decide +kernel
theorem dX11_count_169 : decode cX11_count 169 = .ok (.getfield 35, 3) := by decide +kernel
theorem dX11_count_172 : decode cX11_count 172 = .ok (.iload_n 1, 1) := by decide +kernel
theorem dX11_count_173 : decode cX11_count 173 = .ok (.bipush 20, 2) := by decide +kernel
theorem dX11_count_175 : decode cX11_count 175 = .ok (.isub, 1) := by decide +kernel
theorem dX11_count_176 : decode cX11_count 176 = .ok (.invokevirtual 177, 3) := by decide +kernel
theorem dX11_count_179 : decode cX11_count 179 = .ok (.ifCond .eq 18, 3) := by decide +kernel
theorem dX11_count_182 : decode cX11_count 182 = .ok (.aload_n 0, 1) := by decide +kernel
theorem dX11_count_183 : decode cX11_count 183 = .ok (.getfield 42, 3) := by decide +kernel
theorem dX11_count_186 : decode cX11_count 186 = .ok (.iload_n 1, 1) := by decide +kernel
theorem dX11_count_187 : decode cX11_count 187 = .ok (.bipush 20, 2) := by decide +kernel
theorem dX11_count_189 : decode cX11_count 189 = .ok (.isub, 1) := by decide +kernel
theorem dX11_count_190 : decode cX11_count 190 = .ok (.iconst (-1), 1) := by decide +kernel
theorem dX11_count_191 : decode cX11_count 191 = .ok (.invokevirtual 225, 3) := by decide +kernel
theorem dX11_count_194 : decode cX11_count 194 = .ok (.goto 4, 3) := by decide +kernel
theorem dX11_count_197 : decode cX11_count 197 = .ok (.iconst (-1), 1) := by decide +kernel
theorem dX11_count_198 : decode cX11_count 198 = .ok (.ireturn, 1) := by decide +kernel
theorem dX11_areYears_0 : decode cX11_areYears 0 = .ok (.iload_n 0, 1) := by decide +kernel
theorem dX11_areYears_1 : decode cX11_areYears 1 = .ok (.iconst 1, 1) := by decide +kernel
theorem dX11_areYears_2 : decode cX11_areYears 2 = .ok (.if_icmp .lt 19, 3) := by decide +kernel
theorem dX11_areYears_5 : decode cX11_areYears 5 = .ok (.iload_n 0, 1) := by decide +kernel
theorem dX11_areYears_6 : decode cX11_areYears 6 = .ok (.iload_n 1, 1) := by decide +kernel
theorem dX11_areYears_7 : decode cX11_areYears 7 = .ok (.if_icmp .gt 14, 3) := by decide +kernel
theorem dX11_areYears_10 : decode cX11_areYears 10 = .ok (.iload_n 1, 1) := by decide +kernel
theorem dX11_areYears_11 : decode cX11_areYears 11 = .ok (.sipush 2000, 3) := by decide +kernel
theorem dX11_areYears_14 : decode cX11_areYears 14 = .ok (.if_icmp .gt 7, 3) := by decide +kernel
theorem dX11_areYears_17 : decode cX11_areYears 17 = .ok (.iconst 1, 1) := by decide +kernel
theorem dX11_areYears_18 : decode cX11_areYears 18 = .ok (.goto 4, 3) := by decide +kernel
theorem dX11_areYears_21 : decode cX11_areYears 21 = .ok (.iconst 0, 1) := by decide +kernel
theorem dX11_areYears_22 : decode cX11_areYears 22 = .ok (.ireturn, 1) := by decide +kernel
theorem dX11_isRuleLength_0 : decode cX11_isRuleLength 0 = .ok (.iload_n 0, 1) := by decide +kernel
theorem dX11_isRuleLength_1 : decode cX11_isRuleLength 1 = .ok (.iconst 1, 1) := by decide +kernel
theorem dX11_isRuleLength_2 : decode cX11_isRuleLength 2 = .ok (.if_icmp .lt 12, 3) := by decide +kernel
theorem dX11_isRuleLength_5 : decode cX11_isRuleLength 5 = .ok (.iload_n 0, 1) := by decide +kernel
theorem dX11_isRuleLength_6 : decode cX11_isRuleLength 6 = .ok (.iconst 2, 1) := by decide +kernel
theorem dX11_isRuleLength_7 : decode cX11_isRuleLength 7 = .ok (.if_icmp .gt 7, 3) := by decide +kernel
theorem dX11_isRuleLength_10 : decode cX11_isRuleLength 10 = .ok (.iconst 1, 1) := by decide +kernel
theorem dX11_isRuleLength_11 : decode cX11_isRuleLength 11 = .ok (.goto 4, 3) := by decide +kernel
theorem dX11_isRuleLength_14 : decode cX11_isRuleLength 14 = .ok (.iconst 0, 1) := by decide +kernel
theorem dX11_isRuleLength_15 : decode cX11_isRuleLength 15 = .ok (.ireturn, 1) := by decide +kernel
theorem dX11_tapeHasWord_0 : decode cX11_tapeHasWord 0 = .ok (.iload_n 1, 1) := by decide +kernel
theorem dX11_tapeHasWord_1 : decode cX11_tapeHasWord 1 = .ok (.iconst 1, 1) := by decide +kernel
theorem dX11_tapeHasWord_2 : decode cX11_tapeHasWord 2 = .ok (.if_icmp .lt 24, 3) := by decide +kernel
theorem dX11_tapeHasWord_5 : decode cX11_tapeHasWord 5 = .ok (.iload_n 1, 1) := by decide +kernel
theorem dX11_tapeHasWord_6 : decode cX11_tapeHasWord 6 = .ok (.bipush 8, 2) := by decide +kernel
theorem dX11_tapeHasWord_8 : decode cX11_tapeHasWord 8 = .ok (.if_icmp .gt 18, 3) := by decide +kernel
theorem dX11_tapeHasWord_11 : decode cX11_tapeHasWord 11 = .ok (.iload_n 1, 1) := by decide +kernel
theorem dX11_tapeHasWord_12 : decode cX11_tapeHasWord 12 = .ok (.aload_n 0, 1) := by decide +kernel
theorem dX11_tapeHasWord_13 : decode cX11_tapeHasWord 13 = .ok (.getfield 10, 3) := by decide +kernel
theorem dX11_tapeHasWord_16 : decode cX11_tapeHasWord 16 = .ok (.getfield 87, 3) := by decide +kernel
theorem dX11_tapeHasWord_19 : decode cX11_tapeHasWord 19 = .ok (.if_icmp .gt 7, 3) := by decide +kernel
theorem dX11_tapeHasWord_22 : decode cX11_tapeHasWord 22 = .ok (.iconst 1, 1) := by decide +kernel
theorem dX11_tapeHasWord_23 : decode cX11_tapeHasWord 23 = .ok (.goto 4, 3) := by decide +kernel
theorem dX11_tapeHasWord_26 : decode cX11_tapeHasWord 26 = .ok (.iconst 0, 1) := by decide +kernel
theorem dX11_tapeHasWord_27 : decode cX11_tapeHasWord 27 = .ok (.ireturn, 1) := by decide +kernel
theorem dX11_isTopOrSenseOf_0 : decode cX11_isTopOrSenseOf 0 = .ok (.iload_n 1, 1) := by decide +kernel
theorem dX11_isTopOrSenseOf_1 : decode cX11_isTopOrSenseOf 1 = .ok (.iconst (-1), 1) := by decide +kernel
theorem dX11_isTopOrSenseOf_2 : decode cX11_isTopOrSenseOf 2 = .ok (.if_icmp .eq 27, 3) := by decide +kernel
theorem dX11_isTopOrSenseOf_5 : decode cX11_isTopOrSenseOf 5 = .ok (.aload_n 0, 1) := by decide +kernel
theorem dX11_isTopOrSenseOf_6 : decode cX11_isTopOrSenseOf 6 = .ok (.getfield 49, 3) := by decide +kernel
theorem dX11_isTopOrSenseOf_9 : decode cX11_isTopOrSenseOf 9 = .ok (.iload_n 1, 1) := by decide +kernel
theorem dX11_isTopOrSenseOf_10 : decode cX11_isTopOrSenseOf 10 = .ok (.invokevirtual 202, 3) := by decide +kernel
theorem dX11_isTopOrSenseOf_13 : decode cX11_isTopOrSenseOf 13 = .ok (.ifCond .eq 20, 3) := by decide +kernel
theorem dX11_isTopOrSenseOf_16 : decode cX11_isTopOrSenseOf 16 = .ok (.aload_n 0, 1) := by decide +kernel
theorem dX11_isTopOrSenseOf_17 : decode cX11_isTopOrSenseOf 17 = .ok (.getfield 49, 3) := by decide +kernel
theorem dX11_isTopOrSenseOf_20 : decode cX11_isTopOrSenseOf 20 = .ok (.getfield 203, 3) := by decide +kernel
theorem dX11_isTopOrSenseOf_23 : decode cX11_isTopOrSenseOf 23 = .ok (.iload_n 1, 1) := by decide +kernel
theorem dX11_isTopOrSenseOf_24 : decode cX11_isTopOrSenseOf 24 = .ok (.iaload, 1) := by decide +kernel
theorem dX11_isTopOrSenseOf_25 : decode cX11_isTopOrSenseOf 25 = .ok (.iload_n 2, 1) := by decide +kernel
theorem dX11_isTopOrSenseOf_26 : decode cX11_isTopOrSenseOf 26 = .ok (.if_icmp .ne 7, 3) := by decide +kernel
theorem dX11_isTopOrSenseOf_29 : decode cX11_isTopOrSenseOf 29 = .ok (.iconst 1, 1) := by decide +kernel
theorem dX11_isTopOrSenseOf_30 : decode cX11_isTopOrSenseOf 30 = .ok (.goto 4, 3) := by decide +kernel
theorem dX11_isTopOrSenseOf_33 : decode cX11_isTopOrSenseOf 33 = .ok (.iconst 0, 1) := by decide +kernel
theorem dX11_isTopOrSenseOf_34 : decode cX11_isTopOrSenseOf 34 = .ok (.ireturn, 1) := by decide +kernel
theorem dX11_isFit_0 : decode cX11_isFit 0 = .ok (.aload_n 0, 1) := by decide +kernel
theorem dX11_isFit_1 : decode cX11_isFit 1 = .ok (.getfield 42, 3) := by decide +kernel
theorem dX11_isFit_4 : decode cX11_isFit 4 = .ok (.getfield 274, 3) := by decide +kernel
theorem dX11_isFit_7 : decode cX11_isFit 7 = .ok (.iload_n 1, 1) := by decide +kernel
theorem dX11_isFit_8 : decode cX11_isFit 8 = .ok (.iaload, 1) := by decide +kernel
theorem dX11_isFit_9 : decode cX11_isFit 9 = .ok (.istore_n 3, 1) := by decide +kernel
theorem dX11_isFit_10 : decode cX11_isFit 10 = .ok (.aload_n 0, 1) := by decide +kernel
theorem dX11_isFit_11 : decode cX11_isFit 11 = .ok (.getfield 19, 3) := by decide +kernel
theorem dX11_isFit_14 : decode cX11_isFit 14 = .ok (.iload_n 3, 1) := by decide +kernel
theorem dX11_isFit_15 : decode cX11_isFit 15 = .ok (.invokevirtual 104, 3) := by decide +kernel
theorem dX11_isFit_18 : decode cX11_isFit 18 = .ok (.ifCond .ne 5, 3) := by decide +kernel
theorem dX11_isFit_21 : decode cX11_isFit 21 = .ok (.iconst 0, 1) := by decide +kernel
theorem dX11_isFit_22 : decode cX11_isFit 22 = .ok (.ireturn, 1) := by decide +kernel
theorem dX11_isFit_23 : decode cX11_isFit 23 = .ok (.iconst 0, 1) := by decide +kernel
theorem dX11_isFit_24 : decode cX11_isFit 24 = .ok (.istore 4, 2) := by decide +kernel
theorem dX11_isFit_26 : decode cX11_isFit 26 = .ok (.iload 4, 2) := by decide +kernel
theorem dX11_isFit_28 : decode cX11_isFit 28 = .ok (.aload_n 0, 1) := by decide +kernel
theorem dX11_isFit_29 : decode cX11_isFit 29 = .ok (.getfield 35, 3) := by decide +kernel
theorem dX11_isFit_32 : decode cX11_isFit 32 = .ok (.getfield 322, 3) := by decide +kernel
theorem dX11_isFit_35 : decode cX11_isFit 35 = .ok (.iload_n 2, 1) := by decide +kernel
theorem dX11_isFit_36 : decode cX11_isFit 36 = .ok (.iaload, 1) := by decide +kernel
theorem dX11_isFit_37 : decode cX11_isFit 37 = .ok (.if_icmp .ge 72, 3) := by decide +kernel
theorem dX11_isFit_40 : decode cX11_isFit 40 = .ok (.iload_n 2, 1) := by decide +kernel
theorem dX11_isFit_41 : decode cX11_isFit 41 = .ok (.iload 4, 2) := by decide +kernel
theorem dX11_isFit_43 : decode cX11_isFit 43 = .ok (.invokestatic 325, 3) := by decide +kernel
theorem dX11_isFit_46 : decode cX11_isFit 46 = .ok (.istore 5, 2) := by decide +kernel
theorem dX11_isFit_48 : decode cX11_isFit 48 = .ok (.aload_n 0, 1) := by decide +kernel
theorem dX11_isFit_49 : decode cX11_isFit 49 = .ok (.getfield 35, 3) := by decide +kernel
theorem dX11_isFit_52 : decode cX11_isFit 52 = .ok (.iload 5, 2) := by decide +kernel
theorem dX11_isFit_54 : decode cX11_isFit 54 = .ok (.aload_n 0, 1) := by decide +kernel
theorem dX11_isFit_55 : decode cX11_isFit 55 = .ok (.getfield 19, 3) := by decide +kernel
theorem dX11_isFit_58 : decode cX11_isFit 58 = .ok (.getfield 111, 3) := by decide +kernel
theorem dX11_isFit_61 : decode cX11_isFit 61 = .ok (.iload_n 3, 1) := by decide +kernel
theorem dX11_isFit_62 : decode cX11_isFit 62 = .ok (.iaload, 1) := by decide +kernel
theorem dX11_isFit_63 : decode cX11_isFit 63 = .ok (.aload_n 0, 1) := by decide +kernel
theorem dX11_isFit_64 : decode cX11_isFit 64 = .ok (.getfield 19, 3) := by decide +kernel
theorem dX11_isFit_67 : decode cX11_isFit 67 = .ok (.getfield 115, 3) := by decide +kernel
theorem dX11_isFit_70 : decode cX11_isFit 70 = .ok (.iload_n 3, 1) := by decide +kernel
theorem dX11_isFit_71 : decode cX11_isFit 71 = .ok (.iaload, 1) := by decide +kernel
theorem dX11_isFit_72 : decode cX11_isFit 72 = .ok (.invokevirtual 328, 3) := by decide +kernel
theorem dX11_isFit_75 : decode cX11_isFit 75 = .ok (.ifCond .eq 28, 3) := by decide +kernel
theorem dX11_isFit_78 : decode cX11_isFit 78 = .ok (.aload_n 0, 1) := by decide +kernel
theorem dX11_isFit_79 : decode cX11_isFit 79 = .ok (.getfield 35, 3) := by decide +kernel
theorem dX11_isFit_82 : decode cX11_isFit 82 = .ok (.getfield 166, 3) := by decide +kernel
theorem dX11_isFit_85 : decode cX11_isFit 85 = .ok (.iload 5, 2) := by decide +kernel
theorem dX11_isFit_87 : decode cX11_isFit 87 = .ok (.aload_n 0, 1) := by decide +kernel
theorem dX11_isFit_88 : decode cX11_isFit 88 = .ok (.getfield 42, 3) := by decide +kernel
theorem dX11_isFit_91 : decode cX11_isFit 91 = .ok (.getfield 173, 3) := by decide +kernel
theorem dX11_isFit_94 : decode cX11_isFit 94 = .ok (.iload_n 1, 1) := by decide +kernel
theorem dX11_isFit_95 : decode cX11_isFit 95 = .ok (.invokevirtual 331, 3) := by decide +kernel
theorem dX11_isFit_98 : decode cX11_isFit 98 = .ok (.ifCond .eq 5, 3) := by decide +kernel
theorem dX11_isFit_101 : decode cX11_isFit 101 = .ok (.iconst 1, 1) := by decide +kernel
theorem dX11_isFit_102 : decode cX11_isFit 102 = .ok (.ireturn, 1) := by decide +kernel
theorem dX11_isFit_103 : decode cX11_isFit 103 = .ok (.iinc 4 1, 3) := by decide +kernel
theorem dX11_isFit_106 : decode cX11_isFit 106 = .ok (.goto (-80), 3) := by decide +kernel
theorem dX11_isFit_109 : decode cX11_isFit 109 = .ok (.iconst 0, 1) := by decide +kernel
theorem dX11_isFit_110 : decode cX11_isFit 110 = .ok (.ireturn, 1) := by decide +kernel
theorem dX11_entriesFitted_0 : decode cX11_entriesFitted 0 = .ok (.iconst 0, 1) := by decide +kernel
theorem dX11_entriesFitted_1 : decode cX11_entriesFitted 1 = .ok (.istore_n 2, 1) := by decide +kernel
theorem dX11_entriesFitted_2 : decode cX11_entriesFitted 2 = .ok (.iconst 0, 1) := by decide +kernel
theorem dX11_entriesFitted_3 : decode cX11_entriesFitted 3 = .ok (.istore_n 3, 1) := by decide +kernel
theorem dX11_entriesFitted_4 : decode cX11_entriesFitted 4 = .ok (.iload_n 3, 1) := by decide +kernel
theorem dX11_entriesFitted_5 : decode cX11_entriesFitted 5 = .ok (.aload_n 0, 1) := by decide +kernel
theorem dX11_entriesFitted_6 : decode cX11_entriesFitted 6 = .ok (.getfield 35, 3) := by decide +kernel
theorem dX11_entriesFitted_9 : decode cX11_entriesFitted 9 = .ok (.getfield 141, 3) := by decide +kernel
theorem dX11_entriesFitted_12 : decode cX11_entriesFitted 12 = .ok (.if_icmp .ge 21, 3) := by decide +kernel
theorem dX11_entriesFitted_15 : decode cX11_entriesFitted 15 = .ok (.aload_n 0, 1) := by decide +kernel
theorem dX11_entriesFitted_16 : decode cX11_entriesFitted 16 = .ok (.iload_n 1, 1) := by decide +kernel
theorem dX11_entriesFitted_17 : decode cX11_entriesFitted 17 = .ok (.iload_n 3, 1) := by decide +kernel
theorem dX11_entriesFitted_18 : decode cX11_entriesFitted 18 = .ok (.invokevirtual 178, 3) := by decide +kernel
theorem dX11_entriesFitted_21 : decode cX11_entriesFitted 21 = .ok (.ifCond .eq 6, 3) := by decide +kernel
theorem dX11_entriesFitted_24 : decode cX11_entriesFitted 24 = .ok (.iinc 2 1, 3) := by decide +kernel
theorem dX11_entriesFitted_27 : decode cX11_entriesFitted 27 = .ok (.iinc 3 1, 3) := by decide +kernel
theorem dX11_entriesFitted_30 : decode cX11_entriesFitted 30 = .ok (.goto (-26), 3) := by decide +kernel
theorem dX11_entriesFitted_33 : decode cX11_entriesFitted 33 = .ok (.iload_n 2, 1) := by decide +kernel
theorem dX11_entriesFitted_34 : decode cX11_entriesFitted 34 = .ok (.ireturn, 1) := by decide +kernel
theorem dX11_firstEntryFitted_0 : decode cX11_firstEntryFitted 0 = .ok (.iconst 0, 1) := by decide +kernel
theorem dX11_firstEntryFitted_1 : decode cX11_firstEntryFitted 1 = .ok (.istore_n 2, 1) := by decide +kernel
theorem dX11_firstEntryFitted_2 : decode cX11_firstEntryFitted 2 = .ok (.iload_n 2, 1) := by decide +kernel
theorem dX11_firstEntryFitted_3 : decode cX11_firstEntryFitted 3 = .ok (.aload_n 0, 1) := by decide +kernel
theorem dX11_firstEntryFitted_4 : decode cX11_firstEntryFitted 4 = .ok (.getfield 35, 3) := by decide +kernel
theorem dX11_firstEntryFitted_7 : decode cX11_firstEntryFitted 7 = .ok (.getfield 141, 3) := by decide +kernel
theorem dX11_firstEntryFitted_10 : decode cX11_firstEntryFitted 10 = .ok (.if_icmp .ge 20, 3) := by decide +kernel
theorem dX11_firstEntryFitted_13 : decode cX11_firstEntryFitted 13 = .ok (.aload_n 0, 1) := by decide +kernel
theorem dX11_firstEntryFitted_14 : decode cX11_firstEntryFitted 14 = .ok (.iload_n 1, 1) := by decide +kernel
theorem dX11_firstEntryFitted_15 : decode cX11_firstEntryFitted 15 = .ok (.iload_n 2, 1) := by decide +kernel
theorem dX11_firstEntryFitted_16 : decode cX11_firstEntryFitted 16 = .ok (.invokevirtual 178, 3) := by decide +kernel
theorem dX11_firstEntryFitted_19 : decode cX11_firstEntryFitted 19 = .ok (.ifCond .eq 5, 3) := by decide +kernel
theorem dX11_firstEntryFitted_22 : decode cX11_firstEntryFitted 22 = .ok (.iload_n 2, 1) := by decide +kernel
theorem dX11_firstEntryFitted_23 : decode cX11_firstEntryFitted 23 = .ok (.ireturn, 1) := by decide +kernel
theorem dX11_firstEntryFitted_24 : decode cX11_firstEntryFitted 24 = .ok (.iinc 2 1, 3) := by decide +kernel
theorem dX11_firstEntryFitted_27 : decode cX11_firstEntryFitted 27 = .ok (.goto (-25), 3) := by decide +kernel
theorem dX11_firstEntryFitted_30 : decode cX11_firstEntryFitted 30 = .ok (.iconst (-1), 1) := by decide +kernel
theorem dX11_firstEntryFitted_31 : decode cX11_firstEntryFitted 31 = .ok (.ireturn, 1) := by decide +kernel
theorem dX11_isInDoubt_0 : decode cX11_isInDoubt 0 = .ok (.aload_n 0, 1) := by decide +kernel
theorem dX11_isInDoubt_1 : decode cX11_isInDoubt 1 = .ok (.getfield 42, 3) := by decide +kernel
theorem dX11_isInDoubt_4 : decode cX11_isInDoubt 4 = .ok (.iload_n 1, 1) := by decide +kernel
theorem dX11_isInDoubt_5 : decode cX11_isInDoubt 5 = .ok (.invokevirtual 181, 3) := by decide +kernel
theorem dX11_isInDoubt_8 : decode cX11_isInDoubt 8 = .ok (.ifCond .eq 16, 3) := by decide +kernel
theorem dX11_isInDoubt_11 : decode cX11_isInDoubt 11 = .ok (.aload_n 0, 1) := by decide +kernel
theorem dX11_isInDoubt_12 : decode cX11_isInDoubt 12 = .ok (.iload_n 1, 1) := by decide +kernel
theorem dX11_isInDoubt_13 : decode cX11_isInDoubt 13 = .ok (.invokevirtual 184, 3) := by decide +kernel
theorem dX11_isInDoubt_16 : decode cX11_isInDoubt 16 = .ok (.iconst 1, 1) := by decide +kernel
theorem dX11_isInDoubt_17 : decode cX11_isInDoubt 17 = .ok (.if_icmp .le 7, 3) := by decide +kernel
theorem dX11_isInDoubt_20 : decode cX11_isInDoubt 20 = .ok (.iconst 1, 1) := by decide +kernel
theorem dX11_isInDoubt_21 : decode cX11_isInDoubt 21 = .ok (.goto 4, 3) := by decide +kernel
theorem dX11_isInDoubt_24 : decode cX11_isInDoubt 24 = .ok (.iconst 0, 1) := by decide +kernel
theorem dX11_isInDoubt_25 : decode cX11_isInDoubt 25 = .ok (.ireturn, 1) := by decide +kernel
theorem dX11_slipsInDoubt_0 : decode cX11_slipsInDoubt 0 = .ok (.iconst 0, 1) := by decide +kernel
theorem dX11_slipsInDoubt_1 : decode cX11_slipsInDoubt 1 = .ok (.istore_n 1, 1) := by decide +kernel
theorem dX11_slipsInDoubt_2 : decode cX11_slipsInDoubt 2 = .ok (.iconst 0, 1) := by decide +kernel
theorem dX11_slipsInDoubt_3 : decode cX11_slipsInDoubt 3 = .ok (.istore_n 2, 1) := by decide +kernel
theorem dX11_slipsInDoubt_4 : decode cX11_slipsInDoubt 4 = .ok (.iload_n 2, 1) := by decide +kernel
theorem dX11_slipsInDoubt_5 : decode cX11_slipsInDoubt 5 = .ok (.aload_n 0, 1) := by decide +kernel
theorem dX11_slipsInDoubt_6 : decode cX11_slipsInDoubt 6 = .ok (.getfield 42, 3) := by decide +kernel
theorem dX11_slipsInDoubt_9 : decode cX11_slipsInDoubt 9 = .ok (.getfield 128, 3) := by decide +kernel
theorem dX11_slipsInDoubt_12 : decode cX11_slipsInDoubt 12 = .ok (.if_icmp .ge 20, 3) := by decide +kernel
theorem dX11_slipsInDoubt_15 : decode cX11_slipsInDoubt 15 = .ok (.aload_n 0, 1) := by decide +kernel
theorem dX11_slipsInDoubt_16 : decode cX11_slipsInDoubt 16 = .ok (.iload_n 2, 1) := by decide +kernel
theorem dX11_slipsInDoubt_17 : decode cX11_slipsInDoubt 17 = .ok (.invokevirtual 271, 3) := by decide +kernel
theorem dX11_slipsInDoubt_20 : decode cX11_slipsInDoubt 20 = .ok (.ifCond .eq 6, 3) := by decide +kernel
theorem dX11_slipsInDoubt_23 : decode cX11_slipsInDoubt 23 = .ok (.iinc 1 1, 3) := by decide +kernel
theorem dX11_slipsInDoubt_26 : decode cX11_slipsInDoubt 26 = .ok (.iinc 2 1, 3) := by decide +kernel
theorem dX11_slipsInDoubt_29 : decode cX11_slipsInDoubt 29 = .ok (.goto (-25), 3) := by decide +kernel
theorem dX11_slipsInDoubt_32 : decode cX11_slipsInDoubt 32 = .ok (.iload_n 1, 1) := by decide +kernel
theorem dX11_slipsInDoubt_33 : decode cX11_slipsInDoubt 33 = .ok (.ireturn, 1) := by decide +kernel
theorem dX11_toldYears_0 : decode cX11_toldYears 0 = .ok (.iload_n 2, 1) := by decide +kernel
theorem dX11_toldYears_1 : decode cX11_toldYears 1 = .ok (.tableswitch 95 4 7 #[31, 47, 63, 79], 31) := by decide +kernel
theorem dX11_toldYears_32 : decode cX11_toldYears 32 = .ok (.aload_n 0, 1) := by decide +kernel
theorem dX11_toldYears_33 : decode cX11_toldYears 33 = .ok (.getfield 19, 3) := by decide +kernel
theorem dX11_toldYears_36 : decode cX11_toldYears 36 = .ok (.aload_n 0, 1) := by decide +kernel
theorem dX11_toldYears_37 : decode cX11_toldYears 37 = .ok (.getfield 19, 3) := by decide +kernel
theorem dX11_toldYears_40 : decode cX11_toldYears 40 = .ok (.getfield 111, 3) := by decide +kernel
theorem dX11_toldYears_43 : decode cX11_toldYears 43 = .ok (.iload_n 1, 1) := by decide +kernel
theorem dX11_toldYears_44 : decode cX11_toldYears 44 = .ok (.invokevirtual 335, 3) := by decide +kernel
theorem dX11_toldYears_47 : decode cX11_toldYears 47 = .ok (.ireturn, 1) := by decide +kernel
theorem dX11_toldYears_48 : decode cX11_toldYears 48 = .ok (.aload_n 0, 1) := by decide +kernel
theorem dX11_toldYears_49 : decode cX11_toldYears 49 = .ok (.getfield 19, 3) := by decide +kernel
theorem dX11_toldYears_52 : decode cX11_toldYears 52 = .ok (.aload_n 0, 1) := by decide +kernel
theorem dX11_toldYears_53 : decode cX11_toldYears 53 = .ok (.getfield 19, 3) := by decide +kernel
theorem dX11_toldYears_56 : decode cX11_toldYears 56 = .ok (.getfield 115, 3) := by decide +kernel
theorem dX11_toldYears_59 : decode cX11_toldYears 59 = .ok (.iload_n 1, 1) := by decide +kernel
theorem dX11_toldYears_60 : decode cX11_toldYears 60 = .ok (.invokevirtual 335, 3) := by decide +kernel
theorem dX11_toldYears_63 : decode cX11_toldYears 63 = .ok (.ireturn, 1) := by decide +kernel
theorem dX11_toldYears_64 : decode cX11_toldYears 64 = .ok (.aload_n 0, 1) := by decide +kernel
theorem dX11_toldYears_65 : decode cX11_toldYears 65 = .ok (.getfield 19, 3) := by decide +kernel
theorem dX11_toldYears_68 : decode cX11_toldYears 68 = .ok (.aload_n 0, 1) := by decide +kernel
theorem dX11_toldYears_69 : decode cX11_toldYears 69 = .ok (.getfield 19, 3) := by decide +kernel
theorem dX11_toldYears_72 : decode cX11_toldYears 72 = .ok (.getfield 111, 3) := by decide +kernel
theorem dX11_toldYears_75 : decode cX11_toldYears 75 = .ok (.iload_n 1, 1) := by decide +kernel
theorem dX11_toldYears_76 : decode cX11_toldYears 76 = .ok (.invokevirtual 339, 3) := by decide +kernel
theorem dX11_toldYears_79 : decode cX11_toldYears 79 = .ok (.ireturn, 1) := by decide +kernel
theorem dX11_toldYears_80 : decode cX11_toldYears 80 = .ok (.aload_n 0, 1) := by decide +kernel
theorem dX11_toldYears_81 : decode cX11_toldYears 81 = .ok (.getfield 19, 3) := by decide +kernel
theorem dX11_toldYears_84 : decode cX11_toldYears 84 = .ok (.aload_n 0, 1) := by decide +kernel
theorem dX11_toldYears_85 : decode cX11_toldYears 85 = .ok (.getfield 19, 3) := by decide +kernel
theorem dX11_toldYears_88 : decode cX11_toldYears 88 = .ok (.getfield 115, 3) := by decide +kernel
theorem dX11_toldYears_91 : decode cX11_toldYears 91 = .ok (.iload_n 1, 1) := by decide +kernel
theorem dX11_toldYears_92 : decode cX11_toldYears 92 = .ok (.invokevirtual 339, 3) := by decide +kernel
theorem dX11_toldYears_95 : decode cX11_toldYears 95 = .ok (.ireturn, 1) := by decide +kernel
theorem dX11_toldYears_96 : decode cX11_toldYears 96 = .ok (.aload_n 0, 1) := by decide +kernel
theorem dX11_toldYears_97 : decode cX11_toldYears 97 = .ok (.getfield 19, 3) := by decide +kernel
theorem dX11_toldYears_100 : decode cX11_toldYears 100 = .ok (.iload_n 1, 1) := by decide +kernel
theorem dX11_toldYears_101 : decode cX11_toldYears 101 = .ok (.invokevirtual 342, 3) := by decide +kernel
theorem dX11_toldYears_104 : decode cX11_toldYears 104 = .ok (.ireturn, 1) := by decide +kernel
theorem dX11_flaws_0 : decode cX11_flaws 0 = .ok (.aload_n 0, 1) := by decide +kernel
theorem dX11_flaws_1 : decode cX11_flaws 1 = .ok (.getfield 58, 3) := by decide +kernel
theorem dX11_flaws_4 : decode cX11_flaws 4 = .ok (.invokevirtual 241, 3) := by decide +kernel
theorem dX11_flaws_7 : decode cX11_flaws 7 = .ok (.iconst 0, 1) := by decide +kernel
theorem dX11_flaws_8 : decode cX11_flaws 8 = .ok (.istore_n 1, 1) := by decide +kernel
theorem dX11_flaws_9 : decode cX11_flaws 9 = .ok (.iconst 0, 1) := by decide +kernel
theorem dX11_flaws_10 : decode cX11_flaws 10 = .ok (.istore_n 2, 1) := by decide +kernel
theorem dX11_flaws_11 : decode cX11_flaws 11 = .ok (.iload_n 2, 1) := by decide +kernel
theorem dX11_flaws_12 : decode cX11_flaws 12 = .ok (.sipush 2560, 3) := by decide +kernel
theorem dX11_flaws_15 : decode cX11_flaws 15 = .ok (.if_icmp .ge 30, 3) := by decide +kernel
theorem dX11_flaws_18 : decode cX11_flaws 18 = .ok (.aload_n 0, 1) := by decide +kernel
theorem dX11_flaws_19 : decode cX11_flaws 19 = .ok (.getfield 58, 3) := by decide +kernel
theorem dX11_flaws_22 : decode cX11_flaws 22 = .ok (.iload_n 2, 1) := by decide +kernel
theorem dX11_flaws_23 : decode cX11_flaws 23 = .ok (.bipush 64, 2) := by decide +kernel
theorem dX11_flaws_25 : decode cX11_flaws 25 = .ok (.idiv, 1) := by decide +kernel
theorem dX11_flaws_26 : decode cX11_flaws 26 = .ok (.iload_n 2, 1) := by decide +kernel
theorem dX11_flaws_27 : decode cX11_flaws 27 = .ok (.bipush 64, 2) := by decide +kernel
theorem dX11_flaws_29 : decode cX11_flaws 29 = .ok (.irem, 1) := by decide +kernel
theorem dX11_flaws_30 : decode cX11_flaws 30 = .ok (.invokevirtual 264, 3) := by decide +kernel
theorem dX11_flaws_33 : decode cX11_flaws 33 = .ok (.ifCond .eq 6, 3) := by decide +kernel
theorem dX11_flaws_36 : decode cX11_flaws 36 = .ok (.iinc 1 1, 3) := by decide +kernel
theorem dX11_flaws_39 : decode cX11_flaws 39 = .ok (.iinc 2 1, 3) := by decide +kernel
theorem dX11_flaws_42 : decode cX11_flaws 42 = .ok (.goto (-31), 3) := by decide +kernel
theorem dX11_flaws_45 : decode cX11_flaws 45 = .ok (.iload_n 1, 1) := by decide +kernel
theorem dX11_flaws_46 : decode cX11_flaws 46 = .ok (.ireturn, 1) := by decide +kernel
theorem dX11_forgetSense_0 : decode cX11_forgetSense 0 = .ok (.aload_n 0, 1) := by decide +kernel
theorem dX11_forgetSense_1 : decode cX11_forgetSense 1 = .ok (.getfield 49, 3) := by decide +kernel
theorem dX11_forgetSense_4 : decode cX11_forgetSense 4 = .ok (.iload_n 1, 1) := by decide +kernel
theorem dX11_forgetSense_5 : decode cX11_forgetSense 5 = .ok (.invokevirtual 345, 3) := by decide +kernel
theorem dX11_forgetSense_8 : decode cX11_forgetSense 8 = .ok (.aload_n 0, 1) := by decide +kernel
theorem dX11_forgetSense_9 : decode cX11_forgetSense 9 = .ok (.getfield 65, 3) := by decide +kernel
theorem dX11_forgetSense_12 : decode cX11_forgetSense 12 = .ok (.iload_n 1, 1) := by decide +kernel
theorem dX11_forgetSense_13 : decode cX11_forgetSense 13 = .ok (.invokevirtual 346, 3) := by decide +kernel
theorem dX11_forgetSense_16 : decode cX11_forgetSense 16 = .ok (.return_, 1) := by decide +kernel
theorem dJ9_max_7cf53_0 : decode cJ9_max_7cf53 0 = .ok (.iload_n 0, 1) := by decide +kernel
theorem dJ9_max_7cf53_1 : decode cJ9_max_7cf53 1 = .ok (.iload_n 1, 1) := by decide +kernel
theorem dJ9_max_7cf53_2 : decode cJ9_max_7cf53 2 = .ok (.if_icmp .lt 7, 3) := by decide +kernel
theorem dJ9_max_7cf53_5 : decode cJ9_max_7cf53 5 = .ok (.iload_n 0, 1) := by decide +kernel
theorem dJ9_max_7cf53_6 : decode cJ9_max_7cf53 6 = .ok (.goto 4, 3) := by decide +kernel
theorem dJ9_max_7cf53_9 : decode cJ9_max_7cf53 9 = .ok (.iload_n 1, 1) := by decide +kernel
theorem dJ9_max_7cf53_10 : decode cJ9_max_7cf53 10 = .ok (.ireturn, 1) := by decide +kernel
theorem dJ9_min_7cf53_0 : decode cJ9_min_7cf53 0 = .ok (.iload_n 0, 1) := by decide +kernel
theorem dJ9_min_7cf53_1 : decode cJ9_min_7cf53 1 = .ok (.iload_n 1, 1) := by decide +kernel
theorem dJ9_min_7cf53_2 : decode cJ9_min_7cf53 2 = .ok (.if_icmp .gt 7, 3) := by decide +kernel
theorem dJ9_min_7cf53_5 : decode cJ9_min_7cf53 5 = .ok (.iload_n 0, 1) := by decide +kernel
theorem dJ9_min_7cf53_6 : decode cJ9_min_7cf53 6 = .ok (.goto 4, 3) := by decide +kernel
theorem dJ9_min_7cf53_9 : decode cJ9_min_7cf53 9 = .ok (.iload_n 1, 1) := by decide +kernel
theorem dJ9_min_7cf53_10 : decode cJ9_min_7cf53 10 = .ok (.ireturn, 1) := by decide +kernel
